theorem dX11_init_0 : decode cX11_init 0 = .ok (.aload_n 0, 1) := by decide +kernel
theorem dX11_init_1 : decode cX11_init 1 = .ok (.invokespecial 1, 3) := by decide +kernel
theorem dX11_init_4 : decode cX11_init 4 = .ok (.aload_n 0, 1) := by decide +kernel
theorem dX11_init_5 : decode cX11_init 5 = .ok (.bipush 10, 2) := by decide +kernel
theorem dX11_init_7 : decode cX11_init 7 = .ok (.putfield 7, 3) := by decide +kernel
theorem dX11_init_10 : decode cX11_init 10 = .ok (.aload_n 0, 1) := by decide +kernel
theorem dX11_init_11 : decode cX11_init 11 = .ok (.iconst (-1), 1) := by decide +kernel
theorem dX11_init_12 : decode cX11_init 12 = .ok (.putfield 13, 3) := by decide +kernel
theorem dX11_init_15 : decode cX11_init 15 = .ok (.aload_n 0, 1) := by decide +kernel
theorem dX11_init_16 : decode cX11_init 16 = .ok (.iconst (-1), 1) := by decide +kernel
theorem dX11_init_17 : decode cX11_init 17 = .ok (.putfield 16, 3) := by decide +kernel
theorem dX11_init_20 : decode cX11_init 20 = .ok (.aload_n 0, 1) := by decide +kernel
theorem dX11_init_21 : decode cX11_init 21 = .ok (.iconst (-1), 1) := by decide +kernel
theorem dX11_init_22 : decode cX11_init 22 = .ok (.putfield 19, 3) := by decide +kernel
theorem dX11_init_25 : decode cX11_init 25 = .ok (.aload_n 0, 1) := by decide +kernel
theorem dX11_init_26 : decode cX11_init 26 = .ok (.bipush 7, 2) := by decide +kernel
theorem dX11_init_28 : decode cX11_init 28 = .ok (.newarray .int, 2) := by decide +kernel
theorem dX11_init_30 : decode cX11_init 30 = .ok (.putfield 22, 3) := by decide +kernel
theorem dX11_init_33 : decode cX11_init 33 = .ok (.aload_n 0, 1) := by decide +kernel
theorem dX11_init_34 : decode cX11_init 34 = .ok (.bipush 7, 2) := by decide +kernel
theorem dX11_init_36 : decode cX11_init 36 = .ok (.newarray .int, 2) := by decide +kernel
theorem dX11_init_38 : decode cX11_init 38 = .ok (.putfield 26, 3) := by decide +kernel
theorem dX11_init_41 : decode cX11_init 41 = .ok (.aload_n 0, 1) := by decide +kernel
theorem dX11_init_42 : decode cX11_init 42 = .ok (.bipush 7, 2) := by decide +kernel
theorem dX11_init_44 : decode cX11_init 44 = .ok (.newarray .int, 2) := by decide +kernel
theorem dX11_init_46 : decode cX11_init 46 = .ok (.putfield 29, 3) := by decide +kernel
theorem dX11_init_49 : decode cX11_init 49 = .ok (.aload_n 0, 1) := by decide +kernel
theorem dX11_init_50 : decode cX11_init 50 = .ok (.bipush 7, 2) := by decide +kernel
theorem dX11_init_52 : decode cX11_init 52 = .ok (.newarray .int, 2) := by decide +kernel
theorem dX11_init_54 : decode cX11_init 54 = .ok (.putfield 32, 3) := by decide +kernel
theorem dX11_init_57 : decode cX11_init 57 = .ok (.aload_n 0, 1) := by decide +kernel
theorem dX11_init_58 : decode cX11_init 58 = .ok (.bipush 7, 2) := by decide +kernel
theorem dX11_init_60 : decode cX11_init 60 = .ok (.newarray .int, 2) := by decide +kernel
theorem dX11_init_62 : decode cX11_init 62 = .ok (.putfield 35, 3) := by decide +kernel
theorem dX11_init_65 : decode cX11_init 65 = .ok (.aload_n 0, 1) := by decide +kernel
theorem dX11_init_66 : decode cX11_init 66 = .ok (.bipush 7, 2) := by decide +kernel
theorem dX11_init_68 : decode cX11_init 68 = .ok (.newarray .int, 2) := by decide +kernel
theorem dX11_init_70 : decode cX11_init 70 = .ok (.putfield 38, 3) := by decide +kernel
theorem dX11_init_73 : decode cX11_init 73 = .ok (.aload_n 0, 1) := by decide +kernel
theorem dX11_init_74 : decode cX11_init 74 = .ok (.bipush 7, 2) := by decide +kernel
theorem dX11_init_76 : decode cX11_init 76 = .ok (.newarray .int, 2) := by decide +kernel
theorem dX11_init_78 : decode cX11_init 78 = .ok (.putfield 41, 3) := by decide +kernel
theorem dX11_init_81 : decode cX11_init 81 = .ok (.aload_n 0, 1) := by decide +kernel
theorem dX11_init_82 : decode cX11_init 82 = .ok (.bipush 7, 2) := by decide +kernel
theorem dX11_init_84 : decode cX11_init 84 = .ok (.newarray .int, 2) := by decide +kernel
theorem dX11_init_86 : decode cX11_init 86 = .ok (.putfield 44, 3) := by decide +kernel
theorem dX11_init_89 : decode cX11_init 89 = .ok (.aload_n 0, 1) := by decide +kernel
theorem dX11_init_90 : decode cX11_init 90 = .ok (.bipush 7, 2) := by decide +kernel
theorem dX11_init_92 : decode cX11_init 92 = .ok (.newarray .int, 2) := by decide +kernel
theorem dX11_init_94 : decode cX11_init 94 = .ok (.putfield 47, 3) := by decide +kernel
theorem dX11_init_97 : decode cX11_init 97 = .ok (.aload_n 0, 1) := by decide +kernel
theorem dX11_init_98 : decode cX11_init 98 = .ok (.bipush 30, 2) := by decide +kernel
theorem dX11_init_100 : decode cX11_init 100 = .ok (.newarray .int, 2) := by decide +kernel
theorem dX11_init_102 : decode cX11_init 102 = .ok (.putfield 50, 3) := by decide +kernel
theorem dX11_init_105 : decode cX11_init 105 = .ok (.aload_n 0, 1) := by decide +kernel
theorem dX11_init_106 : decode cX11_init 106 = .ok (.bipush 30, 2) := by decide +kernel
theorem dX11_init_108 : decode cX11_init 108 = .ok (.newarray .int, 2) := by decide +kernel
theorem dX11_init_110 : decode cX11_init 110 = .ok (.putfield 53, 3) := by decide +kernel
theorem dX11_init_113 : decode cX11_init 113 = .ok (.aload_n 0, 1) := by decide +kernel
theorem dX11_init_114 : decode cX11_init 114 = .ok (.sipush 400, 3) := by decide +kernel
theorem dX11_init_117 : decode cX11_init 117 = .ok (.newarray .byte, 2) := by decide +kernel
theorem dX11_init_119 : decode cX11_init 119 = .ok (.putfield 56, 3) := by decide +kernel
theorem dX11_init_122 : decode cX11_init 122 = .ok (.aload_n 0, 1) := by decide +kernel
theorem dX11_init_123 : decode cX11_init 123 = .ok (.iconst 2, 1) := by decide +kernel
theorem dX11_init_124 : decode cX11_init 124 = .ok (.newarray .int, 2) := by decide +kernel
theorem dX11_init_126 : decode cX11_init 126 = .ok (.putfield 60, 3) := by decide +kernel
theorem dX11_init_129 : decode cX11_init 129 = .ok (.aload_n 0, 1) := by decide +kernel
theorem dX11_init_130 : decode cX11_init 130 = .ok (.sipush 6000, 3) := by decide +kernel
theorem dX11_init_133 : decode cX11_init 133 = .ok (.newarray .int, 2) := by decide +kernel
theorem dX11_init_135 : decode cX11_init 135 = .ok (.putfield 63, 3) := by decide +kernel
theorem dX11_init_138 : decode cX11_init 138 = .ok (.aload_n 0, 1) := by decide +kernel
theorem dX11_init_139 : decode cX11_init 139 = .ok (.sipush 6000, 3) := by decide +kernel
theorem dX11_init_142 : decode cX11_init 142 = .ok (.newarray .int, 2) := by decide +kernel
theorem dX11_init_144 : decode cX11_init 144 = .ok (.putfield 66, 3) := by decide +kernel
theorem dX11_init_147 : decode cX11_init 147 = .ok (.aload_n 0, 1) := by decide +kernel
theorem dX11_init_148 : decode cX11_init 148 = .ok (.bipush 20, 2) := by decide +kernel
theorem dX11_init_150 : decode cX11_init 150 = .ok (.newarray .int, 2) := by decide +kernel
theorem dX11_init_152 : decode cX11_init 152 = .ok (.putfield 69, 3) := by decide +kernel
theorem dX11_init_155 : decode cX11_init 155 = .ok (.aload_n 0, 1) := by decide +kernel
theorem dX11_init_156 : decode cX11_init 156 = .ok (.sipush 280, 3) := by decide +kernel
theorem dX11_init_159 : decode cX11_init 159 = .ok (.newarray .int, 2) := by decide +kernel
theorem dX11_init_161 : decode cX11_init 161 = .ok (.putfield 72, 3) := by decide +kernel
theorem dX11_init_164 : decode cX11_init 164 = .ok (.aload_n 0, 1) := by decide +kernel
theorem dX11_init_165 : decode cX11_init 165 = .ok (.sipush 280, 3) := by decide +kernel
theorem dX11_init_168 : decode cX11_init 168 = .ok (.newarray .int, 2) := by decide +kernel
theorem dX11_init_170 : decode cX11_init 170 = .ok (.putfield 75, 3) := by decide +kernel
theorem dX11_init_173 : decode cX11_init 173 = .ok (.aload_n 0, 1) := by decide +kernel
theorem dX11_init_174 : decode cX11_init 174 = .ok (.sipush 280, 3) := by decide +kernel
theorem dX11_init_177 : decode cX11_init 177 = .ok (.newarray .int, 2) := by decide +kernel
theorem dX11_init_179 : decode cX11_init 179 = .ok (.putfield 78, 3) := by decide +kernel
theorem dX11_init_182 : decode cX11_init 182 = .ok (.aload_n 0, 1) := by decide +kernel
theorem dX11_init_183 : decode cX11_init 183 = .ok (.sipush 280, 3) := by decide +kernel
theorem dX11_init_186 : decode cX11_init 186 = .ok (.newarray .int, 2) := by decide +kernel
theorem dX11_init_188 : decode cX11_init 188 = .ok (.putfield 81, 3) := by decide +kernel
theorem dX11_init_191 : decode cX11_init 191 = .ok (.aload_n 0, 1) := by decide +kernel
theorem dX11_init_192 : decode cX11_init 192 = .ok (.sipush 280, 3) := by decide +kernel
theorem dX11_init_195 : decode cX11_init 195 = .ok (.newarray .int, 2) := by decide +kernel
theorem dX11_init_197 : decode cX11_init 197 = .ok (.putfield 84, 3) := by decide +kernel
theorem dX11_init_200 : decode cX11_init 200 = .ok (.aload_n 0, 1) := by decide +kernel
theorem dX11_init_201 : decode cX11_init 201 = .ok (.sipush 402, 3) := by decide +kernel
theorem dX11_init_204 : decode cX11_init 204 = .ok (.newarray .int, 2) := by decide +kernel
theorem dX11_init_206 : decode cX11_init 206 = .ok (.putfield 87, 3) := by decide +kernel
theorem dX11_init_209 : decode cX11_init 209 = .ok (.aload_n 0, 1) := by decide +kernel
theorem dX11_init_210 : decode cX11_init 210 = .ok (.bipush 13, 2) := by decide +kernel
theorem dX11_init_212 : decode cX11_init 212 = .ok (.newarray .long, 2) := by decide +kernel
theorem dX11_init_214 : decode cX11_init 214 = .ok (.putfield 90, 3) := by decide +kernel
theorem dX11_init_217 : decode cX11_init 217 = .ok (.aload_n 0, 1) := by decide +kernel
theorem dX11_init_218 : decode cX11_init 218 = .ok (.sipush 300, 3) := by decide +kernel
theorem dX11_init_221 : decode cX11_init 221 = .ok (.newarray .long, 2) := by decide +kernel
theorem dX11_init_223 : decode cX11_init 223 = .ok (.putfield 94, 3) := by decide +kernel
theorem dX11_init_226 : decode cX11_init 226 = .ok (.aload_n 0, 1) := by decide +kernel
theorem dX11_init_227 : decode cX11_init 227 = .ok (.bipush 16, 2) := by decide +kernel
theorem dX11_init_229 : decode cX11_init 229 = .ok (.newarray .int, 2) := by decide +kernel
theorem dX11_init_231 : decode cX11_init 231 = .ok (.putfield 97, 3) := by decide +kernel
theorem dX11_init_234 : decode cX11_init 234 = .ok (.aload_n 0, 1) := by decide +kernel
theorem dX11_init_235 : decode cX11_init 235 = .ok (.bipush 16, 2) := by decide +kernel
theorem dX11_init_237 : decode cX11_init 237 = .ok (.newarray .int, 2) := by decide +kernel
theorem dX11_init_239 : decode cX11_init 239 = .ok (.putfield 100, 3) := by decide +kernel
theorem dX11_init_242 : decode cX11_init 242 = .ok (.aload_n 0, 1) := by decide +kernel
theorem dX11_init_243 : decode cX11_init 243 = .ok (.bipush 10, 2) := by decide +kernel
theorem dX11_init_245 : decode cX11_init 245 = .ok (.newarray .int, 2) := by decide +kernel
theorem dX11_init_247 : decode cX11_init 247 = .ok (.putfield 103, 3) := by decide +kernel
theorem dX11_init_250 : decode cX11_init 250 = .ok (.aload_n 0, 1) := by decide +kernel
theorem dX11_init_251 : decode cX11_init 251 = .ok (.sipush 144, 3) := by decide +kernel
theorem dX11_init_254 : decode cX11_init 254 = .ok (.newarray .int, 2) := by decide +kernel
theorem dX11_init_256 : decode cX11_init 256 = .ok (.putfield 106, 3) := by decide +kernel
theorem dX11_init_259 : decode cX11_init 259 = .ok (.aload_n 0, 1) := by decide +kernel
theorem dX11_init_260 : decode cX11_init 260 = .ok (.sipush 144, 3) := by decide +kernel
theorem dX11_init_263 : decode cX11_init 263 = .ok (.newarray .int, 2) := by decide +kernel
theorem dX11_init_265 : decode cX11_init 265 = .ok (.putfield 109, 3) := by decide +kernel
theorem dX11_init_268 : decode cX11_init 268 = .ok (.aload_n 0, 1) := by decide +kernel
theorem dX11_init_269 : decode cX11_init 269 = .ok (.sipush 144, 3) := by decide +kernel
theorem dX11_init_272 : decode cX11_init 272 = .ok (.newarray .int, 2) := by decide +kernel
theorem dX11_init_274 : decode cX11_init 274 = .ok (.putfield 112, 3) := by decide +kernel
theorem dX11_init_277 : decode cX11_init 277 = .ok (.aload_n 0, 1) := by decide +kernel
theorem dX11_init_278 : decode cX11_init 278 = .ok (.sipush 144, 3) := by decide +kernel
theorem dX11_init_281 : decode cX11_init 281 = .ok (.newarray .int, 2) := by decide +kernel
theorem dX11_init_283 : decode cX11_init 283 = .ok (.putfield 115, 3) := by decide +kernel
theorem dX11_init_286 : decode cX11_init 286 = .ok (.aload_n 0, 1) := by decide +kernel
theorem dX11_init_287 : decode cX11_init 287 = .ok (.sipush 144, 3) := by decide +kernel
theorem dX11_init_290 : decode cX11_init 290 = .ok (.newarray .int, 2) := by decide +kernel
theorem dX11_init_292 : decode cX11_init 292 = .ok (.putfield 118, 3) := by decide +kernel
theorem dX11_init_295 : decode cX11_init 295 = .ok (.aload_n 0, 1) := by decide +kernel
theorem dX11_init_296 : decode cX11_init 296 = .ok (.sipush 144, 3) := by decide +kernel
theorem dX11_init_299 : decode cX11_init 299 = .ok (.newarray .int, 2) := by decide +kernel
theorem dX11_init_301 : decode cX11_init 301 = .ok (.putfield 121, 3) := by decide +kernel
theorem dX11_init_304 : decode cX11_init 304 = .ok (.aload_n 0, 1) := by decide +kernel
theorem dX11_init_305 : decode cX11_init 305 = .ok (.sipush 300, 3) := by decide +kernel
theorem dX11_init_308 : decode cX11_init 308 = .ok (.newarray .int, 2) := by decide +kernel
theorem dX11_init_310 : decode cX11_init 310 = .ok (.putfield 124, 3) := by decide +kernel
theorem dX11_init_313 : decode cX11_init 313 = .ok (.aload_n 0, 1) := by decide +kernel
theorem dX11_init_314 : decode cX11_init 314 = .ok (.sipush 300, 3) := by decide +kernel
theorem dX11_init_317 : decode cX11_init 317 = .ok (.newarray .int, 2) := by decide +kernel
theorem dX11_init_319 : decode cX11_init 319 = .ok (.putfield 127, 3) := by decide +kernel
theorem dX11_init_322 : decode cX11_init 322 = .ok (.aload_n 0, 1) := by decide +kernel
theorem dX11_init_323 : decode cX11_init 323 = .ok (.sipush 300, 3) := by decide +kernel
theorem dX11_init_326 : decode cX11_init 326 = .ok (.newarray .int, 2) := by decide +kernel
theorem dX11_init_328 : decode cX11_init 328 = .ok (.putfield 130, 3) := by decide +kernel
theorem dX11_init_331 : decode cX11_init 331 = .ok (.aload_n 0, 1) := by decide +kernel
theorem dX11_init_332 : decode cX11_init 332 = .ok (.sipush 6640, 3) := by decide +kernel
theorem dX11_init_335 : decode cX11_init 335 = .ok (.newarray .int, 2) := by decide +kernel
theorem dX11_init_337 : decode cX11_init 337 = .ok (.putfield 133, 3) := by decide +kernel
theorem dX11_init_340 : decode cX11_init 340 = .ok (.aload_n 0, 1) := by decide +kernel
theorem dX11_init_341 : decode cX11_init 341 = .ok (.bipush 22, 2) := by decide +kernel
theorem dX11_init_343 : decode cX11_init 343 = .ok (.newarray .int, 2) := by decide +kernel
theorem dX11_init_345 : decode cX11_init 345 = .ok (.putfield 136, 3) := by decide +kernel
theorem dX11_init_348 : decode cX11_init 348 = .ok (.aload_n 0, 1) := by decide +kernel
theorem dX11_init_349 : decode cX11_init 349 = .ok (.iconst 4, 1) := by decide +kernel
theorem dX11_init_350 : decode cX11_init 350 = .ok (.newarray .boolean, 2) := by decide +kernel
theorem dX11_init_352 : decode cX11_init 352 = .ok (.putfield 139, 3) := by decide +kernel
theorem dX11_init_355 : decode cX11_init 355 = .ok (.iconst 0, 1) := by decide +kernel
theorem dX11_init_356 : decode cX11_init 356 = .ok (.istore_n 1, 1) := by decide +kernel
theorem dX11_init_357 : decode cX11_init 357 = .ok (.iload_n 1, 1) := by decide +kernel
theorem dX11_init_358 : decode cX11_init 358 = .ok (.bipush 16, 2) := by decide +kernel
theorem dX11_init_360 : decode cX11_init 360 = .ok (.if_icmp .ge 16, 3) := by decide +kernel
theorem dX11_init_363 : decode cX11_init 363 = .ok (.aload_n 0, 1) := by decide +kernel
theorem dX11_init_364 : decode cX11_init 364 = .ok (.getfield 97, 3) := by decide +kernel
theorem dX11_init_367 : decode cX11_init 367 = .ok (.iload_n 1, 1) := by decide +kernel
theorem dX11_init_368 : decode cX11_init 368 = .ok (.iconst (-1), 1) := by decide +kernel
theorem dX11_init_369 : decode cX11_init 369 = .ok (.iastore, 1) := by decide +kernel
theorem dX11_init_370 : decode cX11_init 370 = .ok (.iinc 1 1, 3) := by decide +kernel
theorem dX11_init_373 : decode cX11_init 373 = .ok (.goto (-16), 3) := by decide +kernel
theorem dX11_init_376 : decode cX11_init 376 = .ok (.iconst 0, 1) := by decide +kernel
theorem dX11_init_377 : decode cX11_init 377 = .ok (.istore_n 1, 1) := by decide +kernel
theorem dX11_init_378 : decode cX11_init 378 = .ok (.iload_n 1, 1) := by decide +kernel
theorem dX11_init_379 : decode cX11_init 379 = .ok (.bipush 10, 2) := by decide +kernel
theorem dX11_init_381 : decode cX11_init 381 = .ok (.if_icmp .ge 16, 3) := by decide +kernel
theorem dX11_init_384 : decode cX11_init 384 = .ok (.aload_n 0, 1) := by decide +kernel
theorem dX11_init_385 : decode cX11_init 385 = .ok (.getfield 103, 3) := by decide +kernel
theorem dX11_init_388 : decode cX11_init 388 = .ok (.iload_n 1, 1) := by decide +kernel
theorem dX11_init_389 : decode cX11_init 389 = .ok (.iconst (-1), 1) := by decide +kernel
theorem dX11_init_390 : decode cX11_init 390 = .ok (.iastore, 1) := by decide +kernel
theorem dX11_init_391 : decode cX11_init 391 = .ok (.iinc 1 1, 3) := by decide +kernel
theorem dX11_init_394 : decode cX11_init 394 = .ok (.goto (-16), 3) := by decide +kernel
theorem dX11_init_397 : decode cX11_init 397 = .ok (.return_, 1) := by decide +kernel
theorem dX11_in_0 : decode cX11_in 0 = .ok (.lload_n 0, 1) := by decide +kernel
theorem dX11_in_1 : decode cX11_in 1 = .ok (.lload_n 2, 1) := by decide +kernel
theorem dX11_in_2 : decode cX11_in 2 = .ok (.lcmp, 1) := by decide +kernel
theorem dX11_in_3 : decode cX11_in 3 = .ok (.ifCond .lt 14, 3) := by decide +kernel
theorem dX11_in_6 : decode cX11_in 6 = .ok (.lload_n 0, 1) := by decide +kernel
theorem dX11_in_7 : decode cX11_in 7 = .ok (.lload 4, 2) := by decide +kernel
theorem dX11_in_9 : decode cX11_in 9 = .ok (.lcmp, 1) := by decide +kernel
theorem dX11_in_10 : decode cX11_in 10 = .ok (.ifCond .gt 7, 3) := by decide +kernel
theorem dX11_in_13 : decode cX11_in 13 = .ok (.iconst 1, 1) := by decide +kernel
theorem dX11_in_14 : decode cX11_in 14 = .ok (.goto 4, 3) := by decide +kernel
theorem dX11_in_17 : decode cX11_in 17 = .ok (.iconst 0, 1) := by decide +kernel
theorem dX11_in_18 : decode cX11_in 18 = .ok (.ireturn, 1) := by decide +kernel
theorem dX11_begin_0 : decode cX11_begin 0 = .ok (.iload_n 1, 1) := by decide +kernel
theorem dX11_begin_1 : decode cX11_begin 1 = .ok (.i2l, 1) := by decide +kernel
theorem dX11_begin_2 : decode cX11_begin 2 = .ok (.lconst 1, 1) := by decide +kernel
theorem dX11_begin_3 : decode cX11_begin 3 = .ok (.ldc2_w 146, 3) := by decide +kernel
theorem dX11_begin_6 : decode cX11_begin 6 = .ok (.invokestatic 148, 3) := by decide +kernel
theorem dX11_begin_9 : decode cX11_begin 9 = .ok (.ifCond .eq 53, 3) := by decide +kernel
theorem dX11_begin_12 : decode cX11_begin 12 = .ok (.iload_n 2, 1) := by decide +kernel
theorem dX11_begin_13 : decode cX11_begin 13 = .ok (.i2l, 1) := by decide +kernel
theorem dX11_begin_14 : decode cX11_begin 14 = .ok (.lconst 1, 1) := by decide +kernel
theorem dX11_begin_15 : decode cX11_begin 15 = .ok (.ldc2_w 146, 3) := by decide +kernel
theorem dX11_begin_18 : decode cX11_begin 18 = .ok (.invokestatic 148, 3) := by decide +kernel
theorem dX11_begin_21 : decode cX11_begin 21 = .ok (.ifCond .eq 41, 3) := by decide +kernel
theorem dX11_begin_24 : decode cX11_begin 24 = .ok (.iload_n 3, 1) := by decide +kernel
theorem dX11_begin_25 : decode cX11_begin 25 = .ok (.i2l, 1) := by decide +kernel
theorem dX11_begin_26 : decode cX11_begin 26 = .ok (.lconst 0, 1) := by decide +kernel
theorem dX11_begin_27 : decode cX11_begin 27 = .ok (.ldc2_w 152, 3) := by decide +kernel
theorem dX11_begin_30 : decode cX11_begin 30 = .ok (.invokestatic 148, 3) := by decide +kernel
theorem dX11_begin_33 : decode cX11_begin 33 = .ok (.ifCond .eq 29, 3) := by decide +kernel
theorem dX11_begin_36 : decode cX11_begin 36 = .ok (.iload 4, 2) := by decide +kernel
theorem dX11_begin_38 : decode cX11_begin 38 = .ok (.i2l, 1) := by decide +kernel
theorem dX11_begin_39 : decode cX11_begin 39 = .ok (.lconst 0, 1) := by decide +kernel
theorem dX11_begin_40 : decode cX11_begin 40 = .ok (.ldc2_w 146, 3) := by decide +kernel
theorem dX11_begin_43 : decode cX11_begin 43 = .ok (.invokestatic 148, 3) := by decide +kernel
theorem dX11_begin_46 : decode cX11_begin 46 = .ok (.ifCond .eq 16, 3) := by decide +kernel
theorem dX11_begin_49 : decode cX11_begin 49 = .ok (.iload 5, 2) := by decide +kernel
theorem dX11_begin_51 : decode cX11_begin 51 = .ok (.i2l, 1) := by decide +kernel
theorem dX11_begin_52 : decode cX11_begin 52 = .ok (.lconst 1, 1) := by decide +kernel
theorem dX11_begin_53 : decode cX11_begin 53 = .ok (.ldc2_w 154, 3) := by decide +kernel
theorem dX11_begin_56 : decode cX11_begin 56 = .ok (.invokestatic 148, 3) := by decide +kernel
theorem dX11_begin_59 : decode cX11_begin 59 = .ok (.ifCond .ne 5, 3) := by decide +kernel
theorem dX11_begin_62 : decode cX11_begin 62 = .ok (.iconst 0, 1) := by decide +kernel
theorem dX11_begin_63 : decode cX11_begin 63 = .ok (.ireturn, 1) := by decide +kernel
theorem dX11_begin_64 : decode cX11_begin 64 = .ok (.aload_n 0, 1) := by decide +kernel
theorem dX11_begin_65 : decode cX11_begin 65 = .ok (.iconst 1, 1) := by decide +kernel
theorem dX11_begin_66 : decode cX11_begin 66 = .ok (.putfield 156, 3) := by decide +kernel
theorem dX11_begin_69 : decode cX11_begin 69 = .ok (.aload_n 0, 1) := by decide +kernel
theorem dX11_begin_70 : decode cX11_begin 70 = .ok (.iload_n 1, 1) := by decide +kernel
theorem dX11_begin_71 : decode cX11_begin 71 = .ok (.putfield 160, 3) := by decide +kernel
theorem dX11_begin_74 : decode cX11_begin 74 = .ok (.aload_n 0, 1) := by decide +kernel
theorem dX11_begin_75 : decode cX11_begin 75 = .ok (.iload_n 2, 1) := by decide +kernel
theorem dX11_begin_76 : decode cX11_begin 76 = .ok (.putfield 163, 3) := by decide +kernel
theorem dX11_begin_79 : decode cX11_begin 79 = .ok (.aload_n 0, 1) := by decide +kernel
theorem dX11_begin_80 : decode cX11_begin 80 = .ok (.iload_n 3, 1) := by decide +kernel
theorem dX11_begin_81 : decode cX11_begin 81 = .ok (.putfield 166, 3) := by decide +kernel
theorem dX11_begin_84 : decode cX11_begin 84 = .ok (.aload_n 0, 1) := by decide +kernel
theorem dX11_begin_85 : decode cX11_begin 85 = .ok (.iload 4, 2) := by decide +kernel
theorem dX11_begin_87 : decode cX11_begin 87 = .ok (.putfield 169, 3) := by decide +kernel
theorem dX11_begin_90 : decode cX11_begin 90 = .ok (.aload_n 0, 1) := by decide +kernel
theorem dX11_begin_91 : decode cX11_begin 91 = .ok (.iload 5, 2) := by decide +kernel
theorem dX11_begin_93 : decode cX11_begin 93 = .ok (.putfield 172, 3) := by decide +kernel
theorem dX11_begin_96 : decode cX11_begin 96 = .ok (.aload_n 0, 1) := by decide +kernel
theorem dX11_begin_97 : decode cX11_begin 97 = .ok (.iconst 0, 1) := by decide +kernel
theorem dX11_begin_98 : decode cX11_begin 98 = .ok (.putfield 175, 3) := by decide +kernel
theorem dX11_begin_101 : decode cX11_begin 101 = .ok (.aload_n 0, 1) := by decide +kernel
theorem dX11_begin_102 : decode cX11_begin 102 = .ok (.iconst 0, 1) := by decide +kernel
theorem dX11_begin_103 : decode cX11_begin 103 = .ok (.putfield 178, 3) := by decide +kernel
theorem dX11_begin_106 : decode cX11_begin 106 = .ok (.aload_n 0, 1) := by decide +kernel
theorem dX11_begin_107 : decode cX11_begin 107 = .ok (.iconst 0, 1) := by decide +kernel
theorem dX11_begin_108 : decode cX11_begin 108 = .ok (.putfield 181, 3) := by decide +kernel
theorem dX11_begin_111 : decode cX11_begin 111 = .ok (.aload_n 0, 1) := by decide +kernel
theorem dX11_begin_112 : decode cX11_begin 112 = .ok (.iconst 0, 1) := by decide +kernel
theorem dX11_begin_113 : decode cX11_begin 113 = .ok (.putfield 184, 3) := by decide +kernel
theorem dX11_begin_116 : decode cX11_begin 116 = .ok (.aload_n 0, 1) := by decide +kernel
theorem dX11_begin_117 : decode cX11_begin 117 = .ok (.iconst (-1), 1) := by decide +kernel
theorem dX11_begin_118 : decode cX11_begin 118 = .ok (.putfield 13, 3) := by decide +kernel
theorem dX11_begin_121 : decode cX11_begin 121 = .ok (.aload_n 0, 1) := by decide +kernel
theorem dX11_begin_122 : decode cX11_begin 122 = .ok (.iconst (-1), 1) := by decide +kernel
theorem dX11_begin_123 : decode cX11_begin 123 = .ok (.putfield 16, 3) := by decide +kernel
theorem dX11_begin_126 : decode cX11_begin 126 = .ok (.aload_n 0, 1) := by decide +kernel
theorem dX11_begin_127 : decode cX11_begin 127 = .ok (.iconst (-1), 1) := by decide +kernel
theorem dX11_begin_128 : decode cX11_begin 128 = .ok (.putfield 19, 3) := by decide +kernel
theorem dX11_begin_131 : decode cX11_begin 131 = .ok (.iconst 1, 1) := by decide +kernel
theorem dX11_begin_132 : decode cX11_begin 132 = .ok (.ireturn, 1) := by decide +kernel
theorem dX11_isRing_0 : decode cX11_isRing 0 = .ok (.iload_n 1, 1) := by decide +kernel
theorem dX11_isRing_1 : decode cX11_isRing 1 = .ok (.i2l, 1) := by decide +kernel
theorem dX11_isRing_2 : decode cX11_isRing 2 = .ok (.lconst 0, 1) := by decide +kernel
theorem dX11_isRing_3 : decode cX11_isRing 3 = .ok (.aload_n 0, 1) := by decide +kernel
theorem dX11_isRing_4 : decode cX11_isRing 4 = .ok (.getfield 175, 3) := by decide +kernel
theorem dX11_isRing_7 : decode cX11_isRing 7 = .ok (.iconst 1, 1) := by decide +kernel
theorem dX11_isRing_8 : decode cX11_isRing 8 = .ok (.isub, 1) := by decide +kernel
theorem dX11_isRing_9 : decode cX11_isRing 9 = .ok (.i2l, 1) := by decide +kernel
theorem dX11_isRing_10 : decode cX11_isRing 10 = .ok (.invokestatic 148, 3) := by decide +kernel
theorem dX11_isRing_13 : decode cX11_isRing 13 = .ok (.ireturn, 1) := by decide +kernel
theorem dX11_lower_0 : decode cX11_lower 0 = .ok (.iconst 0, 1) := by decide +kernel
theorem dX11_lower_1 : decode cX11_lower 1 = .ok (.istore_n 2, 1) := by decide +kernel
theorem dX11_lower_2 : decode cX11_lower 2 = .ok (.iconst 0, 1) := by decide +kernel
theorem dX11_lower_3 : decode cX11_lower 3 = .ok (.istore_n 3, 1) := by decide +kernel
theorem dX11_lower_4 : decode cX11_lower 4 = .ok (.iload_n 3, 1) := by decide +kernel
theorem dX11_lower_5 : decode cX11_lower 5 = .ok (.iload_n 1, 1) := by decide +kernel
theorem dX11_lower_6 : decode cX11_lower 6 = .ok (.if_icmp .ge 18, 3) := by decide +kernel
theorem dX11_lower_9 : decode cX11_lower 9 = .ok (.iload_n 2, 1) := by decide +kernel
theorem dX11_lower_10 : decode cX11_lower 10 = .ok (.aload_n 0, 1) := by decide +kernel
theorem dX11_lower_11 : decode cX11_lower 11 = .ok (.getfield 22, 3) := by decide +kernel
theorem dX11_lower_14 : decode cX11_lower 14 = .ok (.iload_n 3, 1) := by decide +kernel
theorem dX11_lower_15 : decode cX11_lower 15 = .ok (.iaload, 1) := by decide +kernel
theorem dX11_lower_16 : decode cX11_lower 16 = .ok (.iadd, 1) := by decide +kernel
theorem dX11_lower_17 : decode cX11_lower 17 = .ok (.istore_n 2, 1) := by decide +kernel
theorem dX11_lower_18 : decode cX11_lower 18 = .ok (.iinc 3 1, 3) := by decide +kernel
theorem dX11_lower_21 : decode cX11_lower 21 = .ok (.goto (-17), 3) := by decide +kernel
theorem dX11_lower_24 : decode cX11_lower 24 = .ok (.iload_n 2, 1) := by decide +kernel
theorem dX11_lower_25 : decode cX11_lower 25 = .ok (.ireturn, 1) := by decide +kernel
theorem dX11_depth_0 : decode cX11_depth 0 = .ok (.iconst 0, 1) := by decide +kernel
theorem dX11_depth_1 : decode cX11_depth 1 = .ok (.istore_n 1, 1) := by decide +kernel
theorem dX11_depth_2 : decode cX11_depth 2 = .ok (.iconst 0, 1) := by decide +kernel
theorem dX11_depth_3 : decode cX11_depth 3 = .ok (.istore_n 2, 1) := by decide +kernel
theorem dX11_depth_4 : decode cX11_depth 4 = .ok (.iload_n 2, 1) := by decide +kernel
theorem dX11_depth_5 : decode cX11_depth 5 = .ok (.aload_n 0, 1) := by decide +kernel
theorem dX11_depth_6 : decode cX11_depth 6 = .ok (.getfield 178, 3) := by decide +kernel
theorem dX11_depth_9 : decode cX11_depth 9 = .ok (.if_icmp .ge 18, 3) := by decide +kernel
theorem dX11_depth_12 : decode cX11_depth 12 = .ok (.iload_n 1, 1) := by decide +kernel
theorem dX11_depth_13 : decode cX11_depth 13 = .ok (.aload_n 0, 1) := by decide +kernel
theorem dX11_depth_14 : decode cX11_depth 14 = .ok (.getfield 50, 3) := by decide +kernel
theorem dX11_depth_17 : decode cX11_depth 17 = .ok (.iload_n 2, 1) := by decide +kernel
theorem dX11_depth_18 : decode cX11_depth 18 = .ok (.iaload, 1) := by decide +kernel
theorem dX11_depth_19 : decode cX11_depth 19 = .ok (.iadd, 1) := by decide +kernel
theorem dX11_depth_20 : decode cX11_depth 20 = .ok (.istore_n 1, 1) := by decide +kernel
theorem dX11_depth_21 : decode cX11_depth 21 = .ok (.iinc 2 1, 3) := by decide +kernel
theorem dX11_depth_24 : decode cX11_depth 24 = .ok (.goto (-20), 3) := by decide +kernel
theorem dX11_depth_27 : decode cX11_depth 27 = .ok (.iload_n 1, 1) := by decide +kernel
theorem dX11_depth_28 : decode cX11_depth 28 = .ok (.ireturn, 1) := by decide +kernel
theorem dX11_loadBy_0 : decode cX11_loadBy 0 = .ok (.iload_n 2, 1) := by decide +kernel
theorem dX11_loadBy_1 : decode cX11_loadBy 1 = .ok (.aload_n 0, 1) := by decide +kernel
theorem dX11_loadBy_2 : decode cX11_loadBy 2 = .ok (.iload_n 1, 1) := by decide +kernel
theorem dX11_loadBy_3 : decode cX11_loadBy 3 = .ok (.invokevirtual 187, 3) := by decide +kernel
theorem dX11_loadBy_6 : decode cX11_loadBy 6 = .ok (.isub, 1) := by decide +kernel
theorem dX11_loadBy_7 : decode cX11_loadBy 7 = .ok (.istore 5, 2) := by decide +kernel
theorem dX11_loadBy_9 : decode cX11_loadBy 9 = .ok (.iload 5, 2) := by decide +kernel
theorem dX11_loadBy_11 : decode cX11_loadBy 11 = .ok (.ifCond .ge 7, 3) := by decide +kernel
theorem dX11_loadBy_14 : decode cX11_loadBy 14 = .ok (.iconst 0, 1) := by decide +kernel
theorem dX11_loadBy_15 : decode cX11_loadBy 15 = .ok (.goto 5, 3) := by decide +kernel
theorem dX11_loadBy_18 : decode cX11_loadBy 18 = .ok (.iload 5, 2) := by decide +kernel
theorem dX11_loadBy_20 : decode cX11_loadBy 20 = .ok (.iload_n 3, 1) := by decide +kernel
theorem dX11_loadBy_21 : decode cX11_loadBy 21 = .ok (.imul, 1) := by decide +kernel
theorem dX11_loadBy_22 : decode cX11_loadBy 22 = .ok (.iload 4, 2) := by decide +kernel
theorem dX11_loadBy_24 : decode cX11_loadBy 24 = .ok (.iadd, 1) := by decide +kernel
theorem dX11_loadBy_25 : decode cX11_loadBy 25 = .ok (.aload_n 0, 1) := by decide +kernel
theorem dX11_loadBy_26 : decode cX11_loadBy 26 = .ok (.getfield 160, 3) := by decide +kernel
theorem dX11_loadBy_29 : decode cX11_loadBy 29 = .ok (.imul, 1) := by decide +kernel
theorem dX11_loadBy_30 : decode cX11_loadBy 30 = .ok (.ireturn, 1) := by decide +kernel
theorem dX11_loadOf_0 : decode cX11_loadOf 0 = .ok (.aload_n 0, 1) := by decide +kernel
theorem dX11_loadOf_1 : decode cX11_loadOf 1 = .ok (.iload_n 1, 1) := by decide +kernel
theorem dX11_loadOf_2 : decode cX11_loadOf 2 = .ok (.aload_n 0, 1) := by decide +kernel
theorem dX11_loadOf_3 : decode cX11_loadOf 3 = .ok (.invokevirtual 191, 3) := by decide +kernel
theorem dX11_loadOf_6 : decode cX11_loadOf 6 = .ok (.aload_n 0, 1) := by decide +kernel
theorem dX11_loadOf_7 : decode cX11_loadOf 7 = .ok (.getfield 163, 3) := by decide +kernel
theorem dX11_loadOf_10 : decode cX11_loadOf 10 = .ok (.aload_n 0, 1) := by decide +kernel
theorem dX11_loadOf_11 : decode cX11_loadOf 11 = .ok (.getfield 181, 3) := by decide +kernel
theorem dX11_loadOf_14 : decode cX11_loadOf 14 = .ok (.invokevirtual 195, 3) := by decide +kernel
theorem dX11_loadOf_17 : decode cX11_loadOf 17 = .ok (.ireturn, 1) := by decide +kernel
theorem dX11_steelOf_0 : decode cX11_steelOf 0 = .ok (.aload_n 0, 1) := by decide +kernel
theorem dX11_steelOf_1 : decode cX11_steelOf 1 = .ok (.iload_n 1, 1) := by decide +kernel
theorem dX11_steelOf_2 : decode cX11_steelOf 2 = .ok (.invokevirtual 187, 3) := by decide +kernel
theorem dX11_steelOf_5 : decode cX11_steelOf 5 = .ok (.istore_n 2, 1) := by decide +kernel
theorem dX11_steelOf_6 : decode cX11_steelOf 6 = .ok (.iconst 0, 1) := by decide +kernel
theorem dX11_steelOf_7 : decode cX11_steelOf 7 = .ok (.istore_n 3, 1) := by decide +kernel
theorem dX11_steelOf_8 : decode cX11_steelOf 8 = .ok (.iconst 0, 1) := by decide +kernel
theorem dX11_steelOf_9 : decode cX11_steelOf 9 = .ok (.istore 4, 2) := by decide +kernel
theorem dX11_steelOf_11 : decode cX11_steelOf 11 = .ok (.iload 4, 2) := by decide +kernel
theorem dX11_steelOf_13 : decode cX11_steelOf 13 = .ok (.aload_n 0, 1) := by decide +kernel
theorem dX11_steelOf_14 : decode cX11_steelOf 14 = .ok (.getfield 178, 3) := by decide +kernel
theorem dX11_steelOf_17 : decode cX11_steelOf 17 = .ok (.if_icmp .ge 39, 3) := by decide +kernel
theorem dX11_steelOf_20 : decode cX11_steelOf 20 = .ok (.iload_n 3, 1) := by decide +kernel
theorem dX11_steelOf_21 : decode cX11_steelOf 21 = .ok (.aload_n 0, 1) := by decide +kernel
theorem dX11_steelOf_22 : decode cX11_steelOf 22 = .ok (.getfield 50, 3) := by decide +kernel
theorem dX11_steelOf_25 : decode cX11_steelOf 25 = .ok (.iload 4, 2) := by decide +kernel
theorem dX11_steelOf_27 : decode cX11_steelOf 27 = .ok (.iaload, 1) := by decide +kernel
theorem dX11_steelOf_28 : decode cX11_steelOf 28 = .ok (.iadd, 1) := by decide +kernel
theorem dX11_steelOf_29 : decode cX11_steelOf 29 = .ok (.istore_n 3, 1) := by decide +kernel
theorem dX11_steelOf_30 : decode cX11_steelOf 30 = .ok (.iload_n 3, 1) := by decide +kernel
theorem dX11_steelOf_31 : decode cX11_steelOf 31 = .ok (.iload_n 2, 1) := by decide +kernel
theorem dX11_steelOf_32 : decode cX11_steelOf 32 = .ok (.if_icmp .le 18, 3) := by decide +kernel
theorem dX11_steelOf_35 : decode cX11_steelOf 35 = .ok (.aload_n 0, 1) := by decide +kernel
theorem dX11_steelOf_36 : decode cX11_steelOf 36 = .ok (.getfield 53, 3) := by decide +kernel
theorem dX11_steelOf_39 : decode cX11_steelOf 39 = .ok (.iload 4, 2) := by decide +kernel
theorem dX11_steelOf_41 : decode cX11_steelOf 41 = .ok (.iaload, 1) := by decide +kernel
theorem dX11_steelOf_42 : decode cX11_steelOf 42 = .ok (.aload_n 0, 1) := by decide +kernel
theorem dX11_steelOf_43 : decode cX11_steelOf 43 = .ok (.getfield 7, 3) := by decide +kernel
theorem dX11_steelOf_46 : decode cX11_steelOf 46 = .ok (.iadd, 1) := by decide +kernel
theorem dX11_steelOf_47 : decode cX11_steelOf 47 = .ok (.iconst 2, 1) := by decide +kernel
theorem dX11_steelOf_48 : decode cX11_steelOf 48 = .ok (.idiv, 1) := by decide +kernel
theorem dX11_steelOf_49 : decode cX11_steelOf 49 = .ok (.ireturn, 1) := by decide +kernel
theorem dX11_steelOf_50 : decode cX11_steelOf 50 = .ok (.iinc 4 1, 3) := by decide +kernel
theorem dX11_steelOf_53 : decode cX11_steelOf 53 = .ok (.goto (-42), 3) := by decide +kernel
theorem dX11_steelOf_56 : decode cX11_steelOf 56 = .ok (.aload_n 0, 1) := by decide +kernel
theorem dX11_steelOf_57 : decode cX11_steelOf 57 = .ok (.getfield 7, 3) := by decide +kernel
theorem dX11_steelOf_60 : decode cX11_steelOf 60 = .ok (.ireturn, 1) := by decide +kernel
theorem dX11_plateBy_0 : decode cX11_plateBy 0 = .ok (.iload_n 2, 1) := by decide +kernel
theorem dX11_plateBy_1 : decode cX11_plateBy 1 = .ok (.aload_n 0, 1) := by decide +kernel
theorem dX11_plateBy_2 : decode cX11_plateBy 2 = .ok (.getfield 32, 3) := by decide +kernel
theorem dX11_plateBy_5 : decode cX11_plateBy 5 = .ok (.iload_n 1, 1) := by decide +kernel
theorem dX11_plateBy_6 : decode cX11_plateBy 6 = .ok (.iaload, 1) := by decide +kernel
theorem dX11_plateBy_7 : decode cX11_plateBy 7 = .ok (.imul, 1) := by decide +kernel
theorem dX11_plateBy_8 : decode cX11_plateBy 8 = .ok (.bipush 10, 2) := by decide +kernel
theorem dX11_plateBy_10 : decode cX11_plateBy 10 = .ok (.aload_n 0, 1) := by decide +kernel
theorem dX11_plateBy_11 : decode cX11_plateBy 11 = .ok (.getfield 38, 3) := by decide +kernel
theorem dX11_plateBy_14 : decode cX11_plateBy 14 = .ok (.iload_n 1, 1) := by decide +kernel
theorem dX11_plateBy_15 : decode cX11_plateBy 15 = .ok (.iaload, 1) := by decide +kernel
theorem dX11_plateBy_16 : decode cX11_plateBy 16 = .ok (.isub, 1) := by decide +kernel
theorem dX11_plateBy_17 : decode cX11_plateBy 17 = .ok (.imul, 1) := by decide +kernel
theorem dX11_plateBy_18 : decode cX11_plateBy 18 = .ok (.bipush 10, 2) := by decide +kernel
theorem dX11_plateBy_20 : decode cX11_plateBy 20 = .ok (.idiv, 1) := by decide +kernel
theorem dX11_plateBy_21 : decode cX11_plateBy 21 = .ok (.istore_n 3, 1) := by decide +kernel
theorem dX11_plateBy_22 : decode cX11_plateBy 22 = .ok (.aload_n 0, 1) := by decide +kernel
theorem dX11_plateBy_23 : decode cX11_plateBy 23 = .ok (.iload_n 1, 1) := by decide +kernel
theorem dX11_plateBy_24 : decode cX11_plateBy 24 = .ok (.invokevirtual 199, 3) := by decide +kernel
theorem dX11_plateBy_27 : decode cX11_plateBy 27 = .ok (.aload_n 0, 1) := by decide +kernel
theorem dX11_plateBy_28 : decode cX11_plateBy 28 = .ok (.getfield 35, 3) := by decide +kernel
theorem dX11_plateBy_31 : decode cX11_plateBy 31 = .ok (.iload_n 1, 1) := by decide +kernel
theorem dX11_plateBy_32 : decode cX11_plateBy 32 = .ok (.iaload, 1) := by decide +kernel
theorem dX11_plateBy_33 : decode cX11_plateBy 33 = .ok (.if_icmp .ge 9, 3) := by decide +kernel
theorem dX11_plateBy_36 : decode cX11_plateBy 36 = .ok (.iload_n 3, 1) := by decide +kernel
theorem dX11_plateBy_37 : decode cX11_plateBy 37 = .ok (.iconst 2, 1) := by decide +kernel
theorem dX11_plateBy_38 : decode cX11_plateBy 38 = .ok (.idiv, 1) := by decide +kernel
theorem dX11_plateBy_39 : decode cX11_plateBy 39 = .ok (.goto 4, 3) := by decide +kernel
theorem dX11_plateBy_42 : decode cX11_plateBy 42 = .ok (.iload_n 3, 1) := by decide +kernel
theorem dX11_plateBy_43 : decode cX11_plateBy 43 = .ok (.istore_n 3, 1) := by decide +kernel
theorem dX11_plateBy_44 : decode cX11_plateBy 44 = .ok (.iload_n 3, 1) := by decide +kernel
theorem dX11_plateBy_45 : decode cX11_plateBy 45 = .ok (.i2l, 1) := by decide +kernel
theorem dX11_plateBy_46 : decode cX11_plateBy 46 = .ok (.aload_n 0, 1) := by decide +kernel
theorem dX11_plateBy_47 : decode cX11_plateBy 47 = .ok (.getfield 166, 3) := by decide +kernel
theorem dX11_plateBy_50 : decode cX11_plateBy 50 = .ok (.i2l, 1) := by decide +kernel
theorem dX11_plateBy_51 : decode cX11_plateBy 51 = .ok (.aload_n 0, 1) := by decide +kernel
theorem dX11_plateBy_52 : decode cX11_plateBy 52 = .ok (.getfield 184, 3) := by decide +kernel
theorem dX11_plateBy_55 : decode cX11_plateBy 55 = .ok (.i2l, 1) := by decide +kernel
theorem dX11_plateBy_56 : decode cX11_plateBy 56 = .ok (.lmul, 1) := by decide +kernel
theorem dX11_plateBy_57 : decode cX11_plateBy 57 = .ok (.lsub, 1) := by decide +kernel
theorem dX11_plateBy_58 : decode cX11_plateBy 58 = .ok (.lstore 4, 2) := by decide +kernel
theorem dX11_plateBy_60 : decode cX11_plateBy 60 = .ok (.lload 4, 2) := by decide +kernel
theorem dX11_plateBy_62 : decode cX11_plateBy 62 = .ok (.lconst 0, 1) := by decide +kernel
theorem dX11_plateBy_63 : decode cX11_plateBy 63 = .ok (.lcmp, 1) := by decide +kernel
theorem dX11_plateBy_64 : decode cX11_plateBy 64 = .ok (.ifCond .ge 7, 3) := by decide +kernel
theorem dX11_plateBy_67 : decode cX11_plateBy 67 = .ok (.iconst 0, 1) := by decide +kernel
theorem dX11_plateBy_68 : decode cX11_plateBy 68 = .ok (.goto 6, 3) := by decide +kernel
theorem dX11_plateBy_71 : decode cX11_plateBy 71 = .ok (.lload 4, 2) := by decide +kernel
theorem dX11_plateBy_73 : decode cX11_plateBy 73 = .ok (.l2i, 1) := by decide +kernel
theorem dX11_plateBy_74 : decode cX11_plateBy 74 = .ok (.ireturn, 1) := by decide +kernel
theorem dX11_bearsOf_0 : decode cX11_bearsOf 0 = .ok (.aload_n 0, 1) := by decide +kernel
theorem dX11_bearsOf_1 : decode cX11_bearsOf 1 = .ok (.iload_n 1, 1) := by decide +kernel
theorem dX11_bearsOf_2 : decode cX11_bearsOf 2 = .ok (.aload_n 0, 1) := by decide +kernel
theorem dX11_bearsOf_3 : decode cX11_bearsOf 3 = .ok (.getfield 29, 3) := by decide +kernel
theorem dX11_bearsOf_6 : decode cX11_bearsOf 6 = .ok (.iload_n 1, 1) := by decide +kernel
theorem dX11_bearsOf_7 : decode cX11_bearsOf 7 = .ok (.iaload, 1) := by decide +kernel
theorem dX11_bearsOf_8 : decode cX11_bearsOf 8 = .ok (.invokevirtual 202, 3) := by decide +kernel
theorem dX11_bearsOf_11 : decode cX11_bearsOf 11 = .ok (.istore_n 2, 1) := by decide +kernel
theorem dX11_bearsOf_12 : decode cX11_bearsOf 12 = .ok (.iload_n 2, 1) := by decide +kernel
theorem dX11_bearsOf_13 : decode cX11_bearsOf 13 = .ok (.aload_n 0, 1) := by decide +kernel
theorem dX11_bearsOf_14 : decode cX11_bearsOf 14 = .ok (.getfield 41, 3) := by decide +kernel
theorem dX11_bearsOf_17 : decode cX11_bearsOf 17 = .ok (.iload_n 1, 1) := by decide +kernel
theorem dX11_bearsOf_18 : decode cX11_bearsOf 18 = .ok (.iaload, 1) := by decide +kernel
theorem dX11_bearsOf_19 : decode cX11_bearsOf 19 = .ok (.if_icmp .ge 7, 3) := by decide +kernel
theorem dX11_bearsOf_22 : decode cX11_bearsOf 22 = .ok (.iload_n 2, 1) := by decide +kernel
theorem dX11_bearsOf_23 : decode cX11_bearsOf 23 = .ok (.goto 9, 3) := by decide +kernel
theorem dX11_bearsOf_26 : decode cX11_bearsOf 26 = .ok (.aload_n 0, 1) := by decide +kernel
theorem dX11_bearsOf_27 : decode cX11_bearsOf 27 = .ok (.getfield 41, 3) := by decide +kernel
theorem dX11_bearsOf_30 : decode cX11_bearsOf 30 = .ok (.iload_n 1, 1) := by decide +kernel
theorem dX11_bearsOf_31 : decode cX11_bearsOf 31 = .ok (.iaload, 1) := by decide +kernel
theorem dX11_bearsOf_32 : decode cX11_bearsOf 32 = .ok (.ireturn, 1) := by decide +kernel
theorem dX11_stands_0 : decode cX11_stands 0 = .ok (.iconst 0, 1) := by decide +kernel
theorem dX11_stands_1 : decode cX11_stands 1 = .ok (.istore_n 1, 1) := by decide +kernel
theorem dX11_stands_2 : decode cX11_stands 2 = .ok (.iload_n 1, 1) := by decide +kernel
theorem dX11_stands_3 : decode cX11_stands 3 = .ok (.aload_n 0, 1) := by decide +kernel
theorem dX11_stands_4 : decode cX11_stands 4 = .ok (.getfield 175, 3) := by decide +kernel
theorem dX11_stands_7 : decode cX11_stands 7 = .ok (.if_icmp .ge 52, 3) := by decide +kernel
theorem dX11_stands_10 : decode cX11_stands 10 = .ok (.aload_n 0, 1) := by decide +kernel
theorem dX11_stands_11 : decode cX11_stands 11 = .ok (.getfield 13, 3) := by decide +kernel
theorem dX11_stands_14 : decode cX11_stands 14 = .ok (.iconst (-1), 1) := by decide +kernel
theorem dX11_stands_15 : decode cX11_stands 15 = .ok (.if_icmp .ne 44, 3) := by decide +kernel
theorem dX11_stands_18 : decode cX11_stands 18 = .ok (.aload_n 0, 1) := by decide +kernel
theorem dX11_stands_19 : decode cX11_stands 19 = .ok (.iload_n 1, 1) := by decide +kernel
theorem dX11_stands_20 : decode cX11_stands 20 = .ok (.invokevirtual 206, 3) := by decide +kernel
theorem dX11_stands_23 : decode cX11_stands 23 = .ok (.aload_n 0, 1) := by decide +kernel
theorem dX11_stands_24 : decode cX11_stands 24 = .ok (.iload_n 1, 1) := by decide +kernel
theorem dX11_stands_25 : decode cX11_stands 25 = .ok (.invokevirtual 209, 3) := by decide +kernel
theorem dX11_stands_28 : decode cX11_stands 28 = .ok (.if_icmp .le 25, 3) := by decide +kernel
theorem dX11_stands_31 : decode cX11_stands 31 = .ok (.aload_n 0, 1) := by decide +kernel
theorem dX11_stands_32 : decode cX11_stands 32 = .ok (.iload_n 1, 1) := by decide +kernel
theorem dX11_stands_33 : decode cX11_stands 33 = .ok (.putfield 13, 3) := by decide +kernel
theorem dX11_stands_36 : decode cX11_stands 36 = .ok (.aload_n 0, 1) := by decide +kernel
theorem dX11_stands_37 : decode cX11_stands 37 = .ok (.aload_n 0, 1) := by decide +kernel
theorem dX11_stands_38 : decode cX11_stands 38 = .ok (.getfield 212, 3) := by decide +kernel
theorem dX11_stands_41 : decode cX11_stands 41 = .ok (.putfield 16, 3) := by decide +kernel
theorem dX11_stands_44 : decode cX11_stands 44 = .ok (.aload_n 0, 1) := by decide +kernel
theorem dX11_stands_45 : decode cX11_stands 45 = .ok (.aload_n 0, 1) := by decide +kernel
theorem dX11_stands_46 : decode cX11_stands 46 = .ok (.iload_n 1, 1) := by decide +kernel
theorem dX11_stands_47 : decode cX11_stands 47 = .ok (.invokevirtual 206, 3) := by decide +kernel
theorem dX11_stands_50 : decode cX11_stands 50 = .ok (.putfield 19, 3) := by decide +kernel
theorem dX11_stands_53 : decode cX11_stands 53 = .ok (.iinc 1 1, 3) := by decide +kernel
theorem dX11_stands_56 : decode cX11_stands 56 = .ok (.goto (-54), 3) := by decide +kernel
theorem dX11_stands_59 : decode cX11_stands 59 = .ok (.aload_n 0, 1) := by decide +kernel
theorem dX11_stands_60 : decode cX11_stands 60 = .ok (.getfield 13, 3) := by decide +kernel
theorem dX11_stands_63 : decode cX11_stands 63 = .ok (.iconst (-1), 1) := by decide +kernel
theorem dX11_stands_64 : decode cX11_stands 64 = .ok (.if_icmp .ne 7, 3) := by decide +kernel
theorem dX11_stands_67 : decode cX11_stands 67 = .ok (.iconst 1, 1) := by decide +kernel
theorem dX11_stands_68 : decode cX11_stands 68 = .ok (.goto 4, 3) := by decide +kernel
theorem dX11_stands_71 : decode cX11_stands 71 = .ok (.iconst 0, 1) := by decide +kernel
theorem dX11_stands_72 : decode cX11_stands 72 = .ok (.ireturn, 1) := by decide +kernel
theorem dX11_stood_0 : decode cX11_stood 0 = .ok (.iconst 0, 1) := by decide +kernel
theorem dX11_stood_1 : decode cX11_stood 1 = .ok (.istore_n 1, 1) := by decide +kernel
theorem dX11_stood_2 : decode cX11_stood 2 = .ok (.iload_n 1, 1) := by decide +kernel
theorem dX11_stood_3 : decode cX11_stood 3 = .ok (.aload_n 0, 1) := by decide +kernel
theorem dX11_stood_4 : decode cX11_stood 4 = .ok (.getfield 175, 3) := by decide +kernel
theorem dX11_stood_7 : decode cX11_stood 7 = .ok (.if_icmp .ge 41, 3) := by decide +kernel
theorem dX11_stood_10 : decode cX11_stood 10 = .ok (.aload_n 0, 1) := by decide +kernel
theorem dX11_stood_11 : decode cX11_stood 11 = .ok (.iload_n 1, 1) := by decide +kernel
theorem dX11_stood_12 : decode cX11_stood 12 = .ok (.invokevirtual 206, 3) := by decide +kernel
theorem dX11_stood_15 : decode cX11_stood 15 = .ok (.istore_n 2, 1) := by decide +kernel
theorem dX11_stood_16 : decode cX11_stood 16 = .ok (.aload_n 0, 1) := by decide +kernel
theorem dX11_stood_17 : decode cX11_stood 17 = .ok (.getfield 47, 3) := by decide +kernel
theorem dX11_stood_20 : decode cX11_stood 20 = .ok (.iload_n 1, 1) := by decide +kernel
theorem dX11_stood_21 : decode cX11_stood 21 = .ok (.iload_n 2, 1) := by decide +kernel
theorem dX11_stood_22 : decode cX11_stood 22 = .ok (.aload_n 0, 1) := by decide +kernel
theorem dX11_stood_23 : decode cX11_stood 23 = .ok (.getfield 47, 3) := by decide +kernel
theorem dX11_stood_26 : decode cX11_stood 26 = .ok (.iload_n 1, 1) := by decide +kernel
theorem dX11_stood_27 : decode cX11_stood 27 = .ok (.iaload, 1) := by decide +kernel
theorem dX11_stood_28 : decode cX11_stood 28 = .ok (.if_icmp .le 7, 3) := by decide +kernel
theorem dX11_stood_31 : decode cX11_stood 31 = .ok (.iload_n 2, 1) := by decide +kernel
theorem dX11_stood_32 : decode cX11_stood 32 = .ok (.goto 9, 3) := by decide +kernel
theorem dX11_stood_35 : decode cX11_stood 35 = .ok (.aload_n 0, 1) := by decide +kernel
theorem dX11_stood_36 : decode cX11_stood 36 = .ok (.getfield 47, 3) := by decide +kernel
theorem dX11_stood_39 : decode cX11_stood 39 = .ok (.iload_n 1, 1) := by decide +kernel
theorem dX11_stood_40 : decode cX11_stood 40 = .ok (.iaload, 1) := by decide +kernel
theorem dX11_stood_41 : decode cX11_stood 41 = .ok (.iastore, 1) := by decide +kernel
theorem dX11_stood_42 : decode cX11_stood 42 = .ok (.iinc 1 1, 3) := by decide +kernel
theorem dX11_stood_45 : decode cX11_stood 45 = .ok (.goto (-43), 3) := by decide +kernel
theorem dX11_stood_48 : decode cX11_stood 48 = .ok (.return_, 1) := by decide +kernel
theorem dX11_ring_0 : decode cX11_ring 0 = .ok (.aload_n 0, 1) := by decide +kernel
theorem dX11_ring_1 : decode cX11_ring 1 = .ok (.getfield 156, 3) := by decide +kernel
theorem dX11_ring_4 : decode cX11_ring 4 = .ok (.ifCond .eq 123, 3) := by decide +kernel
theorem dX11_ring_7 : decode cX11_ring 7 = .ok (.aload_n 0, 1) := by decide +kernel
theorem dX11_ring_8 : decode cX11_ring 8 = .ok (.getfield 13, 3) := by decide +kernel
theorem dX11_ring_11 : decode cX11_ring 11 = .ok (.iconst (-1), 1) := by decide +kernel
theorem dX11_ring_12 : decode cX11_ring 12 = .ok (.if_icmp .ne 115, 3) := by decide +kernel
theorem dX11_ring_15 : decode cX11_ring 15 = .ok (.aload_n 0, 1) := by decide +kernel
theorem dX11_ring_16 : decode cX11_ring 16 = .ok (.getfield 175, 3) := by decide +kernel
theorem dX11_ring_19 : decode cX11_ring 19 = .ok (.bipush 7, 2) := by decide +kernel
theorem dX11_ring_21 : decode cX11_ring 21 = .ok (.if_icmp .eq 106, 3) := by decide +kernel
theorem dX11_ring_24 : decode cX11_ring 24 = .ok (.iload_n 1, 1) := by decide +kernel
theorem dX11_ring_25 : decode cX11_ring 25 = .ok (.i2l, 1) := by decide +kernel
theorem dX11_ring_26 : decode cX11_ring 26 = .ok (.lconst 1, 1) := by decide +kernel
theorem dX11_ring_27 : decode cX11_ring 27 = .ok (.ldc2_w 215, 3) := by decide +kernel
theorem dX11_ring_30 : decode cX11_ring 30 = .ok (.invokestatic 148, 3) := by decide +kernel
theorem dX11_ring_33 : decode cX11_ring 33 = .ok (.ifCond .eq 94, 3) := by decide +kernel
theorem dX11_ring_36 : decode cX11_ring 36 = .ok (.iload_n 2, 1) := by decide +kernel
theorem dX11_ring_37 : decode cX11_ring 37 = .ok (.i2l, 1) := by decide +kernel
theorem dX11_ring_38 : decode cX11_ring 38 = .ok (.lconst 1, 1) := by decide +kernel
theorem dX11_ring_39 : decode cX11_ring 39 = .ok (.ldc2_w 152, 3) := by decide +kernel
theorem dX11_ring_42 : decode cX11_ring 42 = .ok (.invokestatic 148, 3) := by decide +kernel
theorem dX11_ring_45 : decode cX11_ring 45 = .ok (.ifCond .eq 82, 3) := by decide +kernel
theorem dX11_ring_48 : decode cX11_ring 48 = .ok (.iload_n 3, 1) := by decide +kernel
theorem dX11_ring_49 : decode cX11_ring 49 = .ok (.i2l, 1) := by decide +kernel
theorem dX11_ring_50 : decode cX11_ring 50 = .ok (.lconst 1, 1) := by decide +kernel
theorem dX11_ring_51 : decode cX11_ring 51 = .ok (.ldc2_w 152, 3) := by decide +kernel
theorem dX11_ring_54 : decode cX11_ring 54 = .ok (.invokestatic 148, 3) := by decide +kernel
theorem dX11_ring_57 : decode cX11_ring 57 = .ok (.ifCond .eq 70, 3) := by decide +kernel
theorem dX11_ring_60 : decode cX11_ring 60 = .ok (.iload 4, 2) := by decide +kernel
theorem dX11_ring_62 : decode cX11_ring 62 = .ok (.i2l, 1) := by decide +kernel
theorem dX11_ring_63 : decode cX11_ring 63 = .ok (.lconst 1, 1) := by decide +kernel
theorem dX11_ring_64 : decode cX11_ring 64 = .ok (.ldc2_w 152, 3) := by decide +kernel
theorem dX11_ring_67 : decode cX11_ring 67 = .ok (.invokestatic 148, 3) := by decide +kernel
theorem dX11_ring_70 : decode cX11_ring 70 = .ok (.ifCond .eq 57, 3) := by decide +kernel
theorem dX11_ring_73 : decode cX11_ring 73 = .ok (.iload 5, 2) := by decide +kernel
theorem dX11_ring_75 : decode cX11_ring 75 = .ok (.i2l, 1) := by decide +kernel
theorem dX11_ring_76 : decode cX11_ring 76 = .ok (.ldc2_w 217, 3) := by decide +kernel
theorem dX11_ring_79 : decode cX11_ring 79 = .ok (.ldc2_w 146, 3) := by decide +kernel
theorem dX11_ring_82 : decode cX11_ring 82 = .ok (.invokestatic 148, 3) := by decide +kernel
theorem dX11_ring_85 : decode cX11_ring 85 = .ok (.ifCond .eq 42, 3) := by decide +kernel
theorem dX11_ring_88 : decode cX11_ring 88 = .ok (.iload 6, 2) := by decide +kernel
theorem dX11_ring_90 : decode cX11_ring 90 = .ok (.i2l, 1) := by decide +kernel
theorem dX11_ring_91 : decode cX11_ring 91 = .ok (.lconst 0, 1) := by decide +kernel
theorem dX11_ring_92 : decode cX11_ring 92 = .ok (.ldc2_w 219, 3) := by decide +kernel
theorem dX11_ring_95 : decode cX11_ring 95 = .ok (.invokestatic 148, 3) := by decide +kernel
theorem dX11_ring_98 : decode cX11_ring 98 = .ok (.ifCond .eq 29, 3) := by decide +kernel
theorem dX11_ring_101 : decode cX11_ring 101 = .ok (.iload 7, 2) := by decide +kernel
theorem dX11_ring_103 : decode cX11_ring 103 = .ok (.i2l, 1) := by decide +kernel
theorem dX11_ring_104 : decode cX11_ring 104 = .ok (.lconst 1, 1) := by decide +kernel
theorem dX11_ring_105 : decode cX11_ring 105 = .ok (.ldc2_w 221, 3) := by decide +kernel
theorem dX11_ring_108 : decode cX11_ring 108 = .ok (.invokestatic 148, 3) := by decide +kernel
theorem dX11_ring_111 : decode cX11_ring 111 = .ok (.ifCond .eq 16, 3) := by decide +kernel
theorem dX11_ring_114 : decode cX11_ring 114 = .ok (.iload 8, 2) := by decide +kernel
theorem dX11_ring_116 : decode cX11_ring 116 = .ok (.i2l, 1) := by decide +kernel
theorem dX11_ring_117 : decode cX11_ring 117 = .ok (.lconst 1, 1) := by decide +kernel
theorem dX11_ring_118 : decode cX11_ring 118 = .ok (.ldc2_w 146, 3) := by decide +kernel
theorem dX11_ring_121 : decode cX11_ring 121 = .ok (.invokestatic 148, 3) := by decide +kernel
theorem dX11_ring_124 : decode cX11_ring 124 = .ok (.ifCond .ne 5, 3) := by decide +kernel
theorem dX11_ring_127 : decode cX11_ring 127 = .ok (.iconst (-1), 1) := by decide +kernel
theorem dX11_ring_128 : decode cX11_ring 128 = .ok (.ireturn, 1) := by decide +kernel
theorem dX11_ring_129 : decode cX11_ring 129 = .ok (.aload_n 0, 1) := by decide +kernel
theorem dX11_ring_130 : decode cX11_ring 130 = .ok (.getfield 22, 3) := by decide +kernel
theorem dX11_ring_133 : decode cX11_ring 133 = .ok (.aload_n 0, 1) := by decide +kernel
theorem dX11_ring_134 : decode cX11_ring 134 = .ok (.getfield 175, 3) := by decide +kernel
theorem dX11_ring_137 : decode cX11_ring 137 = .ok (.iload_n 1, 1) := by decide +kernel
theorem dX11_ring_138 : decode cX11_ring 138 = .ok (.iastore, 1) := by decide +kernel
theorem dX11_ring_139 : decode cX11_ring 139 = .ok (.aload_n 0, 1) := by decide +kernel
theorem dX11_ring_140 : decode cX11_ring 140 = .ok (.getfield 26, 3) := by decide +kernel
theorem dX11_ring_143 : decode cX11_ring 143 = .ok (.aload_n 0, 1) := by decide +kernel
theorem dX11_ring_144 : decode cX11_ring 144 = .ok (.getfield 175, 3) := by decide +kernel
theorem dX11_ring_147 : decode cX11_ring 147 = .ok (.iload_n 2, 1) := by decide +kernel
theorem dX11_ring_148 : decode cX11_ring 148 = .ok (.iastore, 1) := by decide +kernel
theorem dX11_ring_149 : decode cX11_ring 149 = .ok (.aload_n 0, 1) := by decide +kernel
theorem dX11_ring_150 : decode cX11_ring 150 = .ok (.getfield 29, 3) := by decide +kernel
theorem dX11_ring_153 : decode cX11_ring 153 = .ok (.aload_n 0, 1) := by decide +kernel
theorem dX11_ring_154 : decode cX11_ring 154 = .ok (.getfield 175, 3) := by decide +kernel
theorem dX11_ring_157 : decode cX11_ring 157 = .ok (.iload_n 3, 1) := by decide +kernel
theorem dX11_ring_158 : decode cX11_ring 158 = .ok (.iastore, 1) := by decide +kernel
theorem dX11_ring_159 : decode cX11_ring 159 = .ok (.aload_n 0, 1) := by decide +kernel
theorem dX11_ring_160 : decode cX11_ring 160 = .ok (.getfield 32, 3) := by decide +kernel
theorem dX11_ring_163 : decode cX11_ring 163 = .ok (.aload_n 0, 1) := by decide +kernel
theorem dX11_ring_164 : decode cX11_ring 164 = .ok (.getfield 175, 3) := by decide +kernel
theorem dX11_ring_167 : decode cX11_ring 167 = .ok (.iload 4, 2) := by decide +kernel
theorem dX11_ring_169 : decode cX11_ring 169 = .ok (.iastore, 1) := by decide +kernel
theorem dX11_ring_170 : decode cX11_ring 170 = .ok (.aload_n 0, 1) := by decide +kernel
theorem dX11_ring_171 : decode cX11_ring 171 = .ok (.getfield 35, 3) := by decide +kernel
theorem dX11_ring_174 : decode cX11_ring 174 = .ok (.aload_n 0, 1) := by decide +kernel
theorem dX11_ring_175 : decode cX11_ring 175 = .ok (.getfield 175, 3) := by decide +kernel
theorem dX11_ring_178 : decode cX11_ring 178 = .ok (.iload 5, 2) := by decide +kernel
theorem dX11_ring_180 : decode cX11_ring 180 = .ok (.iastore, 1) := by decide +kernel
theorem dX11_ring_181 : decode cX11_ring 181 = .ok (.aload_n 0, 1) := by decide +kernel
theorem dX11_ring_182 : decode cX11_ring 182 = .ok (.getfield 38, 3) := by decide +kernel
theorem dX11_ring_185 : decode cX11_ring 185 = .ok (.aload_n 0, 1) := by decide +kernel
theorem dX11_ring_186 : decode cX11_ring 186 = .ok (.getfield 175, 3) := by decide +kernel
theorem dX11_ring_189 : decode cX11_ring 189 = .ok (.iload 6, 2) := by decide +kernel
theorem dX11_ring_191 : decode cX11_ring 191 = .ok (.iastore, 1) := by decide +kernel
theorem dX11_ring_192 : decode cX11_ring 192 = .ok (.aload_n 0, 1) := by decide +kernel
theorem dX11_ring_193 : decode cX11_ring 193 = .ok (.getfield 41, 3) := by decide +kernel
theorem dX11_ring_196 : decode cX11_ring 196 = .ok (.aload_n 0, 1) := by decide +kernel
theorem dX11_ring_197 : decode cX11_ring 197 = .ok (.getfield 175, 3) := by decide +kernel
theorem dX11_ring_200 : decode cX11_ring 200 = .ok (.iload 7, 2) := by decide +kernel
theorem dX11_ring_202 : decode cX11_ring 202 = .ok (.iastore, 1) := by decide +kernel
theorem dX11_ring_203 : decode cX11_ring 203 = .ok (.aload_n 0, 1) := by decide +kernel
theorem dX11_ring_204 : decode cX11_ring 204 = .ok (.getfield 44, 3) := by decide +kernel
theorem dX11_ring_207 : decode cX11_ring 207 = .ok (.aload_n 0, 1) := by decide +kernel
theorem dX11_ring_208 : decode cX11_ring 208 = .ok (.getfield 175, 3) := by decide +kernel
theorem dX11_ring_211 : decode cX11_ring 211 = .ok (.iload 8, 2) := by decide +kernel
theorem dX11_ring_213 : decode cX11_ring 213 = .ok (.iastore, 1) := by decide +kernel
theorem dX11_ring_214 : decode cX11_ring 214 = .ok (.aload_n 0, 1) := by decide +kernel
theorem dX11_ring_215 : decode cX11_ring 215 = .ok (.getfield 47, 3) := by decide +kernel
theorem dX11_ring_218 : decode cX11_ring 218 = .ok (.aload_n 0, 1) := by decide +kernel
theorem dX11_ring_219 : decode cX11_ring 219 = .ok (.getfield 175, 3) := by decide +kernel
theorem dX11_ring_222 : decode cX11_ring 222 = .ok (.iconst 0, 1) := by decide +kernel
theorem dX11_ring_223 : decode cX11_ring 223 = .ok (.iastore, 1) := by decide +kernel
theorem dX11_ring_224 : decode cX11_ring 224 = .ok (.aload_n 0, 1) := by decide +kernel
theorem dX11_ring_225 : decode cX11_ring 225 = .ok (.dup, 1) := by decide +kernel
theorem dX11_ring_226 : decode cX11_ring 226 = .ok (.getfield 175, 3) := by decide +kernel
theorem dX11_ring_229 : decode cX11_ring 229 = .ok (.iconst 1, 1) := by decide +kernel
theorem dX11_ring_230 : decode cX11_ring 230 = .ok (.iadd, 1) := by decide +kernel
theorem dX11_ring_231 : decode cX11_ring 231 = .ok (.putfield 175, 3) := by decide +kernel
theorem dX11_ring_234 : decode cX11_ring 234 = .ok (.aload_n 0, 1) := by decide +kernel
theorem dX11_ring_235 : decode cX11_ring 235 = .ok (.getfield 47, 3) := by decide +kernel
theorem dX11_ring_238 : decode cX11_ring 238 = .ok (.aload_n 0, 1) := by decide +kernel
theorem dX11_ring_239 : decode cX11_ring 239 = .ok (.getfield 175, 3) := by decide +kernel
theorem dX11_ring_242 : decode cX11_ring 242 = .ok (.iconst 1, 1) := by decide +kernel
theorem dX11_ring_243 : decode cX11_ring 243 = .ok (.isub, 1) := by decide +kernel
theorem dX11_ring_244 : decode cX11_ring 244 = .ok (.aload_n 0, 1) := by decide +kernel
theorem dX11_ring_245 : decode cX11_ring 245 = .ok (.aload_n 0, 1) := by decide +kernel
theorem dX11_ring_246 : decode cX11_ring 246 = .ok (.getfield 175, 3) := by decide +kernel
theorem dX11_ring_249 : decode cX11_ring 249 = .ok (.iconst 1, 1) := by decide +kernel
theorem dX11_ring_250 : decode cX11_ring 250 = .ok (.isub, 1) := by decide +kernel
theorem dX11_ring_251 : decode cX11_ring 251 = .ok (.invokevirtual 206, 3) := by decide +kernel
theorem dX11_ring_254 : decode cX11_ring 254 = .ok (.iastore, 1) := by decide +kernel
theorem dX11_ring_255 : decode cX11_ring 255 = .ok (.aload_n 0, 1) := by decide +kernel
theorem dX11_ring_256 : decode cX11_ring 256 = .ok (.getfield 175, 3) := by decide +kernel
theorem dX11_ring_259 : decode cX11_ring 259 = .ok (.iconst 1, 1) := by decide +kernel
theorem dX11_ring_260 : decode cX11_ring 260 = .ok (.isub, 1) := by decide +kernel
theorem dX11_ring_261 : decode cX11_ring 261 = .ok (.ireturn, 1) := by decide +kernel
theorem dX11_pour_0 : decode cX11_pour 0 = .ok (.aload_n 0, 1) := by decide +kernel
theorem dX11_pour_1 : decode cX11_pour 1 = .ok (.getfield 156, 3) := by decide +kernel
theorem dX11_pour_4 : decode cX11_pour 4 = .ok (.ifCond .eq 63, 3) := by decide +kernel
theorem dX11_pour_7 : decode cX11_pour 7 = .ok (.aload_n 0, 1) := by decide +kernel
theorem dX11_pour_8 : decode cX11_pour 8 = .ok (.getfield 13, 3) := by decide +kernel
theorem dX11_pour_11 : decode cX11_pour 11 = .ok (.iconst (-1), 1) := by decide +kernel
theorem dX11_pour_12 : decode cX11_pour 12 = .ok (.if_icmp .ne 55, 3) := by decide +kernel
theorem dX11_pour_15 : decode cX11_pour 15 = .ok (.aload_n 0, 1) := by decide +kernel
theorem dX11_pour_16 : decode cX11_pour 16 = .ok (.getfield 178, 3) := by decide +kernel
theorem dX11_pour_19 : decode cX11_pour 19 = .ok (.bipush 30, 2) := by decide +kernel
theorem dX11_pour_21 : decode cX11_pour 21 = .ok (.if_icmp .eq 46, 3) := by decide +kernel
theorem dX11_pour_24 : decode cX11_pour 24 = .ok (.iload_n 1, 1) := by decide +kernel
theorem dX11_pour_25 : decode cX11_pour 25 = .ok (.i2l, 1) := by decide +kernel
theorem dX11_pour_26 : decode cX11_pour 26 = .ok (.lconst 1, 1) := by decide +kernel
theorem dX11_pour_27 : decode cX11_pour 27 = .ok (.ldc2_w 146, 3) := by decide +kernel
theorem dX11_pour_30 : decode cX11_pour 30 = .ok (.invokestatic 148, 3) := by decide +kernel
theorem dX11_pour_33 : decode cX11_pour 33 = .ok (.ifCond .eq 34, 3) := by decide +kernel
theorem dX11_pour_36 : decode cX11_pour 36 = .ok (.iload_n 2, 1) := by decide +kernel
theorem dX11_pour_37 : decode cX11_pour 37 = .ok (.i2l, 1) := by decide +kernel
theorem dX11_pour_38 : decode cX11_pour 38 = .ok (.ldc2_w 217, 3) := by decide +kernel
theorem dX11_pour_41 : decode cX11_pour 41 = .ok (.ldc2_w 154, 3) := by decide +kernel
theorem dX11_pour_44 : decode cX11_pour 44 = .ok (.invokestatic 148, 3) := by decide +kernel
theorem dX11_pour_47 : decode cX11_pour 47 = .ok (.ifCond .eq 20, 3) := by decide +kernel
theorem dX11_pour_50 : decode cX11_pour 50 = .ok (.aload_n 0, 1) := by decide +kernel
theorem dX11_pour_51 : decode cX11_pour 51 = .ok (.invokevirtual 191, 3) := by decide +kernel
theorem dX11_pour_54 : decode cX11_pour 54 = .ok (.iload_n 1, 1) := by decide +kernel
theorem dX11_pour_55 : decode cX11_pour 55 = .ok (.iadd, 1) := by decide +kernel
theorem dX11_pour_56 : decode cX11_pour 56 = .ok (.aload_n 0, 1) := by decide +kernel
theorem dX11_pour_57 : decode cX11_pour 57 = .ok (.aload_n 0, 1) := by decide +kernel
theorem dX11_pour_58 : decode cX11_pour 58 = .ok (.getfield 175, 3) := by decide +kernel
theorem dX11_pour_61 : decode cX11_pour 61 = .ok (.invokevirtual 187, 3) := by decide +kernel
theorem dX11_pour_64 : decode cX11_pour 64 = .ok (.if_icmp .le 5, 3) := by decide +kernel
theorem dX11_pour_67 : decode cX11_pour 67 = .ok (.iconst (-1), 1) := by decide +kernel
theorem dX11_pour_68 : decode cX11_pour 68 = .ok (.ireturn, 1) := by decide +kernel
theorem dX11_pour_69 : decode cX11_pour 69 = .ok (.aload_n 0, 1) := by decide +kernel
theorem dX11_pour_70 : decode cX11_pour 70 = .ok (.getfield 50, 3) := by decide +kernel
theorem dX11_pour_73 : decode cX11_pour 73 = .ok (.aload_n 0, 1) := by decide +kernel
theorem dX11_pour_74 : decode cX11_pour 74 = .ok (.getfield 178, 3) := by decide +kernel
theorem dX11_pour_77 : decode cX11_pour 77 = .ok (.iload_n 1, 1) := by decide +kernel
theorem dX11_pour_78 : decode cX11_pour 78 = .ok (.iastore, 1) := by decide +kernel
theorem dX11_pour_79 : decode cX11_pour 79 = .ok (.aload_n 0, 1) := by decide +kernel
theorem dX11_pour_80 : decode cX11_pour 80 = .ok (.getfield 53, 3) := by decide +kernel
theorem dX11_pour_83 : decode cX11_pour 83 = .ok (.aload_n 0, 1) := by decide +kernel
theorem dX11_pour_84 : decode cX11_pour 84 = .ok (.getfield 178, 3) := by decide +kernel
theorem dX11_pour_87 : decode cX11_pour 87 = .ok (.iload_n 2, 1) := by decide +kernel
theorem dX11_pour_88 : decode cX11_pour 88 = .ok (.iastore, 1) := by decide +kernel
theorem dX11_pour_89 : decode cX11_pour 89 = .ok (.aload_n 0, 1) := by decide +kernel
theorem dX11_pour_90 : decode cX11_pour 90 = .ok (.dup, 1) := by decide +kernel
theorem dX11_pour_91 : decode cX11_pour 91 = .ok (.getfield 178, 3) := by decide +kernel
theorem dX11_pour_94 : decode cX11_pour 94 = .ok (.iconst 1, 1) := by decide +kernel
theorem dX11_pour_95 : decode cX11_pour 95 = .ok (.iadd, 1) := by decide +kernel
theorem dX11_pour_96 : decode cX11_pour 96 = .ok (.putfield 178, 3) := by decide +kernel
theorem dX11_pour_99 : decode cX11_pour 99 = .ok (.aload_n 0, 1) := by decide +kernel
theorem dX11_pour_100 : decode cX11_pour 100 = .ok (.dup, 1) := by decide +kernel
theorem dX11_pour_101 : decode cX11_pour 101 = .ok (.getfield 184, 3) := by decide +kernel
theorem dX11_pour_104 : decode cX11_pour 104 = .ok (.iconst 1, 1) := by decide +kernel
theorem dX11_pour_105 : decode cX11_pour 105 = .ok (.iadd, 1) := by decide +kernel
theorem dX11_pour_106 : decode cX11_pour 106 = .ok (.putfield 184, 3) := by decide +kernel
theorem dX11_pour_109 : decode cX11_pour 109 = .ok (.aload_n 0, 1) := by decide +kernel
theorem dX11_pour_110 : decode cX11_pour 110 = .ok (.invokevirtual 223, 3) := by decide +kernel
theorem dX11_pour_113 : decode cX11_pour 113 = .ok (.ifCond .eq 7, 3) := by decide +kernel
theorem dX11_pour_116 : decode cX11_pour 116 = .ok (.aload_n 0, 1) := by decide +kernel
theorem dX11_pour_117 : decode cX11_pour 117 = .ok (.invokevirtual 227, 3) := by decide +kernel
theorem dX11_pour_120 : decode cX11_pour 120 = .ok (.aload_n 0, 1) := by decide +kernel
theorem dX11_pour_121 : decode cX11_pour 121 = .ok (.invokevirtual 191, 3) := by decide +kernel
theorem dX11_pour_124 : decode cX11_pour 124 = .ok (.ireturn, 1) := by decide +kernel
theorem dX11_draw_0 : decode cX11_draw 0 = .ok (.aload_n 0, 1) := by decide +kernel
theorem dX11_draw_1 : decode cX11_draw 1 = .ok (.getfield 156, 3) := by decide +kernel
theorem dX11_draw_4 : decode cX11_draw 4 = .ok (.ifCond .eq 25, 3) := by decide +kernel
theorem dX11_draw_7 : decode cX11_draw 7 = .ok (.aload_n 0, 1) := by decide +kernel
theorem dX11_draw_8 : decode cX11_draw 8 = .ok (.getfield 13, 3) := by decide +kernel
theorem dX11_draw_11 : decode cX11_draw 11 = .ok (.iconst (-1), 1) := by decide +kernel
theorem dX11_draw_12 : decode cX11_draw 12 = .ok (.if_icmp .ne 17, 3) := by decide +kernel
theorem dX11_draw_15 : decode cX11_draw 15 = .ok (.iload_n 1, 1) := by decide +kernel
theorem dX11_draw_16 : decode cX11_draw 16 = .ok (.i2l, 1) := by decide +kernel
theorem dX11_draw_17 : decode cX11_draw 17 = .ok (.lconst 1, 1) := by decide +kernel
theorem dX11_draw_18 : decode cX11_draw 18 = .ok (.aload_n 0, 1) := by decide +kernel
theorem dX11_draw_19 : decode cX11_draw 19 = .ok (.invokevirtual 191, 3) := by decide +kernel
theorem dX11_draw_22 : decode cX11_draw 22 = .ok (.i2l, 1) := by decide +kernel
theorem dX11_draw_23 : decode cX11_draw 23 = .ok (.invokestatic 148, 3) := by decide +kernel
theorem dX11_draw_26 : decode cX11_draw 26 = .ok (.ifCond .ne 5, 3) := by decide +kernel
theorem dX11_draw_29 : decode cX11_draw 29 = .ok (.iconst (-1), 1) := by decide +kernel
theorem dX11_draw_30 : decode cX11_draw 30 = .ok (.ireturn, 1) := by decide +kernel
theorem dX11_draw_31 : decode cX11_draw 31 = .ok (.iload_n 1, 1) := by decide +kernel
theorem dX11_draw_32 : decode cX11_draw 32 = .ok (.istore_n 2, 1) := by decide +kernel
theorem dX11_draw_33 : decode cX11_draw 33 = .ok (.iload_n 2, 1) := by decide +kernel
theorem dX11_draw_34 : decode cX11_draw 34 = .ok (.ifCond .le 110, 3) := by decide +kernel
theorem dX11_draw_37 : decode cX11_draw 37 = .ok (.aload_n 0, 1) := by decide +kernel
theorem dX11_draw_38 : decode cX11_draw 38 = .ok (.getfield 50, 3) := by decide +kernel
theorem dX11_draw_41 : decode cX11_draw 41 = .ok (.iconst 0, 1) := by decide +kernel
theorem dX11_draw_42 : decode cX11_draw 42 = .ok (.iaload, 1) := by decide +kernel
theorem dX11_draw_43 : decode cX11_draw 43 = .ok (.iload_n 2, 1) := by decide +kernel
theorem dX11_draw_44 : decode cX11_draw 44 = .ok (.if_icmp .ge 12, 3) := by decide +kernel
theorem dX11_draw_47 : decode cX11_draw 47 = .ok (.aload_n 0, 1) := by decide +kernel
theorem dX11_draw_48 : decode cX11_draw 48 = .ok (.getfield 50, 3) := by decide +kernel
theorem dX11_draw_51 : decode cX11_draw 51 = .ok (.iconst 0, 1) := by decide +kernel
theorem dX11_draw_52 : decode cX11_draw 52 = .ok (.iaload, 1) := by decide +kernel
theorem dX11_draw_53 : decode cX11_draw 53 = .ok (.goto 4, 3) := by decide +kernel
theorem dX11_draw_56 : decode cX11_draw 56 = .ok (.iload_n 2, 1) := by decide +kernel
theorem dX11_draw_57 : decode cX11_draw 57 = .ok (.istore_n 3, 1) := by decide +kernel
theorem dX11_draw_58 : decode cX11_draw 58 = .ok (.aload_n 0, 1) := by decide +kernel
theorem dX11_draw_59 : decode cX11_draw 59 = .ok (.getfield 50, 3) := by decide +kernel
theorem dX11_draw_62 : decode cX11_draw 62 = .ok (.iconst 0, 1) := by decide +kernel
theorem dX11_draw_63 : decode cX11_draw 63 = .ok (.dup2, 1) := by decide +kernel
theorem dX11_draw_64 : decode cX11_draw 64 = .ok (.iaload, 1) := by decide +kernel
theorem dX11_draw_65 : decode cX11_draw 65 = .ok (.iload_n 3, 1) := by decide +kernel
theorem dX11_draw_66 : decode cX11_draw 66 = .ok (.isub, 1) := by decide +kernel
theorem dX11_draw_67 : decode cX11_draw 67 = .ok (.iastore, 1) := by decide +kernel
theorem dX11_draw_68 : decode cX11_draw 68 = .ok (.iload_n 2, 1) := by decide +kernel
theorem dX11_draw_69 : decode cX11_draw 69 = .ok (.iload_n 3, 1) := by decide +kernel
theorem dX11_draw_70 : decode cX11_draw 70 = .ok (.isub, 1) := by decide +kernel
theorem dX11_draw_71 : decode cX11_draw 71 = .ok (.istore_n 2, 1) := by decide +kernel
theorem dX11_draw_72 : decode cX11_draw 72 = .ok (.aload_n 0, 1) := by decide +kernel
theorem dX11_draw_73 : decode cX11_draw 73 = .ok (.getfield 50, 3) := by decide +kernel
theorem dX11_draw_76 : decode cX11_draw 76 = .ok (.iconst 0, 1) := by decide +kernel
theorem dX11_draw_77 : decode cX11_draw 77 = .ok (.iaload, 1) := by decide +kernel
theorem dX11_draw_78 : decode cX11_draw 78 = .ok (.ifCond .ne 63, 3) := by decide +kernel
theorem dX11_draw_81 : decode cX11_draw 81 = .ok (.aload_n 0, 1) := by decide +kernel
theorem dX11_draw_82 : decode cX11_draw 82 = .ok (.dup, 1) := by decide +kernel
theorem dX11_draw_83 : decode cX11_draw 83 = .ok (.getfield 178, 3) := by decide +kernel
theorem dX11_draw_86 : decode cX11_draw 86 = .ok (.iconst 1, 1) := by decide +kernel
theorem dX11_draw_87 : decode cX11_draw 87 = .ok (.isub, 1) := by decide +kernel
theorem dX11_draw_88 : decode cX11_draw 88 = .ok (.putfield 178, 3) := by decide +kernel
theorem dX11_draw_91 : decode cX11_draw 91 = .ok (.iconst 0, 1) := by decide +kernel
theorem dX11_draw_92 : decode cX11_draw 92 = .ok (.istore 4, 2) := by decide +kernel
theorem dX11_draw_94 : decode cX11_draw 94 = .ok (.iload 4, 2) := by decide +kernel
theorem dX11_draw_96 : decode cX11_draw 96 = .ok (.aload_n 0, 1) := by decide +kernel
theorem dX11_draw_97 : decode cX11_draw 97 = .ok (.getfield 178, 3) := by decide +kernel
theorem dX11_draw_100 : decode cX11_draw 100 = .ok (.if_icmp .ge 41, 3) := by decide +kernel
theorem dX11_draw_103 : decode cX11_draw 103 = .ok (.aload_n 0, 1) := by decide +kernel
theorem dX11_draw_104 : decode cX11_draw 104 = .ok (.getfield 50, 3) := by decide +kernel
theorem dX11_draw_107 : decode cX11_draw 107 = .ok (.iload 4, 2) := by decide +kernel
theorem dX11_draw_109 : decode cX11_draw 109 = .ok (.aload_n 0, 1) := by decide +kernel
theorem dX11_draw_110 : decode cX11_draw 110 = .ok (.getfield 50, 3) := by decide +kernel
theorem dX11_draw_113 : decode cX11_draw 113 = .ok (.iload 4, 2) := by decide +kernel
theorem dX11_draw_115 : decode cX11_draw 115 = .ok (.iconst 1, 1) := by decide +kernel
theorem dX11_draw_116 : decode cX11_draw 116 = .ok (.iadd, 1) := by decide +kernel
theorem dX11_draw_117 : decode cX11_draw 117 = .ok (.iaload, 1) := by decide +kernel
theorem dX11_draw_118 : decode cX11_draw 118 = .ok (.iastore, 1) := by decide +kernel
theorem dX11_draw_119 : decode cX11_draw 119 = .ok (.aload_n 0, 1) := by decide +kernel
theorem dX11_draw_120 : decode cX11_draw 120 = .ok (.getfield 53, 3) := by decide +kernel
theorem dX11_draw_123 : decode cX11_draw 123 = .ok (.iload 4, 2) := by decide +kernel
theorem dX11_draw_125 : decode cX11_draw 125 = .ok (.aload_n 0, 1) := by decide +kernel
theorem dX11_draw_126 : decode cX11_draw 126 = .ok (.getfield 53, 3) := by decide +kernel
theorem dX11_draw_129 : decode cX11_draw 129 = .ok (.iload 4, 2) := by decide +kernel
theorem dX11_draw_131 : decode cX11_draw 131 = .ok (.iconst 1, 1) := by decide +kernel
theorem dX11_draw_132 : decode cX11_draw 132 = .ok (.iadd, 1) := by decide +kernel
theorem dX11_draw_133 : decode cX11_draw 133 = .ok (.iaload, 1) := by decide +kernel
theorem dX11_draw_134 : decode cX11_draw 134 = .ok (.iastore, 1) := by decide +kernel
theorem dX11_draw_135 : decode cX11_draw 135 = .ok (.iinc 4 1, 3) := by decide +kernel
theorem dX11_draw_138 : decode cX11_draw 138 = .ok (.goto (-44), 3) := by decide +kernel
theorem dX11_draw_141 : decode cX11_draw 141 = .ok (.goto (-108), 3) := by decide +kernel
theorem dX11_draw_144 : decode cX11_draw 144 = .ok (.aload_n 0, 1) := by decide +kernel
theorem dX11_draw_145 : decode cX11_draw 145 = .ok (.invokevirtual 191, 3) := by decide +kernel
theorem dX11_draw_148 : decode cX11_draw 148 = .ok (.ireturn, 1) := by decide +kernel
theorem dX11_air_0 : decode cX11_air 0 = .ok (.iload_n 1, 1) := by decide +kernel
theorem dX11_air_1 : decode cX11_air 1 = .ok (.i2l, 1) := by decide +kernel
theorem dX11_air_2 : decode cX11_air 2 = .ok (.ldc2_w 217, 3) := by decide +kernel
theorem dX11_air_5 : decode cX11_air 5 = .ok (.ldc2_w 146, 3) := by decide +kernel
theorem dX11_air_8 : decode cX11_air 8 = .ok (.invokestatic 148, 3) := by decide +kernel
theorem dX11_air_11 : decode cX11_air 11 = .ok (.ifCond .ne 7, 3) := by decide +kernel
theorem dX11_air_14 : decode cX11_air 14 = .ok (.sipush (-1000), 3) := by decide +kernel
theorem dX11_air_17 : decode cX11_air 17 = .ok (.ireturn, 1) := by decide +kernel
theorem dX11_air_18 : decode cX11_air 18 = .ok (.aload_n 0, 1) := by decide +kernel
theorem dX11_air_19 : decode cX11_air 19 = .ok (.getfield 7, 3) := by decide +kernel
theorem dX11_air_22 : decode cX11_air 22 = .ok (.istore_n 2, 1) := by decide +kernel
theorem dX11_air_23 : decode cX11_air 23 = .ok (.aload_n 0, 1) := by decide +kernel
theorem dX11_air_24 : decode cX11_air 24 = .ok (.iload_n 1, 1) := by decide +kernel
theorem dX11_air_25 : decode cX11_air 25 = .ok (.putfield 7, 3) := by decide +kernel
theorem dX11_air_28 : decode cX11_air 28 = .ok (.aload_n 0, 1) := by decide +kernel
theorem dX11_air_29 : decode cX11_air 29 = .ok (.invokevirtual 223, 3) := by decide +kernel
theorem dX11_air_32 : decode cX11_air 32 = .ok (.pop, 1) := by decide +kernel
theorem dX11_air_33 : decode cX11_air 33 = .ok (.iload_n 2, 1) := by decide +kernel
theorem dX11_air_34 : decode cX11_air 34 = .ok (.ireturn, 1) := by decide +kernel
theorem dX11_hour_0 : decode cX11_hour 0 = .ok (.aload_n 0, 1) := by decide +kernel
theorem dX11_hour_1 : decode cX11_hour 1 = .ok (.dup, 1) := by decide +kernel
theorem dX11_hour_2 : decode cX11_hour 2 = .ok (.getfield 212, 3) := by decide +kernel
theorem dX11_hour_5 : decode cX11_hour 5 = .ok (.iconst 1, 1) := by decide +kernel
theorem dX11_hour_6 : decode cX11_hour 6 = .ok (.iadd, 1) := by decide +kernel
theorem dX11_hour_7 : decode cX11_hour 7 = .ok (.putfield 212, 3) := by decide +kernel
theorem dX11_hour_10 : decode cX11_hour 10 = .ok (.aload_n 0, 1) := by decide +kernel
theorem dX11_hour_11 : decode cX11_hour 11 = .ok (.getfield 156, 3) := by decide +kernel
theorem dX11_hour_14 : decode cX11_hour 14 = .ok (.ifCond .eq 11, 3) := by decide +kernel
theorem dX11_hour_17 : decode cX11_hour 17 = .ok (.aload_n 0, 1) := by decide +kernel
theorem dX11_hour_18 : decode cX11_hour 18 = .ok (.getfield 13, 3) := by decide +kernel
theorem dX11_hour_21 : decode cX11_hour 21 = .ok (.iconst (-1), 1) := by decide +kernel
theorem dX11_hour_22 : decode cX11_hour 22 = .ok (.if_icmp .eq 4, 3) := by decide +kernel
theorem dX11_hour_25 : decode cX11_hour 25 = .ok (.return_, 1) := by decide +kernel
theorem dX11_hour_26 : decode cX11_hour 26 = .ok (.iconst 1, 1) := by decide +kernel
theorem dX11_hour_27 : decode cX11_hour 27 = .ok (.istore_n 1, 1) := by decide +kernel
theorem dX11_hour_28 : decode cX11_hour 28 = .ok (.iload_n 1, 1) := by decide +kernel
theorem dX11_hour_29 : decode cX11_hour 29 = .ok (.aload_n 0, 1) := by decide +kernel
theorem dX11_hour_30 : decode cX11_hour 30 = .ok (.getfield 178, 3) := by decide +kernel
theorem dX11_hour_33 : decode cX11_hour 33 = .ok (.if_icmp .ge 50, 3) := by decide +kernel
theorem dX11_hour_36 : decode cX11_hour 36 = .ok (.aload_n 0, 1) := by decide +kernel
theorem dX11_hour_37 : decode cX11_hour 37 = .ok (.getfield 53, 3) := by decide +kernel
theorem dX11_hour_40 : decode cX11_hour 40 = .ok (.iload_n 1, 1) := by decide +kernel
theorem dX11_hour_41 : decode cX11_hour 41 = .ok (.iaload, 1) := by decide +kernel
theorem dX11_hour_42 : decode cX11_hour 42 = .ok (.aload_n 0, 1) := by decide +kernel
theorem dX11_hour_43 : decode cX11_hour 43 = .ok (.getfield 53, 3) := by decide +kernel
theorem dX11_hour_46 : decode cX11_hour 46 = .ok (.iload_n 1, 1) := by decide +kernel
theorem dX11_hour_47 : decode cX11_hour 47 = .ok (.iconst 1, 1) := by decide +kernel
theorem dX11_hour_48 : decode cX11_hour 48 = .ok (.isub, 1) := by decide +kernel
theorem dX11_hour_49 : decode cX11_hour 49 = .ok (.iaload, 1) := by decide +kernel
theorem dX11_hour_50 : decode cX11_hour 50 = .ok (.isub, 1) := by decide +kernel
theorem dX11_hour_51 : decode cX11_hour 51 = .ok (.bipush 8, 2) := by decide +kernel
theorem dX11_hour_53 : decode cX11_hour 53 = .ok (.idiv, 1) := by decide +kernel
theorem dX11_hour_54 : decode cX11_hour 54 = .ok (.istore_n 2, 1) := by decide +kernel
theorem dX11_hour_55 : decode cX11_hour 55 = .ok (.aload_n 0, 1) := by decide +kernel
theorem dX11_hour_56 : decode cX11_hour 56 = .ok (.getfield 53, 3) := by decide +kernel
theorem dX11_hour_59 : decode cX11_hour 59 = .ok (.iload_n 1, 1) := by decide +kernel
theorem dX11_hour_60 : decode cX11_hour 60 = .ok (.dup2, 1) := by decide +kernel
theorem dX11_hour_61 : decode cX11_hour 61 = .ok (.iaload, 1) := by decide +kernel
theorem dX11_hour_62 : decode cX11_hour 62 = .ok (.iload_n 2, 1) := by decide +kernel
theorem dX11_hour_63 : decode cX11_hour 63 = .ok (.isub, 1) := by decide +kernel
theorem dX11_hour_64 : decode cX11_hour 64 = .ok (.iastore, 1) := by decide +kernel
theorem dX11_hour_65 : decode cX11_hour 65 = .ok (.aload_n 0, 1) := by decide +kernel
theorem dX11_hour_66 : decode cX11_hour 66 = .ok (.getfield 53, 3) := by decide +kernel
theorem dX11_hour_69 : decode cX11_hour 69 = .ok (.iload_n 1, 1) := by decide +kernel
theorem dX11_hour_70 : decode cX11_hour 70 = .ok (.iconst 1, 1) := by decide +kernel
theorem dX11_hour_71 : decode cX11_hour 71 = .ok (.isub, 1) := by decide +kernel
theorem dX11_hour_72 : decode cX11_hour 72 = .ok (.dup2, 1) := by decide +kernel
theorem dX11_hour_73 : decode cX11_hour 73 = .ok (.iaload, 1) := by decide +kernel
theorem dX11_hour_74 : decode cX11_hour 74 = .ok (.iload_n 2, 1) := by decide +kernel
theorem dX11_hour_75 : decode cX11_hour 75 = .ok (.iadd, 1) := by decide +kernel
theorem dX11_hour_76 : decode cX11_hour 76 = .ok (.iastore, 1) := by decide +kernel
theorem dX11_hour_77 : decode cX11_hour 77 = .ok (.iinc 1 1, 3) := by decide +kernel
theorem dX11_hour_80 : decode cX11_hour 80 = .ok (.goto (-52), 3) := by decide +kernel
theorem dX11_hour_83 : decode cX11_hour 83 = .ok (.aload_n 0, 1) := by decide +kernel
theorem dX11_hour_84 : decode cX11_hour 84 = .ok (.getfield 178, 3) := by decide +kernel
theorem dX11_hour_87 : decode cX11_hour 87 = .ok (.ifCond .le 36, 3) := by decide +kernel
theorem dX11_hour_90 : decode cX11_hour 90 = .ok (.aload_n 0, 1) := by decide +kernel
theorem dX11_hour_91 : decode cX11_hour 91 = .ok (.getfield 53, 3) := by decide +kernel
theorem dX11_hour_94 : decode cX11_hour 94 = .ok (.aload_n 0, 1) := by decide +kernel
theorem dX11_hour_95 : decode cX11_hour 95 = .ok (.getfield 178, 3) := by decide +kernel
theorem dX11_hour_98 : decode cX11_hour 98 = .ok (.iconst 1, 1) := by decide +kernel
theorem dX11_hour_99 : decode cX11_hour 99 = .ok (.isub, 1) := by decide +kernel
theorem dX11_hour_100 : decode cX11_hour 100 = .ok (.dup2, 1) := by decide +kernel
theorem dX11_hour_101 : decode cX11_hour 101 = .ok (.iaload, 1) := by decide +kernel
theorem dX11_hour_102 : decode cX11_hour 102 = .ok (.aload_n 0, 1) := by decide +kernel
theorem dX11_hour_103 : decode cX11_hour 103 = .ok (.getfield 7, 3) := by decide +kernel
theorem dX11_hour_106 : decode cX11_hour 106 = .ok (.aload_n 0, 1) := by decide +kernel
theorem dX11_hour_107 : decode cX11_hour 107 = .ok (.getfield 53, 3) := by decide +kernel
theorem dX11_hour_110 : decode cX11_hour 110 = .ok (.aload_n 0, 1) := by decide +kernel
theorem dX11_hour_111 : decode cX11_hour 111 = .ok (.getfield 178, 3) := by decide +kernel
theorem dX11_hour_114 : decode cX11_hour 114 = .ok (.iconst 1, 1) := by decide +kernel
theorem dX11_hour_115 : decode cX11_hour 115 = .ok (.isub, 1) := by decide +kernel
theorem dX11_hour_116 : decode cX11_hour 116 = .ok (.iaload, 1) := by decide +kernel
theorem dX11_hour_117 : decode cX11_hour 117 = .ok (.isub, 1) := by decide +kernel
theorem dX11_hour_118 : decode cX11_hour 118 = .ok (.bipush 16, 2) := by decide +kernel
theorem dX11_hour_120 : decode cX11_hour 120 = .ok (.idiv, 1) := by decide +kernel
theorem dX11_hour_121 : decode cX11_hour 121 = .ok (.iadd, 1) := by decide +kernel
theorem dX11_hour_122 : decode cX11_hour 122 = .ok (.iastore, 1) := by decide +kernel
theorem dX11_hour_123 : decode cX11_hour 123 = .ok (.iconst 1, 1) := by decide +kernel
theorem dX11_hour_124 : decode cX11_hour 124 = .ok (.istore_n 1, 1) := by decide +kernel
theorem dX11_hour_125 : decode cX11_hour 125 = .ok (.iload_n 1, 1) := by decide +kernel
theorem dX11_hour_126 : decode cX11_hour 126 = .ok (.aload_n 0, 1) := by decide +kernel
theorem dX11_hour_127 : decode cX11_hour 127 = .ok (.getfield 178, 3) := by decide +kernel
theorem dX11_hour_130 : decode cX11_hour 130 = .ok (.if_icmp .ge 45, 3) := by decide +kernel
theorem dX11_hour_133 : decode cX11_hour 133 = .ok (.aload_n 0, 1) := by decide +kernel
theorem dX11_hour_134 : decode cX11_hour 134 = .ok (.dup, 1) := by decide +kernel
theorem dX11_hour_135 : decode cX11_hour 135 = .ok (.getfield 181, 3) := by decide +kernel
theorem dX11_hour_138 : decode cX11_hour 138 = .ok (.aload_n 0, 1) := by decide +kernel
theorem dX11_hour_139 : decode cX11_hour 139 = .ok (.getfield 53, 3) := by decide +kernel
theorem dX11_hour_142 : decode cX11_hour 142 = .ok (.iload_n 1, 1) := by decide +kernel
theorem dX11_hour_143 : decode cX11_hour 143 = .ok (.iaload, 1) := by decide +kernel
theorem dX11_hour_144 : decode cX11_hour 144 = .ok (.aload_n 0, 1) := by decide +kernel
theorem dX11_hour_145 : decode cX11_hour 145 = .ok (.getfield 53, 3) := by decide +kernel
theorem dX11_hour_148 : decode cX11_hour 148 = .ok (.iload_n 1, 1) := by decide +kernel
theorem dX11_hour_149 : decode cX11_hour 149 = .ok (.iconst 1, 1) := by decide +kernel
theorem dX11_hour_150 : decode cX11_hour 150 = .ok (.isub, 1) := by decide +kernel
theorem dX11_hour_151 : decode cX11_hour 151 = .ok (.iaload, 1) := by decide +kernel
theorem dX11_hour_152 : decode cX11_hour 152 = .ok (.isub, 1) := by decide +kernel
theorem dX11_hour_153 : decode cX11_hour 153 = .ok (.aload_n 0, 1) := by decide +kernel
theorem dX11_hour_154 : decode cX11_hour 154 = .ok (.getfield 172, 3) := by decide +kernel
theorem dX11_hour_157 : decode cX11_hour 157 = .ok (.if_icmp .lt 7, 3) := by decide +kernel
theorem dX11_hour_160 : decode cX11_hour 160 = .ok (.iconst 2, 1) := by decide +kernel
theorem dX11_hour_161 : decode cX11_hour 161 = .ok (.goto 4, 3) := by decide +kernel
theorem dX11_hour_164 : decode cX11_hour 164 = .ok (.iconst 0, 1) := by decide +kernel
theorem dX11_hour_165 : decode cX11_hour 165 = .ok (.iadd, 1) := by decide +kernel
theorem dX11_hour_166 : decode cX11_hour 166 = .ok (.putfield 181, 3) := by decide +kernel
theorem dX11_hour_169 : decode cX11_hour 169 = .ok (.iinc 1 1, 3) := by decide +kernel
theorem dX11_hour_172 : decode cX11_hour 172 = .ok (.goto (-47), 3) := by decide +kernel
theorem dX11_hour_175 : decode cX11_hour 175 = .ok (.aload_n 0, 1) := by decide +kernel
theorem dX11_hour_176 : decode cX11_hour 176 = .ok (.aload_n 0, 1) := by decide +kernel
theorem dX11_hour_177 : decode cX11_hour 177 = .ok (.getfield 181, 3) := by decide +kernel
theorem dX11_hour_180 : decode cX11_hour 180 = .ok (.aload_n 0, 1) := by decide +kernel
theorem dX11_hour_181 : decode cX11_hour 181 = .ok (.getfield 169, 3) := by decide +kernel
theorem dX11_hour_184 : decode cX11_hour 184 = .ok (.if_icmp .ge 7, 3) := by decide +kernel
theorem dX11_hour_187 : decode cX11_hour 187 = .ok (.iconst 0, 1) := by decide +kernel
theorem dX11_hour_188 : decode cX11_hour 188 = .ok (.goto 33, 3) := by decide +kernel
theorem dX11_hour_191 : decode cX11_hour 191 = .ok (.aload_n 0, 1) := by decide +kernel
theorem dX11_hour_192 : decode cX11_hour 192 = .ok (.getfield 181, 3) := by decide +kernel
theorem dX11_hour_195 : decode cX11_hour 195 = .ok (.aload_n 0, 1) := by decide +kernel
theorem dX11_hour_196 : decode cX11_hour 196 = .ok (.getfield 169, 3) := by decide +kernel
theorem dX11_hour_199 : decode cX11_hour 199 = .ok (.isub, 1) := by decide +kernel
theorem dX11_hour_200 : decode cX11_hour 200 = .ok (.sipush 9999, 3) := by decide +kernel
theorem dX11_hour_203 : decode cX11_hour 203 = .ok (.if_icmp .le 9, 3) := by decide +kernel
theorem dX11_hour_206 : decode cX11_hour 206 = .ok (.sipush 9999, 3) := by decide +kernel
theorem dX11_hour_209 : decode cX11_hour 209 = .ok (.goto 12, 3) := by decide +kernel
theorem dX11_hour_212 : decode cX11_hour 212 = .ok (.aload_n 0, 1) := by decide +kernel
theorem dX11_hour_213 : decode cX11_hour 213 = .ok (.getfield 181, 3) := by decide +kernel
theorem dX11_hour_216 : decode cX11_hour 216 = .ok (.aload_n 0, 1) := by decide +kernel
theorem dX11_hour_217 : decode cX11_hour 217 = .ok (.getfield 169, 3) := by decide +kernel
theorem dX11_hour_220 : decode cX11_hour 220 = .ok (.isub, 1) := by decide +kernel
theorem dX11_hour_221 : decode cX11_hour 221 = .ok (.putfield 181, 3) := by decide +kernel
theorem dX11_hour_224 : decode cX11_hour 224 = .ok (.aload_n 0, 1) := by decide +kernel
theorem dX11_hour_225 : decode cX11_hour 225 = .ok (.invokevirtual 223, 3) := by decide +kernel
theorem dX11_hour_228 : decode cX11_hour 228 = .ok (.ifCond .eq 7, 3) := by decide +kernel
theorem dX11_hour_231 : decode cX11_hour 231 = .ok (.aload_n 0, 1) := by decide +kernel
theorem dX11_hour_232 : decode cX11_hour 232 = .ok (.invokevirtual 227, 3) := by decide +kernel
theorem dX11_hour_235 : decode cX11_hour 235 = .ok (.return_, 1) := by decide +kernel
theorem dX11_hours_0 : decode cX11_hours 0 = .ok (.iload_n 1, 1) := by decide +kernel
theorem dX11_hours_1 : decode cX11_hours 1 = .ok (.i2l, 1) := by decide +kernel
theorem dX11_hours_2 : decode cX11_hours 2 = .ok (.lconst 0, 1) := by decide +kernel
theorem dX11_hours_3 : decode cX11_hours 3 = .ok (.ldc2_w 229, 3) := by decide +kernel
theorem dX11_hours_6 : decode cX11_hours 6 = .ok (.invokestatic 148, 3) := by decide +kernel
theorem dX11_hours_9 : decode cX11_hours 9 = .ok (.ifCond .eq 14, 3) := by decide +kernel
theorem dX11_hours_12 : decode cX11_hours 12 = .ok (.aload_n 0, 1) := by decide +kernel
theorem dX11_hours_13 : decode cX11_hours 13 = .ok (.getfield 212, 3) := by decide +kernel
theorem dX11_hours_16 : decode cX11_hours 16 = .ok (.iload_n 1, 1) := by decide +kernel
theorem dX11_hours_17 : decode cX11_hours 17 = .ok (.iadd, 1) := by decide +kernel
theorem dX11_hours_18 : decode cX11_hours 18 = .ok (.ldc 231, 2) := by decide +kernel
theorem dX11_hours_20 : decode cX11_hours 20 = .ok (.if_icmp .le 5, 3) := by decide +kernel
theorem dX11_hours_23 : decode cX11_hours 23 = .ok (.iconst (-1), 1) := by decide +kernel
theorem dX11_hours_24 : decode cX11_hours 24 = .ok (.ireturn, 1) := by decide +kernel
theorem dX11_hours_25 : decode cX11_hours 25 = .ok (.iconst 0, 1) := by decide +kernel
theorem dX11_hours_26 : decode cX11_hours 26 = .ok (.istore_n 2, 1) := by decide +kernel
theorem dX11_hours_27 : decode cX11_hours 27 = .ok (.iload_n 2, 1) := by decide +kernel
theorem dX11_hours_28 : decode cX11_hours 28 = .ok (.iload_n 1, 1) := by decide +kernel
theorem dX11_hours_29 : decode cX11_hours 29 = .ok (.if_icmp .ge 13, 3) := by decide +kernel
theorem dX11_hours_32 : decode cX11_hours 32 = .ok (.aload_n 0, 1) := by decide +kernel
theorem dX11_hours_33 : decode cX11_hours 33 = .ok (.invokevirtual 232, 3) := by decide +kernel
theorem dX11_hours_36 : decode cX11_hours 36 = .ok (.iinc 2 1, 3) := by decide +kernel
theorem dX11_hours_39 : decode cX11_hours 39 = .ok (.goto (-12), 3) := by decide +kernel
theorem dX11_hours_42 : decode cX11_hours 42 = .ok (.aload_n 0, 1) := by decide +kernel
theorem dX11_hours_43 : decode cX11_hours 43 = .ok (.getfield 212, 3) := by decide +kernel
theorem dX11_hours_46 : decode cX11_hours 46 = .ok (.ireturn, 1) := by decide +kernel
theorem dX11_count_0 : decode cX11_count 0 = .ok (.iload_n 1, 1) := by decide +kernel
theorem dX11_count_1 : decode cX11_count 1 = .ok (.tableswitch 136 0 12 #[67, 72, 77, 82, 87, 92, 97, 102, 107, 112, 119, 126, 131], 67) := by decide +kernel
theorem dX11_count_68 : decode cX11_count 68 = .ok (.aload_n 0, 1) := by decide +kernel
theorem dX11_count_69 : decode cX11_count 69 = .ok (.getfield 212, 3) := by decide +kernel
theorem dX11_count_72 : decode cX11_count 72 = .ok (.ireturn, 1) := by decide +kernel
theorem dX11_count_73 : decode cX11_count 73 = .ok (.aload_n 0, 1) := by decide +kernel
theorem dX11_count_74 : decode cX11_count 74 = .ok (.getfield 175, 3) := by decide +kernel
theorem dX11_count_77 : decode cX11_count 77 = .ok (.ireturn, 1) := by decide +kernel
theorem dX11_count_78 : decode cX11_count 78 = .ok (.aload_n 0, 1) := by decide +kernel
theorem dX11_count_79 : decode cX11_count 79 = .ok (.getfield 178, 3) := by decide +kernel
theorem dX11_count_82 : decode cX11_count 82 = .ok (.ireturn, 1) := by decide +kernel
theorem dX11_count_83 : decode cX11_count 83 = .ok (.aload_n 0, 1) := by decide +kernel
theorem dX11_count_84 : decode cX11_count 84 = .ok (.invokevirtual 191, 3) := by decide +kernel
theorem dX11_count_87 : decode cX11_count 87 = .ok (.ireturn, 1) := by decide +kernel
theorem dX11_count_88 : decode cX11_count 88 = .ok (.aload_n 0, 1) := by decide +kernel
theorem dX11_count_89 : decode cX11_count 89 = .ok (.getfield 181, 3) := by decide +kernel
theorem dX11_count_92 : decode cX11_count 92 = .ok (.ireturn, 1) := by decide +kernel
theorem dX11_count_93 : decode cX11_count 93 = .ok (.aload_n 0, 1) := by decide +kernel
theorem dX11_count_94 : decode cX11_count 94 = .ok (.getfield 7, 3) := by decide +kernel
theorem dX11_count_97 : decode cX11_count 97 = .ok (.ireturn, 1) := by decide +kernel
theorem dX11_count_98 : decode cX11_count 98 = .ok (.aload_n 0, 1) := by decide +kernel
theorem dX11_count_99 : decode cX11_count 99 = .ok (.getfield 184, 3) := by decide +kernel
theorem dX11_count_102 : decode cX11_count 102 = .ok (.ireturn, 1) := by decide +kernel
theorem dX11_count_103 : decode cX11_count 103 = .ok (.aload_n 0, 1) := by decide +kernel
theorem dX11_count_104 : decode cX11_count 104 = .ok (.getfield 13, 3) := by decide +kernel
theorem dX11_count_107 : decode cX11_count 107 = .ok (.ireturn, 1) := by decide +kernel
theorem dX11_count_108 : decode cX11_count 108 = .ok (.aload_n 0, 1) := by decide +kernel
theorem dX11_count_109 : decode cX11_count 109 = .ok (.getfield 16, 3) := by decide +kernel
theorem dX11_count_112 : decode cX11_count 112 = .ok (.ireturn, 1) := by decide +kernel
theorem dX11_count_113 : decode cX11_count 113 = .ok (.aload_n 0, 1) := by decide +kernel
theorem dX11_count_114 : decode cX11_count 114 = .ok (.getfield 60, 3) := by decide +kernel
theorem dX11_count_117 : decode cX11_count 117 = .ok (.iconst 0, 1) := by decide +kernel
theorem dX11_count_118 : decode cX11_count 118 = .ok (.iaload, 1) := by decide +kernel
theorem dX11_count_119 : decode cX11_count 119 = .ok (.ireturn, 1) := by decide +kernel
theorem dX11_count_120 : decode cX11_count 120 = .ok (.aload_n 0, 1) := by decide +kernel
theorem dX11_count_121 : decode cX11_count 121 = .ok (.getfield 60, 3) := by decide +kernel
theorem dX11_count_124 : decode cX11_count 124 = .ok (.iconst 1, 1) := by decide +kernel
theorem dX11_count_125 : decode cX11_count 125 = .ok (.iaload, 1) := by decide +kernel
theorem dX11_count_126 : decode cX11_count 126 = .ok (.ireturn, 1) := by decide +kernel
theorem dX11_count_127 : decode cX11_count 127 = .ok (.aload_n 0, 1) := by decide +kernel
theorem dX11_count_128 : decode cX11_count 128 = .ok (.getfield 235, 3) := by decide +kernel
theorem dX11_count_131 : decode cX11_count 131 = .ok (.ireturn, 1) := by decide +kernel
theorem dX11_count_132 : decode cX11_count 132 = .ok (.aload_n 0, 1) := by decide +kernel
theorem dX11_count_133 : decode cX11_count 133 = .ok (.getfield 238, 3) := by decide +kernel
theorem dX11_count_136 : decode cX11_count 136 = .ok (.ireturn, 1) := by decide +kernel
theorem dX11_count_137 : decode cX11_count 137 = .ok (.sipush (-1000), 3) := by decide +kernel
theorem dX11_count_140 : decode cX11_count 140 = .ok (.ireturn, 1) := by decide +kernel
theorem dX11_layer_0 : decode cX11_layer 0 = .ok (.iload_n 1, 1) := by decide +kernel
theorem dX11_layer_1 : decode cX11_layer 1 = .ok (.i2l, 1) := by decide +kernel
theorem dX11_layer_2 : decode cX11_layer 2 = .ok (.lconst 0, 1) := by decide +kernel
theorem dX11_layer_3 : decode cX11_layer 3 = .ok (.aload_n 0, 1) := by decide +kernel
theorem dX11_layer_4 : decode cX11_layer 4 = .ok (.getfield 178, 3) := by decide +kernel
theorem dX11_layer_7 : decode cX11_layer 7 = .ok (.iconst 1, 1) := by decide +kernel
theorem dX11_layer_8 : decode cX11_layer 8 = .ok (.isub, 1) := by decide +kernel
theorem dX11_layer_9 : decode cX11_layer 9 = .ok (.i2l, 1) := by decide +kernel
theorem dX11_layer_10 : decode cX11_layer 10 = .ok (.invokestatic 148, 3) := by decide +kernel
theorem dX11_layer_13 : decode cX11_layer 13 = .ok (.ifCond .eq 13, 3) := by decide +kernel
theorem dX11_layer_16 : decode cX11_layer 16 = .ok (.iload_n 2, 1) := by decide +kernel
theorem dX11_layer_17 : decode cX11_layer 17 = .ok (.i2l, 1) := by decide +kernel
theorem dX11_layer_18 : decode cX11_layer 18 = .ok (.lconst 0, 1) := by decide +kernel
theorem dX11_layer_19 : decode cX11_layer 19 = .ok (.lconst 1, 1) := by decide +kernel
theorem dX11_layer_20 : decode cX11_layer 20 = .ok (.invokestatic 148, 3) := by decide +kernel
theorem dX11_layer_23 : decode cX11_layer 23 = .ok (.ifCond .ne 9, 3) := by decide +kernel
theorem dX11_layer_26 : decode cX11_layer 26 = .ok (.sipush (-1000), 3) := by decide +kernel
theorem dX11_layer_29 : decode cX11_layer 29 = .ok (.goto 22, 3) := by decide +kernel
theorem dX11_layer_32 : decode cX11_layer 32 = .ok (.iload_n 2, 1) := by decide +kernel
theorem dX11_layer_33 : decode cX11_layer 33 = .ok (.ifCond .ne 12, 3) := by decide +kernel
theorem dX11_layer_36 : decode cX11_layer 36 = .ok (.aload_n 0, 1) := by decide +kernel
theorem dX11_layer_37 : decode cX11_layer 37 = .ok (.getfield 50, 3) := by decide +kernel
theorem dX11_layer_40 : decode cX11_layer 40 = .ok (.iload_n 1, 1) := by decide +kernel
theorem dX11_layer_41 : decode cX11_layer 41 = .ok (.iaload, 1) := by decide +kernel
theorem dX11_layer_42 : decode cX11_layer 42 = .ok (.goto 9, 3) := by decide +kernel
theorem dX11_layer_45 : decode cX11_layer 45 = .ok (.aload_n 0, 1) := by decide +kernel
theorem dX11_layer_46 : decode cX11_layer 46 = .ok (.getfield 53, 3) := by decide +kernel
theorem dX11_layer_49 : decode cX11_layer 49 = .ok (.iload_n 1, 1) := by decide +kernel
theorem dX11_layer_50 : decode cX11_layer 50 = .ok (.iaload, 1) := by decide +kernel
theorem dX11_layer_51 : decode cX11_layer 51 = .ok (.ireturn, 1) := by decide +kernel
theorem dX11_told_0 : decode cX11_told 0 = .ok (.aload_n 0, 1) := by decide +kernel
theorem dX11_told_1 : decode cX11_told 1 = .ok (.iload_n 1, 1) := by decide +kernel
theorem dX11_told_2 : decode cX11_told 2 = .ok (.invokevirtual 241, 3) := by decide +kernel
theorem dX11_told_5 : decode cX11_told 5 = .ok (.ifCond .ne 7, 3) := by decide +kernel
theorem dX11_told_8 : decode cX11_told 8 = .ok (.sipush (-1000), 3) := by decide +kernel
theorem dX11_told_11 : decode cX11_told 11 = .ok (.ireturn, 1) := by decide +kernel
theorem dX11_told_12 : decode cX11_told 12 = .ok (.iload_n 2, 1) := by decide +kernel
theorem dX11_told_13 : decode cX11_told 13 = .ok (.tableswitch 93 0 5 #[39, 45, 51, 57, 69, 76], 39) := by decide +kernel
theorem dX11_told_52 : decode cX11_told 52 = .ok (.aload_n 0, 1) := by decide +kernel
theorem dX11_told_53 : decode cX11_told 53 = .ok (.iload_n 1, 1) := by decide +kernel
theorem dX11_told_54 : decode cX11_told 54 = .ok (.invokevirtual 206, 3) := by decide +kernel
theorem dX11_told_57 : decode cX11_told 57 = .ok (.ireturn, 1) := by decide +kernel
theorem dX11_told_58 : decode cX11_told 58 = .ok (.aload_n 0, 1) := by decide +kernel
theorem dX11_told_59 : decode cX11_told 59 = .ok (.iload_n 1, 1) := by decide +kernel
theorem dX11_told_60 : decode cX11_told 60 = .ok (.invokevirtual 209, 3) := by decide +kernel
theorem dX11_told_63 : decode cX11_told 63 = .ok (.ireturn, 1) := by decide +kernel
theorem dX11_told_64 : decode cX11_told 64 = .ok (.aload_n 0, 1) := by decide +kernel
theorem dX11_told_65 : decode cX11_told 65 = .ok (.iload_n 1, 1) := by decide +kernel
theorem dX11_told_66 : decode cX11_told 66 = .ok (.invokevirtual 199, 3) := by decide +kernel
theorem dX11_told_69 : decode cX11_told 69 = .ok (.ireturn, 1) := by decide +kernel
theorem dX11_told_70 : decode cX11_told 70 = .ok (.aload_n 0, 1) := by decide +kernel
theorem dX11_told_71 : decode cX11_told 71 = .ok (.iload_n 1, 1) := by decide +kernel
theorem dX11_told_72 : decode cX11_told 72 = .ok (.aload_n 0, 1) := by decide +kernel
theorem dX11_told_73 : decode cX11_told 73 = .ok (.getfield 29, 3) := by decide +kernel
theorem dX11_told_76 : decode cX11_told 76 = .ok (.iload_n 1, 1) := by decide +kernel
theorem dX11_told_77 : decode cX11_told 77 = .ok (.iaload, 1) := by decide +kernel
theorem dX11_told_78 : decode cX11_told 78 = .ok (.invokevirtual 202, 3) := by decide +kernel
theorem dX11_told_81 : decode cX11_told 81 = .ok (.ireturn, 1) := by decide +kernel
theorem dX11_told_82 : decode cX11_told 82 = .ok (.aload_n 0, 1) := by decide +kernel
theorem dX11_told_83 : decode cX11_told 83 = .ok (.getfield 47, 3) := by decide +kernel
theorem dX11_told_86 : decode cX11_told 86 = .ok (.iload_n 1, 1) := by decide +kernel
theorem dX11_told_87 : decode cX11_told 87 = .ok (.iaload, 1) := by decide +kernel
theorem dX11_told_88 : decode cX11_told 88 = .ok (.ireturn, 1) := by decide +kernel
theorem dX11_told_89 : decode cX11_told 89 = .ok (.aload_n 0, 1) := by decide +kernel
theorem dX11_told_90 : decode cX11_told 90 = .ok (.getfield 13, 3) := by decide +kernel
theorem dX11_told_93 : decode cX11_told 93 = .ok (.iload_n 1, 1) := by decide +kernel
theorem dX11_told_94 : decode cX11_told 94 = .ok (.if_icmp .ne 10, 3) := by decide +kernel
theorem dX11_told_97 : decode cX11_told 97 = .ok (.aload_n 0, 1) := by decide +kernel
theorem dX11_told_98 : decode cX11_told 98 = .ok (.getfield 19, 3) := by decide +kernel
theorem dX11_told_101 : decode cX11_told 101 = .ok (.goto 4, 3) := by decide +kernel
theorem dX11_told_104 : decode cX11_told 104 = .ok (.iconst (-1), 1) := by decide +kernel
theorem dX11_told_105 : decode cX11_told 105 = .ok (.ireturn, 1) := by decide +kernel
theorem dX11_told_106 : decode cX11_told 106 = .ok (.sipush (-1000), 3) := by decide +kernel
theorem dX11_told_109 : decode cX11_told 109 = .ok (.ireturn, 1) := by decide +kernel
theorem dX11_isNearer_0 : decode cX11_isNearer 0 = .ok (.aload_n 0, 1) := by decide +kernel
theorem dX11_isNearer_1 : decode cX11_isNearer 1 = .ok (.iload_n 1, 1) := by decide +kernel
theorem dX11_isNearer_2 : decode cX11_isNearer 2 = .ok (.invokevirtual 209, 3) := by decide +kernel
theorem dX11_isNearer_5 : decode cX11_isNearer 5 = .ok (.istore_n 3, 1) := by decide +kernel
theorem dX11_isNearer_6 : decode cX11_isNearer 6 = .ok (.aload_n 0, 1) := by decide +kernel
theorem dX11_isNearer_7 : decode cX11_isNearer 7 = .ok (.iload_n 2, 1) := by decide +kernel
theorem dX11_isNearer_8 : decode cX11_isNearer 8 = .ok (.invokevirtual 209, 3) := by decide +kernel
theorem dX11_isNearer_11 : decode cX11_isNearer 11 = .ok (.istore 4, 2) := by decide +kernel
theorem dX11_isNearer_13 : decode cX11_isNearer 13 = .ok (.iload_n 3, 1) := by decide +kernel
theorem dX11_isNearer_14 : decode cX11_isNearer 14 = .ok (.ifCond .eq 8, 3) := by decide +kernel
theorem dX11_isNearer_17 : decode cX11_isNearer 17 = .ok (.iload 4, 2) := by decide +kernel
theorem dX11_isNearer_19 : decode cX11_isNearer 19 = .ok (.ifCond .ne 31, 3) := by decide +kernel
theorem dX11_isNearer_22 : decode cX11_isNearer 22 = .ok (.iload_n 3, 1) := by decide +kernel
theorem dX11_isNearer_23 : decode cX11_isNearer 23 = .ok (.ifCond .ne 25, 3) := by decide +kernel
theorem dX11_isNearer_26 : decode cX11_isNearer 26 = .ok (.iload 4, 2) := by decide +kernel
theorem dX11_isNearer_28 : decode cX11_isNearer 28 = .ok (.ifCond .gt 16, 3) := by decide +kernel
theorem dX11_isNearer_31 : decode cX11_isNearer 31 = .ok (.aload_n 0, 1) := by decide +kernel
theorem dX11_isNearer_32 : decode cX11_isNearer 32 = .ok (.iload_n 1, 1) := by decide +kernel
theorem dX11_isNearer_33 : decode cX11_isNearer 33 = .ok (.invokevirtual 206, 3) := by decide +kernel
theorem dX11_isNearer_36 : decode cX11_isNearer 36 = .ok (.aload_n 0, 1) := by decide +kernel
theorem dX11_isNearer_37 : decode cX11_isNearer 37 = .ok (.iload_n 2, 1) := by decide +kernel
theorem dX11_isNearer_38 : decode cX11_isNearer 38 = .ok (.invokevirtual 206, 3) := by decide +kernel
theorem dX11_isNearer_41 : decode cX11_isNearer 41 = .ok (.if_icmp .le 7, 3) := by decide +kernel
theorem dX11_isNearer_44 : decode cX11_isNearer 44 = .ok (.iconst 1, 1) := by decide +kernel
theorem dX11_isNearer_45 : decode cX11_isNearer 45 = .ok (.goto 4, 3) := by decide +kernel
theorem dX11_isNearer_48 : decode cX11_isNearer 48 = .ok (.iconst 0, 1) := by decide +kernel
theorem dX11_isNearer_49 : decode cX11_isNearer 49 = .ok (.ireturn, 1) := by decide +kernel
theorem dX11_isNearer_50 : decode cX11_isNearer 50 = .ok (.aload_n 0, 1) := by decide +kernel
theorem dX11_isNearer_51 : decode cX11_isNearer 51 = .ok (.iload_n 1, 1) := by decide +kernel
theorem dX11_isNearer_52 : decode cX11_isNearer 52 = .ok (.invokevirtual 206, 3) := by decide +kernel
theorem dX11_isNearer_55 : decode cX11_isNearer 55 = .ok (.i2l, 1) := by decide +kernel
theorem dX11_isNearer_56 : decode cX11_isNearer 56 = .ok (.iload 4, 2) := by decide +kernel
theorem dX11_isNearer_58 : decode cX11_isNearer 58 = .ok (.i2l, 1) := by decide +kernel
theorem dX11_isNearer_59 : decode cX11_isNearer 59 = .ok (.lmul, 1) := by decide +kernel
theorem dX11_isNearer_60 : decode cX11_isNearer 60 = .ok (.aload_n 0, 1) := by decide +kernel
theorem dX11_isNearer_61 : decode cX11_isNearer 61 = .ok (.iload_n 2, 1) := by decide +kernel
theorem dX11_isNearer_62 : decode cX11_isNearer 62 = .ok (.invokevirtual 206, 3) := by decide +kernel
theorem dX11_isNearer_65 : decode cX11_isNearer 65 = .ok (.i2l, 1) := by decide +kernel
theorem dX11_isNearer_66 : decode cX11_isNearer 66 = .ok (.iload_n 3, 1) := by decide +kernel
theorem dX11_isNearer_67 : decode cX11_isNearer 67 = .ok (.i2l, 1) := by decide +kernel
theorem dX11_isNearer_68 : decode cX11_isNearer 68 = .ok (.lmul, 1) := by decide +kernel
theorem dX11_isNearer_69 : decode cX11_isNearer 69 = .ok (.lcmp, 1) := by decide +kernel
theorem dX11_isNearer_70 : decode cX11_isNearer 70 = .ok (.ifCond .le 7, 3) := by decide +kernel
theorem dX11_isNearer_73 : decode cX11_isNearer 73 = .ok (.iconst 1, 1) := by decide +kernel
theorem dX11_isNearer_74 : decode cX11_isNearer 74 = .ok (.goto 4, 3) := by decide +kernel
theorem dX11_isNearer_77 : decode cX11_isNearer 77 = .ok (.iconst 0, 1) := by decide +kernel
theorem dX11_isNearer_78 : decode cX11_isNearer 78 = .ok (.ireturn, 1) := by decide +kernel
theorem dX11_nearest_0 : decode cX11_nearest 0 = .ok (.iconst (-1), 1) := by decide +kernel
theorem dX11_nearest_1 : decode cX11_nearest 1 = .ok (.istore_n 1, 1) := by decide +kernel
theorem dX11_nearest_2 : decode cX11_nearest 2 = .ok (.iconst 0, 1) := by decide +kernel
theorem dX11_nearest_3 : decode cX11_nearest 3 = .ok (.istore_n 2, 1) := by decide +kernel
theorem dX11_nearest_4 : decode cX11_nearest 4 = .ok (.iload_n 2, 1) := by decide +kernel
theorem dX11_nearest_5 : decode cX11_nearest 5 = .ok (.aload_n 0, 1) := by decide +kernel
theorem dX11_nearest_6 : decode cX11_nearest 6 = .ok (.getfield 175, 3) := by decide +kernel
theorem dX11_nearest_9 : decode cX11_nearest 9 = .ok (.if_icmp .ge 29, 3) := by decide +kernel
theorem dX11_nearest_12 : decode cX11_nearest 12 = .ok (.iload_n 1, 1) := by decide +kernel
theorem dX11_nearest_13 : decode cX11_nearest 13 = .ok (.iconst (-1), 1) := by decide +kernel
theorem dX11_nearest_14 : decode cX11_nearest 14 = .ok (.if_icmp .eq 12, 3) := by decide +kernel
theorem dX11_nearest_17 : decode cX11_nearest 17 = .ok (.aload_n 0, 1) := by decide +kernel
theorem dX11_nearest_18 : decode cX11_nearest 18 = .ok (.iload_n 2, 1) := by decide +kernel
theorem dX11_nearest_19 : decode cX11_nearest 19 = .ok (.iload_n 1, 1) := by decide +kernel
theorem dX11_nearest_20 : decode cX11_nearest 20 = .ok (.invokevirtual 245, 3) := by decide +kernel
theorem dX11_nearest_23 : decode cX11_nearest 23 = .ok (.ifCond .eq 7, 3) := by decide +kernel
theorem dX11_nearest_26 : decode cX11_nearest 26 = .ok (.iload_n 2, 1) := by decide +kernel
theorem dX11_nearest_27 : decode cX11_nearest 27 = .ok (.goto 4, 3) := by decide +kernel
theorem dX11_nearest_30 : decode cX11_nearest 30 = .ok (.iload_n 1, 1) := by decide +kernel
theorem dX11_nearest_31 : decode cX11_nearest 31 = .ok (.istore_n 1, 1) := by decide +kernel
theorem dX11_nearest_32 : decode cX11_nearest 32 = .ok (.iinc 2 1, 3) := by decide +kernel
theorem dX11_nearest_35 : decode cX11_nearest 35 = .ok (.goto (-31), 3) := by decide +kernel
theorem dX11_nearest_38 : decode cX11_nearest 38 = .ok (.iload_n 1, 1) := by decide +kernel
theorem dX11_nearest_39 : decode cX11_nearest 39 = .ok (.ireturn, 1) := by decide +kernel
theorem dX11_feed_0 : decode cX11_feed 0 = .ok (.aload_n 0, 1) := by decide +kernel
theorem dX11_feed_1 : decode cX11_feed 1 = .ok (.getfield 238, 3) := by decide +kernel
theorem dX11_feed_4 : decode cX11_feed 4 = .ok (.bipush 20, 2) := by decide +kernel
theorem dX11_feed_6 : decode cX11_feed 6 = .ok (.iadd, 1) := by decide +kernel
theorem dX11_feed_7 : decode cX11_feed 7 = .ok (.sipush 400, 3) := by decide +kernel
theorem dX11_feed_10 : decode cX11_feed 10 = .ok (.if_icmp .le 5, 3) := by decide +kernel
theorem dX11_feed_13 : decode cX11_feed 13 = .ok (.iconst (-1), 1) := by decide +kernel
theorem dX11_feed_14 : decode cX11_feed 14 = .ok (.ireturn, 1) := by decide +kernel
theorem dX11_feed_15 : decode cX11_feed 15 = .ok (.aload_n 0, 1) := by decide +kernel
theorem dX11_feed_16 : decode cX11_feed 16 = .ok (.iload_n 1, 1) := by decide +kernel
theorem dX11_feed_17 : decode cX11_feed 17 = .ok (.invokevirtual 249, 3) := by decide +kernel
theorem dX11_feed_20 : decode cX11_feed 20 = .ok (.aload_n 0, 1) := by decide +kernel
theorem dX11_feed_21 : decode cX11_feed 21 = .ok (.iload_n 2, 1) := by decide +kernel
theorem dX11_feed_22 : decode cX11_feed 22 = .ok (.invokevirtual 249, 3) := by decide +kernel
theorem dX11_feed_25 : decode cX11_feed 25 = .ok (.aload_n 0, 1) := by decide +kernel
theorem dX11_feed_26 : decode cX11_feed 26 = .ok (.iload_n 3, 1) := by decide +kernel
theorem dX11_feed_27 : decode cX11_feed 27 = .ok (.invokevirtual 249, 3) := by decide +kernel
theorem dX11_feed_30 : decode cX11_feed 30 = .ok (.aload_n 0, 1) := by decide +kernel
theorem dX11_feed_31 : decode cX11_feed 31 = .ok (.iload 4, 2) := by decide +kernel
theorem dX11_feed_33 : decode cX11_feed 33 = .ok (.invokevirtual 249, 3) := by decide +kernel
theorem dX11_feed_36 : decode cX11_feed 36 = .ok (.aload_n 0, 1) := by decide +kernel
theorem dX11_feed_37 : decode cX11_feed 37 = .ok (.iload 5, 2) := by decide +kernel
theorem dX11_feed_39 : decode cX11_feed 39 = .ok (.invokevirtual 249, 3) := by decide +kernel
theorem dX11_feed_42 : decode cX11_feed 42 = .ok (.aload_n 0, 1) := by decide +kernel
theorem dX11_feed_43 : decode cX11_feed 43 = .ok (.getfield 238, 3) := by decide +kernel
theorem dX11_feed_46 : decode cX11_feed 46 = .ok (.ireturn, 1) := by decide +kernel
theorem dX11_put_0 : decode cX11_put 0 = .ok (.bipush 24, 2) := by decide +kernel
theorem dX11_put_2 : decode cX11_put 2 = .ok (.istore_n 2, 1) := by decide +kernel
theorem dX11_put_3 : decode cX11_put 3 = .ok (.iload_n 2, 1) := by decide +kernel
theorem dX11_put_4 : decode cX11_put 4 = .ok (.ifCond .lt 32, 3) := by decide +kernel
theorem dX11_put_7 : decode cX11_put 7 = .ok (.aload_n 0, 1) := by decide +kernel
theorem dX11_put_8 : decode cX11_put 8 = .ok (.getfield 56, 3) := by decide +kernel
theorem dX11_put_11 : decode cX11_put 11 = .ok (.aload_n 0, 1) := by decide +kernel
theorem dX11_put_12 : decode cX11_put 12 = .ok (.getfield 238, 3) := by decide +kernel
theorem dX11_put_15 : decode cX11_put 15 = .ok (.iload_n 1, 1) := by decide +kernel
theorem dX11_put_16 : decode cX11_put 16 = .ok (.iload_n 2, 1) := by decide +kernel
theorem dX11_put_17 : decode cX11_put 17 = .ok (.ishr, 1) := by decide +kernel
theorem dX11_put_18 : decode cX11_put 18 = .ok (.i2b, 1) := by decide +kernel
theorem dX11_put_19 : decode cX11_put 19 = .ok (.bastore, 1) := by decide +kernel
theorem dX11_put_20 : decode cX11_put 20 = .ok (.aload_n 0, 1) := by decide +kernel
theorem dX11_put_21 : decode cX11_put 21 = .ok (.dup, 1) := by decide +kernel
theorem dX11_put_22 : decode cX11_put 22 = .ok (.getfield 238, 3) := by decide +kernel
theorem dX11_put_25 : decode cX11_put 25 = .ok (.iconst 1, 1) := by decide +kernel
theorem dX11_put_26 : decode cX11_put 26 = .ok (.iadd, 1) := by decide +kernel
theorem dX11_put_27 : decode cX11_put 27 = .ok (.putfield 238, 3) := by decide +kernel
theorem dX11_put_30 : decode cX11_put 30 = .ok (.iinc 2 (-8), 3) := by decide +kernel
theorem dX11_put_33 : decode cX11_put 33 = .ok (.goto (-30), 3) := by decide +kernel
theorem dX11_put_36 : decode cX11_put 36 = .ok (.return_, 1) := by decide +kernel
theorem dX11_end_0 : decode cX11_end 0 = .ok (.iload_n 1, 1) := by decide +kernel
theorem dX11_end_1 : decode cX11_end 1 = .ok (.ifCond .lt 11, 3) := by decide +kernel
theorem dX11_end_4 : decode cX11_end 4 = .ok (.iload_n 1, 1) := by decide +kernel
theorem dX11_end_5 : decode cX11_end 5 = .ok (.aload_n 0, 1) := by decide +kernel
theorem dX11_end_6 : decode cX11_end 6 = .ok (.getfield 238, 3) := by decide +kernel
theorem dX11_end_9 : decode cX11_end 9 = .ok (.if_icmp .le 5, 3) := by decide +kernel
theorem dX11_end_12 : decode cX11_end 12 = .ok (.iconst (-1), 1) := by decide +kernel
theorem dX11_end_13 : decode cX11_end 13 = .ok (.ireturn, 1) := by decide +kernel
theorem dX11_end_14 : decode cX11_end 14 = .ok (.aload_n 0, 1) := by decide +kernel
theorem dX11_end_15 : decode cX11_end 15 = .ok (.iload_n 1, 1) := by decide +kernel
theorem dX11_end_16 : decode cX11_end 16 = .ok (.putfield 238, 3) := by decide +kernel
theorem dX11_end_19 : decode cX11_end 19 = .ok (.iload_n 1, 1) := by decide +kernel
theorem dX11_end_20 : decode cX11_end 20 = .ok (.ireturn, 1) := by decide +kernel
theorem dX11_wordOf_0 : decode cX11_wordOf 0 = .ok (.iload_n 0, 1) := by decide +kernel
theorem dX11_wordOf_1 : decode cX11_wordOf 1 = .ok (.tableswitch 108 0 11 #[63, 66, 69, 72, 76, 80, 84, 88, 92, 96, 100, 104], 63) := by decide +kernel
theorem dX11_wordOf_64 : decode cX11_wordOf 64 = .ok (.ldc 253, 2) := by decide +kernel
theorem dX11_wordOf_66 : decode cX11_wordOf 66 = .ok (.areturn, 1) := by decide +kernel
theorem dX11_wordOf_67 : decode cX11_wordOf 67 = .ok (.ldc 254, 2) := by decide +kernel
theorem dX11_wordOf_69 : decode cX11_wordOf 69 = .ok (.areturn, 1) := by decide +kernel
theorem dX11_wordOf_70 : decode cX11_wordOf 70 = .ok (.ldc 255, 2) := by decide +kernel
theorem dX11_wordOf_72 : decode cX11_wordOf 72 = .ok (.areturn, 1) := by decide +kernel
theorem dX11_wordOf_73 : decode cX11_wordOf 73 = .ok (.ldc_w 256, 3) := by decide +kernel
theorem dX11_wordOf_76 : decode cX11_wordOf 76 = .ok (.areturn, 1) := by decide +kernel
theorem dX11_wordOf_77 : decode cX11_wordOf 77 = .ok (.ldc_w 258, 3) := by decide +kernel
theorem dX11_wordOf_80 : decode cX11_wordOf 80 = .ok (.areturn, 1) := by decide +kernel
theorem dX11_wordOf_81 : decode cX11_wordOf 81 = .ok (.ldc_w 260, 3) := by decide +kernel
theorem dX11_wordOf_84 : decode cX11_wordOf 84 = .ok (.areturn, 1) := by decide +kernel
theorem dX11_wordOf_85 : decode cX11_wordOf 85 = .ok (.ldc_w 261, 3) := by decide +kernel
theorem dX11_wordOf_88 : decode cX11_wordOf 88 = .ok (.areturn, 1) := by decide +kernel
theorem dX11_wordOf_89 : decode cX11_wordOf 89 = .ok (.ldc_w 263, 3) := by decide +kernel
theorem dX11_wordOf_92 : decode cX11_wordOf 92 = .ok (.areturn, 1) := by decide +kernel
theorem dX11_wordOf_93 : decode cX11_wordOf 93 = .ok (.ldc_w 265, 3) := by decide +kernel
theorem dX11_wordOf_96 : decode cX11_wordOf 96 = .ok (.areturn, 1) := by decide +kernel
theorem dX11_wordOf_97 : decode cX11_wordOf 97 = .ok (.ldc_w 267, 3) := by decide +kernel
theorem dX11_wordOf_100 : decode cX11_wordOf 100 = .ok (.areturn, 1) := by decide +kernel
theorem dX11_wordOf_101 : decode cX11_wordOf 101 = .ok (.ldc_w 268, 3) := by decide +kernel
theorem dX11_wordOf_104 : decode cX11_wordOf 104 = .ok (.areturn, 1) := by decide +kernel
theorem dX11_wordOf_105 : decode cX11_wordOf 105 = .ok (.ldc_w 269, 3) := by decide +kernel
theorem dX11_wordOf_108 : decode cX11_wordOf 108 = .ok (.areturn, 1) := by decide +kernel
theorem dX11_wordOf_109 : decode cX11_wordOf 109 = .ok (.ldc_w 271, 3) := by decide +kernel
theorem dX11_wordOf_112 : decode cX11_wordOf 112 = .ok (.areturn, 1) := by decide +kernel
theorem dX11_fails_0 : decode cX11_fails 0 = .ok (.aload_n 0, 1) := by decide +kernel
theorem dX11_fails_1 : decode cX11_fails 1 = .ok (.aload_n 0, 1) := by decide +kernel
theorem dX11_fails_2 : decode cX11_fails 2 = .ok (.getfield 273, 3) := by decide +kernel
theorem dX11_fails_5 : decode cX11_fails 5 = .ok (.ifCond .ne 14, 3) := by decide +kernel
theorem dX11_fails_8 : decode cX11_fails 8 = .ok (.iconst 1, 1) := by decide +kernel
theorem dX11_fails_9 : decode cX11_fails 9 = .ok (.bipush 8, 2) := by decide +kernel
theorem dX11_fails_11 : decode cX11_fails 11 = .ok (.iload_n 2, 1) := by decide +kernel
theorem dX11_fails_12 : decode cX11_fails 12 = .ok (.imul, 1) := by decide +kernel
theorem dX11_fails_13 : decode cX11_fails 13 = .ok (.iadd, 1) := by decide +kernel
theorem dX11_fails_14 : decode cX11_fails 14 = .ok (.iload_n 1, 1) := by decide +kernel
theorem dX11_fails_15 : decode cX11_fails 15 = .ok (.iadd, 1) := by decide +kernel
theorem dX11_fails_16 : decode cX11_fails 16 = .ok (.goto 7, 3) := by decide +kernel
theorem dX11_fails_19 : decode cX11_fails 19 = .ok (.aload_n 0, 1) := by decide +kernel
theorem dX11_fails_20 : decode cX11_fails 20 = .ok (.getfield 273, 3) := by decide +kernel
theorem dX11_fails_23 : decode cX11_fails 23 = .ok (.putfield 273, 3) := by decide +kernel
theorem dX11_fails_26 : decode cX11_fails 26 = .ok (.return_, 1) := by decide +kernel
theorem dX11_sign_0 : decode cX11_sign 0 = .ok (.aload_n 0, 1) := by decide +kernel
theorem dX11_sign_1 : decode cX11_sign 1 = .ok (.getfield 276, 3) := by decide +kernel
theorem dX11_sign_4 : decode cX11_sign 4 = .ok (.aload_n 0, 1) := by decide +kernel
theorem dX11_sign_5 : decode cX11_sign 5 = .ok (.getfield 238, 3) := by decide +kernel
theorem dX11_sign_8 : decode cX11_sign 8 = .ok (.if_icmp .ge 19, 3) := by decide +kernel
theorem dX11_sign_11 : decode cX11_sign 11 = .ok (.aload_n 0, 1) := by decide +kernel
theorem dX11_sign_12 : decode cX11_sign 12 = .ok (.getfield 56, 3) := by decide +kernel
theorem dX11_sign_15 : decode cX11_sign 15 = .ok (.aload_n 0, 1) := by decide +kernel
theorem dX11_sign_16 : decode cX11_sign 16 = .ok (.getfield 276, 3) := by decide +kernel
theorem dX11_sign_19 : decode cX11_sign 19 = .ok (.baload, 1) := by decide +kernel
theorem dX11_sign_20 : decode cX11_sign 20 = .ok (.sipush 255, 3) := by decide +kernel
theorem dX11_sign_23 : decode cX11_sign 23 = .ok (.iand, 1) := by decide +kernel
theorem dX11_sign_24 : decode cX11_sign 24 = .ok (.goto 4, 3) := by decide +kernel
theorem dX11_sign_27 : decode cX11_sign 27 = .ok (.iconst (-1), 1) := by decide +kernel
theorem dX11_sign_28 : decode cX11_sign 28 = .ok (.ireturn, 1) := by decide +kernel
theorem dX11_blanks_0 : decode cX11_blanks 0 = .ok (.aload_n 0, 1) := by decide +kernel
theorem dX11_blanks_1 : decode cX11_blanks 1 = .ok (.invokevirtual 279, 3) := by decide +kernel
theorem dX11_blanks_4 : decode cX11_blanks 4 = .ok (.bipush 32, 2) := by decide +kernel
theorem dX11_blanks_6 : decode cX11_blanks 6 = .ok (.if_icmp .ne 16, 3) := by decide +kernel
theorem dX11_blanks_9 : decode cX11_blanks 9 = .ok (.aload_n 0, 1) := by decide +kernel
theorem dX11_blanks_10 : decode cX11_blanks 10 = .ok (.dup, 1) := by decide +kernel
theorem dX11_blanks_11 : decode cX11_blanks 11 = .ok (.getfield 276, 3) := by decide +kernel
theorem dX11_blanks_14 : decode cX11_blanks 14 = .ok (.iconst 1, 1) := by decide +kernel
theorem dX11_blanks_15 : decode cX11_blanks 15 = .ok (.iadd, 1) := by decide +kernel
theorem dX11_blanks_16 : decode cX11_blanks 16 = .ok (.putfield 276, 3) := by decide +kernel
theorem dX11_blanks_19 : decode cX11_blanks 19 = .ok (.goto (-19), 3) := by decide +kernel
theorem dX11_blanks_22 : decode cX11_blanks 22 = .ok (.return_, 1) := by decide +kernel
theorem dX11_isDigit_0 : decode cX11_isDigit 0 = .ok (.aload_n 0, 1) := by decide +kernel
theorem dX11_isDigit_1 : decode cX11_isDigit 1 = .ok (.invokevirtual 279, 3) := by decide +kernel
theorem dX11_isDigit_4 : decode cX11_isDigit 4 = .ok (.i2l, 1) := by decide +kernel
theorem dX11_isDigit_5 : decode cX11_isDigit 5 = .ok (.ldc2_w 282, 3) := by decide +kernel
theorem dX11_isDigit_8 : decode cX11_isDigit 8 = .ok (.ldc2_w 284, 3) := by decide +kernel
theorem dX11_isDigit_11 : decode cX11_isDigit 11 = .ok (.invokestatic 148, 3) := by decide +kernel
theorem dX11_isDigit_14 : decode cX11_isDigit 14 = .ok (.ireturn, 1) := by decide +kernel
theorem dX11_stands__0 : decode cX11_stands_ 0 = .ok (.aload_n 0, 1) := by decide +kernel
theorem dX11_stands__1 : decode cX11_stands_ 1 = .ok (.getfield 276, 3) := by decide +kernel
theorem dX11_stands__4 : decode cX11_stands_ 4 = .ok (.istore_n 2, 1) := by decide +kernel
theorem dX11_stands__5 : decode cX11_stands_ 5 = .ok (.iload_n 2, 1) := by decide +kernel
theorem dX11_stands__6 : decode cX11_stands_ 6 = .ok (.aload_n 0, 1) := by decide +kernel
theorem dX11_stands__7 : decode cX11_stands_ 7 = .ok (.getfield 238, 3) := by decide +kernel
theorem dX11_stands__10 : decode cX11_stands_ 10 = .ok (.if_icmp .ge 31, 3) := by decide +kernel
theorem dX11_stands__13 : decode cX11_stands_ 13 = .ok (.aload_n 0, 1) := by decide +kernel
theorem dX11_stands__14 : decode cX11_stands_ 14 = .ok (.getfield 56, 3) := by decide +kernel
theorem dX11_stands__17 : decode cX11_stands_ 17 = .ok (.iload_n 2, 1) := by decide +kernel
theorem dX11_stands__18 : decode cX11_stands_ 18 = .ok (.baload, 1) := by decide +kernel
theorem dX11_stands__19 : decode cX11_stands_ 19 = .ok (.bipush 97, 2) := by decide +kernel
theorem dX11_stands__21 : decode cX11_stands_ 21 = .ok (.if_icmp .lt 20, 3) := by decide +kernel
theorem dX11_stands__24 : decode cX11_stands_ 24 = .ok (.aload_n 0, 1) := by decide +kernel
theorem dX11_stands__25 : decode cX11_stands_ 25 = .ok (.getfield 56, 3) := by decide +kernel
theorem dX11_stands__28 : decode cX11_stands_ 28 = .ok (.iload_n 2, 1) := by decide +kernel
theorem dX11_stands__29 : decode cX11_stands_ 29 = .ok (.baload, 1) := by decide +kernel
theorem dX11_stands__30 : decode cX11_stands_ 30 = .ok (.bipush 122, 2) := by decide +kernel
theorem dX11_stands__32 : decode cX11_stands_ 32 = .ok (.if_icmp .gt 9, 3) := by decide +kernel
theorem dX11_stands__35 : decode cX11_stands_ 35 = .ok (.iinc 2 1, 3) := by decide +kernel
theorem dX11_stands__38 : decode cX11_stands_ 38 = .ok (.goto (-33), 3) := by decide +kernel
theorem dX11_stands__41 : decode cX11_stands_ 41 = .ok (.iload_n 2, 1) := by decide +kernel
theorem dX11_stands__42 : decode cX11_stands_ 42 = .ok (.aload_n 0, 1) := by decide +kernel
theorem dX11_stands__43 : decode cX11_stands_ 43 = .ok (.getfield 276, 3) := by decide +kernel
theorem dX11_stands__46 : decode cX11_stands_ 46 = .ok (.isub, 1) := by decide +kernel
theorem dX11_stands__47 : decode cX11_stands_ 47 = .ok (.aload_n 1, 1) := by decide +kernel
theorem dX11_stands__48 : decode cX11_stands_ 48 = .ok (.invokevirtual 286, 3) := by decide +kernel
theorem dX11_stands__51 : decode cX11_stands_ 51 = .ok (.if_icmp .ne 7, 3) := by decide +kernel
theorem dX11_stands__54 : decode cX11_stands_ 54 = .ok (.iconst 1, 1) := by decide +kernel
theorem dX11_stands__55 : decode cX11_stands_ 55 = .ok (.goto 4, 3) := by decide +kernel
theorem dX11_stands__58 : decode cX11_stands_ 58 = .ok (.iconst 0, 1) := by decide +kernel
theorem dX11_stands__59 : decode cX11_stands_ 59 = .ok (.istore_n 3, 1) := by decide +kernel
theorem dX11_stands__60 : decode cX11_stands_ 60 = .ok (.iconst 0, 1) := by decide +kernel
theorem dX11_stands__61 : decode cX11_stands_ 61 = .ok (.istore 4, 2) := by decide +kernel
theorem dX11_stands__63 : decode cX11_stands_ 63 = .ok (.iload 4, 2) := by decide +kernel
theorem dX11_stands__65 : decode cX11_stands_ 65 = .ok (.aload_n 1, 1) := by decide +kernel
theorem dX11_stands__66 : decode cX11_stands_ 66 = .ok (.invokevirtual 286, 3) := by decide +kernel
theorem dX11_stands__69 : decode cX11_stands_ 69 = .ok (.if_icmp .ge 40, 3) := by decide +kernel
theorem dX11_stands__72 : decode cX11_stands_ 72 = .ok (.iload_n 3, 1) := by decide +kernel
theorem dX11_stands__73 : decode cX11_stands_ 73 = .ok (.ifCond .eq 36, 3) := by decide +kernel
theorem dX11_stands__76 : decode cX11_stands_ 76 = .ok (.aload_n 0, 1) := by decide +kernel
theorem dX11_stands__77 : decode cX11_stands_ 77 = .ok (.getfield 56, 3) := by decide +kernel
theorem dX11_stands__80 : decode cX11_stands_ 80 = .ok (.aload_n 0, 1) := by decide +kernel
theorem dX11_stands__81 : decode cX11_stands_ 81 = .ok (.getfield 276, 3) := by decide +kernel
theorem dX11_stands__84 : decode cX11_stands_ 84 = .ok (.iload 4, 2) := by decide +kernel
theorem dX11_stands__86 : decode cX11_stands_ 86 = .ok (.iadd, 1) := by decide +kernel
theorem dX11_stands__87 : decode cX11_stands_ 87 = .ok (.baload, 1) := by decide +kernel
theorem dX11_stands__88 : decode cX11_stands_ 88 = .ok (.aload_n 1, 1) := by decide +kernel
theorem dX11_stands__89 : decode cX11_stands_ 89 = .ok (.iload 4, 2) := by decide +kernel
theorem dX11_stands__91 : decode cX11_stands_ 91 = .ok (.invokevirtual 291, 3) := by decide +kernel
theorem dX11_stands__94 : decode cX11_stands_ 94 = .ok (.if_icmp .ne 7, 3) := by decide +kernel
theorem dX11_stands__97 : decode cX11_stands_ 97 = .ok (.iconst 1, 1) := by decide +kernel
theorem dX11_stands__98 : decode cX11_stands_ 98 = .ok (.goto 4, 3) := by decide +kernel
theorem dX11_stands__101 : decode cX11_stands_ 101 = .ok (.iconst 0, 1) := by decide +kernel
theorem dX11_stands__102 : decode cX11_stands_ 102 = .ok (.istore_n 3, 1) := by decide +kernel
theorem dX11_stands__103 : decode cX11_stands_ 103 = .ok (.iinc 4 1, 3) := by decide +kernel
theorem dX11_stands__106 : decode cX11_stands_ 106 = .ok (.goto (-43), 3) := by decide +kernel
theorem dX11_stands__109 : decode cX11_stands_ 109 = .ok (.iload_n 3, 1) := by decide +kernel
theorem dX11_stands__110 : decode cX11_stands_ 110 = .ok (.ireturn, 1) := by decide +kernel
theorem dX11_takes_0 : decode cX11_takes 0 = .ok (.aload_n 0, 1) := by decide +kernel
theorem dX11_takes_1 : decode cX11_takes 1 = .ok (.invokevirtual 295, 3) := by decide +kernel
theorem dX11_takes_4 : decode cX11_takes 4 = .ok (.aload_n 0, 1) := by decide +kernel
theorem dX11_takes_5 : decode cX11_takes 5 = .ok (.aload_n 1, 1) := by decide +kernel
theorem dX11_takes_6 : decode cX11_takes 6 = .ok (.invokevirtual 298, 3) := by decide +kernel
theorem dX11_takes_9 : decode cX11_takes 9 = .ok (.istore_n 2, 1) := by decide +kernel
theorem dX11_takes_10 : decode cX11_takes 10 = .ok (.aload_n 0, 1) := by decide +kernel
theorem dX11_takes_11 : decode cX11_takes 11 = .ok (.dup, 1) := by decide +kernel
theorem dX11_takes_12 : decode cX11_takes 12 = .ok (.getfield 276, 3) := by decide +kernel
theorem dX11_takes_15 : decode cX11_takes 15 = .ok (.iload_n 2, 1) := by decide +kernel
theorem dX11_takes_16 : decode cX11_takes 16 = .ok (.ifCond .eq 10, 3) := by decide +kernel
theorem dX11_takes_19 : decode cX11_takes 19 = .ok (.aload_n 1, 1) := by decide +kernel
theorem dX11_takes_20 : decode cX11_takes 20 = .ok (.invokevirtual 286, 3) := by decide +kernel
theorem dX11_takes_23 : decode cX11_takes 23 = .ok (.goto 4, 3) := by decide +kernel
theorem dX11_takes_26 : decode cX11_takes 26 = .ok (.iconst 0, 1) := by decide +kernel
theorem dX11_takes_27 : decode cX11_takes 27 = .ok (.iadd, 1) := by decide +kernel
theorem dX11_takes_28 : decode cX11_takes 28 = .ok (.putfield 276, 3) := by decide +kernel
theorem dX11_takes_31 : decode cX11_takes 31 = .ok (.iload_n 2, 1) := by decide +kernel
theorem dX11_takes_32 : decode cX11_takes 32 = .ok (.ireturn, 1) := by decide +kernel
theorem dX11_entry_0 : decode cX11_entry 0 = .ok (.aload_n 0, 1) := by decide +kernel
theorem dX11_entry_1 : decode cX11_entry 1 = .ok (.getfield 273, 3) := by decide +kernel
theorem dX11_entry_4 : decode cX11_entry 4 = .ok (.ifCond .ne 51, 3) := by decide +kernel
theorem dX11_entry_7 : decode cX11_entry 7 = .ok (.aload_n 0, 1) := by decide +kernel
theorem dX11_entry_8 : decode cX11_entry 8 = .ok (.getfield 63, 3) := by decide +kernel
theorem dX11_entry_11 : decode cX11_entry 11 = .ok (.sipush 300, 3) := by decide +kernel
theorem dX11_entry_14 : decode cX11_entry 14 = .ok (.aload_n 0, 1) := by decide +kernel
theorem dX11_entry_15 : decode cX11_entry 15 = .ok (.getfield 301, 3) := by decide +kernel
theorem dX11_entry_18 : decode cX11_entry 18 = .ok (.imul, 1) := by decide +kernel
theorem dX11_entry_19 : decode cX11_entry 19 = .ok (.aload_n 0, 1) := by decide +kernel
theorem dX11_entry_20 : decode cX11_entry 20 = .ok (.getfield 304, 3) := by decide +kernel
theorem dX11_entry_23 : decode cX11_entry 23 = .ok (.iadd, 1) := by decide +kernel
theorem dX11_entry_24 : decode cX11_entry 24 = .ok (.iload_n 1, 1) := by decide +kernel
theorem dX11_entry_25 : decode cX11_entry 25 = .ok (.iastore, 1) := by decide +kernel
theorem dX11_entry_26 : decode cX11_entry 26 = .ok (.aload_n 0, 1) := by decide +kernel
theorem dX11_entry_27 : decode cX11_entry 27 = .ok (.getfield 66, 3) := by decide +kernel
theorem dX11_entry_30 : decode cX11_entry 30 = .ok (.sipush 300, 3) := by decide +kernel
theorem dX11_entry_33 : decode cX11_entry 33 = .ok (.aload_n 0, 1) := by decide +kernel
theorem dX11_entry_34 : decode cX11_entry 34 = .ok (.getfield 301, 3) := by decide +kernel
theorem dX11_entry_37 : decode cX11_entry 37 = .ok (.imul, 1) := by decide +kernel
theorem dX11_entry_38 : decode cX11_entry 38 = .ok (.aload_n 0, 1) := by decide +kernel
theorem dX11_entry_39 : decode cX11_entry 39 = .ok (.getfield 304, 3) := by decide +kernel
theorem dX11_entry_42 : decode cX11_entry 42 = .ok (.iadd, 1) := by decide +kernel
theorem dX11_entry_43 : decode cX11_entry 43 = .ok (.iload_n 2, 1) := by decide +kernel
theorem dX11_entry_44 : decode cX11_entry 44 = .ok (.iastore, 1) := by decide +kernel
theorem dX11_entry_45 : decode cX11_entry 45 = .ok (.aload_n 0, 1) := by decide +kernel
theorem dX11_entry_46 : decode cX11_entry 46 = .ok (.dup, 1) := by decide +kernel
theorem dX11_entry_47 : decode cX11_entry 47 = .ok (.getfield 304, 3) := by decide +kernel
theorem dX11_entry_50 : decode cX11_entry 50 = .ok (.iconst 1, 1) := by decide +kernel
theorem dX11_entry_51 : decode cX11_entry 51 = .ok (.iadd, 1) := by decide +kernel
theorem dX11_entry_52 : decode cX11_entry 52 = .ok (.putfield 304, 3) := by decide +kernel
theorem dX11_entry_55 : decode cX11_entry 55 = .ok (.return_, 1) := by decide +kernel
theorem dX11_isCounted_0 : decode cX11_isCounted 0 = .ok (.aload_n 0, 1) := by decide +kernel
theorem dX11_isCounted_1 : decode cX11_isCounted 1 = .ok (.getfield 307, 3) := by decide +kernel
theorem dX11_isCounted_4 : decode cX11_isCounted 4 = .ok (.bipush 60, 2) := by decide +kernel
theorem dX11_isCounted_6 : decode cX11_isCounted 6 = .ok (.if_icmp .ne 9, 3) := by decide +kernel
theorem dX11_isCounted_9 : decode cX11_isCounted 9 = .ok (.aload_n 0, 1) := by decide +kernel
theorem dX11_isCounted_10 : decode cX11_isCounted 10 = .ok (.iconst 3, 1) := by decide +kernel
theorem dX11_isCounted_11 : decode cX11_isCounted 11 = .ok (.iload_n 1, 1) := by decide +kernel
theorem dX11_isCounted_12 : decode cX11_isCounted 12 = .ok (.invokevirtual 310, 3) := by decide +kernel
theorem dX11_isCounted_15 : decode cX11_isCounted 15 = .ok (.aload_n 0, 1) := by decide +kernel
theorem dX11_isCounted_16 : decode cX11_isCounted 16 = .ok (.dup, 1) := by decide +kernel
theorem dX11_isCounted_17 : decode cX11_isCounted 17 = .ok (.getfield 307, 3) := by decide +kernel
theorem dX11_isCounted_20 : decode cX11_isCounted 20 = .ok (.iconst 1, 1) := by decide +kernel
theorem dX11_isCounted_21 : decode cX11_isCounted 21 = .ok (.iadd, 1) := by decide +kernel
theorem dX11_isCounted_22 : decode cX11_isCounted 22 = .ok (.putfield 307, 3) := by decide +kernel
theorem dX11_isCounted_25 : decode cX11_isCounted 25 = .ok (.return_, 1) := by decide +kernel
theorem dX11_digits_0 : decode cX11_digits 0 = .ok (.aload_n 0, 1) := by decide +kernel
theorem dX11_digits_1 : decode cX11_digits 1 = .ok (.invokevirtual 314, 3) := by decide +kernel
theorem dX11_digits_4 : decode cX11_digits 4 = .ok (.ifCond .ne 14, 3) := by decide +kernel
theorem dX11_digits_7 : decode cX11_digits 7 = .ok (.aload_n 0, 1) := by decide +kernel
theorem dX11_digits_8 : decode cX11_digits 8 = .ok (.iconst 0, 1) := by decide +kernel
theorem dX11_digits_9 : decode cX11_digits 9 = .ok (.aload_n 0, 1) := by decide +kernel
theorem dX11_digits_10 : decode cX11_digits 10 = .ok (.getfield 276, 3) := by decide +kernel
theorem dX11_digits_13 : decode cX11_digits 13 = .ok (.invokevirtual 310, 3) := by decide +kernel
theorem dX11_digits_16 : decode cX11_digits 16 = .ok (.iconst 0, 1) := by decide +kernel
theorem dX11_digits_17 : decode cX11_digits 17 = .ok (.ireturn, 1) := by decide +kernel
theorem dX11_digits_18 : decode cX11_digits 18 = .ok (.aload_n 0, 1) := by decide +kernel
theorem dX11_digits_19 : decode cX11_digits 19 = .ok (.getfield 276, 3) := by decide +kernel
theorem dX11_digits_22 : decode cX11_digits 22 = .ok (.istore_n 2, 1) := by decide +kernel
theorem dX11_digits_23 : decode cX11_digits 23 = .ok (.iconst 0, 1) := by decide +kernel
theorem dX11_digits_24 : decode cX11_digits 24 = .ok (.istore_n 3, 1) := by decide +kernel
theorem dX11_digits_25 : decode cX11_digits 25 = .ok (.aload_n 0, 1) := by decide +kernel
theorem dX11_digits_26 : decode cX11_digits 26 = .ok (.invokevirtual 314, 3) := by decide +kernel
theorem dX11_digits_29 : decode cX11_digits 29 = .ok (.ifCond .eq 43, 3) := by decide +kernel
theorem dX11_digits_32 : decode cX11_digits 32 = .ok (.aload_n 0, 1) := by decide +kernel
theorem dX11_digits_33 : decode cX11_digits 33 = .ok (.getfield 276, 3) := by decide +kernel
theorem dX11_digits_36 : decode cX11_digits 36 = .ok (.iload_n 2, 1) := by decide +kernel
theorem dX11_digits_37 : decode cX11_digits 37 = .ok (.isub, 1) := by decide +kernel
theorem dX11_digits_38 : decode cX11_digits 38 = .ok (.iconst 5, 1) := by decide +kernel
theorem dX11_digits_39 : decode cX11_digits 39 = .ok (.if_icmp .ge 18, 3) := by decide +kernel
theorem dX11_digits_42 : decode cX11_digits 42 = .ok (.bipush 10, 2) := by decide +kernel
theorem dX11_digits_44 : decode cX11_digits 44 = .ok (.iload_n 3, 1) := by decide +kernel
theorem dX11_digits_45 : decode cX11_digits 45 = .ok (.imul, 1) := by decide +kernel
theorem dX11_digits_46 : decode cX11_digits 46 = .ok (.aload_n 0, 1) := by decide +kernel
theorem dX11_digits_47 : decode cX11_digits 47 = .ok (.invokevirtual 279, 3) := by decide +kernel
theorem dX11_digits_50 : decode cX11_digits 50 = .ok (.iadd, 1) := by decide +kernel
theorem dX11_digits_51 : decode cX11_digits 51 = .ok (.bipush 48, 2) := by decide +kernel
theorem dX11_digits_53 : decode cX11_digits 53 = .ok (.isub, 1) := by decide +kernel
theorem dX11_digits_54 : decode cX11_digits 54 = .ok (.goto 4, 3) := by decide +kernel
theorem dX11_digits_57 : decode cX11_digits 57 = .ok (.iload_n 3, 1) := by decide +kernel
theorem dX11_digits_58 : decode cX11_digits 58 = .ok (.istore_n 3, 1) := by decide +kernel
theorem dX11_digits_59 : decode cX11_digits 59 = .ok (.aload_n 0, 1) := by decide +kernel
theorem dX11_digits_60 : decode cX11_digits 60 = .ok (.dup, 1) := by decide +kernel
theorem dX11_digits_61 : decode cX11_digits 61 = .ok (.getfield 276, 3) := by decide +kernel
theorem dX11_digits_64 : decode cX11_digits 64 = .ok (.iconst 1, 1) := by decide +kernel
theorem dX11_digits_65 : decode cX11_digits 65 = .ok (.iadd, 1) := by decide +kernel
theorem dX11_digits_66 : decode cX11_digits 66 = .ok (.putfield 276, 3) := by decide +kernel
theorem dX11_digits_69 : decode cX11_digits 69 = .ok (.goto (-44), 3) := by decide +kernel
theorem dX11_digits_72 : decode cX11_digits 72 = .ok (.aload_n 0, 1) := by decide +kernel
theorem dX11_digits_73 : decode cX11_digits 73 = .ok (.getfield 276, 3) := by decide +kernel
theorem dX11_digits_76 : decode cX11_digits 76 = .ok (.iload_n 2, 1) := by decide +kernel
theorem dX11_digits_77 : decode cX11_digits 77 = .ok (.isub, 1) := by decide +kernel
theorem dX11_digits_78 : decode cX11_digits 78 = .ok (.iconst 5, 1) := by decide +kernel
theorem dX11_digits_79 : decode cX11_digits 79 = .ok (.if_icmp .gt 8, 3) := by decide +kernel
theorem dX11_digits_82 : decode cX11_digits 82 = .ok (.iload_n 3, 1) := by decide +kernel
theorem dX11_digits_83 : decode cX11_digits 83 = .ok (.iload_n 1, 1) := by decide +kernel
theorem dX11_digits_84 : decode cX11_digits 84 = .ok (.if_icmp .le 9, 3) := by decide +kernel
theorem dX11_digits_87 : decode cX11_digits 87 = .ok (.aload_n 0, 1) := by decide +kernel
theorem dX11_digits_88 : decode cX11_digits 88 = .ok (.iconst 1, 1) := by decide +kernel
theorem dX11_digits_89 : decode cX11_digits 89 = .ok (.iload_n 2, 1) := by decide +kernel
theorem dX11_digits_90 : decode cX11_digits 90 = .ok (.invokevirtual 310, 3) := by decide +kernel
theorem dX11_digits_93 : decode cX11_digits 93 = .ok (.iload_n 3, 1) := by decide +kernel
theorem dX11_digits_94 : decode cX11_digits 94 = .ok (.ireturn, 1) := by decide +kernel
theorem dX11_value_0 : decode cX11_value 0 = .ok (.aload_n 0, 1) := by decide +kernel
theorem dX11_value_1 : decode cX11_value 1 = .ok (.invokevirtual 295, 3) := by decide +kernel
theorem dX11_value_4 : decode cX11_value 4 = .ok (.aload_n 0, 1) := by decide +kernel
theorem dX11_value_5 : decode cX11_value 5 = .ok (.getfield 276, 3) := by decide +kernel
theorem dX11_value_8 : decode cX11_value 8 = .ok (.istore_n 1, 1) := by decide +kernel
theorem dX11_value_9 : decode cX11_value 9 = .ok (.aload_n 0, 1) := by decide +kernel
theorem dX11_value_10 : decode cX11_value 10 = .ok (.invokevirtual 314, 3) := by decide +kernel
theorem dX11_value_13 : decode cX11_value 13 = .ok (.ifCond .eq 22, 3) := by decide +kernel
theorem dX11_value_16 : decode cX11_value 16 = .ok (.aload_n 0, 1) := by decide +kernel
theorem dX11_value_17 : decode cX11_value 17 = .ok (.ldc 231, 2) := by decide +kernel
theorem dX11_value_19 : decode cX11_value 19 = .ok (.invokevirtual 317, 3) := by decide +kernel
theorem dX11_value_22 : decode cX11_value 22 = .ok (.istore_n 2, 1) := by decide +kernel
theorem dX11_value_23 : decode cX11_value 23 = .ok (.aload_n 0, 1) := by decide +kernel
theorem dX11_value_24 : decode cX11_value 24 = .ok (.iload_n 1, 1) := by decide +kernel
theorem dX11_value_25 : decode cX11_value 25 = .ok (.invokevirtual 320, 3) := by decide +kernel
theorem dX11_value_28 : decode cX11_value 28 = .ok (.aload_n 0, 1) := by decide +kernel
theorem dX11_value_29 : decode cX11_value 29 = .ok (.iconst 0, 1) := by decide +kernel
theorem dX11_value_30 : decode cX11_value 30 = .ok (.iload_n 2, 1) := by decide +kernel
theorem dX11_value_31 : decode cX11_value 31 = .ok (.invokevirtual 323, 3) := by decide +kernel
theorem dX11_value_34 : decode cX11_value 34 = .ok (.return_, 1) := by decide +kernel
theorem dX11_value_35 : decode cX11_value 35 = .ok (.iconst 0, 1) := by decide +kernel
theorem dX11_value_36 : decode cX11_value 36 = .ok (.istore_n 2, 1) := by decide +kernel
theorem dX11_value_37 : decode cX11_value 37 = .ok (.iload_n 2, 1) := by decide +kernel
theorem dX11_value_38 : decode cX11_value 38 = .ok (.bipush 13, 2) := by decide +kernel
theorem dX11_value_40 : decode cX11_value 40 = .ok (.if_icmp .ge 20, 3) := by decide +kernel
theorem dX11_value_43 : decode cX11_value 43 = .ok (.aload_n 0, 1) := by decide +kernel
theorem dX11_value_44 : decode cX11_value 44 = .ok (.iload_n 2, 1) := by decide +kernel
theorem dX11_value_45 : decode cX11_value 45 = .ok (.invokestatic 326, 3) := by decide +kernel
theorem dX11_value_48 : decode cX11_value 48 = .ok (.invokevirtual 298, 3) := by decide +kernel
theorem dX11_value_51 : decode cX11_value 51 = .ok (.ifCond .ne 9, 3) := by decide +kernel
theorem dX11_value_54 : decode cX11_value 54 = .ok (.iinc 2 1, 3) := by decide +kernel
theorem dX11_value_57 : decode cX11_value 57 = .ok (.goto (-20), 3) := by decide +kernel
theorem dX11_value_60 : decode cX11_value 60 = .ok (.iload_n 2, 1) := by decide +kernel
theorem dX11_value_61 : decode cX11_value 61 = .ok (.bipush 13, 2) := by decide +kernel
theorem dX11_value_63 : decode cX11_value 63 = .ok (.if_icmp .ne 10, 3) := by decide +kernel
theorem dX11_value_66 : decode cX11_value 66 = .ok (.aload_n 0, 1) := by decide +kernel
theorem dX11_value_67 : decode cX11_value 67 = .ok (.iconst 0, 1) := by decide +kernel
theorem dX11_value_68 : decode cX11_value 68 = .ok (.iload_n 1, 1) := by decide +kernel
theorem dX11_value_69 : decode cX11_value 69 = .ok (.invokevirtual 310, 3) := by decide +kernel
theorem dX11_value_72 : decode cX11_value 72 = .ok (.return_, 1) := by decide +kernel
theorem dX11_value_73 : decode cX11_value 73 = .ok (.aload_n 0, 1) := by decide +kernel
theorem dX11_value_74 : decode cX11_value 74 = .ok (.iload_n 1, 1) := by decide +kernel
theorem dX11_value_75 : decode cX11_value 75 = .ok (.invokevirtual 320, 3) := by decide +kernel
theorem dX11_value_78 : decode cX11_value 78 = .ok (.aload_n 0, 1) := by decide +kernel
theorem dX11_value_79 : decode cX11_value 79 = .ok (.dup, 1) := by decide +kernel
theorem dX11_value_80 : decode cX11_value 80 = .ok (.getfield 276, 3) := by decide +kernel
theorem dX11_value_83 : decode cX11_value 83 = .ok (.iload_n 2, 1) := by decide +kernel
theorem dX11_value_84 : decode cX11_value 84 = .ok (.invokestatic 326, 3) := by decide +kernel
theorem dX11_value_87 : decode cX11_value 87 = .ok (.invokevirtual 286, 3) := by decide +kernel
theorem dX11_value_90 : decode cX11_value 90 = .ok (.iadd, 1) := by decide +kernel
theorem dX11_value_91 : decode cX11_value 91 = .ok (.putfield 276, 3) := by decide +kernel
theorem dX11_value_94 : decode cX11_value 94 = .ok (.aload_n 0, 1) := by decide +kernel
theorem dX11_value_95 : decode cX11_value 95 = .ok (.iconst 1, 1) := by decide +kernel
theorem dX11_value_96 : decode cX11_value 96 = .ok (.iload_n 2, 1) := by decide +kernel
theorem dX11_value_97 : decode cX11_value 97 = .ok (.invokevirtual 323, 3) := by decide +kernel
theorem dX11_value_100 : decode cX11_value 100 = .ok (.return_, 1) := by decide +kernel
theorem dX11_sum_0 : decode cX11_sum 0 = .ok (.aload_n 0, 1) := by decide +kernel
theorem dX11_sum_1 : decode cX11_sum 1 = .ok (.invokevirtual 330, 3) := by decide +kernel
theorem dX11_sum_4 : decode cX11_sum 4 = .ok (.aload_n 0, 1) := by decide +kernel
theorem dX11_sum_5 : decode cX11_sum 5 = .ok (.invokevirtual 295, 3) := by decide +kernel
theorem dX11_sum_8 : decode cX11_sum 8 = .ok (.aload_n 0, 1) := by decide +kernel
theorem dX11_sum_9 : decode cX11_sum 9 = .ok (.getfield 273, 3) := by decide +kernel
theorem dX11_sum_12 : decode cX11_sum 12 = .ok (.ifCond .ne 63, 3) := by decide +kernel
theorem dX11_sum_15 : decode cX11_sum 15 = .ok (.aload_n 0, 1) := by decide +kernel
theorem dX11_sum_16 : decode cX11_sum 16 = .ok (.invokevirtual 279, 3) := by decide +kernel
theorem dX11_sum_19 : decode cX11_sum 19 = .ok (.bipush 43, 2) := by decide +kernel
theorem dX11_sum_21 : decode cX11_sum 21 = .ok (.if_icmp .eq 12, 3) := by decide +kernel
theorem dX11_sum_24 : decode cX11_sum 24 = .ok (.aload_n 0, 1) := by decide +kernel
theorem dX11_sum_25 : decode cX11_sum 25 = .ok (.invokevirtual 279, 3) := by decide +kernel
theorem dX11_sum_28 : decode cX11_sum 28 = .ok (.bipush 45, 2) := by decide +kernel
theorem dX11_sum_30 : decode cX11_sum 30 = .ok (.if_icmp .ne 45, 3) := by decide +kernel
theorem dX11_sum_33 : decode cX11_sum 33 = .ok (.aload_n 0, 1) := by decide +kernel
theorem dX11_sum_34 : decode cX11_sum 34 = .ok (.invokevirtual 279, 3) := by decide +kernel
theorem dX11_sum_37 : decode cX11_sum 37 = .ok (.bipush 43, 2) := by decide +kernel
theorem dX11_sum_39 : decode cX11_sum 39 = .ok (.if_icmp .ne 7, 3) := by decide +kernel
theorem dX11_sum_42 : decode cX11_sum 42 = .ok (.iconst 2, 1) := by decide +kernel
theorem dX11_sum_43 : decode cX11_sum 43 = .ok (.goto 4, 3) := by decide +kernel
theorem dX11_sum_46 : decode cX11_sum 46 = .ok (.iconst 3, 1) := by decide +kernel
theorem dX11_sum_47 : decode cX11_sum 47 = .ok (.istore_n 1, 1) := by decide +kernel
theorem dX11_sum_48 : decode cX11_sum 48 = .ok (.aload_n 0, 1) := by decide +kernel
theorem dX11_sum_49 : decode cX11_sum 49 = .ok (.dup, 1) := by decide +kernel
theorem dX11_sum_50 : decode cX11_sum 50 = .ok (.getfield 276, 3) := by decide +kernel
theorem dX11_sum_53 : decode cX11_sum 53 = .ok (.iconst 1, 1) := by decide +kernel
theorem dX11_sum_54 : decode cX11_sum 54 = .ok (.iadd, 1) := by decide +kernel
theorem dX11_sum_55 : decode cX11_sum 55 = .ok (.putfield 276, 3) := by decide +kernel
theorem dX11_sum_58 : decode cX11_sum 58 = .ok (.aload_n 0, 1) := by decide +kernel
theorem dX11_sum_59 : decode cX11_sum 59 = .ok (.invokevirtual 330, 3) := by decide +kernel
theorem dX11_sum_62 : decode cX11_sum 62 = .ok (.aload_n 0, 1) := by decide +kernel
theorem dX11_sum_63 : decode cX11_sum 63 = .ok (.iload_n 1, 1) := by decide +kernel
theorem dX11_sum_64 : decode cX11_sum 64 = .ok (.iconst 0, 1) := by decide +kernel
theorem dX11_sum_65 : decode cX11_sum 65 = .ok (.invokevirtual 323, 3) := by decide +kernel
theorem dX11_sum_68 : decode cX11_sum 68 = .ok (.aload_n 0, 1) := by decide +kernel
theorem dX11_sum_69 : decode cX11_sum 69 = .ok (.invokevirtual 295, 3) := by decide +kernel
theorem dX11_sum_72 : decode cX11_sum 72 = .ok (.goto (-64), 3) := by decide +kernel
theorem dX11_sum_75 : decode cX11_sum 75 = .ok (.return_, 1) := by decide +kernel
theorem dX11_compared_0 : decode cX11_compared 0 = .ok (.aload_n 0, 1) := by decide +kernel
theorem dX11_compared_1 : decode cX11_compared 1 = .ok (.invokevirtual 333, 3) := by decide +kernel
theorem dX11_compared_4 : decode cX11_compared 4 = .ok (.aload_n 0, 1) := by decide +kernel
theorem dX11_compared_5 : decode cX11_compared 5 = .ok (.invokevirtual 279, 3) := by decide +kernel
theorem dX11_compared_8 : decode cX11_compared 8 = .ok (.istore_n 1, 1) := by decide +kernel
theorem dX11_compared_9 : decode cX11_compared 9 = .ok (.iload_n 1, 1) := by decide +kernel
theorem dX11_compared_10 : decode cX11_compared 10 = .ok (.bipush 60, 2) := by decide +kernel
theorem dX11_compared_12 : decode cX11_compared 12 = .ok (.if_icmp .eq 25, 3) := by decide +kernel
theorem dX11_compared_15 : decode cX11_compared 15 = .ok (.iload_n 1, 1) := by decide +kernel
theorem dX11_compared_16 : decode cX11_compared 16 = .ok (.bipush 61, 2) := by decide +kernel
theorem dX11_compared_18 : decode cX11_compared 18 = .ok (.if_icmp .eq 19, 3) := by decide +kernel
theorem dX11_compared_21 : decode cX11_compared 21 = .ok (.iload_n 1, 1) := by decide +kernel
theorem dX11_compared_22 : decode cX11_compared 22 = .ok (.bipush 62, 2) := by decide +kernel
theorem dX11_compared_24 : decode cX11_compared 24 = .ok (.if_icmp .eq 13, 3) := by decide +kernel
theorem dX11_compared_27 : decode cX11_compared 27 = .ok (.aload_n 0, 1) := by decide +kernel
theorem dX11_compared_28 : decode cX11_compared 28 = .ok (.iconst 0, 1) := by decide +kernel
theorem dX11_compared_29 : decode cX11_compared 29 = .ok (.aload_n 0, 1) := by decide +kernel
theorem dX11_compared_30 : decode cX11_compared 30 = .ok (.getfield 276, 3) := by decide +kernel
theorem dX11_compared_33 : decode cX11_compared 33 = .ok (.invokevirtual 310, 3) := by decide +kernel
theorem dX11_compared_36 : decode cX11_compared 36 = .ok (.return_, 1) := by decide +kernel
theorem dX11_compared_37 : decode cX11_compared 37 = .ok (.aload_n 0, 1) := by decide +kernel
theorem dX11_compared_38 : decode cX11_compared 38 = .ok (.aload_n 0, 1) := by decide +kernel
theorem dX11_compared_39 : decode cX11_compared 39 = .ok (.getfield 276, 3) := by decide +kernel
theorem dX11_compared_42 : decode cX11_compared 42 = .ok (.invokevirtual 320, 3) := by decide +kernel
theorem dX11_compared_45 : decode cX11_compared 45 = .ok (.aload_n 0, 1) := by decide +kernel
theorem dX11_compared_46 : decode cX11_compared 46 = .ok (.dup, 1) := by decide +kernel
theorem dX11_compared_47 : decode cX11_compared 47 = .ok (.getfield 276, 3) := by decide +kernel
theorem dX11_compared_50 : decode cX11_compared 50 = .ok (.iconst 1, 1) := by decide +kernel
theorem dX11_compared_51 : decode cX11_compared 51 = .ok (.iadd, 1) := by decide +kernel
theorem dX11_compared_52 : decode cX11_compared 52 = .ok (.putfield 276, 3) := by decide +kernel
theorem dX11_compared_55 : decode cX11_compared 55 = .ok (.iload_n 1, 1) := by decide +kernel
theorem dX11_compared_56 : decode cX11_compared 56 = .ok (.bipush 61, 2) := by decide +kernel
theorem dX11_compared_58 : decode cX11_compared 58 = .ok (.if_icmp .eq 16, 3) := by decide +kernel
theorem dX11_compared_61 : decode cX11_compared 61 = .ok (.aload_n 0, 1) := by decide +kernel
theorem dX11_compared_62 : decode cX11_compared 62 = .ok (.invokevirtual 279, 3) := by decide +kernel
theorem dX11_compared_65 : decode cX11_compared 65 = .ok (.bipush 61, 2) := by decide +kernel
theorem dX11_compared_67 : decode cX11_compared 67 = .ok (.if_icmp .ne 7, 3) := by decide +kernel
theorem dX11_compared_70 : decode cX11_compared 70 = .ok (.iconst 1, 1) := by decide +kernel
theorem dX11_compared_71 : decode cX11_compared 71 = .ok (.goto 4, 3) := by decide +kernel
theorem dX11_compared_74 : decode cX11_compared 74 = .ok (.iconst 0, 1) := by decide +kernel
theorem dX11_compared_75 : decode cX11_compared 75 = .ok (.istore_n 2, 1) := by decide +kernel
theorem dX11_compared_76 : decode cX11_compared 76 = .ok (.aload_n 0, 1) := by decide +kernel
theorem dX11_compared_77 : decode cX11_compared 77 = .ok (.dup, 1) := by decide +kernel
theorem dX11_compared_78 : decode cX11_compared 78 = .ok (.getfield 276, 3) := by decide +kernel
theorem dX11_compared_81 : decode cX11_compared 81 = .ok (.iload_n 2, 1) := by decide +kernel
theorem dX11_compared_82 : decode cX11_compared 82 = .ok (.ifCond .eq 7, 3) := by decide +kernel
theorem dX11_compared_85 : decode cX11_compared 85 = .ok (.iconst 1, 1) := by decide +kernel
theorem dX11_compared_86 : decode cX11_compared 86 = .ok (.goto 4, 3) := by decide +kernel
theorem dX11_compared_89 : decode cX11_compared 89 = .ok (.iconst 0, 1) := by decide +kernel
theorem dX11_compared_90 : decode cX11_compared 90 = .ok (.iadd, 1) := by decide +kernel
theorem dX11_compared_91 : decode cX11_compared 91 = .ok (.putfield 276, 3) := by decide +kernel
theorem dX11_compared_94 : decode cX11_compared 94 = .ok (.aload_n 0, 1) := by decide +kernel
theorem dX11_compared_95 : decode cX11_compared 95 = .ok (.invokevirtual 333, 3) := by decide +kernel
theorem dX11_compared_98 : decode cX11_compared 98 = .ok (.aload_n 0, 1) := by decide +kernel
theorem dX11_compared_99 : decode cX11_compared 99 = .ok (.iload_n 1, 1) := by decide +kernel
theorem dX11_compared_100 : decode cX11_compared 100 = .ok (.bipush 61, 2) := by decide +kernel
theorem dX11_compared_102 : decode cX11_compared 102 = .ok (.if_icmp .ne 8, 3) := by decide +kernel
theorem dX11_compared_105 : decode cX11_compared 105 = .ok (.bipush 6, 2) := by decide +kernel
theorem dX11_compared_107 : decode cX11_compared 107 = .ok (.goto 32, 3) := by decide +kernel
theorem dX11_compared_110 : decode cX11_compared 110 = .ok (.iload_n 1, 1) := by decide +kernel
theorem dX11_compared_111 : decode cX11_compared 111 = .ok (.bipush 60, 2) := by decide +kernel
theorem dX11_compared_113 : decode cX11_compared 113 = .ok (.if_icmp .ne 15, 3) := by decide +kernel
theorem dX11_compared_116 : decode cX11_compared 116 = .ok (.iload_n 2, 1) := by decide +kernel
theorem dX11_compared_117 : decode cX11_compared 117 = .ok (.ifCond .eq 7, 3) := by decide +kernel
theorem dX11_compared_120 : decode cX11_compared 120 = .ok (.iconst 5, 1) := by decide +kernel
theorem dX11_compared_121 : decode cX11_compared 121 = .ok (.goto 18, 3) := by decide +kernel
theorem dX11_compared_124 : decode cX11_compared 124 = .ok (.iconst 4, 1) := by decide +kernel
theorem dX11_compared_125 : decode cX11_compared 125 = .ok (.goto 14, 3) := by decide +kernel
theorem dX11_compared_128 : decode cX11_compared 128 = .ok (.iload_n 2, 1) := by decide +kernel
theorem dX11_compared_129 : decode cX11_compared 129 = .ok (.ifCond .eq 8, 3) := by decide +kernel
theorem dX11_compared_132 : decode cX11_compared 132 = .ok (.bipush 7, 2) := by decide +kernel
theorem dX11_compared_134 : decode cX11_compared 134 = .ok (.goto 5, 3) := by decide +kernel
theorem dX11_compared_137 : decode cX11_compared 137 = .ok (.bipush 8, 2) := by decide +kernel
theorem dX11_compared_139 : decode cX11_compared 139 = .ok (.iconst 0, 1) := by decide +kernel
theorem dX11_compared_140 : decode cX11_compared 140 = .ok (.invokevirtual 323, 3) := by decide +kernel
theorem dX11_compared_143 : decode cX11_compared 143 = .ok (.return_, 1) := by decide +kernel
theorem dX11_top_0 : decode cX11_top 0 = .ok (.aload_n 0, 1) := by decide +kernel
theorem dX11_top_1 : decode cX11_top 1 = .ok (.getfield 336, 3) := by decide +kernel
theorem dX11_top_4 : decode cX11_top 4 = .ok (.ifCond .ne 7, 3) := by decide +kernel
theorem dX11_top_7 : decode cX11_top 7 = .ok (.iconst (-1), 1) := by decide +kernel
theorem dX11_top_8 : decode cX11_top 8 = .ok (.goto 14, 3) := by decide +kernel
theorem dX11_top_11 : decode cX11_top 11 = .ok (.aload_n 0, 1) := by decide +kernel
theorem dX11_top_12 : decode cX11_top 12 = .ok (.getfield 87, 3) := by decide +kernel
theorem dX11_top_15 : decode cX11_top 15 = .ok (.aload_n 0, 1) := by decide +kernel
theorem dX11_top_16 : decode cX11_top 16 = .ok (.getfield 336, 3) := by decide +kernel
theorem dX11_top_19 : decode cX11_top 19 = .ok (.iconst 1, 1) := by decide +kernel
theorem dX11_top_20 : decode cX11_top 20 = .ok (.isub, 1) := by decide +kernel
theorem dX11_top_21 : decode cX11_top 21 = .ok (.iaload, 1) := by decide +kernel
theorem dX11_top_22 : decode cX11_top 22 = .ok (.ireturn, 1) := by decide +kernel
theorem dX11_opens_0 : decode cX11_opens 0 = .ok (.iload_n 1, 1) := by decide +kernel
theorem dX11_opens_1 : decode cX11_opens 1 = .ok (.bipush 9, 2) := by decide +kernel
theorem dX11_opens_3 : decode cX11_opens 3 = .ok (.if_icmp .eq 9, 3) := by decide +kernel
theorem dX11_opens_6 : decode cX11_opens 6 = .ok (.iload_n 1, 1) := by decide +kernel
theorem dX11_opens_7 : decode cX11_opens 7 = .ok (.bipush 12, 2) := by decide +kernel
theorem dX11_opens_9 : decode cX11_opens 9 = .ok (.if_icmp .ne 31, 3) := by decide +kernel
theorem dX11_opens_12 : decode cX11_opens 12 = .ok (.aload_n 0, 1) := by decide +kernel
theorem dX11_opens_13 : decode cX11_opens 13 = .ok (.getfield 339, 3) := by decide +kernel
theorem dX11_opens_16 : decode cX11_opens 16 = .ok (.bipush 10, 2) := by decide +kernel
theorem dX11_opens_18 : decode cX11_opens 18 = .ok (.if_icmp .ne 12, 3) := by decide +kernel
theorem dX11_opens_21 : decode cX11_opens 21 = .ok (.aload_n 0, 1) := by decide +kernel
theorem dX11_opens_22 : decode cX11_opens 22 = .ok (.iconst 2, 1) := by decide +kernel
theorem dX11_opens_23 : decode cX11_opens 23 = .ok (.aload_n 0, 1) := by decide +kernel
theorem dX11_opens_24 : decode cX11_opens 24 = .ok (.getfield 276, 3) := by decide +kernel
theorem dX11_opens_27 : decode cX11_opens 27 = .ok (.invokevirtual 310, 3) := by decide +kernel
theorem dX11_opens_30 : decode cX11_opens 30 = .ok (.aload_n 0, 1) := by decide +kernel
theorem dX11_opens_31 : decode cX11_opens 31 = .ok (.dup, 1) := by decide +kernel
theorem dX11_opens_32 : decode cX11_opens 32 = .ok (.getfield 339, 3) := by decide +kernel
theorem dX11_opens_35 : decode cX11_opens 35 = .ok (.iconst 1, 1) := by decide +kernel
theorem dX11_opens_36 : decode cX11_opens 36 = .ok (.iadd, 1) := by decide +kernel
theorem dX11_opens_37 : decode cX11_opens 37 = .ok (.putfield 339, 3) := by decide +kernel
theorem dX11_opens_40 : decode cX11_opens 40 = .ok (.aload_n 0, 1) := by decide +kernel
theorem dX11_opens_41 : decode cX11_opens 41 = .ok (.getfield 87, 3) := by decide +kernel
theorem dX11_opens_44 : decode cX11_opens 44 = .ok (.aload_n 0, 1) := by decide +kernel
theorem dX11_opens_45 : decode cX11_opens 45 = .ok (.getfield 336, 3) := by decide +kernel
theorem dX11_opens_48 : decode cX11_opens 48 = .ok (.iload_n 1, 1) := by decide +kernel
theorem dX11_opens_49 : decode cX11_opens 49 = .ok (.iastore, 1) := by decide +kernel
theorem dX11_opens_50 : decode cX11_opens 50 = .ok (.aload_n 0, 1) := by decide +kernel
theorem dX11_opens_51 : decode cX11_opens 51 = .ok (.dup, 1) := by decide +kernel
theorem dX11_opens_52 : decode cX11_opens 52 = .ok (.getfield 336, 3) := by decide +kernel
theorem dX11_opens_55 : decode cX11_opens 55 = .ok (.iconst 1, 1) := by decide +kernel
theorem dX11_opens_56 : decode cX11_opens 56 = .ok (.iadd, 1) := by decide +kernel
theorem dX11_opens_57 : decode cX11_opens 57 = .ok (.putfield 336, 3) := by decide +kernel
theorem dX11_opens_60 : decode cX11_opens 60 = .ok (.return_, 1) := by decide +kernel
theorem dX11_answers_0 : decode cX11_answers 0 = .ok (.aload_n 0, 1) := by decide +kernel
theorem dX11_answers_1 : decode cX11_answers 1 = .ok (.invokevirtual 342, 3) := by decide +kernel
theorem dX11_answers_4 : decode cX11_answers 4 = .ok (.iload_n 1, 1) := by decide +kernel
theorem dX11_answers_5 : decode cX11_answers 5 = .ok (.if_icmp .ne 49, 3) := by decide +kernel
theorem dX11_answers_8 : decode cX11_answers 8 = .ok (.aload_n 0, 1) := by decide +kernel
theorem dX11_answers_9 : decode cX11_answers 9 = .ok (.getfield 273, 3) := by decide +kernel
theorem dX11_answers_12 : decode cX11_answers 12 = .ok (.ifCond .ne 42, 3) := by decide +kernel
theorem dX11_answers_15 : decode cX11_answers 15 = .ok (.aload_n 0, 1) := by decide +kernel
theorem dX11_answers_16 : decode cX11_answers 16 = .ok (.iload_n 1, 1) := by decide +kernel
theorem dX11_answers_17 : decode cX11_answers 17 = .ok (.iconst 0, 1) := by decide +kernel
theorem dX11_answers_18 : decode cX11_answers 18 = .ok (.invokevirtual 323, 3) := by decide +kernel
theorem dX11_answers_21 : decode cX11_answers 21 = .ok (.aload_n 0, 1) := by decide +kernel
theorem dX11_answers_22 : decode cX11_answers 22 = .ok (.dup, 1) := by decide +kernel
theorem dX11_answers_23 : decode cX11_answers 23 = .ok (.getfield 336, 3) := by decide +kernel
theorem dX11_answers_26 : decode cX11_answers 26 = .ok (.iconst 1, 1) := by decide +kernel
theorem dX11_answers_27 : decode cX11_answers 27 = .ok (.isub, 1) := by decide +kernel
theorem dX11_answers_28 : decode cX11_answers 28 = .ok (.putfield 336, 3) := by decide +kernel
theorem dX11_answers_31 : decode cX11_answers 31 = .ok (.aload_n 0, 1) := by decide +kernel
theorem dX11_answers_32 : decode cX11_answers 32 = .ok (.dup, 1) := by decide +kernel
theorem dX11_answers_33 : decode cX11_answers 33 = .ok (.getfield 339, 3) := by decide +kernel
theorem dX11_answers_36 : decode cX11_answers 36 = .ok (.iload_n 1, 1) := by decide +kernel
theorem dX11_answers_37 : decode cX11_answers 37 = .ok (.bipush 9, 2) := by decide +kernel
theorem dX11_answers_39 : decode cX11_answers 39 = .ok (.if_icmp .ne 7, 3) := by decide +kernel
theorem dX11_answers_42 : decode cX11_answers 42 = .ok (.iconst 1, 1) := by decide +kernel
theorem dX11_answers_43 : decode cX11_answers 43 = .ok (.goto 4, 3) := by decide +kernel
theorem dX11_answers_46 : decode cX11_answers 46 = .ok (.iconst 0, 1) := by decide +kernel
theorem dX11_answers_47 : decode cX11_answers 47 = .ok (.isub, 1) := by decide +kernel
theorem dX11_answers_48 : decode cX11_answers 48 = .ok (.putfield 339, 3) := by decide +kernel
theorem dX11_answers_51 : decode cX11_answers 51 = .ok (.goto (-51), 3) := by decide +kernel
theorem dX11_answers_54 : decode cX11_answers 54 = .ok (.return_, 1) := by decide +kernel
theorem dX11_fact_0 : decode cX11_fact 0 = .ok (.aload_n 0, 1) := by decide +kernel
theorem dX11_fact_1 : decode cX11_fact 1 = .ok (.invokevirtual 295, 3) := by decide +kernel
theorem dX11_fact_4 : decode cX11_fact 4 = .ok (.aload_n 0, 1) := by decide +kernel
theorem dX11_fact_5 : decode cX11_fact 5 = .ok (.ldc_w 345, 3) := by decide +kernel
theorem dX11_fact_8 : decode cX11_fact 8 = .ok (.invokevirtual 298, 3) := by decide +kernel
theorem dX11_fact_11 : decode cX11_fact 11 = .ok (.ifCond .eq 21, 3) := by decide +kernel
theorem dX11_fact_14 : decode cX11_fact 14 = .ok (.aload_n 0, 1) := by decide +kernel
theorem dX11_fact_15 : decode cX11_fact 15 = .ok (.bipush 9, 2) := by decide +kernel
theorem dX11_fact_17 : decode cX11_fact 17 = .ok (.invokevirtual 347, 3) := by decide +kernel
theorem dX11_fact_20 : decode cX11_fact 20 = .ok (.aload_n 0, 1) := by decide +kernel
theorem dX11_fact_21 : decode cX11_fact 21 = .ok (.dup, 1) := by decide +kernel
theorem dX11_fact_22 : decode cX11_fact 22 = .ok (.getfield 276, 3) := by decide +kernel
theorem dX11_fact_25 : decode cX11_fact 25 = .ok (.iconst 3, 1) := by decide +kernel
theorem dX11_fact_26 : decode cX11_fact 26 = .ok (.iadd, 1) := by decide +kernel
theorem dX11_fact_27 : decode cX11_fact 27 = .ok (.putfield 276, 3) := by decide +kernel
theorem dX11_fact_30 : decode cX11_fact 30 = .ok (.iconst 0, 1) := by decide +kernel
theorem dX11_fact_31 : decode cX11_fact 31 = .ok (.ireturn, 1) := by decide +kernel
theorem dX11_fact_32 : decode cX11_fact 32 = .ok (.aload_n 0, 1) := by decide +kernel
theorem dX11_fact_33 : decode cX11_fact 33 = .ok (.invokevirtual 279, 3) := by decide +kernel
theorem dX11_fact_36 : decode cX11_fact 36 = .ok (.bipush 91, 2) := by decide +kernel
theorem dX11_fact_38 : decode cX11_fact 38 = .ok (.if_icmp .ne 21, 3) := by decide +kernel
theorem dX11_fact_41 : decode cX11_fact 41 = .ok (.aload_n 0, 1) := by decide +kernel
theorem dX11_fact_42 : decode cX11_fact 42 = .ok (.bipush 12, 2) := by decide +kernel
theorem dX11_fact_44 : decode cX11_fact 44 = .ok (.invokevirtual 347, 3) := by decide +kernel
theorem dX11_fact_47 : decode cX11_fact 47 = .ok (.aload_n 0, 1) := by decide +kernel
theorem dX11_fact_48 : decode cX11_fact 48 = .ok (.dup, 1) := by decide +kernel
theorem dX11_fact_49 : decode cX11_fact 49 = .ok (.getfield 276, 3) := by decide +kernel
theorem dX11_fact_52 : decode cX11_fact 52 = .ok (.iconst 1, 1) := by decide +kernel
theorem dX11_fact_53 : decode cX11_fact 53 = .ok (.iadd, 1) := by decide +kernel
theorem dX11_fact_54 : decode cX11_fact 54 = .ok (.putfield 276, 3) := by decide +kernel
theorem dX11_fact_57 : decode cX11_fact 57 = .ok (.iconst 0, 1) := by decide +kernel
theorem dX11_fact_58 : decode cX11_fact 58 = .ok (.ireturn, 1) := by decide +kernel
theorem dX11_fact_59 : decode cX11_fact 59 = .ok (.aload_n 0, 1) := by decide +kernel
theorem dX11_fact_60 : decode cX11_fact 60 = .ok (.invokevirtual 350, 3) := by decide +kernel
theorem dX11_fact_63 : decode cX11_fact 63 = .ok (.iconst 1, 1) := by decide +kernel
theorem dX11_fact_64 : decode cX11_fact 64 = .ok (.ireturn, 1) := by decide +kernel
theorem dX11_test_0 : decode cX11_test 0 = .ok (.aload_n 0, 1) := by decide +kernel
theorem dX11_test_1 : decode cX11_test 1 = .ok (.iconst 0, 1) := by decide +kernel
theorem dX11_test_2 : decode cX11_test 2 = .ok (.putfield 336, 3) := by decide +kernel
theorem dX11_test_5 : decode cX11_test 5 = .ok (.iconst 1, 1) := by decide +kernel
theorem dX11_test_6 : decode cX11_test 6 = .ok (.istore_n 1, 1) := by decide +kernel
theorem dX11_test_7 : decode cX11_test 7 = .ok (.iconst 1, 1) := by decide +kernel
theorem dX11_test_8 : decode cX11_test 8 = .ok (.istore_n 2, 1) := by decide +kernel
theorem dX11_test_9 : decode cX11_test 9 = .ok (.iload_n 2, 1) := by decide +kernel
theorem dX11_test_10 : decode cX11_test 10 = .ok (.ifCond .eq 192, 3) := by decide +kernel
theorem dX11_test_13 : decode cX11_test 13 = .ok (.aload_n 0, 1) := by decide +kernel
theorem dX11_test_14 : decode cX11_test 14 = .ok (.getfield 273, 3) := by decide +kernel
theorem dX11_test_17 : decode cX11_test 17 = .ok (.ifCond .ne 185, 3) := by decide +kernel
theorem dX11_test_20 : decode cX11_test 20 = .ok (.iload_n 1, 1) := by decide +kernel
theorem dX11_test_21 : decode cX11_test 21 = .ok (.ifCond .eq 19, 3) := by decide +kernel
theorem dX11_test_24 : decode cX11_test 24 = .ok (.aload_n 0, 1) := by decide +kernel
theorem dX11_test_25 : decode cX11_test 25 = .ok (.invokevirtual 353, 3) := by decide +kernel
theorem dX11_test_28 : decode cX11_test 28 = .ok (.ifCond .ne 7, 3) := by decide +kernel
theorem dX11_test_31 : decode cX11_test 31 = .ok (.iconst 1, 1) := by decide +kernel
theorem dX11_test_32 : decode cX11_test 32 = .ok (.goto 4, 3) := by decide +kernel
theorem dX11_test_35 : decode cX11_test 35 = .ok (.iconst 0, 1) := by decide +kernel
theorem dX11_test_36 : decode cX11_test 36 = .ok (.istore_n 1, 1) := by decide +kernel
theorem dX11_test_37 : decode cX11_test 37 = .ok (.goto (-28), 3) := by decide +kernel
theorem dX11_test_40 : decode cX11_test 40 = .ok (.aload_n 0, 1) := by decide +kernel
theorem dX11_test_41 : decode cX11_test 41 = .ok (.bipush 9, 2) := by decide +kernel
theorem dX11_test_43 : decode cX11_test 43 = .ok (.invokevirtual 356, 3) := by decide +kernel
theorem dX11_test_46 : decode cX11_test 46 = .ok (.aload_n 0, 1) := by decide +kernel
theorem dX11_test_47 : decode cX11_test 47 = .ok (.invokevirtual 295, 3) := by decide +kernel
theorem dX11_test_50 : decode cX11_test 50 = .ok (.aload_n 0, 1) := by decide +kernel
theorem dX11_test_51 : decode cX11_test 51 = .ok (.ldc_w 359, 3) := by decide +kernel
theorem dX11_test_54 : decode cX11_test 54 = .ok (.invokevirtual 298, 3) := by decide +kernel
theorem dX11_test_57 : decode cX11_test 57 = .ok (.istore_n 3, 1) := by decide +kernel
theorem dX11_test_58 : decode cX11_test 58 = .ok (.aload_n 0, 1) := by decide +kernel
theorem dX11_test_59 : decode cX11_test 59 = .ok (.ldc_w 361, 3) := by decide +kernel
theorem dX11_test_62 : decode cX11_test 62 = .ok (.invokevirtual 298, 3) := by decide +kernel
theorem dX11_test_65 : decode cX11_test 65 = .ok (.istore 4, 2) := by decide +kernel
theorem dX11_test_67 : decode cX11_test 67 = .ok (.aload_n 0, 1) := by decide +kernel
theorem dX11_test_68 : decode cX11_test 68 = .ok (.bipush 10, 2) := by decide +kernel
theorem dX11_test_70 : decode cX11_test 70 = .ok (.invokevirtual 356, 3) := by decide +kernel
theorem dX11_test_73 : decode cX11_test 73 = .ok (.iload_n 3, 1) := by decide +kernel
theorem dX11_test_74 : decode cX11_test 74 = .ok (.ifCond .ne 8, 3) := by decide +kernel
theorem dX11_test_77 : decode cX11_test 77 = .ok (.iload 4, 2) := by decide +kernel
theorem dX11_test_79 : decode cX11_test 79 = .ok (.ifCond .eq 52, 3) := by decide +kernel
theorem dX11_test_82 : decode cX11_test 82 = .ok (.iload 4, 2) := by decide +kernel
theorem dX11_test_84 : decode cX11_test 84 = .ok (.ifCond .eq 9, 3) := by decide +kernel
theorem dX11_test_87 : decode cX11_test 87 = .ok (.aload_n 0, 1) := by decide +kernel
theorem dX11_test_88 : decode cX11_test 88 = .ok (.bipush 11, 2) := by decide +kernel
theorem dX11_test_90 : decode cX11_test 90 = .ok (.invokevirtual 356, 3) := by decide +kernel
theorem dX11_test_93 : decode cX11_test 93 = .ok (.aload_n 0, 1) := by decide +kernel
theorem dX11_test_94 : decode cX11_test 94 = .ok (.iload_n 3, 1) := by decide +kernel
theorem dX11_test_95 : decode cX11_test 95 = .ok (.ifCond .eq 8, 3) := by decide +kernel
theorem dX11_test_98 : decode cX11_test 98 = .ok (.bipush 10, 2) := by decide +kernel
theorem dX11_test_100 : decode cX11_test 100 = .ok (.goto 5, 3) := by decide +kernel
theorem dX11_test_103 : decode cX11_test 103 = .ok (.bipush 11, 2) := by decide +kernel
theorem dX11_test_105 : decode cX11_test 105 = .ok (.invokevirtual 347, 3) := by decide +kernel
theorem dX11_test_108 : decode cX11_test 108 = .ok (.aload_n 0, 1) := by decide +kernel
theorem dX11_test_109 : decode cX11_test 109 = .ok (.dup, 1) := by decide +kernel
theorem dX11_test_110 : decode cX11_test 110 = .ok (.getfield 276, 3) := by decide +kernel
theorem dX11_test_113 : decode cX11_test 113 = .ok (.iload_n 3, 1) := by decide +kernel
theorem dX11_test_114 : decode cX11_test 114 = .ok (.ifCond .eq 7, 3) := by decide +kernel
theorem dX11_test_117 : decode cX11_test 117 = .ok (.iconst 3, 1) := by decide +kernel
theorem dX11_test_118 : decode cX11_test 118 = .ok (.goto 4, 3) := by decide +kernel
theorem dX11_test_121 : decode cX11_test 121 = .ok (.iconst 2, 1) := by decide +kernel
theorem dX11_test_122 : decode cX11_test 122 = .ok (.iadd, 1) := by decide +kernel
theorem dX11_test_123 : decode cX11_test 123 = .ok (.putfield 276, 3) := by decide +kernel
theorem dX11_test_126 : decode cX11_test 126 = .ok (.iconst 1, 1) := by decide +kernel
theorem dX11_test_127 : decode cX11_test 127 = .ok (.istore_n 1, 1) := by decide +kernel
theorem dX11_test_128 : decode cX11_test 128 = .ok (.goto 71, 3) := by decide +kernel
theorem dX11_test_131 : decode cX11_test 131 = .ok (.aload_n 0, 1) := by decide +kernel
theorem dX11_test_132 : decode cX11_test 132 = .ok (.bipush 11, 2) := by decide +kernel
theorem dX11_test_134 : decode cX11_test 134 = .ok (.invokevirtual 356, 3) := by decide +kernel
theorem dX11_test_137 : decode cX11_test 137 = .ok (.aload_n 0, 1) := by decide +kernel
theorem dX11_test_138 : decode cX11_test 138 = .ok (.invokevirtual 342, 3) := by decide +kernel
theorem dX11_test_141 : decode cX11_test 141 = .ok (.bipush 12, 2) := by decide +kernel
theorem dX11_test_143 : decode cX11_test 143 = .ok (.if_icmp .ne 54, 3) := by decide +kernel
theorem dX11_test_146 : decode cX11_test 146 = .ok (.aload_n 0, 1) := by decide +kernel
theorem dX11_test_147 : decode cX11_test 147 = .ok (.invokevirtual 279, 3) := by decide +kernel
theorem dX11_test_150 : decode cX11_test 150 = .ok (.bipush 93, 2) := by decide +kernel
theorem dX11_test_152 : decode cX11_test 152 = .ok (.if_icmp .eq 12, 3) := by decide +kernel
theorem dX11_test_155 : decode cX11_test 155 = .ok (.aload_n 0, 1) := by decide +kernel
theorem dX11_test_156 : decode cX11_test 156 = .ok (.iconst 0, 1) := by decide +kernel
theorem dX11_test_157 : decode cX11_test 157 = .ok (.aload_n 0, 1) := by decide +kernel
theorem dX11_test_158 : decode cX11_test 158 = .ok (.getfield 276, 3) := by decide +kernel
theorem dX11_test_161 : decode cX11_test 161 = .ok (.invokevirtual 310, 3) := by decide +kernel
theorem dX11_test_164 : decode cX11_test 164 = .ok (.aload_n 0, 1) := by decide +kernel
theorem dX11_test_165 : decode cX11_test 165 = .ok (.dup, 1) := by decide +kernel
theorem dX11_test_166 : decode cX11_test 166 = .ok (.getfield 276, 3) := by decide +kernel
theorem dX11_test_169 : decode cX11_test 169 = .ok (.iconst 1, 1) := by decide +kernel
theorem dX11_test_170 : decode cX11_test 170 = .ok (.iadd, 1) := by decide +kernel
theorem dX11_test_171 : decode cX11_test 171 = .ok (.putfield 276, 3) := by decide +kernel
theorem dX11_test_174 : decode cX11_test 174 = .ok (.aload_n 0, 1) := by decide +kernel
theorem dX11_test_175 : decode cX11_test 175 = .ok (.dup, 1) := by decide +kernel
theorem dX11_test_176 : decode cX11_test 176 = .ok (.getfield 336, 3) := by decide +kernel
theorem dX11_test_179 : decode cX11_test 179 = .ok (.iconst 1, 1) := by decide +kernel
theorem dX11_test_180 : decode cX11_test 180 = .ok (.isub, 1) := by decide +kernel
theorem dX11_test_181 : decode cX11_test 181 = .ok (.putfield 336, 3) := by decide +kernel
theorem dX11_test_184 : decode cX11_test 184 = .ok (.aload_n 0, 1) := by decide +kernel
theorem dX11_test_185 : decode cX11_test 185 = .ok (.dup, 1) := by decide +kernel
theorem dX11_test_186 : decode cX11_test 186 = .ok (.getfield 339, 3) := by decide +kernel
theorem dX11_test_189 : decode cX11_test 189 = .ok (.iconst 1, 1) := by decide +kernel
theorem dX11_test_190 : decode cX11_test 190 = .ok (.isub, 1) := by decide +kernel
theorem dX11_test_191 : decode cX11_test 191 = .ok (.putfield 339, 3) := by decide +kernel
theorem dX11_test_194 : decode cX11_test 194 = .ok (.goto 5, 3) := by decide +kernel
theorem dX11_test_197 : decode cX11_test 197 = .ok (.iconst 0, 1) := by decide +kernel
theorem dX11_test_198 : decode cX11_test 198 = .ok (.istore_n 2, 1) := by decide +kernel
theorem dX11_test_199 : decode cX11_test 199 = .ok (.goto (-190), 3) := by decide +kernel
theorem dX11_test_202 : decode cX11_test 202 = .ok (.return_, 1) := by decide +kernel
theorem dX11_amount_0 : decode cX11_amount 0 = .ok (.aload_n 0, 1) := by decide +kernel
theorem dX11_amount_1 : decode cX11_amount 1 = .ok (.invokevirtual 295, 3) := by decide +kernel
theorem dX11_amount_4 : decode cX11_amount 4 = .ok (.aload_n 0, 1) := by decide +kernel
theorem dX11_amount_5 : decode cX11_amount 5 = .ok (.getfield 276, 3) := by decide +kernel
theorem dX11_amount_8 : decode cX11_amount 8 = .ok (.istore_n 3, 1) := by decide +kernel
theorem dX11_amount_9 : decode cX11_amount 9 = .ok (.aload_n 0, 1) := by decide +kernel
theorem dX11_amount_10 : decode cX11_amount 10 = .ok (.iload_n 2, 1) := by decide +kernel
theorem dX11_amount_11 : decode cX11_amount 11 = .ok (.invokevirtual 317, 3) := by decide +kernel
theorem dX11_amount_14 : decode cX11_amount 14 = .ok (.istore 4, 2) := by decide +kernel
theorem dX11_amount_16 : decode cX11_amount 16 = .ok (.aload_n 0, 1) := by decide +kernel
theorem dX11_amount_17 : decode cX11_amount 17 = .ok (.getfield 273, 3) := by decide +kernel
theorem dX11_amount_20 : decode cX11_amount 20 = .ok (.ifCond .ne 15, 3) := by decide +kernel
theorem dX11_amount_23 : decode cX11_amount 23 = .ok (.iload 4, 2) := by decide +kernel
theorem dX11_amount_25 : decode cX11_amount 25 = .ok (.iload_n 1, 1) := by decide +kernel
theorem dX11_amount_26 : decode cX11_amount 26 = .ok (.if_icmp .ge 9, 3) := by decide +kernel
theorem dX11_amount_29 : decode cX11_amount 29 = .ok (.aload_n 0, 1) := by decide +kernel
theorem dX11_amount_30 : decode cX11_amount 30 = .ok (.iconst 1, 1) := by decide +kernel
theorem dX11_amount_31 : decode cX11_amount 31 = .ok (.iload_n 3, 1) := by decide +kernel
theorem dX11_amount_32 : decode cX11_amount 32 = .ok (.invokevirtual 310, 3) := by decide +kernel
theorem dX11_amount_35 : decode cX11_amount 35 = .ok (.iload 4, 2) := by decide +kernel
theorem dX11_amount_37 : decode cX11_amount 37 = .ok (.ireturn, 1) := by decide +kernel
theorem dX11_hasPrior_0 : decode cX11_hasPrior 0 = .ok (.iconst 0, 1) := by decide +kernel
theorem dX11_hasPrior_1 : decode cX11_hasPrior 1 = .ok (.istore_n 2, 1) := by decide +kernel
theorem dX11_hasPrior_2 : decode cX11_hasPrior 2 = .ok (.iconst 0, 1) := by decide +kernel
theorem dX11_hasPrior_3 : decode cX11_hasPrior 3 = .ok (.istore_n 3, 1) := by decide +kernel
theorem dX11_hasPrior_4 : decode cX11_hasPrior 4 = .ok (.iload_n 3, 1) := by decide +kernel
theorem dX11_hasPrior_5 : decode cX11_hasPrior 5 = .ok (.iload_n 1, 1) := by decide +kernel
theorem dX11_hasPrior_6 : decode cX11_hasPrior 6 = .ok (.if_icmp .ge 36, 3) := by decide +kernel
theorem dX11_hasPrior_9 : decode cX11_hasPrior 9 = .ok (.iload_n 2, 1) := by decide +kernel
theorem dX11_hasPrior_10 : decode cX11_hasPrior 10 = .ok (.ifCond .ne 20, 3) := by decide +kernel
theorem dX11_hasPrior_13 : decode cX11_hasPrior 13 = .ok (.aload_n 0, 1) := by decide +kernel
theorem dX11_hasPrior_14 : decode cX11_hasPrior 14 = .ok (.getfield 72, 3) := by decide +kernel
theorem dX11_hasPrior_17 : decode cX11_hasPrior 17 = .ok (.bipush 14, 2) := by decide +kernel
theorem dX11_hasPrior_19 : decode cX11_hasPrior 19 = .ok (.aload_n 0, 1) := by decide +kernel
theorem dX11_hasPrior_20 : decode cX11_hasPrior 20 = .ok (.getfield 301, 3) := by decide +kernel
theorem dX11_hasPrior_23 : decode cX11_hasPrior 23 = .ok (.imul, 1) := by decide +kernel
theorem dX11_hasPrior_24 : decode cX11_hasPrior 24 = .ok (.iload_n 3, 1) := by decide +kernel
theorem dX11_hasPrior_25 : decode cX11_hasPrior 25 = .ok (.iadd, 1) := by decide +kernel
theorem dX11_hasPrior_26 : decode cX11_hasPrior 26 = .ok (.iaload, 1) := by decide +kernel
theorem dX11_hasPrior_27 : decode cX11_hasPrior 27 = .ok (.ifCond .ne 7, 3) := by decide +kernel
theorem dX11_hasPrior_30 : decode cX11_hasPrior 30 = .ok (.iconst 1, 1) := by decide +kernel
theorem dX11_hasPrior_31 : decode cX11_hasPrior 31 = .ok (.goto 4, 3) := by decide +kernel
theorem dX11_hasPrior_34 : decode cX11_hasPrior 34 = .ok (.iconst 0, 1) := by decide +kernel
theorem dX11_hasPrior_35 : decode cX11_hasPrior 35 = .ok (.istore_n 2, 1) := by decide +kernel
theorem dX11_hasPrior_36 : decode cX11_hasPrior 36 = .ok (.iinc 3 1, 3) := by decide +kernel
theorem dX11_hasPrior_39 : decode cX11_hasPrior 39 = .ok (.goto (-35), 3) := by decide +kernel
theorem dX11_hasPrior_42 : decode cX11_hasPrior 42 = .ok (.iload_n 2, 1) := by decide +kernel
theorem dX11_hasPrior_43 : decode cX11_hasPrior 43 = .ok (.ireturn, 1) := by decide +kernel
theorem dX11_storyClause_0 : decode cX11_storyClause 0 = .ok (.aload_n 0, 1) := by decide +kernel
theorem dX11_storyClause_1 : decode cX11_storyClause 1 = .ok (.getfield 276, 3) := by decide +kernel
theorem dX11_storyClause_4 : decode cX11_storyClause 4 = .ok (.istore_n 2, 1) := by decide +kernel
theorem dX11_storyClause_5 : decode cX11_storyClause 5 = .ok (.aload_n 0, 1) := by decide +kernel
theorem dX11_storyClause_6 : decode cX11_storyClause 6 = .ok (.ldc_w 363, 3) := by decide +kernel
theorem dX11_storyClause_9 : decode cX11_storyClause 9 = .ok (.invokevirtual 298, 3) := by decide +kernel
theorem dX11_storyClause_12 : decode cX11_storyClause 12 = .ok (.ifCond .eq 7, 3) := by decide +kernel
theorem dX11_storyClause_15 : decode cX11_storyClause 15 = .ok (.iconst 0, 1) := by decide +kernel
theorem dX11_storyClause_16 : decode cX11_storyClause 16 = .ok (.goto 32, 3) := by decide +kernel
theorem dX11_storyClause_19 : decode cX11_storyClause 19 = .ok (.aload_n 0, 1) := by decide +kernel
theorem dX11_storyClause_20 : decode cX11_storyClause 20 = .ok (.ldc_w 365, 3) := by decide +kernel
theorem dX11_storyClause_23 : decode cX11_storyClause 23 = .ok (.invokevirtual 298, 3) := by decide +kernel
theorem dX11_storyClause_26 : decode cX11_storyClause 26 = .ok (.ifCond .eq 7, 3) := by decide +kernel
theorem dX11_storyClause_29 : decode cX11_storyClause 29 = .ok (.iconst 1, 1) := by decide +kernel
theorem dX11_storyClause_30 : decode cX11_storyClause 30 = .ok (.goto 18, 3) := by decide +kernel
theorem dX11_storyClause_33 : decode cX11_storyClause 33 = .ok (.aload_n 0, 1) := by decide +kernel
theorem dX11_storyClause_34 : decode cX11_storyClause 34 = .ok (.ldc_w 367, 3) := by decide +kernel
theorem dX11_storyClause_37 : decode cX11_storyClause 37 = .ok (.invokevirtual 298, 3) := by decide +kernel
theorem dX11_storyClause_40 : decode cX11_storyClause 40 = .ok (.ifCond .eq 7, 3) := by decide +kernel
theorem dX11_storyClause_43 : decode cX11_storyClause 43 = .ok (.iconst 2, 1) := by decide +kernel
theorem dX11_storyClause_44 : decode cX11_storyClause 44 = .ok (.goto 4, 3) := by decide +kernel
theorem dX11_storyClause_47 : decode cX11_storyClause 47 = .ok (.iconst (-1), 1) := by decide +kernel
theorem dX11_storyClause_48 : decode cX11_storyClause 48 = .ok (.istore_n 3, 1) := by decide +kernel
theorem dX11_storyClause_49 : decode cX11_storyClause 49 = .ok (.iload_n 3, 1) := by decide +kernel
theorem dX11_storyClause_50 : decode cX11_storyClause 50 = .ok (.iconst (-1), 1) := by decide +kernel
theorem dX11_storyClause_51 : decode cX11_storyClause 51 = .ok (.if_icmp .ne 10, 3) := by decide +kernel
theorem dX11_storyClause_54 : decode cX11_storyClause 54 = .ok (.aload_n 0, 1) := by decide +kernel
theorem dX11_storyClause_55 : decode cX11_storyClause 55 = .ok (.iconst 0, 1) := by decide +kernel
theorem dX11_storyClause_56 : decode cX11_storyClause 56 = .ok (.iload_n 2, 1) := by decide +kernel
theorem dX11_storyClause_57 : decode cX11_storyClause 57 = .ok (.invokevirtual 310, 3) := by decide +kernel
theorem dX11_storyClause_60 : decode cX11_storyClause 60 = .ok (.return_, 1) := by decide +kernel
theorem dX11_storyClause_61 : decode cX11_storyClause 61 = .ok (.iload_n 1, 1) := by decide +kernel
theorem dX11_storyClause_62 : decode cX11_storyClause 62 = .ok (.bipush 14, 2) := by decide +kernel
theorem dX11_storyClause_64 : decode cX11_storyClause 64 = .ok (.if_icmp .eq 15, 3) := by decide +kernel
theorem dX11_storyClause_67 : decode cX11_storyClause 67 = .ok (.iload_n 3, 1) := by decide +kernel
theorem dX11_storyClause_68 : decode cX11_storyClause 68 = .ok (.ifCond .ne 18, 3) := by decide +kernel
theorem dX11_storyClause_71 : decode cX11_storyClause 71 = .ok (.aload_n 0, 1) := by decide +kernel
theorem dX11_storyClause_72 : decode cX11_storyClause 72 = .ok (.iload_n 1, 1) := by decide +kernel
theorem dX11_storyClause_73 : decode cX11_storyClause 73 = .ok (.invokevirtual 369, 3) := by decide +kernel
theorem dX11_storyClause_76 : decode cX11_storyClause 76 = .ok (.ifCond .eq 10, 3) := by decide +kernel
theorem dX11_storyClause_79 : decode cX11_storyClause 79 = .ok (.aload_n 0, 1) := by decide +kernel
theorem dX11_storyClause_80 : decode cX11_storyClause 80 = .ok (.iconst 4, 1) := by decide +kernel
theorem dX11_storyClause_81 : decode cX11_storyClause 81 = .ok (.iload_n 2, 1) := by decide +kernel
theorem dX11_storyClause_82 : decode cX11_storyClause 82 = .ok (.invokevirtual 310, 3) := by decide +kernel
theorem dX11_storyClause_85 : decode cX11_storyClause 85 = .ok (.return_, 1) := by decide +kernel
theorem dX11_storyClause_86 : decode cX11_storyClause 86 = .ok (.aload_n 0, 1) := by decide +kernel
theorem dX11_storyClause_87 : decode cX11_storyClause 87 = .ok (.dup, 1) := by decide +kernel
theorem dX11_storyClause_88 : decode cX11_storyClause 88 = .ok (.getfield 276, 3) := by decide +kernel
theorem dX11_storyClause_91 : decode cX11_storyClause 91 = .ok (.iload_n 3, 1) := by decide +kernel
theorem dX11_storyClause_92 : decode cX11_storyClause 92 = .ok (.iconst 1, 1) := by decide +kernel
theorem dX11_storyClause_93 : decode cX11_storyClause 93 = .ok (.if_icmp .ne 7, 3) := by decide +kernel
theorem dX11_storyClause_96 : decode cX11_storyClause 96 = .ok (.iconst 4, 1) := by decide +kernel
theorem dX11_storyClause_97 : decode cX11_storyClause 97 = .ok (.goto 4, 3) := by decide +kernel
theorem dX11_storyClause_100 : decode cX11_storyClause 100 = .ok (.iconst 5, 1) := by decide +kernel
theorem dX11_storyClause_101 : decode cX11_storyClause 101 = .ok (.iadd, 1) := by decide +kernel
theorem dX11_storyClause_102 : decode cX11_storyClause 102 = .ok (.putfield 276, 3) := by decide +kernel
theorem dX11_storyClause_105 : decode cX11_storyClause 105 = .ok (.bipush 14, 2) := by decide +kernel
theorem dX11_storyClause_107 : decode cX11_storyClause 107 = .ok (.aload_n 0, 1) := by decide +kernel
theorem dX11_storyClause_108 : decode cX11_storyClause 108 = .ok (.getfield 301, 3) := by decide +kernel
theorem dX11_storyClause_111 : decode cX11_storyClause 111 = .ok (.imul, 1) := by decide +kernel
theorem dX11_storyClause_112 : decode cX11_storyClause 112 = .ok (.iload_n 1, 1) := by decide +kernel
theorem dX11_storyClause_113 : decode cX11_storyClause 113 = .ok (.iadd, 1) := by decide +kernel
theorem dX11_storyClause_114 : decode cX11_storyClause 114 = .ok (.istore 4, 2) := by decide +kernel
theorem dX11_storyClause_116 : decode cX11_storyClause 116 = .ok (.aload_n 0, 1) := by decide +kernel
theorem dX11_storyClause_117 : decode cX11_storyClause 117 = .ok (.getfield 72, 3) := by decide +kernel
theorem dX11_storyClause_120 : decode cX11_storyClause 120 = .ok (.iload 4, 2) := by decide +kernel
theorem dX11_storyClause_122 : decode cX11_storyClause 122 = .ok (.iload_n 3, 1) := by decide +kernel
theorem dX11_storyClause_123 : decode cX11_storyClause 123 = .ok (.iastore, 1) := by decide +kernel
theorem dX11_storyClause_124 : decode cX11_storyClause 124 = .ok (.aload_n 0, 1) := by decide +kernel
theorem dX11_storyClause_125 : decode cX11_storyClause 125 = .ok (.getfield 81, 3) := by decide +kernel
theorem dX11_storyClause_128 : decode cX11_storyClause 128 = .ok (.iload 4, 2) := by decide +kernel
theorem dX11_storyClause_130 : decode cX11_storyClause 130 = .ok (.aload_n 0, 1) := by decide +kernel
theorem dX11_storyClause_131 : decode cX11_storyClause 131 = .ok (.getfield 304, 3) := by decide +kernel
theorem dX11_storyClause_134 : decode cX11_storyClause 134 = .ok (.iastore, 1) := by decide +kernel
theorem dX11_storyClause_135 : decode cX11_storyClause 135 = .ok (.iload_n 3, 1) := by decide +kernel
theorem dX11_storyClause_136 : decode cX11_storyClause 136 = .ok (.ifCond .ne 21, 3) := by decide +kernel
theorem dX11_storyClause_139 : decode cX11_storyClause 139 = .ok (.aload_n 0, 1) := by decide +kernel
theorem dX11_storyClause_140 : decode cX11_storyClause 140 = .ok (.getfield 75, 3) := by decide +kernel
theorem dX11_storyClause_143 : decode cX11_storyClause 143 = .ok (.iload 4, 2) := by decide +kernel
theorem dX11_storyClause_145 : decode cX11_storyClause 145 = .ok (.aload_n 0, 1) := by decide +kernel
theorem dX11_storyClause_146 : decode cX11_storyClause 146 = .ok (.iconst 1, 1) := by decide +kernel
theorem dX11_storyClause_147 : decode cX11_storyClause 147 = .ok (.sipush 9999, 3) := by decide +kernel
theorem dX11_storyClause_150 : decode cX11_storyClause 150 = .ok (.invokevirtual 372, 3) := by decide +kernel
theorem dX11_storyClause_153 : decode cX11_storyClause 153 = .ok (.iastore, 1) := by decide +kernel
theorem dX11_storyClause_154 : decode cX11_storyClause 154 = .ok (.goto 89, 3) := by decide +kernel
theorem dX11_storyClause_157 : decode cX11_storyClause 157 = .ok (.iload_n 3, 1) := by decide +kernel
theorem dX11_storyClause_158 : decode cX11_storyClause 158 = .ok (.iconst 1, 1) := by decide +kernel
theorem dX11_storyClause_159 : decode cX11_storyClause 159 = .ok (.if_icmp .ne 10, 3) := by decide +kernel
theorem dX11_storyClause_162 : decode cX11_storyClause 162 = .ok (.aload_n 0, 1) := by decide +kernel
theorem dX11_storyClause_163 : decode cX11_storyClause 163 = .ok (.invokevirtual 375, 3) := by decide +kernel
theorem dX11_storyClause_166 : decode cX11_storyClause 166 = .ok (.goto 77, 3) := by decide +kernel
theorem dX11_storyClause_169 : decode cX11_storyClause 169 = .ok (.aload_n 0, 1) := by decide +kernel
theorem dX11_storyClause_170 : decode cX11_storyClause 170 = .ok (.invokevirtual 295, 3) := by decide +kernel
theorem dX11_storyClause_173 : decode cX11_storyClause 173 = .ok (.aload_n 0, 1) := by decide +kernel
theorem dX11_storyClause_174 : decode cX11_storyClause 174 = .ok (.invokevirtual 279, 3) := by decide +kernel
theorem dX11_storyClause_177 : decode cX11_storyClause 177 = .ok (.i2l, 1) := by decide +kernel
theorem dX11_storyClause_178 : decode cX11_storyClause 178 = .ok (.ldc2_w 378, 3) := by decide +kernel
theorem dX11_storyClause_181 : decode cX11_storyClause 181 = .ok (.ldc2_w 380, 3) := by decide +kernel
theorem dX11_storyClause_184 : decode cX11_storyClause 184 = .ok (.invokestatic 148, 3) := by decide +kernel
theorem dX11_storyClause_187 : decode cX11_storyClause 187 = .ok (.ifCond .ne 13, 3) := by decide +kernel
theorem dX11_storyClause_190 : decode cX11_storyClause 190 = .ok (.aload_n 0, 1) := by decide +kernel
theorem dX11_storyClause_191 : decode cX11_storyClause 191 = .ok (.iconst 0, 1) := by decide +kernel
theorem dX11_storyClause_192 : decode cX11_storyClause 192 = .ok (.aload_n 0, 1) := by decide +kernel
theorem dX11_storyClause_193 : decode cX11_storyClause 193 = .ok (.getfield 276, 3) := by decide +kernel
theorem dX11_storyClause_196 : decode cX11_storyClause 196 = .ok (.invokevirtual 310, 3) := by decide +kernel
theorem dX11_storyClause_199 : decode cX11_storyClause 199 = .ok (.return_, 1) := by decide +kernel
theorem dX11_storyClause_200 : decode cX11_storyClause 200 = .ok (.aload_n 0, 1) := by decide +kernel
theorem dX11_storyClause_201 : decode cX11_storyClause 201 = .ok (.getfield 75, 3) := by decide +kernel
theorem dX11_storyClause_204 : decode cX11_storyClause 204 = .ok (.iload 4, 2) := by decide +kernel
theorem dX11_storyClause_206 : decode cX11_storyClause 206 = .ok (.aload_n 0, 1) := by decide +kernel
theorem dX11_storyClause_207 : decode cX11_storyClause 207 = .ok (.invokevirtual 279, 3) := by decide +kernel
theorem dX11_storyClause_210 : decode cX11_storyClause 210 = .ok (.bipush 65, 2) := by decide +kernel
theorem dX11_storyClause_212 : decode cX11_storyClause 212 = .ok (.isub, 1) := by decide +kernel
theorem dX11_storyClause_213 : decode cX11_storyClause 213 = .ok (.iastore, 1) := by decide +kernel
theorem dX11_storyClause_214 : decode cX11_storyClause 214 = .ok (.aload_n 0, 1) := by decide +kernel
theorem dX11_storyClause_215 : decode cX11_storyClause 215 = .ok (.dup, 1) := by decide +kernel
theorem dX11_storyClause_216 : decode cX11_storyClause 216 = .ok (.getfield 276, 3) := by decide +kernel
theorem dX11_storyClause_219 : decode cX11_storyClause 219 = .ok (.iconst 1, 1) := by decide +kernel
theorem dX11_storyClause_220 : decode cX11_storyClause 220 = .ok (.iadd, 1) := by decide +kernel
theorem dX11_storyClause_221 : decode cX11_storyClause 221 = .ok (.putfield 276, 3) := by decide +kernel
theorem dX11_storyClause_224 : decode cX11_storyClause 224 = .ok (.aload_n 0, 1) := by decide +kernel
theorem dX11_storyClause_225 : decode cX11_storyClause 225 = .ok (.getfield 78, 3) := by decide +kernel
theorem dX11_storyClause_228 : decode cX11_storyClause 228 = .ok (.iload 4, 2) := by decide +kernel
theorem dX11_storyClause_230 : decode cX11_storyClause 230 = .ok (.aload_n 0, 1) := by decide +kernel
theorem dX11_storyClause_231 : decode cX11_storyClause 231 = .ok (.iconst 0, 1) := by decide +kernel
theorem dX11_storyClause_232 : decode cX11_storyClause 232 = .ok (.sipush 1000, 3) := by decide +kernel
theorem dX11_storyClause_235 : decode cX11_storyClause 235 = .ok (.invokevirtual 372, 3) := by decide +kernel
theorem dX11_storyClause_238 : decode cX11_storyClause 238 = .ok (.iastore, 1) := by decide +kernel
theorem dX11_storyClause_239 : decode cX11_storyClause 239 = .ok (.aload_n 0, 1) := by decide +kernel
theorem dX11_storyClause_240 : decode cX11_storyClause 240 = .ok (.invokevirtual 382, 3) := by decide +kernel
theorem dX11_storyClause_243 : decode cX11_storyClause 243 = .ok (.aload_n 0, 1) := by decide +kernel
theorem dX11_storyClause_244 : decode cX11_storyClause 244 = .ok (.getfield 84, 3) := by decide +kernel
theorem dX11_storyClause_247 : decode cX11_storyClause 247 = .ok (.iload 4, 2) := by decide +kernel
theorem dX11_storyClause_249 : decode cX11_storyClause 249 = .ok (.aload_n 0, 1) := by decide +kernel
theorem dX11_storyClause_250 : decode cX11_storyClause 250 = .ok (.getfield 304, 3) := by decide +kernel
theorem dX11_storyClause_253 : decode cX11_storyClause 253 = .ok (.iastore, 1) := by decide +kernel
theorem dX11_storyClause_254 : decode cX11_storyClause 254 = .ok (.return_, 1) := by decide +kernel
theorem dX11_ifTest_0 : decode cX11_ifTest 0 = .ok (.aload_n 0, 1) := by decide +kernel
theorem dX11_ifTest_1 : decode cX11_ifTest 1 = .ok (.getfield 273, 3) := by decide +kernel
theorem dX11_ifTest_4 : decode cX11_ifTest 4 = .ok (.ifCond .ne 17, 3) := by decide +kernel
theorem dX11_ifTest_7 : decode cX11_ifTest 7 = .ok (.aload_n 0, 1) := by decide +kernel
theorem dX11_ifTest_8 : decode cX11_ifTest 8 = .ok (.ldc_w 385, 3) := by decide +kernel
theorem dX11_ifTest_11 : decode cX11_ifTest 11 = .ok (.invokevirtual 387, 3) := by decide +kernel
theorem dX11_ifTest_14 : decode cX11_ifTest 14 = .ok (.ifCond .eq 7, 3) := by decide +kernel
theorem dX11_ifTest_17 : decode cX11_ifTest 17 = .ok (.aload_n 0, 1) := by decide +kernel
theorem dX11_ifTest_18 : decode cX11_ifTest 18 = .ok (.invokevirtual 375, 3) := by decide +kernel
theorem dX11_ifTest_21 : decode cX11_ifTest 21 = .ok (.return_, 1) := by decide +kernel
theorem dX11_ruleClause_0 : decode cX11_ruleClause 0 = .ok (.aload_n 0, 1) := by decide +kernel
theorem dX11_ruleClause_1 : decode cX11_ruleClause 1 = .ok (.getfield 276, 3) := by decide +kernel
theorem dX11_ruleClause_4 : decode cX11_ruleClause 4 = .ok (.istore_n 2, 1) := by decide +kernel
theorem dX11_ruleClause_5 : decode cX11_ruleClause 5 = .ok (.aload_n 0, 1) := by decide +kernel
theorem dX11_ruleClause_6 : decode cX11_ruleClause 6 = .ok (.ldc_w 390, 3) := by decide +kernel
theorem dX11_ruleClause_9 : decode cX11_ruleClause 9 = .ok (.invokevirtual 298, 3) := by decide +kernel
theorem dX11_ruleClause_12 : decode cX11_ruleClause 12 = .ok (.ifCond .ne 10, 3) := by decide +kernel
theorem dX11_ruleClause_15 : decode cX11_ruleClause 15 = .ok (.aload_n 0, 1) := by decide +kernel
theorem dX11_ruleClause_16 : decode cX11_ruleClause 16 = .ok (.iconst 0, 1) := by decide +kernel
theorem dX11_ruleClause_17 : decode cX11_ruleClause 17 = .ok (.iload_n 2, 1) := by decide +kernel
theorem dX11_ruleClause_18 : decode cX11_ruleClause 18 = .ok (.invokevirtual 310, 3) := by decide +kernel
theorem dX11_ruleClause_21 : decode cX11_ruleClause 21 = .ok (.return_, 1) := by decide +kernel
theorem dX11_ruleClause_22 : decode cX11_ruleClause 22 = .ok (.iload_n 1, 1) := by decide +kernel
theorem dX11_ruleClause_23 : decode cX11_ruleClause 23 = .ok (.bipush 14, 2) := by decide +kernel
theorem dX11_ruleClause_25 : decode cX11_ruleClause 25 = .ok (.if_icmp .ne 10, 3) := by decide +kernel
theorem dX11_ruleClause_28 : decode cX11_ruleClause 28 = .ok (.aload_n 0, 1) := by decide +kernel
theorem dX11_ruleClause_29 : decode cX11_ruleClause 29 = .ok (.iconst 4, 1) := by decide +kernel
theorem dX11_ruleClause_30 : decode cX11_ruleClause 30 = .ok (.iload_n 2, 1) := by decide +kernel
theorem dX11_ruleClause_31 : decode cX11_ruleClause 31 = .ok (.invokevirtual 310, 3) := by decide +kernel
theorem dX11_ruleClause_34 : decode cX11_ruleClause 34 = .ok (.return_, 1) := by decide +kernel
theorem dX11_ruleClause_35 : decode cX11_ruleClause 35 = .ok (.aload_n 0, 1) := by decide +kernel
theorem dX11_ruleClause_36 : decode cX11_ruleClause 36 = .ok (.dup, 1) := by decide +kernel
theorem dX11_ruleClause_37 : decode cX11_ruleClause 37 = .ok (.getfield 276, 3) := by decide +kernel
theorem dX11_ruleClause_40 : decode cX11_ruleClause 40 = .ok (.iconst 4, 1) := by decide +kernel
theorem dX11_ruleClause_41 : decode cX11_ruleClause 41 = .ok (.iadd, 1) := by decide +kernel
theorem dX11_ruleClause_42 : decode cX11_ruleClause 42 = .ok (.putfield 276, 3) := by decide +kernel
theorem dX11_ruleClause_45 : decode cX11_ruleClause 45 = .ok (.bipush 14, 2) := by decide +kernel
theorem dX11_ruleClause_47 : decode cX11_ruleClause 47 = .ok (.aload_n 0, 1) := by decide +kernel
theorem dX11_ruleClause_48 : decode cX11_ruleClause 48 = .ok (.getfield 301, 3) := by decide +kernel
theorem dX11_ruleClause_51 : decode cX11_ruleClause 51 = .ok (.imul, 1) := by decide +kernel
theorem dX11_ruleClause_52 : decode cX11_ruleClause 52 = .ok (.iload_n 1, 1) := by decide +kernel
theorem dX11_ruleClause_53 : decode cX11_ruleClause 53 = .ok (.iadd, 1) := by decide +kernel
theorem dX11_ruleClause_54 : decode cX11_ruleClause 54 = .ok (.istore_n 3, 1) := by decide +kernel
theorem dX11_ruleClause_55 : decode cX11_ruleClause 55 = .ok (.aload_n 0, 1) := by decide +kernel
theorem dX11_ruleClause_56 : decode cX11_ruleClause 56 = .ok (.getfield 81, 3) := by decide +kernel
theorem dX11_ruleClause_59 : decode cX11_ruleClause 59 = .ok (.iload_n 3, 1) := by decide +kernel
theorem dX11_ruleClause_60 : decode cX11_ruleClause 60 = .ok (.aload_n 0, 1) := by decide +kernel
theorem dX11_ruleClause_61 : decode cX11_ruleClause 61 = .ok (.getfield 304, 3) := by decide +kernel
theorem dX11_ruleClause_64 : decode cX11_ruleClause 64 = .ok (.iastore, 1) := by decide +kernel
theorem dX11_ruleClause_65 : decode cX11_ruleClause 65 = .ok (.aload_n 0, 1) := by decide +kernel
theorem dX11_ruleClause_66 : decode cX11_ruleClause 66 = .ok (.getfield 75, 3) := by decide +kernel
theorem dX11_ruleClause_69 : decode cX11_ruleClause 69 = .ok (.iload_n 3, 1) := by decide +kernel
theorem dX11_ruleClause_70 : decode cX11_ruleClause 70 = .ok (.aload_n 0, 1) := by decide +kernel
theorem dX11_ruleClause_71 : decode cX11_ruleClause 71 = .ok (.iconst 0, 1) := by decide +kernel
theorem dX11_ruleClause_72 : decode cX11_ruleClause 72 = .ok (.bipush 9, 2) := by decide +kernel
theorem dX11_ruleClause_74 : decode cX11_ruleClause 74 = .ok (.invokevirtual 372, 3) := by decide +kernel
theorem dX11_ruleClause_77 : decode cX11_ruleClause 77 = .ok (.iastore, 1) := by decide +kernel
theorem dX11_ruleClause_78 : decode cX11_ruleClause 78 = .ok (.aload_n 0, 1) := by decide +kernel
theorem dX11_ruleClause_79 : decode cX11_ruleClause 79 = .ok (.getfield 273, 3) := by decide +kernel
theorem dX11_ruleClause_82 : decode cX11_ruleClause 82 = .ok (.ifCond .ne 22, 3) := by decide +kernel
theorem dX11_ruleClause_85 : decode cX11_ruleClause 85 = .ok (.aload_n 0, 1) := by decide +kernel
theorem dX11_ruleClause_86 : decode cX11_ruleClause 86 = .ok (.ldc_w 392, 3) := by decide +kernel
theorem dX11_ruleClause_89 : decode cX11_ruleClause 89 = .ok (.invokevirtual 387, 3) := by decide +kernel
theorem dX11_ruleClause_92 : decode cX11_ruleClause 92 = .ok (.ifCond .ne 12, 3) := by decide +kernel
theorem dX11_ruleClause_95 : decode cX11_ruleClause 95 = .ok (.aload_n 0, 1) := by decide +kernel
theorem dX11_ruleClause_96 : decode cX11_ruleClause 96 = .ok (.iconst 0, 1) := by decide +kernel
theorem dX11_ruleClause_97 : decode cX11_ruleClause 97 = .ok (.aload_n 0, 1) := by decide +kernel
theorem dX11_ruleClause_98 : decode cX11_ruleClause 98 = .ok (.getfield 276, 3) := by decide +kernel
theorem dX11_ruleClause_101 : decode cX11_ruleClause 101 = .ok (.invokevirtual 310, 3) := by decide +kernel
theorem dX11_ruleClause_104 : decode cX11_ruleClause 104 = .ok (.aload_n 0, 1) := by decide +kernel
theorem dX11_ruleClause_105 : decode cX11_ruleClause 105 = .ok (.getfield 273, 3) := by decide +kernel
theorem dX11_ruleClause_108 : decode cX11_ruleClause 108 = .ok (.ifCond .ne 17, 3) := by decide +kernel
theorem dX11_ruleClause_111 : decode cX11_ruleClause 111 = .ok (.aload_n 0, 1) := by decide +kernel
theorem dX11_ruleClause_112 : decode cX11_ruleClause 112 = .ok (.getfield 78, 3) := by decide +kernel
theorem dX11_ruleClause_115 : decode cX11_ruleClause 115 = .ok (.iload_n 3, 1) := by decide +kernel
theorem dX11_ruleClause_116 : decode cX11_ruleClause 116 = .ok (.aload_n 0, 1) := by decide +kernel
theorem dX11_ruleClause_117 : decode cX11_ruleClause 117 = .ok (.iconst 1, 1) := by decide +kernel
theorem dX11_ruleClause_118 : decode cX11_ruleClause 118 = .ok (.sipush 9999, 3) := by decide +kernel
theorem dX11_ruleClause_121 : decode cX11_ruleClause 121 = .ok (.invokevirtual 372, 3) := by decide +kernel
theorem dX11_ruleClause_124 : decode cX11_ruleClause 124 = .ok (.iastore, 1) := by decide +kernel
theorem dX11_ruleClause_125 : decode cX11_ruleClause 125 = .ok (.aload_n 0, 1) := by decide +kernel
theorem dX11_ruleClause_126 : decode cX11_ruleClause 126 = .ok (.getfield 81, 3) := by decide +kernel
theorem dX11_ruleClause_129 : decode cX11_ruleClause 129 = .ok (.iload_n 3, 1) := by decide +kernel
theorem dX11_ruleClause_130 : decode cX11_ruleClause 130 = .ok (.aload_n 0, 1) := by decide +kernel
theorem dX11_ruleClause_131 : decode cX11_ruleClause 131 = .ok (.getfield 304, 3) := by decide +kernel
theorem dX11_ruleClause_134 : decode cX11_ruleClause 134 = .ok (.iastore, 1) := by decide +kernel
theorem dX11_ruleClause_135 : decode cX11_ruleClause 135 = .ok (.aload_n 0, 1) := by decide +kernel
theorem dX11_ruleClause_136 : decode cX11_ruleClause 136 = .ok (.invokevirtual 382, 3) := by decide +kernel
theorem dX11_ruleClause_139 : decode cX11_ruleClause 139 = .ok (.aload_n 0, 1) := by decide +kernel
theorem dX11_ruleClause_140 : decode cX11_ruleClause 140 = .ok (.getfield 84, 3) := by decide +kernel
theorem dX11_ruleClause_143 : decode cX11_ruleClause 143 = .ok (.iload_n 3, 1) := by decide +kernel
theorem dX11_ruleClause_144 : decode cX11_ruleClause 144 = .ok (.aload_n 0, 1) := by decide +kernel
theorem dX11_ruleClause_145 : decode cX11_ruleClause 145 = .ok (.getfield 304, 3) := by decide +kernel
theorem dX11_ruleClause_148 : decode cX11_ruleClause 148 = .ok (.iastore, 1) := by decide +kernel
theorem dX11_ruleClause_149 : decode cX11_ruleClause 149 = .ok (.return_, 1) := by decide +kernel
theorem dX11_text_0 : decode cX11_text 0 = .ok (.aload_n 0, 1) := by decide +kernel
theorem dX11_text_1 : decode cX11_text 1 = .ok (.getfield 60, 3) := by decide +kernel
theorem dX11_text_4 : decode cX11_text 4 = .ok (.iload_n 1, 1) := by decide +kernel
theorem dX11_text_5 : decode cX11_text 5 = .ok (.iaload, 1) := by decide +kernel
theorem dX11_text_6 : decode cX11_text 6 = .ok (.bipush 10, 2) := by decide +kernel
theorem dX11_text_8 : decode cX11_text 8 = .ok (.if_icmp .ne 5, 3) := by decide +kernel
theorem dX11_text_11 : decode cX11_text 11 = .ok (.iconst (-1), 1) := by decide +kernel
theorem dX11_text_12 : decode cX11_text 12 = .ok (.ireturn, 1) := by decide +kernel
theorem dX11_text_13 : decode cX11_text 13 = .ok (.aload_n 0, 1) := by decide +kernel
theorem dX11_text_14 : decode cX11_text 14 = .ok (.bipush 10, 2) := by decide +kernel
theorem dX11_text_16 : decode cX11_text 16 = .ok (.iload_n 1, 1) := by decide +kernel
theorem dX11_text_17 : decode cX11_text 17 = .ok (.imul, 1) := by decide +kernel
theorem dX11_text_18 : decode cX11_text 18 = .ok (.aload_n 0, 1) := by decide +kernel
theorem dX11_text_19 : decode cX11_text 19 = .ok (.getfield 60, 3) := by decide +kernel
theorem dX11_text_22 : decode cX11_text 22 = .ok (.iload_n 1, 1) := by decide +kernel
theorem dX11_text_23 : decode cX11_text 23 = .ok (.iaload, 1) := by decide +kernel
theorem dX11_text_24 : decode cX11_text 24 = .ok (.iadd, 1) := by decide +kernel
theorem dX11_text_25 : decode cX11_text 25 = .ok (.putfield 301, 3) := by decide +kernel
theorem dX11_text_28 : decode cX11_text 28 = .ok (.aload_n 0, 1) := by decide +kernel
theorem dX11_text_29 : decode cX11_text 29 = .ok (.iconst 0, 1) := by decide +kernel
theorem dX11_text_30 : decode cX11_text 30 = .ok (.putfield 276, 3) := by decide +kernel
theorem dX11_text_33 : decode cX11_text 33 = .ok (.aload_n 0, 1) := by decide +kernel
theorem dX11_text_34 : decode cX11_text 34 = .ok (.iconst 0, 1) := by decide +kernel
theorem dX11_text_35 : decode cX11_text 35 = .ok (.putfield 273, 3) := by decide +kernel
theorem dX11_text_38 : decode cX11_text 38 = .ok (.aload_n 0, 1) := by decide +kernel
theorem dX11_text_39 : decode cX11_text 39 = .ok (.iconst 0, 1) := by decide +kernel
theorem dX11_text_40 : decode cX11_text 40 = .ok (.putfield 304, 3) := by decide +kernel
theorem dX11_text_43 : decode cX11_text 43 = .ok (.aload_n 0, 1) := by decide +kernel
theorem dX11_text_44 : decode cX11_text 44 = .ok (.iconst 0, 1) := by decide +kernel
theorem dX11_text_45 : decode cX11_text 45 = .ok (.putfield 339, 3) := by decide +kernel
theorem dX11_text_48 : decode cX11_text 48 = .ok (.aload_n 0, 1) := by decide +kernel
theorem dX11_text_49 : decode cX11_text 49 = .ok (.iconst 0, 1) := by decide +kernel
theorem dX11_text_50 : decode cX11_text 50 = .ok (.putfield 307, 3) := by decide +kernel
theorem dX11_text_53 : decode cX11_text 53 = .ok (.iconst 0, 1) := by decide +kernel
theorem dX11_text_54 : decode cX11_text 54 = .ok (.istore_n 2, 1) := by decide +kernel
theorem dX11_text_55 : decode cX11_text 55 = .ok (.iconst 1, 1) := by decide +kernel
theorem dX11_text_56 : decode cX11_text 56 = .ok (.istore_n 3, 1) := by decide +kernel
theorem dX11_text_57 : decode cX11_text 57 = .ok (.iload_n 3, 1) := by decide +kernel
theorem dX11_text_58 : decode cX11_text 58 = .ok (.ifCond .eq 104, 3) := by decide +kernel
theorem dX11_text_61 : decode cX11_text 61 = .ok (.aload_n 0, 1) := by decide +kernel
theorem dX11_text_62 : decode cX11_text 62 = .ok (.invokevirtual 295, 3) := by decide +kernel
theorem dX11_text_65 : decode cX11_text 65 = .ok (.iload_n 1, 1) := by decide +kernel
theorem dX11_text_66 : decode cX11_text 66 = .ok (.ifCond .ne 11, 3) := by decide +kernel
theorem dX11_text_69 : decode cX11_text 69 = .ok (.aload_n 0, 1) := by decide +kernel
theorem dX11_text_70 : decode cX11_text 70 = .ok (.iload_n 2, 1) := by decide +kernel
theorem dX11_text_71 : decode cX11_text 71 = .ok (.invokevirtual 394, 3) := by decide +kernel
theorem dX11_text_74 : decode cX11_text 74 = .ok (.goto 8, 3) := by decide +kernel
theorem dX11_text_77 : decode cX11_text 77 = .ok (.aload_n 0, 1) := by decide +kernel
theorem dX11_text_78 : decode cX11_text 78 = .ok (.iload_n 2, 1) := by decide +kernel
theorem dX11_text_79 : decode cX11_text 79 = .ok (.invokevirtual 397, 3) := by decide +kernel
theorem dX11_text_82 : decode cX11_text 82 = .ok (.iinc 2 1, 3) := by decide +kernel
theorem dX11_text_85 : decode cX11_text 85 = .ok (.aload_n 0, 1) := by decide +kernel
theorem dX11_text_86 : decode cX11_text 86 = .ok (.invokevirtual 295, 3) := by decide +kernel
theorem dX11_text_89 : decode cX11_text 89 = .ok (.aload_n 0, 1) := by decide +kernel
theorem dX11_text_90 : decode cX11_text 90 = .ok (.getfield 273, 3) := by decide +kernel
theorem dX11_text_93 : decode cX11_text 93 = .ok (.ifCond .ne 32, 3) := by decide +kernel
theorem dX11_text_96 : decode cX11_text 96 = .ok (.aload_n 0, 1) := by decide +kernel
theorem dX11_text_97 : decode cX11_text 97 = .ok (.getfield 276, 3) := by decide +kernel
theorem dX11_text_100 : decode cX11_text 100 = .ok (.aload_n 0, 1) := by decide +kernel
theorem dX11_text_101 : decode cX11_text 101 = .ok (.getfield 238, 3) := by decide +kernel
theorem dX11_text_104 : decode cX11_text 104 = .ok (.if_icmp .ge 21, 3) := by decide +kernel
theorem dX11_text_107 : decode cX11_text 107 = .ok (.aload_n 0, 1) := by decide +kernel
theorem dX11_text_108 : decode cX11_text 108 = .ok (.invokevirtual 279, 3) := by decide +kernel
theorem dX11_text_111 : decode cX11_text 111 = .ok (.bipush 59, 2) := by decide +kernel
theorem dX11_text_113 : decode cX11_text 113 = .ok (.if_icmp .eq 12, 3) := by decide +kernel
theorem dX11_text_116 : decode cX11_text 116 = .ok (.aload_n 0, 1) := by decide +kernel
theorem dX11_text_117 : decode cX11_text 117 = .ok (.iconst 0, 1) := by decide +kernel
theorem dX11_text_118 : decode cX11_text 118 = .ok (.aload_n 0, 1) := by decide +kernel
theorem dX11_text_119 : decode cX11_text 119 = .ok (.getfield 276, 3) := by decide +kernel
theorem dX11_text_122 : decode cX11_text 122 = .ok (.invokevirtual 310, 3) := by decide +kernel
theorem dX11_text_125 : decode cX11_text 125 = .ok (.aload_n 0, 1) := by decide +kernel
theorem dX11_text_126 : decode cX11_text 126 = .ok (.getfield 273, 3) := by decide +kernel
theorem dX11_text_129 : decode cX11_text 129 = .ok (.ifCond .ne 18, 3) := by decide +kernel
theorem dX11_text_132 : decode cX11_text 132 = .ok (.aload_n 0, 1) := by decide +kernel
theorem dX11_text_133 : decode cX11_text 133 = .ok (.getfield 276, 3) := by decide +kernel
theorem dX11_text_136 : decode cX11_text 136 = .ok (.aload_n 0, 1) := by decide +kernel
theorem dX11_text_137 : decode cX11_text 137 = .ok (.getfield 238, 3) := by decide +kernel
theorem dX11_text_140 : decode cX11_text 140 = .ok (.if_icmp .ge 7, 3) := by decide +kernel
theorem dX11_text_143 : decode cX11_text 143 = .ok (.iconst 1, 1) := by decide +kernel
theorem dX11_text_144 : decode cX11_text 144 = .ok (.goto 4, 3) := by decide +kernel
theorem dX11_text_147 : decode cX11_text 147 = .ok (.iconst 0, 1) := by decide +kernel
theorem dX11_text_148 : decode cX11_text 148 = .ok (.istore_n 3, 1) := by decide +kernel
theorem dX11_text_149 : decode cX11_text 149 = .ok (.aload_n 0, 1) := by decide +kernel
theorem dX11_text_150 : decode cX11_text 150 = .ok (.dup, 1) := by decide +kernel
theorem dX11_text_151 : decode cX11_text 151 = .ok (.getfield 276, 3) := by decide +kernel
theorem dX11_text_154 : decode cX11_text 154 = .ok (.iconst 1, 1) := by decide +kernel
theorem dX11_text_155 : decode cX11_text 155 = .ok (.iadd, 1) := by decide +kernel
theorem dX11_text_156 : decode cX11_text 156 = .ok (.putfield 276, 3) := by decide +kernel
theorem dX11_text_159 : decode cX11_text 159 = .ok (.goto (-102), 3) := by decide +kernel
theorem dX11_text_162 : decode cX11_text 162 = .ok (.aload_n 0, 1) := by decide +kernel
theorem dX11_text_163 : decode cX11_text 163 = .ok (.iconst 0, 1) := by decide +kernel
theorem dX11_text_164 : decode cX11_text 164 = .ok (.putfield 238, 3) := by decide +kernel
theorem dX11_text_167 : decode cX11_text 167 = .ok (.aload_n 0, 1) := by decide +kernel
theorem dX11_text_168 : decode cX11_text 168 = .ok (.getfield 273, 3) := by decide +kernel
theorem dX11_text_171 : decode cX11_text 171 = .ok (.ifCond .le 11, 3) := by decide +kernel
theorem dX11_text_174 : decode cX11_text 174 = .ok (.bipush (-2), 2) := by decide +kernel
theorem dX11_text_176 : decode cX11_text 176 = .ok (.aload_n 0, 1) := by decide +kernel
theorem dX11_text_177 : decode cX11_text 177 = .ok (.getfield 273, 3) := by decide +kernel
theorem dX11_text_180 : decode cX11_text 180 = .ok (.isub, 1) := by decide +kernel
theorem dX11_text_181 : decode cX11_text 181 = .ok (.ireturn, 1) := by decide +kernel
theorem dX11_text_182 : decode cX11_text 182 = .ok (.aload_n 0, 1) := by decide +kernel
theorem dX11_text_183 : decode cX11_text 183 = .ok (.getfield 69, 3) := by decide +kernel
theorem dX11_text_186 : decode cX11_text 186 = .ok (.aload_n 0, 1) := by decide +kernel
theorem dX11_text_187 : decode cX11_text 187 = .ok (.getfield 301, 3) := by decide +kernel
theorem dX11_text_190 : decode cX11_text 190 = .ok (.iload_n 2, 1) := by decide +kernel
theorem dX11_text_191 : decode cX11_text 191 = .ok (.iastore, 1) := by decide +kernel
theorem dX11_text_192 : decode cX11_text 192 = .ok (.aload_n 0, 1) := by decide +kernel
theorem dX11_text_193 : decode cX11_text 193 = .ok (.getfield 60, 3) := by decide +kernel
theorem dX11_text_196 : decode cX11_text 196 = .ok (.iload_n 1, 1) := by decide +kernel
theorem dX11_text_197 : decode cX11_text 197 = .ok (.dup2, 1) := by decide +kernel
theorem dX11_text_198 : decode cX11_text 198 = .ok (.iaload, 1) := by decide +kernel
theorem dX11_text_199 : decode cX11_text 199 = .ok (.iconst 1, 1) := by decide +kernel
theorem dX11_text_200 : decode cX11_text 200 = .ok (.iadd, 1) := by decide +kernel
theorem dX11_text_201 : decode cX11_text 201 = .ok (.iastore, 1) := by decide +kernel
theorem dX11_text_202 : decode cX11_text 202 = .ok (.aload_n 0, 1) := by decide +kernel
theorem dX11_text_203 : decode cX11_text 203 = .ok (.getfield 60, 3) := by decide +kernel
theorem dX11_text_206 : decode cX11_text 206 = .ok (.iload_n 1, 1) := by decide +kernel
theorem dX11_text_207 : decode cX11_text 207 = .ok (.iaload, 1) := by decide +kernel
theorem dX11_text_208 : decode cX11_text 208 = .ok (.iconst 1, 1) := by decide +kernel
theorem dX11_text_209 : decode cX11_text 209 = .ok (.isub, 1) := by decide +kernel
theorem dX11_text_210 : decode cX11_text 210 = .ok (.ireturn, 1) := by decide +kernel
theorem dX11_story_0 : decode cX11_story 0 = .ok (.aload_n 0, 1) := by decide +kernel
theorem dX11_story_1 : decode cX11_story 1 = .ok (.iconst 0, 1) := by decide +kernel
theorem dX11_story_2 : decode cX11_story 2 = .ok (.invokevirtual 400, 3) := by decide +kernel
theorem dX11_story_5 : decode cX11_story 5 = .ok (.ireturn, 1) := by decide +kernel
theorem dX11_rule_0 : decode cX11_rule 0 = .ok (.aload_n 0, 1) := by decide +kernel
theorem dX11_rule_1 : decode cX11_rule 1 = .ok (.iconst 1, 1) := by decide +kernel
theorem dX11_rule_2 : decode cX11_rule 2 = .ok (.invokevirtual 400, 3) := by decide +kernel
theorem dX11_rule_5 : decode cX11_rule 5 = .ok (.ireturn, 1) := by decide +kernel
theorem dX11_truth_0 : decode cX11_truth 0 = .ok (.iload_n 0, 1) := by decide +kernel
theorem dX11_truth_1 : decode cX11_truth 1 = .ok (.ifCond .eq 7, 3) := by decide +kernel
theorem dX11_truth_4 : decode cX11_truth 4 = .ok (.lconst 1, 1) := by decide +kernel
theorem dX11_truth_5 : decode cX11_truth 5 = .ok (.goto 4, 3) := by decide +kernel
theorem dX11_truth_8 : decode cX11_truth 8 = .ok (.lconst 0, 1) := by decide +kernel
theorem dX11_truth_9 : decode cX11_truth 9 = .ok (.lreturn, 1) := by decide +kernel
theorem dX11_both_0 : decode cX11_both 0 = .ok (.iload_n 0, 1) := by decide +kernel
theorem dX11_both_1 : decode cX11_both 1 = .ok (.tableswitch 138 2 10 #[51, 55, 59, 74, 89, 104, 119, 138, 134], 51) := by decide +kernel
theorem dX11_both_52 : decode cX11_both 52 = .ok (.lload_n 1, 1) := by decide +kernel
theorem dX11_both_53 : decode cX11_both 53 = .ok (.lload_n 3, 1) := by decide +kernel
theorem dX11_both_54 : decode cX11_both 54 = .ok (.ladd, 1) := by decide +kernel
theorem dX11_both_55 : decode cX11_both 55 = .ok (.lreturn, 1) := by decide +kernel
theorem dX11_both_56 : decode cX11_both 56 = .ok (.lload_n 1, 1) := by decide +kernel
theorem dX11_both_57 : decode cX11_both 57 = .ok (.lload_n 3, 1) := by decide +kernel
theorem dX11_both_58 : decode cX11_both 58 = .ok (.lsub, 1) := by decide +kernel
theorem dX11_both_59 : decode cX11_both 59 = .ok (.lreturn, 1) := by decide +kernel
theorem dX11_both_60 : decode cX11_both 60 = .ok (.lload_n 1, 1) := by decide +kernel
theorem dX11_both_61 : decode cX11_both 61 = .ok (.lload_n 3, 1) := by decide +kernel
theorem dX11_both_62 : decode cX11_both 62 = .ok (.lcmp, 1) := by decide +kernel
theorem dX11_both_63 : decode cX11_both 63 = .ok (.ifCond .ge 7, 3) := by decide +kernel
theorem dX11_both_66 : decode cX11_both 66 = .ok (.iconst 1, 1) := by decide +kernel
theorem dX11_both_67 : decode cX11_both 67 = .ok (.goto 4, 3) := by decide +kernel
theorem dX11_both_70 : decode cX11_both 70 = .ok (.iconst 0, 1) := by decide +kernel
theorem dX11_both_71 : decode cX11_both 71 = .ok (.invokestatic 403, 3) := by decide +kernel
theorem dX11_both_74 : decode cX11_both 74 = .ok (.lreturn, 1) := by decide +kernel
theorem dX11_both_75 : decode cX11_both 75 = .ok (.lload_n 1, 1) := by decide +kernel
theorem dX11_both_76 : decode cX11_both 76 = .ok (.lload_n 3, 1) := by decide +kernel
theorem dX11_both_77 : decode cX11_both 77 = .ok (.lcmp, 1) := by decide +kernel
theorem dX11_both_78 : decode cX11_both 78 = .ok (.ifCond .gt 7, 3) := by decide +kernel
theorem dX11_both_81 : decode cX11_both 81 = .ok (.iconst 1, 1) := by decide +kernel
theorem dX11_both_82 : decode cX11_both 82 = .ok (.goto 4, 3) := by decide +kernel
theorem dX11_both_85 : decode cX11_both 85 = .ok (.iconst 0, 1) := by decide +kernel
theorem dX11_both_86 : decode cX11_both 86 = .ok (.invokestatic 403, 3) := by decide +kernel
theorem dX11_both_89 : decode cX11_both 89 = .ok (.lreturn, 1) := by decide +kernel
theorem dX11_both_90 : decode cX11_both 90 = .ok (.lload_n 1, 1) := by decide +kernel
theorem dX11_both_91 : decode cX11_both 91 = .ok (.lload_n 3, 1) := by decide +kernel
theorem dX11_both_92 : decode cX11_both 92 = .ok (.lcmp, 1) := by decide +kernel
theorem dX11_both_93 : decode cX11_both 93 = .ok (.ifCond .ne 7, 3) := by decide +kernel
theorem dX11_both_96 : decode cX11_both 96 = .ok (.iconst 1, 1) := by decide +kernel
theorem dX11_both_97 : decode cX11_both 97 = .ok (.goto 4, 3) := by decide +kernel
theorem dX11_both_100 : decode cX11_both 100 = .ok (.iconst 0, 1) := by decide +kernel
theorem dX11_both_101 : decode cX11_both 101 = .ok (.invokestatic 403, 3) := by decide +kernel
theorem dX11_both_104 : decode cX11_both 104 = .ok (.lreturn, 1) := by decide +kernel
theorem dX11_both_105 : decode cX11_both 105 = .ok (.lload_n 1, 1) := by decide +kernel
theorem dX11_both_106 : decode cX11_both 106 = .ok (.lload_n 3, 1) := by decide +kernel
theorem dX11_both_107 : decode cX11_both 107 = .ok (.lcmp, 1) := by decide +kernel
theorem dX11_both_108 : decode cX11_both 108 = .ok (.ifCond .lt 7, 3) := by decide +kernel
theorem dX11_both_111 : decode cX11_both 111 = .ok (.iconst 1, 1) := by decide +kernel
theorem dX11_both_112 : decode cX11_both 112 = .ok (.goto 4, 3) := by decide +kernel
theorem dX11_both_115 : decode cX11_both 115 = .ok (.iconst 0, 1) := by decide +kernel
theorem dX11_both_116 : decode cX11_both 116 = .ok (.invokestatic 403, 3) := by decide +kernel
theorem dX11_both_119 : decode cX11_both 119 = .ok (.lreturn, 1) := by decide +kernel
theorem dX11_both_120 : decode cX11_both 120 = .ok (.lload_n 1, 1) := by decide +kernel
theorem dX11_both_121 : decode cX11_both 121 = .ok (.lload_n 3, 1) := by decide +kernel
theorem dX11_both_122 : decode cX11_both 122 = .ok (.lcmp, 1) := by decide +kernel
theorem dX11_both_123 : decode cX11_both 123 = .ok (.ifCond .le 7, 3) := by decide +kernel
theorem dX11_both_126 : decode cX11_both 126 = .ok (.iconst 1, 1) := by decide +kernel
theorem dX11_both_127 : decode cX11_both 127 = .ok (.goto 4, 3) := by decide +kernel
theorem dX11_both_130 : decode cX11_both 130 = .ok (.iconst 0, 1) := by decide +kernel
theorem dX11_both_131 : decode cX11_both 131 = .ok (.invokestatic 403, 3) := by decide +kernel
theorem dX11_both_134 : decode cX11_both 134 = .ok (.lreturn, 1) := by decide +kernel
theorem dX11_both_135 : decode cX11_both 135 = .ok (.lload_n 1, 1) := by decide +kernel
theorem dX11_both_136 : decode cX11_both 136 = .ok (.lload_n 3, 1) := by decide +kernel
theorem dX11_both_137 : decode cX11_both 137 = .ok (.land, 1) := by decide +kernel
theorem dX11_both_138 : decode cX11_both 138 = .ok (.lreturn, 1) := by decide +kernel
theorem dX11_both_139 : decode cX11_both 139 = .ok (.lload_n 1, 1) := by decide +kernel
theorem dX11_both_140 : decode cX11_both 140 = .ok (.lload_n 3, 1) := by decide +kernel
theorem dX11_both_141 : decode cX11_both 141 = .ok (.lor, 1) := by decide +kernel
theorem dX11_both_142 : decode cX11_both 142 = .ok (.lreturn, 1) := by decide +kernel
theorem dX11_answer_0 : decode cX11_answer 0 = .ok (.iconst 0, 1) := by decide +kernel
theorem dX11_answer_1 : decode cX11_answer 1 = .ok (.istore 4, 2) := by decide +kernel
theorem dX11_answer_3 : decode cX11_answer 3 = .ok (.iload_n 2, 1) := by decide +kernel
theorem dX11_answer_4 : decode cX11_answer 4 = .ok (.istore 5, 2) := by decide +kernel
theorem dX11_answer_6 : decode cX11_answer 6 = .ok (.iload 5, 2) := by decide +kernel
theorem dX11_answer_8 : decode cX11_answer 8 = .ok (.iload_n 3, 1) := by decide +kernel
theorem dX11_answer_9 : decode cX11_answer 9 = .ok (.if_icmp .ge 144, 3) := by decide +kernel
theorem dX11_answer_12 : decode cX11_answer 12 = .ok (.aload_n 0, 1) := by decide +kernel
theorem dX11_answer_13 : decode cX11_answer 13 = .ok (.getfield 63, 3) := by decide +kernel
theorem dX11_answer_16 : decode cX11_answer 16 = .ok (.sipush 300, 3) := by decide +kernel
theorem dX11_answer_19 : decode cX11_answer 19 = .ok (.iload_n 1, 1) := by decide +kernel
theorem dX11_answer_20 : decode cX11_answer 20 = .ok (.imul, 1) := by decide +kernel
theorem dX11_answer_21 : decode cX11_answer 21 = .ok (.iload 5, 2) := by decide +kernel
theorem dX11_answer_23 : decode cX11_answer 23 = .ok (.iadd, 1) := by decide +kernel
theorem dX11_answer_24 : decode cX11_answer 24 = .ok (.iaload, 1) := by decide +kernel
theorem dX11_answer_25 : decode cX11_answer 25 = .ok (.istore 6, 2) := by decide +kernel
theorem dX11_answer_27 : decode cX11_answer 27 = .ok (.aload_n 0, 1) := by decide +kernel
theorem dX11_answer_28 : decode cX11_answer 28 = .ok (.getfield 66, 3) := by decide +kernel
theorem dX11_answer_31 : decode cX11_answer 31 = .ok (.sipush 300, 3) := by decide +kernel
theorem dX11_answer_34 : decode cX11_answer 34 = .ok (.iload_n 1, 1) := by decide +kernel
theorem dX11_answer_35 : decode cX11_answer 35 = .ok (.imul, 1) := by decide +kernel
theorem dX11_answer_36 : decode cX11_answer 36 = .ok (.iload 5, 2) := by decide +kernel
theorem dX11_answer_38 : decode cX11_answer 38 = .ok (.iadd, 1) := by decide +kernel
theorem dX11_answer_39 : decode cX11_answer 39 = .ok (.iaload, 1) := by decide +kernel
theorem dX11_answer_40 : decode cX11_answer 40 = .ok (.istore 7, 2) := by decide +kernel
theorem dX11_answer_42 : decode cX11_answer 42 = .ok (.iload 6, 2) := by decide +kernel
theorem dX11_answer_44 : decode cX11_answer 44 = .ok (.ifCond .eq 9, 3) := by decide +kernel
theorem dX11_answer_47 : decode cX11_answer 47 = .ok (.iload 6, 2) := by decide +kernel
theorem dX11_answer_49 : decode cX11_answer 49 = .ok (.iconst 1, 1) := by decide +kernel
theorem dX11_answer_50 : decode cX11_answer 50 = .ok (.if_icmp .ne 34, 3) := by decide +kernel
theorem dX11_answer_53 : decode cX11_answer 53 = .ok (.aload_n 0, 1) := by decide +kernel
theorem dX11_answer_54 : decode cX11_answer 54 = .ok (.getfield 94, 3) := by decide +kernel
theorem dX11_answer_57 : decode cX11_answer 57 = .ok (.iload 4, 2) := by decide +kernel
theorem dX11_answer_59 : decode cX11_answer 59 = .ok (.iload 6, 2) := by decide +kernel
theorem dX11_answer_61 : decode cX11_answer 61 = .ok (.ifCond .ne 9, 3) := by decide +kernel
theorem dX11_answer_64 : decode cX11_answer 64 = .ok (.iload 7, 2) := by decide +kernel
theorem dX11_answer_66 : decode cX11_answer 66 = .ok (.i2l, 1) := by decide +kernel
theorem dX11_answer_67 : decode cX11_answer 67 = .ok (.goto 10, 3) := by decide +kernel
theorem dX11_answer_70 : decode cX11_answer 70 = .ok (.aload_n 0, 1) := by decide +kernel
theorem dX11_answer_71 : decode cX11_answer 71 = .ok (.getfield 90, 3) := by decide +kernel
theorem dX11_answer_74 : decode cX11_answer 74 = .ok (.iload 7, 2) := by decide +kernel
theorem dX11_answer_76 : decode cX11_answer 76 = .ok (.laload, 1) := by decide +kernel
theorem dX11_answer_77 : decode cX11_answer 77 = .ok (.lastore, 1) := by decide +kernel
theorem dX11_answer_78 : decode cX11_answer 78 = .ok (.iinc 4 1, 3) := by decide +kernel
theorem dX11_answer_81 : decode cX11_answer 81 = .ok (.goto 66, 3) := by decide +kernel
theorem dX11_answer_84 : decode cX11_answer 84 = .ok (.iload 6, 2) := by decide +kernel
theorem dX11_answer_86 : decode cX11_answer 86 = .ok (.bipush 9, 2) := by decide +kernel
theorem dX11_answer_88 : decode cX11_answer 88 = .ok (.if_icmp .ne 26, 3) := by decide +kernel
theorem dX11_answer_91 : decode cX11_answer 91 = .ok (.aload_n 0, 1) := by decide +kernel
theorem dX11_answer_92 : decode cX11_answer 92 = .ok (.getfield 94, 3) := by decide +kernel
theorem dX11_answer_95 : decode cX11_answer 95 = .ok (.iload 4, 2) := by decide +kernel
theorem dX11_answer_97 : decode cX11_answer 97 = .ok (.iconst 1, 1) := by decide +kernel
theorem dX11_answer_98 : decode cX11_answer 98 = .ok (.isub, 1) := by decide +kernel
theorem dX11_answer_99 : decode cX11_answer 99 = .ok (.lconst 1, 1) := by decide +kernel
theorem dX11_answer_100 : decode cX11_answer 100 = .ok (.aload_n 0, 1) := by decide +kernel
theorem dX11_answer_101 : decode cX11_answer 101 = .ok (.getfield 94, 3) := by decide +kernel
theorem dX11_answer_104 : decode cX11_answer 104 = .ok (.iload 4, 2) := by decide +kernel
theorem dX11_answer_106 : decode cX11_answer 106 = .ok (.iconst 1, 1) := by decide +kernel
theorem dX11_answer_107 : decode cX11_answer 107 = .ok (.isub, 1) := by decide +kernel
theorem dX11_answer_108 : decode cX11_answer 108 = .ok (.laload, 1) := by decide +kernel
theorem dX11_answer_109 : decode cX11_answer 109 = .ok (.lsub, 1) := by decide +kernel
theorem dX11_answer_110 : decode cX11_answer 110 = .ok (.lastore, 1) := by decide +kernel
theorem dX11_answer_111 : decode cX11_answer 111 = .ok (.goto 36, 3) := by decide +kernel
theorem dX11_answer_114 : decode cX11_answer 114 = .ok (.iinc 4 (-1), 3) := by decide +kernel
theorem dX11_answer_117 : decode cX11_answer 117 = .ok (.aload_n 0, 1) := by decide +kernel
theorem dX11_answer_118 : decode cX11_answer 118 = .ok (.getfield 94, 3) := by decide +kernel
theorem dX11_answer_121 : decode cX11_answer 121 = .ok (.iload 4, 2) := by decide +kernel
theorem dX11_answer_123 : decode cX11_answer 123 = .ok (.iconst 1, 1) := by decide +kernel
theorem dX11_answer_124 : decode cX11_answer 124 = .ok (.isub, 1) := by decide +kernel
theorem dX11_answer_125 : decode cX11_answer 125 = .ok (.iload 6, 2) := by decide +kernel
theorem dX11_answer_127 : decode cX11_answer 127 = .ok (.aload_n 0, 1) := by decide +kernel
theorem dX11_answer_128 : decode cX11_answer 128 = .ok (.getfield 94, 3) := by decide +kernel
theorem dX11_answer_131 : decode cX11_answer 131 = .ok (.iload 4, 2) := by decide +kernel
theorem dX11_answer_133 : decode cX11_answer 133 = .ok (.iconst 1, 1) := by decide +kernel
theorem dX11_answer_134 : decode cX11_answer 134 = .ok (.isub, 1) := by decide +kernel
theorem dX11_answer_135 : decode cX11_answer 135 = .ok (.laload, 1) := by decide +kernel
theorem dX11_answer_136 : decode cX11_answer 136 = .ok (.aload_n 0, 1) := by decide +kernel
theorem dX11_answer_137 : decode cX11_answer 137 = .ok (.getfield 94, 3) := by decide +kernel
theorem dX11_answer_140 : decode cX11_answer 140 = .ok (.iload 4, 2) := by decide +kernel
theorem dX11_answer_142 : decode cX11_answer 142 = .ok (.laload, 1) := by decide +kernel
theorem dX11_answer_143 : decode cX11_answer 143 = .ok (.invokestatic 407, 3) := by decide +kernel
theorem dX11_answer_146 : decode cX11_answer 146 = .ok (.lastore, 1) := by decide +kernel
theorem dX11_answer_147 : decode cX11_answer 147 = .ok (.iinc 5 1, 3) := by decide +kernel
theorem dX11_answer_150 : decode cX11_answer 150 = .ok (.goto (-144), 3) := by decide +kernel
theorem dX11_answer_153 : decode cX11_answer 153 = .ok (.aload_n 0, 1) := by decide +kernel
theorem dX11_answer_154 : decode cX11_answer 154 = .ok (.getfield 94, 3) := by decide +kernel
theorem dX11_answer_157 : decode cX11_answer 157 = .ok (.iconst 0, 1) := by decide +kernel
theorem dX11_answer_158 : decode cX11_answer 158 = .ok (.laload, 1) := by decide +kernel
theorem dX11_answer_159 : decode cX11_answer 159 = .ok (.lreturn, 1) := by decide +kernel
theorem dX11_looks_0 : decode cX11_looks 0 = .ok (.aload_n 0, 1) := by decide +kernel
theorem dX11_looks_1 : decode cX11_looks 1 = .ok (.getfield 90, 3) := by decide +kernel
theorem dX11_looks_4 : decode cX11_looks 4 = .ok (.iconst 0, 1) := by decide +kernel
theorem dX11_looks_5 : decode cX11_looks 5 = .ok (.aload_n 0, 1) := by decide +kernel
theorem dX11_looks_6 : decode cX11_looks 6 = .ok (.getfield 212, 3) := by decide +kernel
theorem dX11_looks_9 : decode cX11_looks 9 = .ok (.i2l, 1) := by decide +kernel
theorem dX11_looks_10 : decode cX11_looks 10 = .ok (.lastore, 1) := by decide +kernel
theorem dX11_looks_11 : decode cX11_looks 11 = .ok (.aload_n 0, 1) := by decide +kernel
theorem dX11_looks_12 : decode cX11_looks 12 = .ok (.getfield 90, 3) := by decide +kernel
theorem dX11_looks_15 : decode cX11_looks 15 = .ok (.iconst 1, 1) := by decide +kernel
theorem dX11_looks_16 : decode cX11_looks 16 = .ok (.aload_n 0, 1) := by decide +kernel
theorem dX11_looks_17 : decode cX11_looks 17 = .ok (.invokevirtual 191, 3) := by decide +kernel
theorem dX11_looks_20 : decode cX11_looks 20 = .ok (.i2l, 1) := by decide +kernel
theorem dX11_looks_21 : decode cX11_looks 21 = .ok (.lastore, 1) := by decide +kernel
theorem dX11_looks_22 : decode cX11_looks 22 = .ok (.aload_n 0, 1) := by decide +kernel
theorem dX11_looks_23 : decode cX11_looks 23 = .ok (.getfield 90, 3) := by decide +kernel
theorem dX11_looks_26 : decode cX11_looks 26 = .ok (.iconst 2, 1) := by decide +kernel
theorem dX11_looks_27 : decode cX11_looks 27 = .ok (.aload_n 0, 1) := by decide +kernel
theorem dX11_looks_28 : decode cX11_looks 28 = .ok (.getfield 181, 3) := by decide +kernel
theorem dX11_looks_31 : decode cX11_looks 31 = .ok (.i2l, 1) := by decide +kernel
theorem dX11_looks_32 : decode cX11_looks 32 = .ok (.lastore, 1) := by decide +kernel
theorem dX11_looks_33 : decode cX11_looks 33 = .ok (.aload_n 0, 1) := by decide +kernel
theorem dX11_looks_34 : decode cX11_looks 34 = .ok (.getfield 90, 3) := by decide +kernel
theorem dX11_looks_37 : decode cX11_looks 37 = .ok (.iconst 3, 1) := by decide +kernel
theorem dX11_looks_38 : decode cX11_looks 38 = .ok (.aload_n 0, 1) := by decide +kernel
theorem dX11_looks_39 : decode cX11_looks 39 = .ok (.getfield 7, 3) := by decide +kernel
theorem dX11_looks_42 : decode cX11_looks 42 = .ok (.i2l, 1) := by decide +kernel
theorem dX11_looks_43 : decode cX11_looks 43 = .ok (.lastore, 1) := by decide +kernel
theorem dX11_looks_44 : decode cX11_looks 44 = .ok (.aload_n 0, 1) := by decide +kernel
theorem dX11_looks_45 : decode cX11_looks 45 = .ok (.getfield 90, 3) := by decide +kernel
theorem dX11_looks_48 : decode cX11_looks 48 = .ok (.iconst 4, 1) := by decide +kernel
theorem dX11_looks_49 : decode cX11_looks 49 = .ok (.aload_n 0, 1) := by decide +kernel
theorem dX11_looks_50 : decode cX11_looks 50 = .ok (.getfield 184, 3) := by decide +kernel
theorem dX11_looks_53 : decode cX11_looks 53 = .ok (.i2l, 1) := by decide +kernel
theorem dX11_looks_54 : decode cX11_looks 54 = .ok (.lastore, 1) := by decide +kernel
theorem dX11_looks_55 : decode cX11_looks 55 = .ok (.aload_n 0, 1) := by decide +kernel
theorem dX11_looks_56 : decode cX11_looks 56 = .ok (.getfield 90, 3) := by decide +kernel
theorem dX11_looks_59 : decode cX11_looks 59 = .ok (.iconst 5, 1) := by decide +kernel
theorem dX11_looks_60 : decode cX11_looks 60 = .ok (.aload_n 0, 1) := by decide +kernel
theorem dX11_looks_61 : decode cX11_looks 61 = .ok (.getfield 178, 3) := by decide +kernel
theorem dX11_looks_64 : decode cX11_looks 64 = .ok (.i2l, 1) := by decide +kernel
theorem dX11_looks_65 : decode cX11_looks 65 = .ok (.lastore, 1) := by decide +kernel
theorem dX11_looks_66 : decode cX11_looks 66 = .ok (.aload_n 0, 1) := by decide +kernel
theorem dX11_looks_67 : decode cX11_looks 67 = .ok (.getfield 90, 3) := by decide +kernel
theorem dX11_looks_70 : decode cX11_looks 70 = .ok (.bipush 6, 2) := by decide +kernel
theorem dX11_looks_72 : decode cX11_looks 72 = .ok (.aload_n 0, 1) := by decide +kernel
theorem dX11_looks_73 : decode cX11_looks 73 = .ok (.iload_n 1, 1) := by decide +kernel
theorem dX11_looks_74 : decode cX11_looks 74 = .ok (.invokevirtual 206, 3) := by decide +kernel
theorem dX11_looks_77 : decode cX11_looks 77 = .ok (.i2l, 1) := by decide +kernel
theorem dX11_looks_78 : decode cX11_looks 78 = .ok (.lastore, 1) := by decide +kernel
theorem dX11_looks_79 : decode cX11_looks 79 = .ok (.aload_n 0, 1) := by decide +kernel
theorem dX11_looks_80 : decode cX11_looks 80 = .ok (.getfield 90, 3) := by decide +kernel
theorem dX11_looks_83 : decode cX11_looks 83 = .ok (.bipush 7, 2) := by decide +kernel
theorem dX11_looks_85 : decode cX11_looks 85 = .ok (.aload_n 0, 1) := by decide +kernel
theorem dX11_looks_86 : decode cX11_looks 86 = .ok (.iload_n 1, 1) := by decide +kernel
theorem dX11_looks_87 : decode cX11_looks 87 = .ok (.invokevirtual 209, 3) := by decide +kernel
theorem dX11_looks_90 : decode cX11_looks 90 = .ok (.i2l, 1) := by decide +kernel
theorem dX11_looks_91 : decode cX11_looks 91 = .ok (.lastore, 1) := by decide +kernel
theorem dX11_looks_92 : decode cX11_looks 92 = .ok (.aload_n 0, 1) := by decide +kernel
theorem dX11_looks_93 : decode cX11_looks 93 = .ok (.getfield 90, 3) := by decide +kernel
theorem dX11_looks_96 : decode cX11_looks 96 = .ok (.bipush 8, 2) := by decide +kernel
theorem dX11_looks_98 : decode cX11_looks 98 = .ok (.aload_n 0, 1) := by decide +kernel
theorem dX11_looks_99 : decode cX11_looks 99 = .ok (.iload_n 1, 1) := by decide +kernel
theorem dX11_looks_100 : decode cX11_looks 100 = .ok (.invokevirtual 199, 3) := by decide +kernel
theorem dX11_looks_103 : decode cX11_looks 103 = .ok (.i2l, 1) := by decide +kernel
theorem dX11_looks_104 : decode cX11_looks 104 = .ok (.lastore, 1) := by decide +kernel
theorem dX11_looks_105 : decode cX11_looks 105 = .ok (.aload_n 0, 1) := by decide +kernel
theorem dX11_looks_106 : decode cX11_looks 106 = .ok (.getfield 90, 3) := by decide +kernel
theorem dX11_looks_109 : decode cX11_looks 109 = .ok (.bipush 9, 2) := by decide +kernel
theorem dX11_looks_111 : decode cX11_looks 111 = .ok (.aload_n 0, 1) := by decide +kernel
theorem dX11_looks_112 : decode cX11_looks 112 = .ok (.getfield 26, 3) := by decide +kernel
theorem dX11_looks_115 : decode cX11_looks 115 = .ok (.iload_n 1, 1) := by decide +kernel
theorem dX11_looks_116 : decode cX11_looks 116 = .ok (.iaload, 1) := by decide +kernel
theorem dX11_looks_117 : decode cX11_looks 117 = .ok (.i2l, 1) := by decide +kernel
theorem dX11_looks_118 : decode cX11_looks 118 = .ok (.lastore, 1) := by decide +kernel
theorem dX11_looks_119 : decode cX11_looks 119 = .ok (.aload_n 0, 1) := by decide +kernel
theorem dX11_looks_120 : decode cX11_looks 120 = .ok (.getfield 90, 3) := by decide +kernel
theorem dX11_looks_123 : decode cX11_looks 123 = .ok (.bipush 10, 2) := by decide +kernel
theorem dX11_looks_125 : decode cX11_looks 125 = .ok (.aload_n 0, 1) := by decide +kernel
theorem dX11_looks_126 : decode cX11_looks 126 = .ok (.getfield 29, 3) := by decide +kernel
theorem dX11_looks_129 : decode cX11_looks 129 = .ok (.iload_n 1, 1) := by decide +kernel
theorem dX11_looks_130 : decode cX11_looks 130 = .ok (.iaload, 1) := by decide +kernel
theorem dX11_looks_131 : decode cX11_looks 131 = .ok (.i2l, 1) := by decide +kernel
theorem dX11_looks_132 : decode cX11_looks 132 = .ok (.lastore, 1) := by decide +kernel
theorem dX11_looks_133 : decode cX11_looks 133 = .ok (.aload_n 0, 1) := by decide +kernel
theorem dX11_looks_134 : decode cX11_looks 134 = .ok (.getfield 90, 3) := by decide +kernel
theorem dX11_looks_137 : decode cX11_looks 137 = .ok (.bipush 11, 2) := by decide +kernel
theorem dX11_looks_139 : decode cX11_looks 139 = .ok (.iload_n 1, 1) := by decide +kernel
theorem dX11_looks_140 : decode cX11_looks 140 = .ok (.i2l, 1) := by decide +kernel
theorem dX11_looks_141 : decode cX11_looks 141 = .ok (.lastore, 1) := by decide +kernel
theorem dX11_looks_142 : decode cX11_looks 142 = .ok (.aload_n 0, 1) := by decide +kernel
theorem dX11_looks_143 : decode cX11_looks 143 = .ok (.getfield 90, 3) := by decide +kernel
theorem dX11_looks_146 : decode cX11_looks 146 = .ok (.bipush 12, 2) := by decide +kernel
theorem dX11_looks_148 : decode cX11_looks 148 = .ok (.aload_n 0, 1) := by decide +kernel
theorem dX11_looks_149 : decode cX11_looks 149 = .ok (.getfield 13, 3) := by decide +kernel
theorem dX11_looks_152 : decode cX11_looks 152 = .ok (.iconst (-1), 1) := by decide +kernel
theorem dX11_looks_153 : decode cX11_looks 153 = .ok (.if_icmp .ne 7, 3) := by decide +kernel
theorem dX11_looks_156 : decode cX11_looks 156 = .ok (.lconst 0, 1) := by decide +kernel
theorem dX11_looks_157 : decode cX11_looks 157 = .ok (.goto 4, 3) := by decide +kernel
theorem dX11_looks_160 : decode cX11_looks 160 = .ok (.lconst 1, 1) := by decide +kernel
theorem dX11_looks_161 : decode cX11_looks 161 = .ok (.lastore, 1) := by decide +kernel
theorem dX11_looks_162 : decode cX11_looks 162 = .ok (.return_, 1) := by decide +kernel
theorem dX11_holds_0 : decode cX11_holds 0 = .ok (.aload_n 0, 1) := by decide +kernel
theorem dX11_holds_1 : decode cX11_holds 1 = .ok (.getfield 81, 3) := by decide +kernel
theorem dX11_holds_4 : decode cX11_holds 4 = .ok (.iload_n 1, 1) := by decide +kernel
theorem dX11_holds_5 : decode cX11_holds 5 = .ok (.iaload, 1) := by decide +kernel
theorem dX11_holds_6 : decode cX11_holds 6 = .ok (.aload_n 0, 1) := by decide +kernel
theorem dX11_holds_7 : decode cX11_holds 7 = .ok (.getfield 84, 3) := by decide +kernel
theorem dX11_holds_10 : decode cX11_holds 10 = .ok (.iload_n 1, 1) := by decide +kernel
theorem dX11_holds_11 : decode cX11_holds 11 = .ok (.iaload, 1) := by decide +kernel
theorem dX11_holds_12 : decode cX11_holds 12 = .ok (.if_icmp .eq 28, 3) := by decide +kernel
theorem dX11_holds_15 : decode cX11_holds 15 = .ok (.aload_n 0, 1) := by decide +kernel
theorem dX11_holds_16 : decode cX11_holds 16 = .ok (.iload_n 1, 1) := by decide +kernel
theorem dX11_holds_17 : decode cX11_holds 17 = .ok (.bipush 14, 2) := by decide +kernel
theorem dX11_holds_19 : decode cX11_holds 19 = .ok (.idiv, 1) := by decide +kernel
theorem dX11_holds_20 : decode cX11_holds 20 = .ok (.aload_n 0, 1) := by decide +kernel
theorem dX11_holds_21 : decode cX11_holds 21 = .ok (.getfield 81, 3) := by decide +kernel
theorem dX11_holds_24 : decode cX11_holds 24 = .ok (.iload_n 1, 1) := by decide +kernel
theorem dX11_holds_25 : decode cX11_holds 25 = .ok (.iaload, 1) := by decide +kernel
theorem dX11_holds_26 : decode cX11_holds 26 = .ok (.aload_n 0, 1) := by decide +kernel
theorem dX11_holds_27 : decode cX11_holds 27 = .ok (.getfield 84, 3) := by decide +kernel
theorem dX11_holds_30 : decode cX11_holds 30 = .ok (.iload_n 1, 1) := by decide +kernel
theorem dX11_holds_31 : decode cX11_holds 31 = .ok (.iaload, 1) := by decide +kernel
theorem dX11_holds_32 : decode cX11_holds 32 = .ok (.invokevirtual 411, 3) := by decide +kernel
theorem dX11_holds_35 : decode cX11_holds 35 = .ok (.lconst 1, 1) := by decide +kernel
theorem dX11_holds_36 : decode cX11_holds 36 = .ok (.lcmp, 1) := by decide +kernel
theorem dX11_holds_37 : decode cX11_holds 37 = .ok (.ifCond .ne 7, 3) := by decide +kernel
theorem dX11_holds_40 : decode cX11_holds 40 = .ok (.iconst 1, 1) := by decide +kernel
theorem dX11_holds_41 : decode cX11_holds 41 = .ok (.goto 4, 3) := by decide +kernel
theorem dX11_holds_44 : decode cX11_holds 44 = .ok (.iconst 0, 1) := by decide +kernel
theorem dX11_holds_45 : decode cX11_holds 45 = .ok (.ireturn, 1) := by decide +kernel
theorem dX11_areStory_0 : decode cX11_areStory 0 = .ok (.iload_n 1, 1) := by decide +kernel
theorem dX11_areStory_1 : decode cX11_areStory 1 = .ok (.i2l, 1) := by decide +kernel
theorem dX11_areStory_2 : decode cX11_areStory 2 = .ok (.lconst 0, 1) := by decide +kernel
theorem dX11_areStory_3 : decode cX11_areStory 3 = .ok (.aload_n 0, 1) := by decide +kernel
theorem dX11_areStory_4 : decode cX11_areStory 4 = .ok (.getfield 60, 3) := by decide +kernel
theorem dX11_areStory_7 : decode cX11_areStory 7 = .ok (.iconst 0, 1) := by decide +kernel
theorem dX11_areStory_8 : decode cX11_areStory 8 = .ok (.iaload, 1) := by decide +kernel
theorem dX11_areStory_9 : decode cX11_areStory 9 = .ok (.iconst 1, 1) := by decide +kernel
theorem dX11_areStory_10 : decode cX11_areStory 10 = .ok (.isub, 1) := by decide +kernel
theorem dX11_areStory_11 : decode cX11_areStory 11 = .ok (.i2l, 1) := by decide +kernel
theorem dX11_areStory_12 : decode cX11_areStory 12 = .ok (.invokestatic 148, 3) := by decide +kernel
theorem dX11_areStory_15 : decode cX11_areStory 15 = .ok (.ifCond .eq 15, 3) := by decide +kernel
theorem dX11_areStory_18 : decode cX11_areStory 18 = .ok (.aload_n 0, 1) := by decide +kernel
theorem dX11_areStory_19 : decode cX11_areStory 19 = .ok (.iload_n 2, 1) := by decide +kernel
theorem dX11_areStory_20 : decode cX11_areStory 20 = .ok (.invokevirtual 241, 3) := by decide +kernel
theorem dX11_areStory_23 : decode cX11_areStory 23 = .ok (.ifCond .eq 7, 3) := by decide +kernel
theorem dX11_areStory_26 : decode cX11_areStory 26 = .ok (.iconst 1, 1) := by decide +kernel
theorem dX11_areStory_27 : decode cX11_areStory 27 = .ok (.goto 4, 3) := by decide +kernel
theorem dX11_areStory_30 : decode cX11_areStory 30 = .ok (.iconst 0, 1) := by decide +kernel
theorem dX11_areStory_31 : decode cX11_areStory 31 = .ok (.ireturn, 1) := by decide +kernel
theorem dX11_isFit_0 : decode cX11_isFit 0 = .ok (.aload_n 0, 1) := by decide +kernel
theorem dX11_isFit_1 : decode cX11_isFit 1 = .ok (.iload_n 2, 1) := by decide +kernel
theorem dX11_isFit_2 : decode cX11_isFit 2 = .ok (.invokevirtual 415, 3) := by decide +kernel
theorem dX11_isFit_5 : decode cX11_isFit 5 = .ok (.iconst 1, 1) := by decide +kernel
theorem dX11_isFit_6 : decode cX11_isFit 6 = .ok (.istore_n 3, 1) := by decide +kernel
theorem dX11_isFit_7 : decode cX11_isFit 7 = .ok (.bipush 14, 2) := by decide +kernel
theorem dX11_isFit_9 : decode cX11_isFit 9 = .ok (.iload_n 1, 1) := by decide +kernel
theorem dX11_isFit_10 : decode cX11_isFit 10 = .ok (.imul, 1) := by decide +kernel
theorem dX11_isFit_11 : decode cX11_isFit 11 = .ok (.istore 4, 2) := by decide +kernel
theorem dX11_isFit_13 : decode cX11_isFit 13 = .ok (.iload 4, 2) := by decide +kernel
theorem dX11_isFit_15 : decode cX11_isFit 15 = .ok (.bipush 14, 2) := by decide +kernel
theorem dX11_isFit_17 : decode cX11_isFit 17 = .ok (.iload_n 1, 1) := by decide +kernel
theorem dX11_isFit_18 : decode cX11_isFit 18 = .ok (.imul, 1) := by decide +kernel
theorem dX11_isFit_19 : decode cX11_isFit 19 = .ok (.aload_n 0, 1) := by decide +kernel
theorem dX11_isFit_20 : decode cX11_isFit 20 = .ok (.getfield 69, 3) := by decide +kernel
theorem dX11_isFit_23 : decode cX11_isFit 23 = .ok (.iload_n 1, 1) := by decide +kernel
theorem dX11_isFit_24 : decode cX11_isFit 24 = .ok (.iaload, 1) := by decide +kernel
theorem dX11_isFit_25 : decode cX11_isFit 25 = .ok (.iadd, 1) := by decide +kernel
theorem dX11_isFit_26 : decode cX11_isFit 26 = .ok (.if_icmp .ge 39, 3) := by decide +kernel
theorem dX11_isFit_29 : decode cX11_isFit 29 = .ok (.iload_n 3, 1) := by decide +kernel
theorem dX11_isFit_30 : decode cX11_isFit 30 = .ok (.ifCond .eq 27, 3) := by decide +kernel
theorem dX11_isFit_33 : decode cX11_isFit 33 = .ok (.aload_n 0, 1) := by decide +kernel
theorem dX11_isFit_34 : decode cX11_isFit 34 = .ok (.getfield 72, 3) := by decide +kernel
theorem dX11_isFit_37 : decode cX11_isFit 37 = .ok (.iload 4, 2) := by decide +kernel
theorem dX11_isFit_39 : decode cX11_isFit 39 = .ok (.iaload, 1) := by decide +kernel
theorem dX11_isFit_40 : decode cX11_isFit 40 = .ok (.iconst 1, 1) := by decide +kernel
theorem dX11_isFit_41 : decode cX11_isFit 41 = .ok (.if_icmp .ne 12, 3) := by decide +kernel
theorem dX11_isFit_44 : decode cX11_isFit 44 = .ok (.aload_n 0, 1) := by decide +kernel
theorem dX11_isFit_45 : decode cX11_isFit 45 = .ok (.iload 4, 2) := by decide +kernel
theorem dX11_isFit_47 : decode cX11_isFit 47 = .ok (.invokevirtual 418, 3) := by decide +kernel
theorem dX11_isFit_50 : decode cX11_isFit 50 = .ok (.ifCond .eq 7, 3) := by decide +kernel
theorem dX11_isFit_53 : decode cX11_isFit 53 = .ok (.iconst 1, 1) := by decide +kernel
theorem dX11_isFit_54 : decode cX11_isFit 54 = .ok (.goto 4, 3) := by decide +kernel
theorem dX11_isFit_57 : decode cX11_isFit 57 = .ok (.iconst 0, 1) := by decide +kernel
theorem dX11_isFit_58 : decode cX11_isFit 58 = .ok (.istore_n 3, 1) := by decide +kernel
theorem dX11_isFit_59 : decode cX11_isFit 59 = .ok (.iinc 4 1, 3) := by decide +kernel
theorem dX11_isFit_62 : decode cX11_isFit 62 = .ok (.goto (-49), 3) := by decide +kernel
theorem dX11_isFit_65 : decode cX11_isFit 65 = .ok (.iload_n 3, 1) := by decide +kernel
theorem dX11_isFit_66 : decode cX11_isFit 66 = .ok (.ireturn, 1) := by decide +kernel
theorem dX11_fits_0 : decode cX11_fits 0 = .ok (.aload_n 0, 1) := by decide +kernel
theorem dX11_fits_1 : decode cX11_fits 1 = .ok (.iload_n 1, 1) := by decide +kernel
theorem dX11_fits_2 : decode cX11_fits 2 = .ok (.iload_n 2, 1) := by decide +kernel
theorem dX11_fits_3 : decode cX11_fits 3 = .ok (.invokevirtual 421, 3) := by decide +kernel
theorem dX11_fits_6 : decode cX11_fits 6 = .ok (.ifCond .ne 7, 3) := by decide +kernel
theorem dX11_fits_9 : decode cX11_fits 9 = .ok (.iconst (-1), 1) := by decide +kernel
theorem dX11_fits_10 : decode cX11_fits 10 = .ok (.goto 17, 3) := by decide +kernel
theorem dX11_fits_13 : decode cX11_fits 13 = .ok (.aload_n 0, 1) := by decide +kernel
theorem dX11_fits_14 : decode cX11_fits 14 = .ok (.iload_n 1, 1) := by decide +kernel
theorem dX11_fits_15 : decode cX11_fits 15 = .ok (.iload_n 2, 1) := by decide +kernel
theorem dX11_fits_16 : decode cX11_fits 16 = .ok (.invokevirtual 424, 3) := by decide +kernel
theorem dX11_fits_19 : decode cX11_fits 19 = .ok (.ifCond .eq 7, 3) := by decide +kernel
theorem dX11_fits_22 : decode cX11_fits 22 = .ok (.iconst 1, 1) := by decide +kernel
theorem dX11_fits_23 : decode cX11_fits 23 = .ok (.goto 4, 3) := by decide +kernel
theorem dX11_fits_26 : decode cX11_fits 26 = .ok (.iconst 0, 1) := by decide +kernel
theorem dX11_fits_27 : decode cX11_fits 27 = .ok (.ireturn, 1) := by decide +kernel
theorem dX11_trace_0 : decode cX11_trace 0 = .ok (.iload_n 1, 1) := by decide +kernel
theorem dX11_trace_1 : decode cX11_trace 1 = .ok (.i2l, 1) := by decide +kernel
theorem dX11_trace_2 : decode cX11_trace 2 = .ok (.lconst 0, 1) := by decide +kernel
theorem dX11_trace_3 : decode cX11_trace 3 = .ok (.ldc2_w 427, 3) := by decide +kernel
theorem dX11_trace_6 : decode cX11_trace 6 = .ok (.invokestatic 148, 3) := by decide +kernel
theorem dX11_trace_9 : decode cX11_trace 9 = .ok (.ifCond .eq 15, 3) := by decide +kernel
theorem dX11_trace_12 : decode cX11_trace 12 = .ok (.iload_n 2, 1) := by decide +kernel
theorem dX11_trace_13 : decode cX11_trace 13 = .ok (.i2l, 1) := by decide +kernel
theorem dX11_trace_14 : decode cX11_trace 14 = .ok (.ldc2_w 429, 3) := by decide +kernel
theorem dX11_trace_17 : decode cX11_trace 17 = .ok (.lconst 1, 1) := by decide +kernel
theorem dX11_trace_18 : decode cX11_trace 18 = .ok (.invokestatic 148, 3) := by decide +kernel
theorem dX11_trace_21 : decode cX11_trace 21 = .ok (.ifCond .ne 6, 3) := by decide +kernel
theorem dX11_trace_24 : decode cX11_trace 24 = .ok (.bipush (-2), 2) := by decide +kernel
theorem dX11_trace_26 : decode cX11_trace 26 = .ok (.ireturn, 1) := by decide +kernel
theorem dX11_trace_27 : decode cX11_trace 27 = .ok (.aload_n 0, 1) := by decide +kernel
theorem dX11_trace_28 : decode cX11_trace 28 = .ok (.getfield 97, 3) := by decide +kernel
theorem dX11_trace_31 : decode cX11_trace 31 = .ok (.iload_n 1, 1) := by decide +kernel
theorem dX11_trace_32 : decode cX11_trace 32 = .ok (.iaload, 1) := by decide +kernel
theorem dX11_trace_33 : decode cX11_trace 33 = .ok (.istore_n 3, 1) := by decide +kernel
theorem dX11_trace_34 : decode cX11_trace 34 = .ok (.aload_n 0, 1) := by decide +kernel
theorem dX11_trace_35 : decode cX11_trace 35 = .ok (.getfield 97, 3) := by decide +kernel
theorem dX11_trace_38 : decode cX11_trace 38 = .ok (.iload_n 1, 1) := by decide +kernel
theorem dX11_trace_39 : decode cX11_trace 39 = .ok (.iload_n 2, 1) := by decide +kernel
theorem dX11_trace_40 : decode cX11_trace 40 = .ok (.iastore, 1) := by decide +kernel
theorem dX11_trace_41 : decode cX11_trace 41 = .ok (.iload_n 3, 1) := by decide +kernel
theorem dX11_trace_42 : decode cX11_trace 42 = .ok (.ireturn, 1) := by decide +kernel
theorem dX11_chanceOf_0 : decode cX11_chanceOf 0 = .ok (.aload_n 0, 1) := by decide +kernel
theorem dX11_chanceOf_1 : decode cX11_chanceOf 1 = .ok (.iload_n 2, 1) := by decide +kernel
theorem dX11_chanceOf_2 : decode cX11_chanceOf 2 = .ok (.invokevirtual 415, 3) := by decide +kernel
theorem dX11_chanceOf_5 : decode cX11_chanceOf 5 = .ok (.bipush 14, 2) := by decide +kernel
theorem dX11_chanceOf_7 : decode cX11_chanceOf 7 = .ok (.iload_n 1, 1) := by decide +kernel
theorem dX11_chanceOf_8 : decode cX11_chanceOf 8 = .ok (.imul, 1) := by decide +kernel
theorem dX11_chanceOf_9 : decode cX11_chanceOf 9 = .ok (.istore 4, 2) := by decide +kernel
theorem dX11_chanceOf_11 : decode cX11_chanceOf 11 = .ok (.iload 4, 2) := by decide +kernel
theorem dX11_chanceOf_13 : decode cX11_chanceOf 13 = .ok (.bipush 14, 2) := by decide +kernel
theorem dX11_chanceOf_15 : decode cX11_chanceOf 15 = .ok (.iload_n 1, 1) := by decide +kernel
theorem dX11_chanceOf_16 : decode cX11_chanceOf 16 = .ok (.imul, 1) := by decide +kernel
theorem dX11_chanceOf_17 : decode cX11_chanceOf 17 = .ok (.aload_n 0, 1) := by decide +kernel
theorem dX11_chanceOf_18 : decode cX11_chanceOf 18 = .ok (.getfield 69, 3) := by decide +kernel
theorem dX11_chanceOf_21 : decode cX11_chanceOf 21 = .ok (.iload_n 1, 1) := by decide +kernel
theorem dX11_chanceOf_22 : decode cX11_chanceOf 22 = .ok (.iaload, 1) := by decide +kernel
theorem dX11_chanceOf_23 : decode cX11_chanceOf 23 = .ok (.iadd, 1) := by decide +kernel
theorem dX11_chanceOf_24 : decode cX11_chanceOf 24 = .ok (.if_icmp .ge 48, 3) := by decide +kernel
theorem dX11_chanceOf_27 : decode cX11_chanceOf 27 = .ok (.aload_n 0, 1) := by decide +kernel
theorem dX11_chanceOf_28 : decode cX11_chanceOf 28 = .ok (.getfield 72, 3) := by decide +kernel
theorem dX11_chanceOf_31 : decode cX11_chanceOf 31 = .ok (.iload 4, 2) := by decide +kernel
theorem dX11_chanceOf_33 : decode cX11_chanceOf 33 = .ok (.iaload, 1) := by decide +kernel
theorem dX11_chanceOf_34 : decode cX11_chanceOf 34 = .ok (.iconst 2, 1) := by decide +kernel
theorem dX11_chanceOf_35 : decode cX11_chanceOf 35 = .ok (.if_icmp .ne 31, 3) := by decide +kernel
theorem dX11_chanceOf_38 : decode cX11_chanceOf 38 = .ok (.aload_n 0, 1) := by decide +kernel
theorem dX11_chanceOf_39 : decode cX11_chanceOf 39 = .ok (.getfield 75, 3) := by decide +kernel
theorem dX11_chanceOf_42 : decode cX11_chanceOf 42 = .ok (.iload 4, 2) := by decide +kernel
theorem dX11_chanceOf_44 : decode cX11_chanceOf 44 = .ok (.iaload, 1) := by decide +kernel
theorem dX11_chanceOf_45 : decode cX11_chanceOf 45 = .ok (.iload_n 3, 1) := by decide +kernel
theorem dX11_chanceOf_46 : decode cX11_chanceOf 46 = .ok (.if_icmp .ne 20, 3) := by decide +kernel
theorem dX11_chanceOf_49 : decode cX11_chanceOf 49 = .ok (.aload_n 0, 1) := by decide +kernel
theorem dX11_chanceOf_50 : decode cX11_chanceOf 50 = .ok (.iload 4, 2) := by decide +kernel
theorem dX11_chanceOf_52 : decode cX11_chanceOf 52 = .ok (.invokevirtual 418, 3) := by decide +kernel
theorem dX11_chanceOf_55 : decode cX11_chanceOf 55 = .ok (.ifCond .eq 11, 3) := by decide +kernel
theorem dX11_chanceOf_58 : decode cX11_chanceOf 58 = .ok (.aload_n 0, 1) := by decide +kernel
theorem dX11_chanceOf_59 : decode cX11_chanceOf 59 = .ok (.getfield 78, 3) := by decide +kernel
theorem dX11_chanceOf_62 : decode cX11_chanceOf 62 = .ok (.iload 4, 2) := by decide +kernel
theorem dX11_chanceOf_64 : decode cX11_chanceOf 64 = .ok (.iaload, 1) := by decide +kernel
theorem dX11_chanceOf_65 : decode cX11_chanceOf 65 = .ok (.ireturn, 1) := by decide +kernel
theorem dX11_chanceOf_66 : decode cX11_chanceOf 66 = .ok (.iinc 4 1, 3) := by decide +kernel
theorem dX11_chanceOf_69 : decode cX11_chanceOf 69 = .ok (.goto (-58), 3) := by decide +kernel
theorem dX11_chanceOf_72 : decode cX11_chanceOf 72 = .ok (.sipush 500, 3) := by decide +kernel
theorem dX11_chanceOf_75 : decode cX11_chanceOf 75 = .ok (.ireturn, 1) := by decide +kernel
theorem dX11_chance_0 : decode cX11_chance 0 = .ok (.aload_n 0, 1) := by decide +kernel
theorem dX11_chance_1 : decode cX11_chance 1 = .ok (.iload_n 1, 1) := by decide +kernel
theorem dX11_chance_2 : decode cX11_chance 2 = .ok (.iload_n 2, 1) := by decide +kernel
theorem dX11_chance_3 : decode cX11_chance 3 = .ok (.invokevirtual 421, 3) := by decide +kernel
theorem dX11_chance_6 : decode cX11_chance 6 = .ok (.ifCond .eq 25, 3) := by decide +kernel
theorem dX11_chance_9 : decode cX11_chance 9 = .ok (.iload_n 3, 1) := by decide +kernel
theorem dX11_chance_10 : decode cX11_chance 10 = .ok (.i2l, 1) := by decide +kernel
theorem dX11_chance_11 : decode cX11_chance 11 = .ok (.lconst 0, 1) := by decide +kernel
theorem dX11_chance_12 : decode cX11_chance 12 = .ok (.ldc2_w 427, 3) := by decide +kernel
theorem dX11_chance_15 : decode cX11_chance 15 = .ok (.invokestatic 148, 3) := by decide +kernel
theorem dX11_chance_18 : decode cX11_chance 18 = .ok (.ifCond .eq 13, 3) := by decide +kernel
theorem dX11_chance_21 : decode cX11_chance 21 = .ok (.aload_n 0, 1) := by decide +kernel
theorem dX11_chance_22 : decode cX11_chance 22 = .ok (.iload_n 1, 1) := by decide +kernel
theorem dX11_chance_23 : decode cX11_chance 23 = .ok (.iload_n 2, 1) := by decide +kernel
theorem dX11_chance_24 : decode cX11_chance 24 = .ok (.iload_n 3, 1) := by decide +kernel
theorem dX11_chance_25 : decode cX11_chance 25 = .ok (.invokevirtual 431, 3) := by decide +kernel
theorem dX11_chance_28 : decode cX11_chance 28 = .ok (.goto 4, 3) := by decide +kernel
theorem dX11_chance_31 : decode cX11_chance 31 = .ok (.iconst (-1), 1) := by decide +kernel
theorem dX11_chance_32 : decode cX11_chance 32 = .ok (.ireturn, 1) := by decide +kernel
theorem dX11_weighs_0 : decode cX11_weighs 0 = .ok (.ldc2_w 435, 3) := by decide +kernel
theorem dX11_weighs_3 : decode cX11_weighs 3 = .ok (.lstore_n 3, 1) := by decide +kernel
theorem dX11_weighs_4 : decode cX11_weighs 4 = .ok (.bipush 14, 2) := by decide +kernel
theorem dX11_weighs_6 : decode cX11_weighs 6 = .ok (.iload_n 1, 1) := by decide +kernel
theorem dX11_weighs_7 : decode cX11_weighs 7 = .ok (.imul, 1) := by decide +kernel
theorem dX11_weighs_8 : decode cX11_weighs 8 = .ok (.istore 5, 2) := by decide +kernel
theorem dX11_weighs_10 : decode cX11_weighs 10 = .ok (.iload 5, 2) := by decide +kernel
theorem dX11_weighs_12 : decode cX11_weighs 12 = .ok (.bipush 14, 2) := by decide +kernel
theorem dX11_weighs_14 : decode cX11_weighs 14 = .ok (.iload_n 1, 1) := by decide +kernel
theorem dX11_weighs_15 : decode cX11_weighs 15 = .ok (.imul, 1) := by decide +kernel
theorem dX11_weighs_16 : decode cX11_weighs 16 = .ok (.aload_n 0, 1) := by decide +kernel
theorem dX11_weighs_17 : decode cX11_weighs 17 = .ok (.getfield 69, 3) := by decide +kernel
theorem dX11_weighs_20 : decode cX11_weighs 20 = .ok (.iload_n 1, 1) := by decide +kernel
theorem dX11_weighs_21 : decode cX11_weighs 21 = .ok (.iaload, 1) := by decide +kernel
theorem dX11_weighs_22 : decode cX11_weighs 22 = .ok (.iadd, 1) := by decide +kernel
theorem dX11_weighs_23 : decode cX11_weighs 23 = .ok (.if_icmp .ge 36, 3) := by decide +kernel
theorem dX11_weighs_26 : decode cX11_weighs 26 = .ok (.aload_n 0, 1) := by decide +kernel
theorem dX11_weighs_27 : decode cX11_weighs 27 = .ok (.getfield 72, 3) := by decide +kernel
theorem dX11_weighs_30 : decode cX11_weighs 30 = .ok (.iload 5, 2) := by decide +kernel
theorem dX11_weighs_32 : decode cX11_weighs 32 = .ok (.iaload, 1) := by decide +kernel
theorem dX11_weighs_33 : decode cX11_weighs 33 = .ok (.ifCond .ne 18, 3) := by decide +kernel
theorem dX11_weighs_36 : decode cX11_weighs 36 = .ok (.ldc2_w 435, 3) := by decide +kernel
theorem dX11_weighs_39 : decode cX11_weighs 39 = .ok (.aload_n 0, 1) := by decide +kernel
theorem dX11_weighs_40 : decode cX11_weighs 40 = .ok (.getfield 75, 3) := by decide +kernel
theorem dX11_weighs_43 : decode cX11_weighs 43 = .ok (.iload 5, 2) := by decide +kernel
theorem dX11_weighs_45 : decode cX11_weighs 45 = .ok (.iaload, 1) := by decide +kernel
theorem dX11_weighs_46 : decode cX11_weighs 46 = .ok (.i2l, 1) := by decide +kernel
theorem dX11_weighs_47 : decode cX11_weighs 47 = .ok (.lmul, 1) := by decide +kernel
theorem dX11_weighs_48 : decode cX11_weighs 48 = .ok (.goto 4, 3) := by decide +kernel
theorem dX11_weighs_51 : decode cX11_weighs 51 = .ok (.lload_n 3, 1) := by decide +kernel
theorem dX11_weighs_52 : decode cX11_weighs 52 = .ok (.lstore_n 3, 1) := by decide +kernel
theorem dX11_weighs_53 : decode cX11_weighs 53 = .ok (.iinc 5 1, 3) := by decide +kernel
theorem dX11_weighs_56 : decode cX11_weighs 56 = .ok (.goto (-46), 3) := by decide +kernel
theorem dX11_weighs_59 : decode cX11_weighs 59 = .ok (.aload_n 0, 1) := by decide +kernel
theorem dX11_weighs_60 : decode cX11_weighs 60 = .ok (.iload_n 1, 1) := by decide +kernel
theorem dX11_weighs_61 : decode cX11_weighs 61 = .ok (.iload_n 2, 1) := by decide +kernel
theorem dX11_weighs_62 : decode cX11_weighs 62 = .ok (.invokevirtual 424, 3) := by decide +kernel
theorem dX11_weighs_65 : decode cX11_weighs 65 = .ok (.ifCond .eq 7, 3) := by decide +kernel
theorem dX11_weighs_68 : decode cX11_weighs 68 = .ok (.lload_n 3, 1) := by decide +kernel
theorem dX11_weighs_69 : decode cX11_weighs 69 = .ok (.goto 4, 3) := by decide +kernel
theorem dX11_weighs_72 : decode cX11_weighs 72 = .ok (.lconst 0, 1) := by decide +kernel
theorem dX11_weighs_73 : decode cX11_weighs 73 = .ok (.lstore_n 3, 1) := by decide +kernel
theorem dX11_weighs_74 : decode cX11_weighs 74 = .ok (.iconst 0, 1) := by decide +kernel
theorem dX11_weighs_75 : decode cX11_weighs 75 = .ok (.istore 5, 2) := by decide +kernel
theorem dX11_weighs_77 : decode cX11_weighs 77 = .ok (.iload 5, 2) := by decide +kernel
theorem dX11_weighs_79 : decode cX11_weighs 79 = .ok (.bipush 16, 2) := by decide +kernel
theorem dX11_weighs_81 : decode cX11_weighs 81 = .ok (.if_icmp .ge 60, 3) := by decide +kernel
theorem dX11_weighs_84 : decode cX11_weighs 84 = .ok (.aload_n 0, 1) := by decide +kernel
theorem dX11_weighs_85 : decode cX11_weighs 85 = .ok (.getfield 97, 3) := by decide +kernel
theorem dX11_weighs_88 : decode cX11_weighs 88 = .ok (.iload 5, 2) := by decide +kernel
theorem dX11_weighs_90 : decode cX11_weighs 90 = .ok (.iaload, 1) := by decide +kernel
theorem dX11_weighs_91 : decode cX11_weighs 91 = .ok (.iconst (-1), 1) := by decide +kernel
theorem dX11_weighs_92 : decode cX11_weighs 92 = .ok (.if_icmp .eq 43, 3) := by decide +kernel
theorem dX11_weighs_95 : decode cX11_weighs 95 = .ok (.aload_n 0, 1) := by decide +kernel
theorem dX11_weighs_96 : decode cX11_weighs 96 = .ok (.iload_n 1, 1) := by decide +kernel
theorem dX11_weighs_97 : decode cX11_weighs 97 = .ok (.iload_n 2, 1) := by decide +kernel
theorem dX11_weighs_98 : decode cX11_weighs 98 = .ok (.iload 5, 2) := by decide +kernel
theorem dX11_weighs_100 : decode cX11_weighs 100 = .ok (.invokevirtual 431, 3) := by decide +kernel
theorem dX11_weighs_103 : decode cX11_weighs 103 = .ok (.istore 6, 2) := by decide +kernel
theorem dX11_weighs_105 : decode cX11_weighs 105 = .ok (.lload_n 3, 1) := by decide +kernel
theorem dX11_weighs_106 : decode cX11_weighs 106 = .ok (.aload_n 0, 1) := by decide +kernel
theorem dX11_weighs_107 : decode cX11_weighs 107 = .ok (.getfield 97, 3) := by decide +kernel
theorem dX11_weighs_110 : decode cX11_weighs 110 = .ok (.iload 5, 2) := by decide +kernel
theorem dX11_weighs_112 : decode cX11_weighs 112 = .ok (.iaload, 1) := by decide +kernel
theorem dX11_weighs_113 : decode cX11_weighs 113 = .ok (.iconst 1, 1) := by decide +kernel
theorem dX11_weighs_114 : decode cX11_weighs 114 = .ok (.if_icmp .ne 8, 3) := by decide +kernel
theorem dX11_weighs_117 : decode cX11_weighs 117 = .ok (.iload 6, 2) := by decide +kernel
theorem dX11_weighs_119 : decode cX11_weighs 119 = .ok (.goto 9, 3) := by decide +kernel
theorem dX11_weighs_122 : decode cX11_weighs 122 = .ok (.sipush 1000, 3) := by decide +kernel
theorem dX11_weighs_125 : decode cX11_weighs 125 = .ok (.iload 6, 2) := by decide +kernel
theorem dX11_weighs_127 : decode cX11_weighs 127 = .ok (.isub, 1) := by decide +kernel
theorem dX11_weighs_128 : decode cX11_weighs 128 = .ok (.i2l, 1) := by decide +kernel
theorem dX11_weighs_129 : decode cX11_weighs 129 = .ok (.lmul, 1) := by decide +kernel
theorem dX11_weighs_130 : decode cX11_weighs 130 = .ok (.ldc2_w 437, 3) := by decide +kernel
theorem dX11_weighs_133 : decode cX11_weighs 133 = .ok (.ldiv, 1) := by decide +kernel
theorem dX11_weighs_134 : decode cX11_weighs 134 = .ok (.lstore_n 3, 1) := by decide +kernel
theorem dX11_weighs_135 : decode cX11_weighs 135 = .ok (.iinc 5 1, 3) := by decide +kernel
theorem dX11_weighs_138 : decode cX11_weighs 138 = .ok (.goto (-61), 3) := by decide +kernel
theorem dX11_weighs_141 : decode cX11_weighs 141 = .ok (.lload_n 3, 1) := by decide +kernel
theorem dX11_weighs_142 : decode cX11_weighs 142 = .ok (.lreturn, 1) := by decide +kernel
theorem dX11_weight_0 : decode cX11_weight 0 = .ok (.aload_n 0, 1) := by decide +kernel
theorem dX11_weight_1 : decode cX11_weight 1 = .ok (.iload_n 1, 1) := by decide +kernel
theorem dX11_weight_2 : decode cX11_weight 2 = .ok (.iload_n 2, 1) := by decide +kernel
theorem dX11_weight_3 : decode cX11_weight 3 = .ok (.invokevirtual 421, 3) := by decide +kernel
theorem dX11_weight_6 : decode cX11_weight 6 = .ok (.ifCond .eq 12, 3) := by decide +kernel
theorem dX11_weight_9 : decode cX11_weight 9 = .ok (.aload_n 0, 1) := by decide +kernel
theorem dX11_weight_10 : decode cX11_weight 10 = .ok (.iload_n 1, 1) := by decide +kernel
theorem dX11_weight_11 : decode cX11_weight 11 = .ok (.iload_n 2, 1) := by decide +kernel
theorem dX11_weight_12 : decode cX11_weight 12 = .ok (.invokevirtual 439, 3) := by decide +kernel
theorem dX11_weight_15 : decode cX11_weight 15 = .ok (.goto 6, 3) := by decide +kernel
theorem dX11_weight_18 : decode cX11_weight 18 = .ok (.ldc2_w 429, 3) := by decide +kernel
theorem dX11_weight_21 : decode cX11_weight 21 = .ok (.lreturn, 1) := by decide +kernel
theorem dX11_odds_0 : decode cX11_odds 0 = .ok (.aload_n 0, 1) := by decide +kernel
theorem dX11_odds_1 : decode cX11_odds 1 = .ok (.iload_n 1, 1) := by decide +kernel
theorem dX11_odds_2 : decode cX11_odds 2 = .ok (.iload_n 2, 1) := by decide +kernel
theorem dX11_odds_3 : decode cX11_odds 3 = .ok (.invokevirtual 421, 3) := by decide +kernel
theorem dX11_odds_6 : decode cX11_odds 6 = .ok (.ifCond .ne 5, 3) := by decide +kernel
theorem dX11_odds_9 : decode cX11_odds 9 = .ok (.iconst (-1), 1) := by decide +kernel
theorem dX11_odds_10 : decode cX11_odds 10 = .ok (.ireturn, 1) := by decide +kernel
theorem dX11_odds_11 : decode cX11_odds 11 = .ok (.lconst 0, 1) := by decide +kernel
theorem dX11_odds_12 : decode cX11_odds 12 = .ok (.lstore_n 3, 1) := by decide +kernel
theorem dX11_odds_13 : decode cX11_odds 13 = .ok (.iconst 0, 1) := by decide +kernel
theorem dX11_odds_14 : decode cX11_odds 14 = .ok (.istore 5, 2) := by decide +kernel
theorem dX11_odds_16 : decode cX11_odds 16 = .ok (.iload 5, 2) := by decide +kernel
theorem dX11_odds_18 : decode cX11_odds 18 = .ok (.aload_n 0, 1) := by decide +kernel
theorem dX11_odds_19 : decode cX11_odds 19 = .ok (.getfield 60, 3) := by decide +kernel
theorem dX11_odds_22 : decode cX11_odds 22 = .ok (.iconst 0, 1) := by decide +kernel
theorem dX11_odds_23 : decode cX11_odds 23 = .ok (.iaload, 1) := by decide +kernel
theorem dX11_odds_24 : decode cX11_odds 24 = .ok (.if_icmp .ge 19, 3) := by decide +kernel
theorem dX11_odds_27 : decode cX11_odds 27 = .ok (.lload_n 3, 1) := by decide +kernel
theorem dX11_odds_28 : decode cX11_odds 28 = .ok (.aload_n 0, 1) := by decide +kernel
theorem dX11_odds_29 : decode cX11_odds 29 = .ok (.iload 5, 2) := by decide +kernel
theorem dX11_odds_31 : decode cX11_odds 31 = .ok (.iload_n 2, 1) := by decide +kernel
theorem dX11_odds_32 : decode cX11_odds 32 = .ok (.invokevirtual 439, 3) := by decide +kernel
theorem dX11_odds_35 : decode cX11_odds 35 = .ok (.ladd, 1) := by decide +kernel
theorem dX11_odds_36 : decode cX11_odds 36 = .ok (.lstore_n 3, 1) := by decide +kernel
theorem dX11_odds_37 : decode cX11_odds 37 = .ok (.iinc 5 1, 3) := by decide +kernel
theorem dX11_odds_40 : decode cX11_odds 40 = .ok (.goto (-24), 3) := by decide +kernel
theorem dX11_odds_43 : decode cX11_odds 43 = .ok (.lload_n 3, 1) := by decide +kernel
theorem dX11_odds_44 : decode cX11_odds 44 = .ok (.lconst 0, 1) := by decide +kernel
theorem dX11_odds_45 : decode cX11_odds 45 = .ok (.lcmp, 1) := by decide +kernel
theorem dX11_odds_46 : decode cX11_odds 46 = .ok (.ifCond .ne 8, 3) := by decide +kernel
theorem dX11_odds_49 : decode cX11_odds 49 = .ok (.bipush (-2), 2) := by decide +kernel
theorem dX11_odds_51 : decode cX11_odds 51 = .ok (.goto 16, 3) := by decide +kernel
theorem dX11_odds_54 : decode cX11_odds 54 = .ok (.aload_n 0, 1) := by decide +kernel
theorem dX11_odds_55 : decode cX11_odds 55 = .ok (.iload_n 1, 1) := by decide +kernel
theorem dX11_odds_56 : decode cX11_odds 56 = .ok (.iload_n 2, 1) := by decide +kernel
theorem dX11_odds_57 : decode cX11_odds 57 = .ok (.invokevirtual 439, 3) := by decide +kernel
theorem dX11_odds_60 : decode cX11_odds 60 = .ok (.ldc2_w 435, 3) := by decide +kernel
theorem dX11_odds_63 : decode cX11_odds 63 = .ok (.lmul, 1) := by decide +kernel
theorem dX11_odds_64 : decode cX11_odds 64 = .ok (.lload_n 3, 1) := by decide +kernel
theorem dX11_odds_65 : decode cX11_odds 65 = .ok (.ldiv, 1) := by decide +kernel
theorem dX11_odds_66 : decode cX11_odds 66 = .ok (.l2i, 1) := by decide +kernel
theorem dX11_odds_67 : decode cX11_odds 67 = .ok (.ireturn, 1) := by decide +kernel
theorem dX11_made_0 : decode cX11_made 0 = .ok (.aload_n 0, 1) := by decide +kernel
theorem dX11_made_1 : decode cX11_made 1 = .ok (.iload_n 1, 1) := by decide +kernel
theorem dX11_made_2 : decode cX11_made 2 = .ok (.iload_n 2, 1) := by decide +kernel
theorem dX11_made_3 : decode cX11_made 3 = .ok (.invokevirtual 421, 3) := by decide +kernel
theorem dX11_made_6 : decode cX11_made 6 = .ok (.ifCond .eq 20, 3) := by decide +kernel
theorem dX11_made_9 : decode cX11_made 9 = .ok (.iload_n 3, 1) := by decide +kernel
theorem dX11_made_10 : decode cX11_made 10 = .ok (.ifCond .lt 16, 3) := by decide +kernel
theorem dX11_made_13 : decode cX11_made 13 = .ok (.iload 4, 2) := by decide +kernel
theorem dX11_made_15 : decode cX11_made 15 = .ok (.i2l, 1) := by decide +kernel
theorem dX11_made_16 : decode cX11_made 16 = .ok (.lconst 1, 1) := by decide +kernel
theorem dX11_made_17 : decode cX11_made 17 = .ok (.ldc2_w 443, 3) := by decide +kernel
theorem dX11_made_20 : decode cX11_made 20 = .ok (.invokestatic 148, 3) := by decide +kernel
theorem dX11_made_23 : decode cX11_made 23 = .ok (.ifCond .ne 5, 3) := by decide +kernel
theorem dX11_made_26 : decode cX11_made 26 = .ok (.iconst (-1), 1) := by decide +kernel
theorem dX11_made_27 : decode cX11_made 27 = .ok (.ireturn, 1) := by decide +kernel
theorem dX11_made_28 : decode cX11_made 28 = .ok (.iconst 0, 1) := by decide +kernel
theorem dX11_made_29 : decode cX11_made 29 = .ok (.istore 5, 2) := by decide +kernel
theorem dX11_made_31 : decode cX11_made 31 = .ok (.iload 5, 2) := by decide +kernel
theorem dX11_made_33 : decode cX11_made 33 = .ok (.bipush 16, 2) := by decide +kernel
theorem dX11_made_35 : decode cX11_made 35 = .ok (.if_icmp .ge 24, 3) := by decide +kernel
theorem dX11_made_38 : decode cX11_made 38 = .ok (.aload_n 0, 1) := by decide +kernel
theorem dX11_made_39 : decode cX11_made 39 = .ok (.getfield 100, 3) := by decide +kernel
theorem dX11_made_42 : decode cX11_made 42 = .ok (.iload 5, 2) := by decide +kernel
theorem dX11_made_44 : decode cX11_made 44 = .ok (.aload_n 0, 1) := by decide +kernel
theorem dX11_made_45 : decode cX11_made 45 = .ok (.iload_n 1, 1) := by decide +kernel
theorem dX11_made_46 : decode cX11_made 46 = .ok (.iload_n 2, 1) := by decide +kernel
theorem dX11_made_47 : decode cX11_made 47 = .ok (.iload 5, 2) := by decide +kernel
theorem dX11_made_49 : decode cX11_made 49 = .ok (.invokevirtual 431, 3) := by decide +kernel
theorem dX11_made_52 : decode cX11_made 52 = .ok (.iastore, 1) := by decide +kernel
theorem dX11_made_53 : decode cX11_made 53 = .ok (.iinc 5 1, 3) := by decide +kernel
theorem dX11_made_56 : decode cX11_made 56 = .ok (.goto (-25), 3) := by decide +kernel
theorem dX11_made_59 : decode cX11_made 59 = .ok (.iload_n 3, 1) := by decide +kernel
theorem dX11_made_60 : decode cX11_made 60 = .ok (.i2l, 1) := by decide +kernel
theorem dX11_made_61 : decode cX11_made 61 = .ok (.lstore 5, 2) := by decide +kernel
theorem dX11_made_63 : decode cX11_made 63 = .ok (.iconst 0, 1) := by decide +kernel
theorem dX11_made_64 : decode cX11_made 64 = .ok (.istore 7, 2) := by decide +kernel
theorem dX11_made_66 : decode cX11_made 66 = .ok (.iconst 0, 1) := by decide +kernel
theorem dX11_made_67 : decode cX11_made 67 = .ok (.istore 8, 2) := by decide +kernel
theorem dX11_made_69 : decode cX11_made 69 = .ok (.iload 8, 2) := by decide +kernel
theorem dX11_made_71 : decode cX11_made 71 = .ok (.iload 4, 2) := by decide +kernel
theorem dX11_made_73 : decode cX11_made 73 = .ok (.if_icmp .ge 123, 3) := by decide +kernel
theorem dX11_made_76 : decode cX11_made 76 = .ok (.iconst 1, 1) := by decide +kernel
theorem dX11_made_77 : decode cX11_made 77 = .ok (.istore 9, 2) := by decide +kernel
theorem dX11_made_79 : decode cX11_made 79 = .ok (.iconst 0, 1) := by decide +kernel
theorem dX11_made_80 : decode cX11_made 80 = .ok (.istore 10, 2) := by decide +kernel
theorem dX11_made_82 : decode cX11_made 82 = .ok (.iload 10, 2) := by decide +kernel
theorem dX11_made_84 : decode cX11_made 84 = .ok (.bipush 16, 2) := by decide +kernel
theorem dX11_made_86 : decode cX11_made 86 = .ok (.if_icmp .ge 89, 3) := by decide +kernel
theorem dX11_made_89 : decode cX11_made 89 = .ok (.lload 5, 2) := by decide +kernel
theorem dX11_made_91 : decode cX11_made 91 = .ok (.ldc2_w 445, 3) := by decide +kernel
theorem dX11_made_94 : decode cX11_made 94 = .ok (.lmul, 1) := by decide +kernel
theorem dX11_made_95 : decode cX11_made 95 = .ok (.ldc2_w 447, 3) := by decide +kernel
theorem dX11_made_98 : decode cX11_made 98 = .ok (.ladd, 1) := by decide +kernel
theorem dX11_made_99 : decode cX11_made 99 = .ok (.ldc2_w 449, 3) := by decide +kernel
theorem dX11_made_102 : decode cX11_made 102 = .ok (.lrem, 1) := by decide +kernel
theorem dX11_made_103 : decode cX11_made 103 = .ok (.lstore 5, 2) := by decide +kernel
theorem dX11_made_105 : decode cX11_made 105 = .ok (.lload 5, 2) := by decide +kernel
theorem dX11_made_107 : decode cX11_made 107 = .ok (.ldc2_w 451, 3) := by decide +kernel
theorem dX11_made_110 : decode cX11_made 110 = .ok (.ldiv, 1) := by decide +kernel
theorem dX11_made_111 : decode cX11_made 111 = .ok (.ldc2_w 437, 3) := by decide +kernel
theorem dX11_made_114 : decode cX11_made 114 = .ok (.lrem, 1) := by decide +kernel
theorem dX11_made_115 : decode cX11_made 115 = .ok (.aload_n 0, 1) := by decide +kernel
theorem dX11_made_116 : decode cX11_made 116 = .ok (.getfield 100, 3) := by decide +kernel
theorem dX11_made_119 : decode cX11_made 119 = .ok (.iload 10, 2) := by decide +kernel
theorem dX11_made_121 : decode cX11_made 121 = .ok (.iaload, 1) := by decide +kernel
theorem dX11_made_122 : decode cX11_made 122 = .ok (.i2l, 1) := by decide +kernel
theorem dX11_made_123 : decode cX11_made 123 = .ok (.lcmp, 1) := by decide +kernel
theorem dX11_made_124 : decode cX11_made 124 = .ok (.ifCond .ge 7, 3) := by decide +kernel
theorem dX11_made_127 : decode cX11_made 127 = .ok (.iconst 1, 1) := by decide +kernel
theorem dX11_made_128 : decode cX11_made 128 = .ok (.goto 4, 3) := by decide +kernel
theorem dX11_made_131 : decode cX11_made 131 = .ok (.iconst 0, 1) := by decide +kernel
theorem dX11_made_132 : decode cX11_made 132 = .ok (.istore 11, 2) := by decide +kernel
theorem dX11_made_134 : decode cX11_made 134 = .ok (.iload 9, 2) := by decide +kernel
theorem dX11_made_136 : decode cX11_made 136 = .ok (.ifCond .eq 30, 3) := by decide +kernel
theorem dX11_made_139 : decode cX11_made 139 = .ok (.aload_n 0, 1) := by decide +kernel
theorem dX11_made_140 : decode cX11_made 140 = .ok (.getfield 97, 3) := by decide +kernel
theorem dX11_made_143 : decode cX11_made 143 = .ok (.iload 10, 2) := by decide +kernel
theorem dX11_made_145 : decode cX11_made 145 = .ok (.iaload, 1) := by decide +kernel
theorem dX11_made_146 : decode cX11_made 146 = .ok (.iconst (-1), 1) := by decide +kernel
theorem dX11_made_147 : decode cX11_made 147 = .ok (.if_icmp .eq 15, 3) := by decide +kernel
theorem dX11_made_150 : decode cX11_made 150 = .ok (.aload_n 0, 1) := by decide +kernel
theorem dX11_made_151 : decode cX11_made 151 = .ok (.getfield 97, 3) := by decide +kernel
theorem dX11_made_154 : decode cX11_made 154 = .ok (.iload 10, 2) := by decide +kernel
theorem dX11_made_156 : decode cX11_made 156 = .ok (.iaload, 1) := by decide +kernel
theorem dX11_made_157 : decode cX11_made 157 = .ok (.iload 11, 2) := by decide +kernel
theorem dX11_made_159 : decode cX11_made 159 = .ok (.if_icmp .ne 7, 3) := by decide +kernel
theorem dX11_made_162 : decode cX11_made 162 = .ok (.iconst 1, 1) := by decide +kernel
theorem dX11_made_163 : decode cX11_made 163 = .ok (.goto 4, 3) := by decide +kernel
theorem dX11_made_166 : decode cX11_made 166 = .ok (.iconst 0, 1) := by decide +kernel
theorem dX11_made_167 : decode cX11_made 167 = .ok (.istore 9, 2) := by decide +kernel
theorem dX11_made_169 : decode cX11_made 169 = .ok (.iinc 10 1, 3) := by decide +kernel
theorem dX11_made_172 : decode cX11_made 172 = .ok (.goto (-90), 3) := by decide +kernel
theorem dX11_made_175 : decode cX11_made 175 = .ok (.iload 7, 2) := by decide +kernel
theorem dX11_made_177 : decode cX11_made 177 = .ok (.iload 9, 2) := by decide +kernel
theorem dX11_made_179 : decode cX11_made 179 = .ok (.ifCond .eq 7, 3) := by decide +kernel
theorem dX11_made_182 : decode cX11_made 182 = .ok (.iconst 1, 1) := by decide +kernel
theorem dX11_made_183 : decode cX11_made 183 = .ok (.goto 4, 3) := by decide +kernel
theorem dX11_made_186 : decode cX11_made 186 = .ok (.iconst 0, 1) := by decide +kernel
theorem dX11_made_187 : decode cX11_made 187 = .ok (.iadd, 1) := by decide +kernel
theorem dX11_made_188 : decode cX11_made 188 = .ok (.istore 7, 2) := by decide +kernel
theorem dX11_made_190 : decode cX11_made 190 = .ok (.iinc 8 1, 3) := by decide +kernel
theorem dX11_made_193 : decode cX11_made 193 = .ok (.goto (-124), 3) := by decide +kernel
theorem dX11_made_196 : decode cX11_made 196 = .ok (.iload 7, 2) := by decide +kernel
theorem dX11_made_198 : decode cX11_made 198 = .ok (.ireturn, 1) := by decide +kernel
theorem dX11_span_0 : decode cX11_span 0 = .ok (.aload_n 0, 1) := by decide +kernel
theorem dX11_span_1 : decode cX11_span 1 = .ok (.iload_n 1, 1) := by decide +kernel
theorem dX11_span_2 : decode cX11_span 2 = .ok (.invokevirtual 241, 3) := by decide +kernel
theorem dX11_span_5 : decode cX11_span 5 = .ok (.ifCond .eq 13, 3) := by decide +kernel
theorem dX11_span_8 : decode cX11_span 8 = .ok (.iload_n 2, 1) := by decide +kernel
theorem dX11_span_9 : decode cX11_span 9 = .ok (.i2l, 1) := by decide +kernel
theorem dX11_span_10 : decode cX11_span 10 = .ok (.lconst 0, 1) := by decide +kernel
theorem dX11_span_11 : decode cX11_span 11 = .ok (.lconst 1, 1) := by decide +kernel
theorem dX11_span_12 : decode cX11_span 12 = .ok (.invokestatic 148, 3) := by decide +kernel
theorem dX11_span_15 : decode cX11_span 15 = .ok (.ifCond .ne 9, 3) := by decide +kernel
theorem dX11_span_18 : decode cX11_span 18 = .ok (.sipush (-1000), 3) := by decide +kernel
theorem dX11_span_21 : decode cX11_span 21 = .ok (.goto 32, 3) := by decide +kernel
theorem dX11_span_24 : decode cX11_span 24 = .ok (.iload_n 2, 1) := by decide +kernel
theorem dX11_span_25 : decode cX11_span 25 = .ok (.ifCond .ne 12, 3) := by decide +kernel
theorem dX11_span_28 : decode cX11_span 28 = .ok (.aload_n 0, 1) := by decide +kernel
theorem dX11_span_29 : decode cX11_span 29 = .ok (.getfield 47, 3) := by decide +kernel
theorem dX11_span_32 : decode cX11_span 32 = .ok (.iload_n 1, 1) := by decide +kernel
theorem dX11_span_33 : decode cX11_span 33 = .ok (.iaload, 1) := by decide +kernel
theorem dX11_span_34 : decode cX11_span 34 = .ok (.goto 19, 3) := by decide +kernel
theorem dX11_span_37 : decode cX11_span 37 = .ok (.aload_n 0, 1) := by decide +kernel
theorem dX11_span_38 : decode cX11_span 38 = .ok (.getfield 13, 3) := by decide +kernel
theorem dX11_span_41 : decode cX11_span 41 = .ok (.iload_n 1, 1) := by decide +kernel
theorem dX11_span_42 : decode cX11_span 42 = .ok (.if_icmp .ne 10, 3) := by decide +kernel
theorem dX11_span_45 : decode cX11_span 45 = .ok (.aload_n 0, 1) := by decide +kernel
theorem dX11_span_46 : decode cX11_span 46 = .ok (.getfield 19, 3) := by decide +kernel
theorem dX11_span_49 : decode cX11_span 49 = .ok (.goto 4, 3) := by decide +kernel
theorem dX11_span_52 : decode cX11_span 52 = .ok (.iconst (-1), 1) := by decide +kernel
theorem dX11_span_53 : decode cX11_span 53 = .ok (.ireturn, 1) := by decide +kernel
theorem dX11_trial_0 : decode cX11_trial 0 = .ok (.aload_n 0, 1) := by decide +kernel
theorem dX11_trial_1 : decode cX11_trial 1 = .ok (.getfield 175, 3) := by decide +kernel
theorem dX11_trial_4 : decode cX11_trial 4 = .ok (.ifCond .eq 33, 3) := by decide +kernel
theorem dX11_trial_7 : decode cX11_trial 7 = .ok (.iload_n 1, 1) := by decide +kernel
theorem dX11_trial_8 : decode cX11_trial 8 = .ok (.i2l, 1) := by decide +kernel
theorem dX11_trial_9 : decode cX11_trial 9 = .ok (.lconst 0, 1) := by decide +kernel
theorem dX11_trial_10 : decode cX11_trial 10 = .ok (.aload_n 0, 1) := by decide +kernel
theorem dX11_trial_11 : decode cX11_trial 11 = .ok (.aload_n 0, 1) := by decide +kernel
theorem dX11_trial_12 : decode cX11_trial 12 = .ok (.getfield 175, 3) := by decide +kernel
theorem dX11_trial_15 : decode cX11_trial 15 = .ok (.invokevirtual 187, 3) := by decide +kernel
theorem dX11_trial_18 : decode cX11_trial 18 = .ok (.i2l, 1) := by decide +kernel
theorem dX11_trial_19 : decode cX11_trial 19 = .ok (.invokestatic 148, 3) := by decide +kernel
theorem dX11_trial_22 : decode cX11_trial 22 = .ok (.ifCond .eq 15, 3) := by decide +kernel
theorem dX11_trial_25 : decode cX11_trial 25 = .ok (.iload_n 2, 1) := by decide +kernel
theorem dX11_trial_26 : decode cX11_trial 26 = .ok (.i2l, 1) := by decide +kernel
theorem dX11_trial_27 : decode cX11_trial 27 = .ok (.lconst 1, 1) := by decide +kernel
theorem dX11_trial_28 : decode cX11_trial 28 = .ok (.ldc2_w 146, 3) := by decide +kernel
theorem dX11_trial_31 : decode cX11_trial 31 = .ok (.invokestatic 148, 3) := by decide +kernel
theorem dX11_trial_34 : decode cX11_trial 34 = .ok (.ifCond .ne 5, 3) := by decide +kernel
theorem dX11_trial_37 : decode cX11_trial 37 = .ok (.iconst (-1), 1) := by decide +kernel
theorem dX11_trial_38 : decode cX11_trial 38 = .ok (.ireturn, 1) := by decide +kernel
theorem dX11_trial_39 : decode cX11_trial 39 = .ok (.iconst 0, 1) := by decide +kernel
theorem dX11_trial_40 : decode cX11_trial 40 = .ok (.istore_n 3, 1) := by decide +kernel
theorem dX11_trial_41 : decode cX11_trial 41 = .ok (.iconst 0, 1) := by decide +kernel
theorem dX11_trial_42 : decode cX11_trial 42 = .ok (.istore 4, 2) := by decide +kernel
theorem dX11_trial_44 : decode cX11_trial 44 = .ok (.iload 4, 2) := by decide +kernel
theorem dX11_trial_46 : decode cX11_trial 46 = .ok (.aload_n 0, 1) := by decide +kernel
theorem dX11_trial_47 : decode cX11_trial 47 = .ok (.getfield 175, 3) := by decide +kernel
theorem dX11_trial_50 : decode cX11_trial 50 = .ok (.if_icmp .ge 38, 3) := by decide +kernel
theorem dX11_trial_53 : decode cX11_trial 53 = .ok (.iload_n 3, 1) := by decide +kernel
theorem dX11_trial_54 : decode cX11_trial 54 = .ok (.aload_n 0, 1) := by decide +kernel
theorem dX11_trial_55 : decode cX11_trial 55 = .ok (.iload 4, 2) := by decide +kernel
theorem dX11_trial_57 : decode cX11_trial 57 = .ok (.iload_n 1, 1) := by decide +kernel
theorem dX11_trial_58 : decode cX11_trial 58 = .ok (.iload_n 2, 1) := by decide +kernel
theorem dX11_trial_59 : decode cX11_trial 59 = .ok (.iconst 0, 1) := by decide +kernel
theorem dX11_trial_60 : decode cX11_trial 60 = .ok (.invokevirtual 195, 3) := by decide +kernel
theorem dX11_trial_63 : decode cX11_trial 63 = .ok (.aload_n 0, 1) := by decide +kernel
theorem dX11_trial_64 : decode cX11_trial 64 = .ok (.iload 4, 2) := by decide +kernel
theorem dX11_trial_66 : decode cX11_trial 66 = .ok (.invokevirtual 209, 3) := by decide +kernel
theorem dX11_trial_69 : decode cX11_trial 69 = .ok (.if_icmp .le 10, 3) := by decide +kernel
theorem dX11_trial_72 : decode cX11_trial 72 = .ok (.iconst 1, 1) := by decide +kernel
theorem dX11_trial_73 : decode cX11_trial 73 = .ok (.iload 4, 2) := by decide +kernel
theorem dX11_trial_75 : decode cX11_trial 75 = .ok (.ishl, 1) := by decide +kernel
theorem dX11_trial_76 : decode cX11_trial 76 = .ok (.goto 4, 3) := by decide +kernel
theorem dX11_trial_79 : decode cX11_trial 79 = .ok (.iconst 0, 1) := by decide +kernel
theorem dX11_trial_80 : decode cX11_trial 80 = .ok (.ior, 1) := by decide +kernel
theorem dX11_trial_81 : decode cX11_trial 81 = .ok (.istore_n 3, 1) := by decide +kernel
theorem dX11_trial_82 : decode cX11_trial 82 = .ok (.iinc 4 1, 3) := by decide +kernel
theorem dX11_trial_85 : decode cX11_trial 85 = .ok (.goto (-41), 3) := by decide +kernel
theorem dX11_trial_88 : decode cX11_trial 88 = .ok (.iload_n 3, 1) := by decide +kernel
theorem dX11_trial_89 : decode cX11_trial 89 = .ok (.ireturn, 1) := by decide +kernel
theorem dX11_fullLoad_0 : decode cX11_fullLoad 0 = .ok (.aload_n 0, 1) := by decide +kernel
theorem dX11_fullLoad_1 : decode cX11_fullLoad 1 = .ok (.iload_n 1, 1) := by decide +kernel
theorem dX11_fullLoad_2 : decode cX11_fullLoad 2 = .ok (.aload_n 0, 1) := by decide +kernel
theorem dX11_fullLoad_3 : decode cX11_fullLoad 3 = .ok (.aload_n 0, 1) := by decide +kernel
theorem dX11_fullLoad_4 : decode cX11_fullLoad 4 = .ok (.getfield 175, 3) := by decide +kernel
theorem dX11_fullLoad_7 : decode cX11_fullLoad 7 = .ok (.invokevirtual 187, 3) := by decide +kernel
theorem dX11_fullLoad_10 : decode cX11_fullLoad 10 = .ok (.aload_n 0, 1) := by decide +kernel
theorem dX11_fullLoad_11 : decode cX11_fullLoad 11 = .ok (.getfield 163, 3) := by decide +kernel
theorem dX11_fullLoad_14 : decode cX11_fullLoad 14 = .ok (.iconst 0, 1) := by decide +kernel
theorem dX11_fullLoad_15 : decode cX11_fullLoad 15 = .ok (.invokevirtual 195, 3) := by decide +kernel
theorem dX11_fullLoad_18 : decode cX11_fullLoad 18 = .ok (.ireturn, 1) := by decide +kernel
theorem dX11_needed_0 : decode cX11_needed 0 = .ok (.aload_n 0, 1) := by decide +kernel
theorem dX11_needed_1 : decode cX11_needed 1 = .ok (.iload_n 1, 1) := by decide +kernel
theorem dX11_needed_2 : decode cX11_needed 2 = .ok (.invokevirtual 241, 3) := by decide +kernel
theorem dX11_needed_5 : decode cX11_needed 5 = .ok (.ifCond .eq 15, 3) := by decide +kernel
theorem dX11_needed_8 : decode cX11_needed 8 = .ok (.iload_n 2, 1) := by decide +kernel
theorem dX11_needed_9 : decode cX11_needed 9 = .ok (.i2l, 1) := by decide +kernel
theorem dX11_needed_10 : decode cX11_needed 10 = .ok (.lconst 1, 1) := by decide +kernel
theorem dX11_needed_11 : decode cX11_needed 11 = .ok (.ldc2_w 146, 3) := by decide +kernel
theorem dX11_needed_14 : decode cX11_needed 14 = .ok (.invokestatic 148, 3) := by decide +kernel
theorem dX11_needed_17 : decode cX11_needed 17 = .ok (.ifCond .ne 5, 3) := by decide +kernel
theorem dX11_needed_20 : decode cX11_needed 20 = .ok (.iconst (-1), 1) := by decide +kernel
theorem dX11_needed_21 : decode cX11_needed 21 = .ok (.ireturn, 1) := by decide +kernel
theorem dX11_needed_22 : decode cX11_needed 22 = .ok (.iconst 0, 1) := by decide +kernel
theorem dX11_needed_23 : decode cX11_needed 23 = .ok (.istore_n 3, 1) := by decide +kernel
theorem dX11_needed_24 : decode cX11_needed 24 = .ok (.iload_n 3, 1) := by decide +kernel
theorem dX11_needed_25 : decode cX11_needed 25 = .ok (.aload_n 0, 1) := by decide +kernel
theorem dX11_needed_26 : decode cX11_needed 26 = .ok (.aload_n 0, 1) := by decide +kernel
theorem dX11_needed_27 : decode cX11_needed 27 = .ok (.getfield 175, 3) := by decide +kernel
theorem dX11_needed_30 : decode cX11_needed 30 = .ok (.invokevirtual 187, 3) := by decide +kernel
theorem dX11_needed_33 : decode cX11_needed 33 = .ok (.if_icmp .gt 25, 3) := by decide +kernel
theorem dX11_needed_36 : decode cX11_needed 36 = .ok (.aload_n 0, 1) := by decide +kernel
theorem dX11_needed_37 : decode cX11_needed 37 = .ok (.iload_n 1, 1) := by decide +kernel
theorem dX11_needed_38 : decode cX11_needed 38 = .ok (.iload_n 3, 1) := by decide +kernel
theorem dX11_needed_39 : decode cX11_needed 39 = .ok (.iload_n 2, 1) := by decide +kernel
theorem dX11_needed_40 : decode cX11_needed 40 = .ok (.iconst 0, 1) := by decide +kernel
theorem dX11_needed_41 : decode cX11_needed 41 = .ok (.invokevirtual 195, 3) := by decide +kernel
theorem dX11_needed_44 : decode cX11_needed 44 = .ok (.aload_n 0, 1) := by decide +kernel
theorem dX11_needed_45 : decode cX11_needed 45 = .ok (.iload_n 1, 1) := by decide +kernel
theorem dX11_needed_46 : decode cX11_needed 46 = .ok (.invokevirtual 453, 3) := by decide +kernel
theorem dX11_needed_49 : decode cX11_needed 49 = .ok (.if_icmp .ge 9, 3) := by decide +kernel
theorem dX11_needed_52 : decode cX11_needed 52 = .ok (.iinc 3 1, 3) := by decide +kernel
theorem dX11_needed_55 : decode cX11_needed 55 = .ok (.goto (-31), 3) := by decide +kernel
theorem dX11_needed_58 : decode cX11_needed 58 = .ok (.iload_n 3, 1) := by decide +kernel
theorem dX11_needed_59 : decode cX11_needed 59 = .ok (.aload_n 0, 1) := by decide +kernel
theorem dX11_needed_60 : decode cX11_needed 60 = .ok (.aload_n 0, 1) := by decide +kernel
theorem dX11_needed_61 : decode cX11_needed 61 = .ok (.getfield 175, 3) := by decide +kernel
theorem dX11_needed_64 : decode cX11_needed 64 = .ok (.invokevirtual 187, 3) := by decide +kernel
theorem dX11_needed_67 : decode cX11_needed 67 = .ok (.if_icmp .le 8, 3) := by decide +kernel
theorem dX11_needed_70 : decode cX11_needed 70 = .ok (.bipush (-2), 2) := by decide +kernel
theorem dX11_needed_72 : decode cX11_needed 72 = .ok (.goto 4, 3) := by decide +kernel
theorem dX11_needed_75 : decode cX11_needed 75 = .ok (.iload_n 3, 1) := by decide +kernel
theorem dX11_needed_76 : decode cX11_needed 76 = .ok (.ireturn, 1) := by decide +kernel
theorem dX11_moreOf_0 : decode cX11_moreOf 0 = .ok (.aload_n 0, 1) := by decide +kernel
theorem dX11_moreOf_1 : decode cX11_moreOf 1 = .ok (.getfield 29, 3) := by decide +kernel
theorem dX11_moreOf_4 : decode cX11_moreOf 4 = .ok (.iload_n 1, 1) := by decide +kernel
theorem dX11_moreOf_5 : decode cX11_moreOf 5 = .ok (.iaload, 1) := by decide +kernel
theorem dX11_moreOf_6 : decode cX11_moreOf 6 = .ok (.istore_n 2, 1) := by decide +kernel
theorem dX11_moreOf_7 : decode cX11_moreOf 7 = .ok (.iload_n 2, 1) := by decide +kernel
theorem dX11_moreOf_8 : decode cX11_moreOf 8 = .ok (.sipush 999, 3) := by decide +kernel
theorem dX11_moreOf_11 : decode cX11_moreOf 11 = .ok (.if_icmp .gt 23, 3) := by decide +kernel
theorem dX11_moreOf_14 : decode cX11_moreOf 14 = .ok (.aload_n 0, 1) := by decide +kernel
theorem dX11_moreOf_15 : decode cX11_moreOf 15 = .ok (.iload_n 1, 1) := by decide +kernel
theorem dX11_moreOf_16 : decode cX11_moreOf 16 = .ok (.iload_n 2, 1) := by decide +kernel
theorem dX11_moreOf_17 : decode cX11_moreOf 17 = .ok (.invokevirtual 202, 3) := by decide +kernel
theorem dX11_moreOf_20 : decode cX11_moreOf 20 = .ok (.aload_n 0, 1) := by decide +kernel
theorem dX11_moreOf_21 : decode cX11_moreOf 21 = .ok (.iload_n 1, 1) := by decide +kernel
theorem dX11_moreOf_22 : decode cX11_moreOf 22 = .ok (.invokevirtual 453, 3) := by decide +kernel
theorem dX11_moreOf_25 : decode cX11_moreOf 25 = .ok (.if_icmp .ge 9, 3) := by decide +kernel
theorem dX11_moreOf_28 : decode cX11_moreOf 28 = .ok (.iinc 2 1, 3) := by decide +kernel
theorem dX11_moreOf_31 : decode cX11_moreOf 31 = .ok (.goto (-24), 3) := by decide +kernel
theorem dX11_moreOf_34 : decode cX11_moreOf 34 = .ok (.iload_n 2, 1) := by decide +kernel
theorem dX11_moreOf_35 : decode cX11_moreOf 35 = .ok (.sipush 999, 3) := by decide +kernel
theorem dX11_moreOf_38 : decode cX11_moreOf 38 = .ok (.if_icmp .gt 17, 3) := by decide +kernel
theorem dX11_moreOf_41 : decode cX11_moreOf 41 = .ok (.aload_n 0, 1) := by decide +kernel
theorem dX11_moreOf_42 : decode cX11_moreOf 42 = .ok (.getfield 41, 3) := by decide +kernel
theorem dX11_moreOf_45 : decode cX11_moreOf 45 = .ok (.iload_n 1, 1) := by decide +kernel
theorem dX11_moreOf_46 : decode cX11_moreOf 46 = .ok (.iaload, 1) := by decide +kernel
theorem dX11_moreOf_47 : decode cX11_moreOf 47 = .ok (.aload_n 0, 1) := by decide +kernel
theorem dX11_moreOf_48 : decode cX11_moreOf 48 = .ok (.iload_n 1, 1) := by decide +kernel
theorem dX11_moreOf_49 : decode cX11_moreOf 49 = .ok (.invokevirtual 453, 3) := by decide +kernel
theorem dX11_moreOf_52 : decode cX11_moreOf 52 = .ok (.if_icmp .ge 7, 3) := by decide +kernel
theorem dX11_moreOf_55 : decode cX11_moreOf 55 = .ok (.iconst (-1), 1) := by decide +kernel
theorem dX11_moreOf_56 : decode cX11_moreOf 56 = .ok (.goto 11, 3) := by decide +kernel
theorem dX11_moreOf_59 : decode cX11_moreOf 59 = .ok (.iload_n 2, 1) := by decide +kernel
theorem dX11_moreOf_60 : decode cX11_moreOf 60 = .ok (.aload_n 0, 1) := by decide +kernel
theorem dX11_moreOf_61 : decode cX11_moreOf 61 = .ok (.getfield 29, 3) := by decide +kernel
theorem dX11_moreOf_64 : decode cX11_moreOf 64 = .ok (.iload_n 1, 1) := by decide +kernel
theorem dX11_moreOf_65 : decode cX11_moreOf 65 = .ok (.iaload, 1) := by decide +kernel
theorem dX11_moreOf_66 : decode cX11_moreOf 66 = .ok (.isub, 1) := by decide +kernel
theorem dX11_moreOf_67 : decode cX11_moreOf 67 = .ok (.ireturn, 1) := by decide +kernel
theorem dX11_more_0 : decode cX11_more 0 = .ok (.aload_n 0, 1) := by decide +kernel
theorem dX11_more_1 : decode cX11_more 1 = .ok (.getfield 175, 3) := by decide +kernel
theorem dX11_more_4 : decode cX11_more 4 = .ok (.ifCond .ne 5, 3) := by decide +kernel
theorem dX11_more_7 : decode cX11_more 7 = .ok (.iconst (-1), 1) := by decide +kernel
theorem dX11_more_8 : decode cX11_more 8 = .ok (.ireturn, 1) := by decide +kernel
theorem dX11_more_9 : decode cX11_more 9 = .ok (.iconst 0, 1) := by decide +kernel
theorem dX11_more_10 : decode cX11_more 10 = .ok (.istore_n 1, 1) := by decide +kernel
theorem dX11_more_11 : decode cX11_more 11 = .ok (.iconst 0, 1) := by decide +kernel
theorem dX11_more_12 : decode cX11_more 12 = .ok (.istore_n 2, 1) := by decide +kernel
theorem dX11_more_13 : decode cX11_more 13 = .ok (.iload_n 2, 1) := by decide +kernel
theorem dX11_more_14 : decode cX11_more 14 = .ok (.aload_n 0, 1) := by decide +kernel
theorem dX11_more_15 : decode cX11_more 15 = .ok (.getfield 175, 3) := by decide +kernel
theorem dX11_more_18 : decode cX11_more 18 = .ok (.if_icmp .ge 34, 3) := by decide +kernel
theorem dX11_more_21 : decode cX11_more 21 = .ok (.aload_n 0, 1) := by decide +kernel
theorem dX11_more_22 : decode cX11_more 22 = .ok (.iload_n 2, 1) := by decide +kernel
theorem dX11_more_23 : decode cX11_more 23 = .ok (.invokevirtual 456, 3) := by decide +kernel
theorem dX11_more_26 : decode cX11_more 26 = .ok (.istore_n 3, 1) := by decide +kernel
theorem dX11_more_27 : decode cX11_more 27 = .ok (.iload_n 3, 1) := by decide +kernel
theorem dX11_more_28 : decode cX11_more 28 = .ok (.iconst (-1), 1) := by decide +kernel
theorem dX11_more_29 : decode cX11_more 29 = .ok (.if_icmp .ne 6, 3) := by decide +kernel
theorem dX11_more_32 : decode cX11_more 32 = .ok (.bipush (-2), 2) := by decide +kernel
theorem dX11_more_34 : decode cX11_more 34 = .ok (.ireturn, 1) := by decide +kernel
theorem dX11_more_35 : decode cX11_more 35 = .ok (.iload_n 1, 1) := by decide +kernel
theorem dX11_more_36 : decode cX11_more 36 = .ok (.aload_n 0, 1) := by decide +kernel
theorem dX11_more_37 : decode cX11_more 37 = .ok (.getfield 44, 3) := by decide +kernel
theorem dX11_more_40 : decode cX11_more 40 = .ok (.iload_n 2, 1) := by decide +kernel
theorem dX11_more_41 : decode cX11_more 41 = .ok (.iaload, 1) := by decide +kernel
theorem dX11_more_42 : decode cX11_more 42 = .ok (.iload_n 3, 1) := by decide +kernel
theorem dX11_more_43 : decode cX11_more 43 = .ok (.imul, 1) := by decide +kernel
theorem dX11_more_44 : decode cX11_more 44 = .ok (.iadd, 1) := by decide +kernel
theorem dX11_more_45 : decode cX11_more 45 = .ok (.istore_n 1, 1) := by decide +kernel
theorem dX11_more_46 : decode cX11_more 46 = .ok (.iinc 2 1, 3) := by decide +kernel
theorem dX11_more_49 : decode cX11_more 49 = .ok (.goto (-36), 3) := by decide +kernel
theorem dX11_more_52 : decode cX11_more 52 = .ok (.iload_n 1, 1) := by decide +kernel
theorem dX11_more_53 : decode cX11_more 53 = .ok (.ireturn, 1) := by decide +kernel
theorem dX11_thicker_0 : decode cX11_thicker 0 = .ok (.aload_n 0, 1) := by decide +kernel
theorem dX11_thicker_1 : decode cX11_thicker 1 = .ok (.iload_n 1, 1) := by decide +kernel
theorem dX11_thicker_2 : decode cX11_thicker 2 = .ok (.invokevirtual 241, 3) := by decide +kernel
theorem dX11_thicker_5 : decode cX11_thicker 5 = .ok (.ifCond .ne 5, 3) := by decide +kernel
theorem dX11_thicker_8 : decode cX11_thicker 8 = .ok (.iconst (-1), 1) := by decide +kernel
theorem dX11_thicker_9 : decode cX11_thicker 9 = .ok (.ireturn, 1) := by decide +kernel
theorem dX11_thicker_10 : decode cX11_thicker 10 = .ok (.aload_n 0, 1) := by decide +kernel
theorem dX11_thicker_11 : decode cX11_thicker 11 = .ok (.invokevirtual 459, 3) := by decide +kernel
theorem dX11_thicker_14 : decode cX11_thicker 14 = .ok (.bipush (-2), 2) := by decide +kernel
theorem dX11_thicker_16 : decode cX11_thicker 16 = .ok (.if_icmp .ne 8, 3) := by decide +kernel
theorem dX11_thicker_19 : decode cX11_thicker 19 = .ok (.bipush (-2), 2) := by decide +kernel
theorem dX11_thicker_21 : decode cX11_thicker 21 = .ok (.goto 8, 3) := by decide +kernel
theorem dX11_thicker_24 : decode cX11_thicker 24 = .ok (.aload_n 0, 1) := by decide +kernel
theorem dX11_thicker_25 : decode cX11_thicker 25 = .ok (.iload_n 1, 1) := by decide +kernel
theorem dX11_thicker_26 : decode cX11_thicker 26 = .ok (.invokevirtual 456, 3) := by decide +kernel
theorem dX11_thicker_29 : decode cX11_thicker 29 = .ok (.ireturn, 1) := by decide +kernel
theorem dX11_look_0 : decode cX11_look 0 = .ok (.iload_n 1, 1) := by decide +kernel
theorem dX11_look_1 : decode cX11_look 1 = .ok (.i2l, 1) := by decide +kernel
theorem dX11_look_2 : decode cX11_look 2 = .ok (.lconst 0, 1) := by decide +kernel
theorem dX11_look_3 : decode cX11_look 3 = .ok (.ldc2_w 219, 3) := by decide +kernel
theorem dX11_look_6 : decode cX11_look 6 = .ok (.invokestatic 148, 3) := by decide +kernel
theorem dX11_look_9 : decode cX11_look 9 = .ok (.ifCond .eq 17, 3) := by decide +kernel
theorem dX11_look_12 : decode cX11_look 12 = .ok (.iload_n 2, 1) := by decide +kernel
theorem dX11_look_13 : decode cX11_look 13 = .ok (.i2l, 1) := by decide +kernel
theorem dX11_look_14 : decode cX11_look 14 = .ok (.lconst 0, 1) := by decide +kernel
theorem dX11_look_15 : decode cX11_look 15 = .ok (.aload_n 0, 1) := by decide +kernel
theorem dX11_look_16 : decode cX11_look 16 = .ok (.getfield 212, 3) := by decide +kernel
theorem dX11_look_19 : decode cX11_look 19 = .ok (.i2l, 1) := by decide +kernel
theorem dX11_look_20 : decode cX11_look 20 = .ok (.invokestatic 148, 3) := by decide +kernel
theorem dX11_look_23 : decode cX11_look 23 = .ok (.ifCond .ne 5, 3) := by decide +kernel
theorem dX11_look_26 : decode cX11_look 26 = .ok (.iconst 0, 1) := by decide +kernel
theorem dX11_look_27 : decode cX11_look 27 = .ok (.ireturn, 1) := by decide +kernel
theorem dX11_look_28 : decode cX11_look 28 = .ok (.aload_n 0, 1) := by decide +kernel
theorem dX11_look_29 : decode cX11_look 29 = .ok (.getfield 103, 3) := by decide +kernel
theorem dX11_look_32 : decode cX11_look 32 = .ok (.iload_n 1, 1) := by decide +kernel
theorem dX11_look_33 : decode cX11_look 33 = .ok (.iload_n 2, 1) := by decide +kernel
theorem dX11_look_34 : decode cX11_look 34 = .ok (.aload_n 0, 1) := by decide +kernel
theorem dX11_look_35 : decode cX11_look 35 = .ok (.getfield 103, 3) := by decide +kernel
theorem dX11_look_38 : decode cX11_look 38 = .ok (.iload_n 1, 1) := by decide +kernel
theorem dX11_look_39 : decode cX11_look 39 = .ok (.iaload, 1) := by decide +kernel
theorem dX11_look_40 : decode cX11_look 40 = .ok (.if_icmp .le 7, 3) := by decide +kernel
theorem dX11_look_43 : decode cX11_look 43 = .ok (.iload_n 2, 1) := by decide +kernel
theorem dX11_look_44 : decode cX11_look 44 = .ok (.goto 9, 3) := by decide +kernel
theorem dX11_look_47 : decode cX11_look 47 = .ok (.aload_n 0, 1) := by decide +kernel
theorem dX11_look_48 : decode cX11_look 48 = .ok (.getfield 103, 3) := by decide +kernel
theorem dX11_look_51 : decode cX11_look 51 = .ok (.iload_n 1, 1) := by decide +kernel
theorem dX11_look_52 : decode cX11_look 52 = .ok (.iaload, 1) := by decide +kernel
theorem dX11_look_53 : decode cX11_look 53 = .ok (.iastore, 1) := by decide +kernel
theorem dX11_look_54 : decode cX11_look 54 = .ok (.iconst 1, 1) := by decide +kernel
theorem dX11_look_55 : decode cX11_look 55 = .ok (.ireturn, 1) := by decide +kernel
theorem dX11_isAsked_0 : decode cX11_isAsked 0 = .ok (.iconst 0, 1) := by decide +kernel
theorem dX11_isAsked_1 : decode cX11_isAsked 1 = .ok (.istore_n 2, 1) := by decide +kernel
theorem dX11_isAsked_2 : decode cX11_isAsked 2 = .ok (.iconst 0, 1) := by decide +kernel
theorem dX11_isAsked_3 : decode cX11_isAsked 3 = .ok (.istore_n 3, 1) := by decide +kernel
theorem dX11_isAsked_4 : decode cX11_isAsked 4 = .ok (.iload_n 3, 1) := by decide +kernel
theorem dX11_isAsked_5 : decode cX11_isAsked 5 = .ok (.aload_n 0, 1) := by decide +kernel
theorem dX11_isAsked_6 : decode cX11_isAsked 6 = .ok (.getfield 175, 3) := by decide +kernel
theorem dX11_isAsked_9 : decode cX11_isAsked 9 = .ok (.if_icmp .ge 24, 3) := by decide +kernel
theorem dX11_isAsked_12 : decode cX11_isAsked 12 = .ok (.iload_n 2, 1) := by decide +kernel
theorem dX11_isAsked_13 : decode cX11_isAsked 13 = .ok (.ifCond .ne 20, 3) := by decide +kernel
theorem dX11_isAsked_16 : decode cX11_isAsked 16 = .ok (.aload_n 0, 1) := by decide +kernel
theorem dX11_isAsked_17 : decode cX11_isAsked 17 = .ok (.iload_n 3, 1) := by decide +kernel
theorem dX11_isAsked_18 : decode cX11_isAsked 18 = .ok (.invokevirtual 415, 3) := by decide +kernel
theorem dX11_isAsked_21 : decode cX11_isAsked 21 = .ok (.aload_n 0, 1) := by decide +kernel
theorem dX11_isAsked_22 : decode cX11_isAsked 22 = .ok (.iload_n 1, 1) := by decide +kernel
theorem dX11_isAsked_23 : decode cX11_isAsked 23 = .ok (.invokevirtual 418, 3) := by decide +kernel
theorem dX11_isAsked_26 : decode cX11_isAsked 26 = .ok (.istore_n 2, 1) := by decide +kernel
theorem dX11_isAsked_27 : decode cX11_isAsked 27 = .ok (.iinc 3 1, 3) := by decide +kernel
theorem dX11_isAsked_30 : decode cX11_isAsked 30 = .ok (.goto (-26), 3) := by decide +kernel
theorem dX11_isAsked_33 : decode cX11_isAsked 33 = .ok (.iload_n 2, 1) := by decide +kernel
theorem dX11_isAsked_34 : decode cX11_isAsked 34 = .ok (.ireturn, 1) := by decide +kernel
theorem dX11_owed_0 : decode cX11_owed 0 = .ok (.iconst 0, 1) := by decide +kernel
theorem dX11_owed_1 : decode cX11_owed 1 = .ok (.istore_n 1, 1) := by decide +kernel
theorem dX11_owed_2 : decode cX11_owed 2 = .ok (.bipush 10, 2) := by decide +kernel
theorem dX11_owed_4 : decode cX11_owed 4 = .ok (.istore_n 2, 1) := by decide +kernel
theorem dX11_owed_5 : decode cX11_owed 5 = .ok (.iload_n 2, 1) := by decide +kernel
theorem dX11_owed_6 : decode cX11_owed 6 = .ok (.bipush 10, 2) := by decide +kernel
theorem dX11_owed_8 : decode cX11_owed 8 = .ok (.aload_n 0, 1) := by decide +kernel
theorem dX11_owed_9 : decode cX11_owed 9 = .ok (.getfield 60, 3) := by decide +kernel
theorem dX11_owed_12 : decode cX11_owed 12 = .ok (.iconst 1, 1) := by decide +kernel
theorem dX11_owed_13 : decode cX11_owed 13 = .ok (.iaload, 1) := by decide +kernel
theorem dX11_owed_14 : decode cX11_owed 14 = .ok (.iadd, 1) := by decide +kernel
theorem dX11_owed_15 : decode cX11_owed 15 = .ok (.if_icmp .ge 93, 3) := by decide +kernel
theorem dX11_owed_18 : decode cX11_owed 18 = .ok (.bipush 14, 2) := by decide +kernel
theorem dX11_owed_20 : decode cX11_owed 20 = .ok (.iload_n 2, 1) := by decide +kernel
theorem dX11_owed_21 : decode cX11_owed 21 = .ok (.imul, 1) := by decide +kernel
theorem dX11_owed_22 : decode cX11_owed 22 = .ok (.istore_n 3, 1) := by decide +kernel
theorem dX11_owed_23 : decode cX11_owed 23 = .ok (.iload_n 3, 1) := by decide +kernel
theorem dX11_owed_24 : decode cX11_owed 24 = .ok (.bipush 14, 2) := by decide +kernel
theorem dX11_owed_26 : decode cX11_owed 26 = .ok (.iload_n 2, 1) := by decide +kernel
theorem dX11_owed_27 : decode cX11_owed 27 = .ok (.imul, 1) := by decide +kernel
theorem dX11_owed_28 : decode cX11_owed 28 = .ok (.aload_n 0, 1) := by decide +kernel
theorem dX11_owed_29 : decode cX11_owed 29 = .ok (.getfield 69, 3) := by decide +kernel
theorem dX11_owed_32 : decode cX11_owed 32 = .ok (.iload_n 2, 1) := by decide +kernel
theorem dX11_owed_33 : decode cX11_owed 33 = .ok (.iaload, 1) := by decide +kernel
theorem dX11_owed_34 : decode cX11_owed 34 = .ok (.iadd, 1) := by decide +kernel
theorem dX11_owed_35 : decode cX11_owed 35 = .ok (.if_icmp .ge 67, 3) := by decide +kernel
theorem dX11_owed_38 : decode cX11_owed 38 = .ok (.aload_n 0, 1) := by decide +kernel
theorem dX11_owed_39 : decode cX11_owed 39 = .ok (.getfield 103, 3) := by decide +kernel
theorem dX11_owed_42 : decode cX11_owed 42 = .ok (.aload_n 0, 1) := by decide +kernel
theorem dX11_owed_43 : decode cX11_owed 43 = .ok (.getfield 75, 3) := by decide +kernel
theorem dX11_owed_46 : decode cX11_owed 46 = .ok (.iload_n 3, 1) := by decide +kernel
theorem dX11_owed_47 : decode cX11_owed 47 = .ok (.iaload, 1) := by decide +kernel
theorem dX11_owed_48 : decode cX11_owed 48 = .ok (.iaload, 1) := by decide +kernel
theorem dX11_owed_49 : decode cX11_owed 49 = .ok (.istore 4, 2) := by decide +kernel
theorem dX11_owed_51 : decode cX11_owed 51 = .ok (.iload_n 1, 1) := by decide +kernel
theorem dX11_owed_52 : decode cX11_owed 52 = .ok (.iload 4, 2) := by decide +kernel
theorem dX11_owed_54 : decode cX11_owed 54 = .ok (.iconst (-1), 1) := by decide +kernel
theorem dX11_owed_55 : decode cX11_owed 55 = .ok (.if_icmp .eq 19, 3) := by decide +kernel
theorem dX11_owed_58 : decode cX11_owed 58 = .ok (.aload_n 0, 1) := by decide +kernel
theorem dX11_owed_59 : decode cX11_owed 59 = .ok (.getfield 212, 3) := by decide +kernel
theorem dX11_owed_62 : decode cX11_owed 62 = .ok (.iload 4, 2) := by decide +kernel
theorem dX11_owed_64 : decode cX11_owed 64 = .ok (.isub, 1) := by decide +kernel
theorem dX11_owed_65 : decode cX11_owed 65 = .ok (.aload_n 0, 1) := by decide +kernel
theorem dX11_owed_66 : decode cX11_owed 66 = .ok (.getfield 78, 3) := by decide +kernel
theorem dX11_owed_69 : decode cX11_owed 69 = .ok (.iload_n 3, 1) := by decide +kernel
theorem dX11_owed_70 : decode cX11_owed 70 = .ok (.iaload, 1) := by decide +kernel
theorem dX11_owed_71 : decode cX11_owed 71 = .ok (.if_icmp .lt 22, 3) := by decide +kernel
theorem dX11_owed_74 : decode cX11_owed 74 = .ok (.aload_n 0, 1) := by decide +kernel
theorem dX11_owed_75 : decode cX11_owed 75 = .ok (.iload_n 3, 1) := by decide +kernel
theorem dX11_owed_76 : decode cX11_owed 76 = .ok (.invokevirtual 462, 3) := by decide +kernel
theorem dX11_owed_79 : decode cX11_owed 79 = .ok (.ifCond .eq 14, 3) := by decide +kernel
theorem dX11_owed_82 : decode cX11_owed 82 = .ok (.iconst 1, 1) := by decide +kernel
theorem dX11_owed_83 : decode cX11_owed 83 = .ok (.aload_n 0, 1) := by decide +kernel
theorem dX11_owed_84 : decode cX11_owed 84 = .ok (.getfield 75, 3) := by decide +kernel
theorem dX11_owed_87 : decode cX11_owed 87 = .ok (.iload_n 3, 1) := by decide +kernel
theorem dX11_owed_88 : decode cX11_owed 88 = .ok (.iaload, 1) := by decide +kernel
theorem dX11_owed_89 : decode cX11_owed 89 = .ok (.ishl, 1) := by decide +kernel
theorem dX11_owed_90 : decode cX11_owed 90 = .ok (.goto 4, 3) := by decide +kernel
theorem dX11_owed_93 : decode cX11_owed 93 = .ok (.iconst 0, 1) := by decide +kernel
theorem dX11_owed_94 : decode cX11_owed 94 = .ok (.ior, 1) := by decide +kernel
theorem dX11_owed_95 : decode cX11_owed 95 = .ok (.istore_n 1, 1) := by decide +kernel
theorem dX11_owed_96 : decode cX11_owed 96 = .ok (.iinc 3 1, 3) := by decide +kernel
theorem dX11_owed_99 : decode cX11_owed 99 = .ok (.goto (-76), 3) := by decide +kernel
theorem dX11_owed_102 : decode cX11_owed 102 = .ok (.iinc 2 1, 3) := by decide +kernel
theorem dX11_owed_105 : decode cX11_owed 105 = .ok (.goto (-100), 3) := by decide +kernel
theorem dX11_owed_108 : decode cX11_owed 108 = .ok (.iload_n 1, 1) := by decide +kernel
theorem dX11_owed_109 : decode cX11_owed 109 = .ok (.ireturn, 1) := by decide +kernel
theorem dX11_isPlace_0 : decode cX11_isPlace 0 = .ok (.iload_n 0, 1) := by decide +kernel
theorem dX11_isPlace_1 : decode cX11_isPlace 1 = .ok (.i2l, 1) := by decide +kernel
theorem dX11_isPlace_2 : decode cX11_isPlace 2 = .ok (.lconst 0, 1) := by decide +kernel
theorem dX11_isPlace_3 : decode cX11_isPlace 3 = .ok (.ldc2_w 465, 3) := by decide +kernel
theorem dX11_isPlace_6 : decode cX11_isPlace 6 = .ok (.invokestatic 148, 3) := by decide +kernel
theorem dX11_isPlace_9 : decode cX11_isPlace 9 = .ok (.ifCond .eq 19, 3) := by decide +kernel
theorem dX11_isPlace_12 : decode cX11_isPlace 12 = .ok (.iload_n 1, 1) := by decide +kernel
theorem dX11_isPlace_13 : decode cX11_isPlace 13 = .ok (.i2l, 1) := by decide +kernel
theorem dX11_isPlace_14 : decode cX11_isPlace 14 = .ok (.lconst 0, 1) := by decide +kernel
theorem dX11_isPlace_15 : decode cX11_isPlace 15 = .ok (.ldc2_w 465, 3) := by decide +kernel
theorem dX11_isPlace_18 : decode cX11_isPlace 18 = .ok (.invokestatic 148, 3) := by decide +kernel
theorem dX11_isPlace_21 : decode cX11_isPlace 21 = .ok (.ifCond .eq 7, 3) := by decide +kernel
theorem dX11_isPlace_24 : decode cX11_isPlace 24 = .ok (.iconst 1, 1) := by decide +kernel
theorem dX11_isPlace_25 : decode cX11_isPlace 25 = .ok (.goto 4, 3) := by decide +kernel
theorem dX11_isPlace_28 : decode cX11_isPlace 28 = .ok (.iconst 0, 1) := by decide +kernel
theorem dX11_isPlace_29 : decode cX11_isPlace 29 = .ok (.ireturn, 1) := by decide +kernel
theorem dX11_ground_0 : decode cX11_ground 0 = .ok (.iload_n 1, 1) := by decide +kernel
theorem dX11_ground_1 : decode cX11_ground 1 = .ok (.iload_n 2, 1) := by decide +kernel
theorem dX11_ground_2 : decode cX11_ground 2 = .ok (.invokestatic 467, 3) := by decide +kernel
theorem dX11_ground_5 : decode cX11_ground 5 = .ok (.ifCond .eq 15, 3) := by decide +kernel
theorem dX11_ground_8 : decode cX11_ground 8 = .ok (.iload_n 3, 1) := by decide +kernel
theorem dX11_ground_9 : decode cX11_ground 9 = .ok (.i2l, 1) := by decide +kernel
theorem dX11_ground_10 : decode cX11_ground 10 = .ok (.lconst 0, 1) := by decide +kernel
theorem dX11_ground_11 : decode cX11_ground 11 = .ok (.ldc2_w 152, 3) := by decide +kernel
theorem dX11_ground_14 : decode cX11_ground 14 = .ok (.invokestatic 148, 3) := by decide +kernel
theorem dX11_ground_17 : decode cX11_ground 17 = .ok (.ifCond .ne 5, 3) := by decide +kernel
theorem dX11_ground_20 : decode cX11_ground 20 = .ok (.iconst (-1), 1) := by decide +kernel
theorem dX11_ground_21 : decode cX11_ground 21 = .ok (.ireturn, 1) := by decide +kernel
theorem dX11_ground_22 : decode cX11_ground 22 = .ok (.aload_n 0, 1) := by decide +kernel
theorem dX11_ground_23 : decode cX11_ground 23 = .ok (.getfield 106, 3) := by decide +kernel
theorem dX11_ground_26 : decode cX11_ground 26 = .ok (.bipush 12, 2) := by decide +kernel
theorem dX11_ground_28 : decode cX11_ground 28 = .ok (.iload_n 2, 1) := by decide +kernel
theorem dX11_ground_29 : decode cX11_ground 29 = .ok (.imul, 1) := by decide +kernel
theorem dX11_ground_30 : decode cX11_ground 30 = .ok (.iload_n 1, 1) := by decide +kernel
theorem dX11_ground_31 : decode cX11_ground 31 = .ok (.iadd, 1) := by decide +kernel
theorem dX11_ground_32 : decode cX11_ground 32 = .ok (.iaload, 1) := by decide +kernel
theorem dX11_ground_33 : decode cX11_ground 33 = .ok (.istore 4, 2) := by decide +kernel
theorem dX11_ground_35 : decode cX11_ground 35 = .ok (.aload_n 0, 1) := by decide +kernel
theorem dX11_ground_36 : decode cX11_ground 36 = .ok (.getfield 106, 3) := by decide +kernel
theorem dX11_ground_39 : decode cX11_ground 39 = .ok (.bipush 12, 2) := by decide +kernel
theorem dX11_ground_41 : decode cX11_ground 41 = .ok (.iload_n 2, 1) := by decide +kernel
theorem dX11_ground_42 : decode cX11_ground 42 = .ok (.imul, 1) := by decide +kernel
theorem dX11_ground_43 : decode cX11_ground 43 = .ok (.iload_n 1, 1) := by decide +kernel
theorem dX11_ground_44 : decode cX11_ground 44 = .ok (.iadd, 1) := by decide +kernel
theorem dX11_ground_45 : decode cX11_ground 45 = .ok (.iload_n 3, 1) := by decide +kernel
theorem dX11_ground_46 : decode cX11_ground 46 = .ok (.iastore, 1) := by decide +kernel
theorem dX11_ground_47 : decode cX11_ground 47 = .ok (.iload 4, 2) := by decide +kernel
theorem dX11_ground_49 : decode cX11_ground 49 = .ok (.ireturn, 1) := by decide +kernel
theorem dX11_stains_0 : decode cX11_stains 0 = .ok (.iconst 0, 1) := by decide +kernel
theorem dX11_stains_1 : decode cX11_stains 1 = .ok (.istore_n 1, 1) := by decide +kernel
theorem dX11_stains_2 : decode cX11_stains 2 = .ok (.iload_n 1, 1) := by decide +kernel
theorem dX11_stains_3 : decode cX11_stains 3 = .ok (.sipush 144, 3) := by decide +kernel
theorem dX11_stains_6 : decode cX11_stains 6 = .ok (.if_icmp .ge 87, 3) := by decide +kernel
theorem dX11_stains_9 : decode cX11_stains 9 = .ok (.aload_n 0, 1) := by decide +kernel
theorem dX11_stains_10 : decode cX11_stains 10 = .ok (.getfield 109, 3) := by decide +kernel
theorem dX11_stains_13 : decode cX11_stains 13 = .ok (.iload_n 1, 1) := by decide +kernel
theorem dX11_stains_14 : decode cX11_stains 14 = .ok (.iaload, 1) := by decide +kernel
theorem dX11_stains_15 : decode cX11_stains 15 = .ok (.ifCond .le 72, 3) := by decide +kernel
theorem dX11_stains_18 : decode cX11_stains 18 = .ok (.aload_n 0, 1) := by decide +kernel
theorem dX11_stains_19 : decode cX11_stains 19 = .ok (.getfield 106, 3) := by decide +kernel
theorem dX11_stains_22 : decode cX11_stains 22 = .ok (.iload_n 1, 1) := by decide +kernel
theorem dX11_stains_23 : decode cX11_stains 23 = .ok (.iaload, 1) := by decide +kernel
theorem dX11_stains_24 : decode cX11_stains 24 = .ok (.aload_n 0, 1) := by decide +kernel
theorem dX11_stains_25 : decode cX11_stains 25 = .ok (.getfield 109, 3) := by decide +kernel
theorem dX11_stains_28 : decode cX11_stains 28 = .ok (.iload_n 1, 1) := by decide +kernel
theorem dX11_stains_29 : decode cX11_stains 29 = .ok (.iaload, 1) := by decide +kernel
theorem dX11_stains_30 : decode cX11_stains 30 = .ok (.iadd, 1) := by decide +kernel
theorem dX11_stains_31 : decode cX11_stains 31 = .ok (.istore_n 2, 1) := by decide +kernel
theorem dX11_stains_32 : decode cX11_stains 32 = .ok (.aload_n 0, 1) := by decide +kernel
theorem dX11_stains_33 : decode cX11_stains 33 = .ok (.getfield 112, 3) := by decide +kernel
theorem dX11_stains_36 : decode cX11_stains 36 = .ok (.iload_n 1, 1) := by decide +kernel
theorem dX11_stains_37 : decode cX11_stains 37 = .ok (.iload_n 2, 1) := by decide +kernel
theorem dX11_stains_38 : decode cX11_stains 38 = .ok (.aload_n 0, 1) := by decide +kernel
theorem dX11_stains_39 : decode cX11_stains 39 = .ok (.getfield 112, 3) := by decide +kernel
theorem dX11_stains_42 : decode cX11_stains 42 = .ok (.iload_n 1, 1) := by decide +kernel
theorem dX11_stains_43 : decode cX11_stains 43 = .ok (.iaload, 1) := by decide +kernel
theorem dX11_stains_44 : decode cX11_stains 44 = .ok (.if_icmp .le 7, 3) := by decide +kernel
theorem dX11_stains_47 : decode cX11_stains 47 = .ok (.iload_n 2, 1) := by decide +kernel
theorem dX11_stains_48 : decode cX11_stains 48 = .ok (.goto 9, 3) := by decide +kernel
theorem dX11_stains_51 : decode cX11_stains 51 = .ok (.aload_n 0, 1) := by decide +kernel
theorem dX11_stains_52 : decode cX11_stains 52 = .ok (.getfield 112, 3) := by decide +kernel
theorem dX11_stains_55 : decode cX11_stains 55 = .ok (.iload_n 1, 1) := by decide +kernel
theorem dX11_stains_56 : decode cX11_stains 56 = .ok (.iaload, 1) := by decide +kernel
theorem dX11_stains_57 : decode cX11_stains 57 = .ok (.iastore, 1) := by decide +kernel
theorem dX11_stains_58 : decode cX11_stains 58 = .ok (.aload_n 0, 1) := by decide +kernel
theorem dX11_stains_59 : decode cX11_stains 59 = .ok (.getfield 115, 3) := by decide +kernel
theorem dX11_stains_62 : decode cX11_stains 62 = .ok (.iload_n 1, 1) := by decide +kernel
theorem dX11_stains_63 : decode cX11_stains 63 = .ok (.aload_n 0, 1) := by decide +kernel
theorem dX11_stains_64 : decode cX11_stains 64 = .ok (.getfield 115, 3) := by decide +kernel
theorem dX11_stains_67 : decode cX11_stains 67 = .ok (.iload_n 1, 1) := by decide +kernel
theorem dX11_stains_68 : decode cX11_stains 68 = .ok (.iaload, 1) := by decide +kernel
theorem dX11_stains_69 : decode cX11_stains 69 = .ok (.iconst (-1), 1) := by decide +kernel
theorem dX11_stains_70 : decode cX11_stains 70 = .ok (.if_icmp .ne 10, 3) := by decide +kernel
theorem dX11_stains_73 : decode cX11_stains 73 = .ok (.aload_n 0, 1) := by decide +kernel
theorem dX11_stains_74 : decode cX11_stains 74 = .ok (.getfield 470, 3) := by decide +kernel
theorem dX11_stains_77 : decode cX11_stains 77 = .ok (.goto 9, 3) := by decide +kernel
theorem dX11_stains_80 : decode cX11_stains 80 = .ok (.aload_n 0, 1) := by decide +kernel
theorem dX11_stains_81 : decode cX11_stains 81 = .ok (.getfield 115, 3) := by decide +kernel
theorem dX11_stains_84 : decode cX11_stains 84 = .ok (.iload_n 1, 1) := by decide +kernel
theorem dX11_stains_85 : decode cX11_stains 85 = .ok (.iaload, 1) := by decide +kernel
theorem dX11_stains_86 : decode cX11_stains 86 = .ok (.iastore, 1) := by decide +kernel
theorem dX11_stains_87 : decode cX11_stains 87 = .ok (.iinc 1 1, 3) := by decide +kernel
theorem dX11_stains_90 : decode cX11_stains 90 = .ok (.goto (-88), 3) := by decide +kernel
theorem dX11_stains_93 : decode cX11_stains 93 = .ok (.return_, 1) := by decide +kernel
theorem dX11_wave_0 : decode cX11_wave 0 = .ok (.iload_n 1, 1) := by decide +kernel
theorem dX11_wave_1 : decode cX11_wave 1 = .ok (.iload_n 2, 1) := by decide +kernel
theorem dX11_wave_2 : decode cX11_wave 2 = .ok (.invokestatic 467, 3) := by decide +kernel
theorem dX11_wave_5 : decode cX11_wave 5 = .ok (.ifCond .eq 41, 3) := by decide +kernel
theorem dX11_wave_8 : decode cX11_wave 8 = .ok (.iload_n 3, 1) := by decide +kernel
theorem dX11_wave_9 : decode cX11_wave 9 = .ok (.i2l, 1) := by decide +kernel
theorem dX11_wave_10 : decode cX11_wave 10 = .ok (.lconst 0, 1) := by decide +kernel
theorem dX11_wave_11 : decode cX11_wave 11 = .ok (.ldc2_w 473, 3) := by decide +kernel
theorem dX11_wave_14 : decode cX11_wave 14 = .ok (.invokestatic 148, 3) := by decide +kernel
theorem dX11_wave_17 : decode cX11_wave 17 = .ok (.ifCond .eq 29, 3) := by decide +kernel
theorem dX11_wave_20 : decode cX11_wave 20 = .ok (.iload 4, 2) := by decide +kernel
theorem dX11_wave_22 : decode cX11_wave 22 = .ok (.i2l, 1) := by decide +kernel
theorem dX11_wave_23 : decode cX11_wave 23 = .ok (.lconst 0, 1) := by decide +kernel
theorem dX11_wave_24 : decode cX11_wave 24 = .ok (.ldc2_w 146, 3) := by decide +kernel
theorem dX11_wave_27 : decode cX11_wave 27 = .ok (.invokestatic 148, 3) := by decide +kernel
theorem dX11_wave_30 : decode cX11_wave 30 = .ok (.ifCond .eq 16, 3) := by decide +kernel
theorem dX11_wave_33 : decode cX11_wave 33 = .ok (.iload 5, 2) := by decide +kernel
theorem dX11_wave_35 : decode cX11_wave 35 = .ok (.i2l, 1) := by decide +kernel
theorem dX11_wave_36 : decode cX11_wave 36 = .ok (.lconst 0, 1) := by decide +kernel
theorem dX11_wave_37 : decode cX11_wave 37 = .ok (.ldc2_w 152, 3) := by decide +kernel
theorem dX11_wave_40 : decode cX11_wave 40 = .ok (.invokestatic 148, 3) := by decide +kernel
theorem dX11_wave_43 : decode cX11_wave 43 = .ok (.ifCond .ne 5, 3) := by decide +kernel
theorem dX11_wave_46 : decode cX11_wave 46 = .ok (.iconst 0, 1) := by decide +kernel
theorem dX11_wave_47 : decode cX11_wave 47 = .ok (.ireturn, 1) := by decide +kernel
theorem dX11_wave_48 : decode cX11_wave 48 = .ok (.aload_n 0, 1) := by decide +kernel
theorem dX11_wave_49 : decode cX11_wave 49 = .ok (.iconst 1, 1) := by decide +kernel
theorem dX11_wave_50 : decode cX11_wave 50 = .ok (.putfield 475, 3) := by decide +kernel
theorem dX11_wave_53 : decode cX11_wave 53 = .ok (.aload_n 0, 1) := by decide +kernel
theorem dX11_wave_54 : decode cX11_wave 54 = .ok (.iload 4, 2) := by decide +kernel
theorem dX11_wave_56 : decode cX11_wave 56 = .ok (.putfield 478, 3) := by decide +kernel
theorem dX11_wave_59 : decode cX11_wave 59 = .ok (.aload_n 0, 1) := by decide +kernel
theorem dX11_wave_60 : decode cX11_wave 60 = .ok (.iload 5, 2) := by decide +kernel
theorem dX11_wave_62 : decode cX11_wave 62 = .ok (.putfield 481, 3) := by decide +kernel
theorem dX11_wave_65 : decode cX11_wave 65 = .ok (.aload_n 0, 1) := by decide +kernel
theorem dX11_wave_66 : decode cX11_wave 66 = .ok (.iconst 0, 1) := by decide +kernel
theorem dX11_wave_67 : decode cX11_wave 67 = .ok (.putfield 470, 3) := by decide +kernel
theorem dX11_wave_70 : decode cX11_wave 70 = .ok (.iconst 0, 1) := by decide +kernel
theorem dX11_wave_71 : decode cX11_wave 71 = .ok (.istore 6, 2) := by decide +kernel
theorem dX11_wave_73 : decode cX11_wave 73 = .ok (.iload 6, 2) := by decide +kernel
theorem dX11_wave_75 : decode cX11_wave 75 = .ok (.sipush 144, 3) := by decide +kernel
theorem dX11_wave_78 : decode cX11_wave 78 = .ok (.if_icmp .ge 33, 3) := by decide +kernel
theorem dX11_wave_81 : decode cX11_wave 81 = .ok (.aload_n 0, 1) := by decide +kernel
theorem dX11_wave_82 : decode cX11_wave 82 = .ok (.getfield 109, 3) := by decide +kernel
theorem dX11_wave_85 : decode cX11_wave 85 = .ok (.iload 6, 2) := by decide +kernel
theorem dX11_wave_87 : decode cX11_wave 87 = .ok (.iconst 0, 1) := by decide +kernel
theorem dX11_wave_88 : decode cX11_wave 88 = .ok (.iastore, 1) := by decide +kernel
theorem dX11_wave_89 : decode cX11_wave 89 = .ok (.aload_n 0, 1) := by decide +kernel
theorem dX11_wave_90 : decode cX11_wave 90 = .ok (.getfield 112, 3) := by decide +kernel
theorem dX11_wave_93 : decode cX11_wave 93 = .ok (.iload 6, 2) := by decide +kernel
theorem dX11_wave_95 : decode cX11_wave 95 = .ok (.iconst 0, 1) := by decide +kernel
theorem dX11_wave_96 : decode cX11_wave 96 = .ok (.iastore, 1) := by decide +kernel
theorem dX11_wave_97 : decode cX11_wave 97 = .ok (.aload_n 0, 1) := by decide +kernel
theorem dX11_wave_98 : decode cX11_wave 98 = .ok (.getfield 115, 3) := by decide +kernel
theorem dX11_wave_101 : decode cX11_wave 101 = .ok (.iload 6, 2) := by decide +kernel
theorem dX11_wave_103 : decode cX11_wave 103 = .ok (.iconst (-1), 1) := by decide +kernel
theorem dX11_wave_104 : decode cX11_wave 104 = .ok (.iastore, 1) := by decide +kernel
theorem dX11_wave_105 : decode cX11_wave 105 = .ok (.iinc 6 1, 3) := by decide +kernel
theorem dX11_wave_108 : decode cX11_wave 108 = .ok (.goto (-35), 3) := by decide +kernel
theorem dX11_wave_111 : decode cX11_wave 111 = .ok (.aload_n 0, 1) := by decide +kernel
theorem dX11_wave_112 : decode cX11_wave 112 = .ok (.getfield 109, 3) := by decide +kernel
theorem dX11_wave_115 : decode cX11_wave 115 = .ok (.bipush 12, 2) := by decide +kernel
theorem dX11_wave_117 : decode cX11_wave 117 = .ok (.iload_n 2, 1) := by decide +kernel
theorem dX11_wave_118 : decode cX11_wave 118 = .ok (.imul, 1) := by decide +kernel
theorem dX11_wave_119 : decode cX11_wave 119 = .ok (.iload_n 1, 1) := by decide +kernel
theorem dX11_wave_120 : decode cX11_wave 120 = .ok (.iadd, 1) := by decide +kernel
theorem dX11_wave_121 : decode cX11_wave 121 = .ok (.iload_n 3, 1) := by decide +kernel
theorem dX11_wave_122 : decode cX11_wave 122 = .ok (.iastore, 1) := by decide +kernel
theorem dX11_wave_123 : decode cX11_wave 123 = .ok (.aload_n 0, 1) := by decide +kernel
theorem dX11_wave_124 : decode cX11_wave 124 = .ok (.invokevirtual 484, 3) := by decide +kernel
theorem dX11_wave_127 : decode cX11_wave 127 = .ok (.iconst 1, 1) := by decide +kernel
theorem dX11_wave_128 : decode cX11_wave 128 = .ok (.ireturn, 1) := by decide +kernel
theorem dX11_flows_0 : decode cX11_flows 0 = .ok (.aload_n 0, 1) := by decide +kernel
theorem dX11_flows_1 : decode cX11_flows 1 = .ok (.getfield 118, 3) := by decide +kernel
theorem dX11_flows_4 : decode cX11_flows 4 = .ok (.iload_n 1, 1) := by decide +kernel
theorem dX11_flows_5 : decode cX11_flows 5 = .ok (.iaload, 1) := by decide +kernel
theorem dX11_flows_6 : decode cX11_flows 6 = .ok (.aload_n 0, 1) := by decide +kernel
theorem dX11_flows_7 : decode cX11_flows 7 = .ok (.getfield 118, 3) := by decide +kernel
theorem dX11_flows_10 : decode cX11_flows 10 = .ok (.iload_n 2, 1) := by decide +kernel
theorem dX11_flows_11 : decode cX11_flows 11 = .ok (.iaload, 1) := by decide +kernel
theorem dX11_flows_12 : decode cX11_flows 12 = .ok (.isub, 1) := by decide +kernel
theorem dX11_flows_13 : decode cX11_flows 13 = .ok (.iload_n 3, 1) := by decide +kernel
theorem dX11_flows_14 : decode cX11_flows 14 = .ok (.isub, 1) := by decide +kernel
theorem dX11_flows_15 : decode cX11_flows 15 = .ok (.istore 4, 2) := by decide +kernel
theorem dX11_flows_17 : decode cX11_flows 17 = .ok (.aload_n 0, 1) := by decide +kernel
theorem dX11_flows_18 : decode cX11_flows 18 = .ok (.getfield 109, 3) := by decide +kernel
theorem dX11_flows_21 : decode cX11_flows 21 = .ok (.iload_n 1, 1) := by decide +kernel
theorem dX11_flows_22 : decode cX11_flows 22 = .ok (.iaload, 1) := by decide +kernel
theorem dX11_flows_23 : decode cX11_flows 23 = .ok (.iconst 4, 1) := by decide +kernel
theorem dX11_flows_24 : decode cX11_flows 24 = .ok (.idiv, 1) := by decide +kernel
theorem dX11_flows_25 : decode cX11_flows 25 = .ok (.istore 5, 2) := by decide +kernel
theorem dX11_flows_27 : decode cX11_flows 27 = .ok (.iload 4, 2) := by decide +kernel
theorem dX11_flows_29 : decode cX11_flows 29 = .ok (.ifCond .le 47, 3) := by decide +kernel
theorem dX11_flows_32 : decode cX11_flows 32 = .ok (.iload 4, 2) := by decide +kernel
theorem dX11_flows_34 : decode cX11_flows 34 = .ok (.bipush 6, 2) := by decide +kernel
theorem dX11_flows_36 : decode cX11_flows 36 = .ok (.idiv, 1) := by decide +kernel
theorem dX11_flows_37 : decode cX11_flows 37 = .ok (.iload 5, 2) := by decide +kernel
theorem dX11_flows_39 : decode cX11_flows 39 = .ok (.if_icmp .ge 11, 3) := by decide +kernel
theorem dX11_flows_42 : decode cX11_flows 42 = .ok (.iload 4, 2) := by decide +kernel
theorem dX11_flows_44 : decode cX11_flows 44 = .ok (.bipush 6, 2) := by decide +kernel
theorem dX11_flows_46 : decode cX11_flows 46 = .ok (.idiv, 1) := by decide +kernel
theorem dX11_flows_47 : decode cX11_flows 47 = .ok (.goto 5, 3) := by decide +kernel
theorem dX11_flows_50 : decode cX11_flows 50 = .ok (.iload 5, 2) := by decide +kernel
theorem dX11_flows_52 : decode cX11_flows 52 = .ok (.istore 6, 2) := by decide +kernel
theorem dX11_flows_54 : decode cX11_flows 54 = .ok (.aload_n 0, 1) := by decide +kernel
theorem dX11_flows_55 : decode cX11_flows 55 = .ok (.getfield 121, 3) := by decide +kernel
theorem dX11_flows_58 : decode cX11_flows 58 = .ok (.iload_n 1, 1) := by decide +kernel
theorem dX11_flows_59 : decode cX11_flows 59 = .ok (.dup2, 1) := by decide +kernel
theorem dX11_flows_60 : decode cX11_flows 60 = .ok (.iaload, 1) := by decide +kernel
theorem dX11_flows_61 : decode cX11_flows 61 = .ok (.iload 6, 2) := by decide +kernel
theorem dX11_flows_63 : decode cX11_flows 63 = .ok (.isub, 1) := by decide +kernel
theorem dX11_flows_64 : decode cX11_flows 64 = .ok (.iastore, 1) := by decide +kernel
theorem dX11_flows_65 : decode cX11_flows 65 = .ok (.aload_n 0, 1) := by decide +kernel
theorem dX11_flows_66 : decode cX11_flows 66 = .ok (.getfield 121, 3) := by decide +kernel
theorem dX11_flows_69 : decode cX11_flows 69 = .ok (.iload_n 2, 1) := by decide +kernel
theorem dX11_flows_70 : decode cX11_flows 70 = .ok (.dup2, 1) := by decide +kernel
theorem dX11_flows_71 : decode cX11_flows 71 = .ok (.iaload, 1) := by decide +kernel
theorem dX11_flows_72 : decode cX11_flows 72 = .ok (.iload 6, 2) := by decide +kernel
theorem dX11_flows_74 : decode cX11_flows 74 = .ok (.iadd, 1) := by decide +kernel
theorem dX11_flows_75 : decode cX11_flows 75 = .ok (.iastore, 1) := by decide +kernel
theorem dX11_flows_76 : decode cX11_flows 76 = .ok (.return_, 1) := by decide +kernel
theorem dX11_minute_0 : decode cX11_minute 0 = .ok (.aload_n 0, 1) := by decide +kernel
theorem dX11_minute_1 : decode cX11_minute 1 = .ok (.getfield 470, 3) := by decide +kernel
theorem dX11_minute_4 : decode cX11_minute 4 = .ok (.aload_n 0, 1) := by decide +kernel
theorem dX11_minute_5 : decode cX11_minute 5 = .ok (.getfield 478, 3) := by decide +kernel
theorem dX11_minute_8 : decode cX11_minute 8 = .ok (.if_icmp .ge 7, 3) := by decide +kernel
theorem dX11_minute_11 : decode cX11_minute 11 = .ok (.iconst 0, 1) := by decide +kernel
theorem dX11_minute_12 : decode cX11_minute 12 = .ok (.goto 7, 3) := by decide +kernel
theorem dX11_minute_15 : decode cX11_minute 15 = .ok (.aload_n 0, 1) := by decide +kernel
theorem dX11_minute_16 : decode cX11_minute 16 = .ok (.getfield 481, 3) := by decide +kernel
theorem dX11_minute_19 : decode cX11_minute 19 = .ok (.istore_n 1, 1) := by decide +kernel
theorem dX11_minute_20 : decode cX11_minute 20 = .ok (.iconst 0, 1) := by decide +kernel
theorem dX11_minute_21 : decode cX11_minute 21 = .ok (.istore_n 2, 1) := by decide +kernel
theorem dX11_minute_22 : decode cX11_minute 22 = .ok (.iload_n 2, 1) := by decide +kernel
theorem dX11_minute_23 : decode cX11_minute 23 = .ok (.sipush 144, 3) := by decide +kernel
theorem dX11_minute_26 : decode cX11_minute 26 = .ok (.if_icmp .ge 35, 3) := by decide +kernel
theorem dX11_minute_29 : decode cX11_minute 29 = .ok (.aload_n 0, 1) := by decide +kernel
theorem dX11_minute_30 : decode cX11_minute 30 = .ok (.getfield 118, 3) := by decide +kernel
theorem dX11_minute_33 : decode cX11_minute 33 = .ok (.iload_n 2, 1) := by decide +kernel
theorem dX11_minute_34 : decode cX11_minute 34 = .ok (.aload_n 0, 1) := by decide +kernel
theorem dX11_minute_35 : decode cX11_minute 35 = .ok (.getfield 106, 3) := by decide +kernel
theorem dX11_minute_38 : decode cX11_minute 38 = .ok (.iload_n 2, 1) := by decide +kernel
theorem dX11_minute_39 : decode cX11_minute 39 = .ok (.iaload, 1) := by decide +kernel
theorem dX11_minute_40 : decode cX11_minute 40 = .ok (.aload_n 0, 1) := by decide +kernel
theorem dX11_minute_41 : decode cX11_minute 41 = .ok (.getfield 109, 3) := by decide +kernel
theorem dX11_minute_44 : decode cX11_minute 44 = .ok (.iload_n 2, 1) := by decide +kernel
theorem dX11_minute_45 : decode cX11_minute 45 = .ok (.iaload, 1) := by decide +kernel
theorem dX11_minute_46 : decode cX11_minute 46 = .ok (.iadd, 1) := by decide +kernel
theorem dX11_minute_47 : decode cX11_minute 47 = .ok (.iastore, 1) := by decide +kernel
theorem dX11_minute_48 : decode cX11_minute 48 = .ok (.aload_n 0, 1) := by decide +kernel
theorem dX11_minute_49 : decode cX11_minute 49 = .ok (.getfield 121, 3) := by decide +kernel
theorem dX11_minute_52 : decode cX11_minute 52 = .ok (.iload_n 2, 1) := by decide +kernel
theorem dX11_minute_53 : decode cX11_minute 53 = .ok (.iconst 0, 1) := by decide +kernel
theorem dX11_minute_54 : decode cX11_minute 54 = .ok (.iastore, 1) := by decide +kernel
theorem dX11_minute_55 : decode cX11_minute 55 = .ok (.iinc 2 1, 3) := by decide +kernel
theorem dX11_minute_58 : decode cX11_minute 58 = .ok (.goto (-36), 3) := by decide +kernel
theorem dX11_minute_61 : decode cX11_minute 61 = .ok (.iconst 0, 1) := by decide +kernel
theorem dX11_minute_62 : decode cX11_minute 62 = .ok (.istore_n 2, 1) := by decide +kernel
theorem dX11_minute_63 : decode cX11_minute 63 = .ok (.iload_n 2, 1) := by decide +kernel
theorem dX11_minute_64 : decode cX11_minute 64 = .ok (.sipush 144, 3) := by decide +kernel
theorem dX11_minute_67 : decode cX11_minute 67 = .ok (.if_icmp .ge 60, 3) := by decide +kernel
theorem dX11_minute_70 : decode cX11_minute 70 = .ok (.iload_n 2, 1) := by decide +kernel
theorem dX11_minute_71 : decode cX11_minute 71 = .ok (.bipush 12, 2) := by decide +kernel
theorem dX11_minute_73 : decode cX11_minute 73 = .ok (.irem, 1) := by decide +kernel
theorem dX11_minute_74 : decode cX11_minute 74 = .ok (.ifCond .le 21, 3) := by decide +kernel
theorem dX11_minute_77 : decode cX11_minute 77 = .ok (.aload_n 0, 1) := by decide +kernel
theorem dX11_minute_78 : decode cX11_minute 78 = .ok (.iload_n 2, 1) := by decide +kernel
theorem dX11_minute_79 : decode cX11_minute 79 = .ok (.iload_n 2, 1) := by decide +kernel
theorem dX11_minute_80 : decode cX11_minute 80 = .ok (.iconst 1, 1) := by decide +kernel
theorem dX11_minute_81 : decode cX11_minute 81 = .ok (.isub, 1) := by decide +kernel
theorem dX11_minute_82 : decode cX11_minute 82 = .ok (.iload_n 1, 1) := by decide +kernel
theorem dX11_minute_83 : decode cX11_minute 83 = .ok (.invokevirtual 487, 3) := by decide +kernel
theorem dX11_minute_86 : decode cX11_minute 86 = .ok (.aload_n 0, 1) := by decide +kernel
theorem dX11_minute_87 : decode cX11_minute 87 = .ok (.iload_n 2, 1) := by decide +kernel
theorem dX11_minute_88 : decode cX11_minute 88 = .ok (.iconst 1, 1) := by decide +kernel
theorem dX11_minute_89 : decode cX11_minute 89 = .ok (.isub, 1) := by decide +kernel
theorem dX11_minute_90 : decode cX11_minute 90 = .ok (.iload_n 2, 1) := by decide +kernel
theorem dX11_minute_91 : decode cX11_minute 91 = .ok (.iload_n 1, 1) := by decide +kernel
theorem dX11_minute_92 : decode cX11_minute 92 = .ok (.invokevirtual 487, 3) := by decide +kernel
theorem dX11_minute_95 : decode cX11_minute 95 = .ok (.iload_n 2, 1) := by decide +kernel
theorem dX11_minute_96 : decode cX11_minute 96 = .ok (.bipush 12, 2) := by decide +kernel
theorem dX11_minute_98 : decode cX11_minute 98 = .ok (.if_icmp .lt 23, 3) := by decide +kernel
theorem dX11_minute_101 : decode cX11_minute 101 = .ok (.aload_n 0, 1) := by decide +kernel
theorem dX11_minute_102 : decode cX11_minute 102 = .ok (.iload_n 2, 1) := by decide +kernel
theorem dX11_minute_103 : decode cX11_minute 103 = .ok (.iload_n 2, 1) := by decide +kernel
theorem dX11_minute_104 : decode cX11_minute 104 = .ok (.bipush 12, 2) := by decide +kernel
theorem dX11_minute_106 : decode cX11_minute 106 = .ok (.isub, 1) := by decide +kernel
theorem dX11_minute_107 : decode cX11_minute 107 = .ok (.iload_n 1, 1) := by decide +kernel
theorem dX11_minute_108 : decode cX11_minute 108 = .ok (.invokevirtual 487, 3) := by decide +kernel
theorem dX11_minute_111 : decode cX11_minute 111 = .ok (.aload_n 0, 1) := by decide +kernel
theorem dX11_minute_112 : decode cX11_minute 112 = .ok (.iload_n 2, 1) := by decide +kernel
theorem dX11_minute_113 : decode cX11_minute 113 = .ok (.bipush 12, 2) := by decide +kernel
theorem dX11_minute_115 : decode cX11_minute 115 = .ok (.isub, 1) := by decide +kernel
theorem dX11_minute_116 : decode cX11_minute 116 = .ok (.iload_n 2, 1) := by decide +kernel
theorem dX11_minute_117 : decode cX11_minute 117 = .ok (.iload_n 1, 1) := by decide +kernel
theorem dX11_minute_118 : decode cX11_minute 118 = .ok (.invokevirtual 487, 3) := by decide +kernel
theorem dX11_minute_121 : decode cX11_minute 121 = .ok (.iinc 2 1, 3) := by decide +kernel
theorem dX11_minute_124 : decode cX11_minute 124 = .ok (.goto (-61), 3) := by decide +kernel
theorem dX11_minute_127 : decode cX11_minute 127 = .ok (.iconst 0, 1) := by decide +kernel
theorem dX11_minute_128 : decode cX11_minute 128 = .ok (.istore_n 2, 1) := by decide +kernel
theorem dX11_minute_129 : decode cX11_minute 129 = .ok (.iload_n 2, 1) := by decide +kernel
theorem dX11_minute_130 : decode cX11_minute 130 = .ok (.sipush 144, 3) := by decide +kernel
theorem dX11_minute_133 : decode cX11_minute 133 = .ok (.if_icmp .ge 24, 3) := by decide +kernel
theorem dX11_minute_136 : decode cX11_minute 136 = .ok (.aload_n 0, 1) := by decide +kernel
theorem dX11_minute_137 : decode cX11_minute 137 = .ok (.getfield 109, 3) := by decide +kernel
theorem dX11_minute_140 : decode cX11_minute 140 = .ok (.iload_n 2, 1) := by decide +kernel
theorem dX11_minute_141 : decode cX11_minute 141 = .ok (.dup2, 1) := by decide +kernel
theorem dX11_minute_142 : decode cX11_minute 142 = .ok (.iaload, 1) := by decide +kernel
theorem dX11_minute_143 : decode cX11_minute 143 = .ok (.aload_n 0, 1) := by decide +kernel
theorem dX11_minute_144 : decode cX11_minute 144 = .ok (.getfield 121, 3) := by decide +kernel
theorem dX11_minute_147 : decode cX11_minute 147 = .ok (.iload_n 2, 1) := by decide +kernel
theorem dX11_minute_148 : decode cX11_minute 148 = .ok (.iaload, 1) := by decide +kernel
theorem dX11_minute_149 : decode cX11_minute 149 = .ok (.iadd, 1) := by decide +kernel
theorem dX11_minute_150 : decode cX11_minute 150 = .ok (.iastore, 1) := by decide +kernel
theorem dX11_minute_151 : decode cX11_minute 151 = .ok (.iinc 2 1, 3) := by decide +kernel
theorem dX11_minute_154 : decode cX11_minute 154 = .ok (.goto (-25), 3) := by decide +kernel
theorem dX11_minute_157 : decode cX11_minute 157 = .ok (.aload_n 0, 1) := by decide +kernel
theorem dX11_minute_158 : decode cX11_minute 158 = .ok (.dup, 1) := by decide +kernel
theorem dX11_minute_159 : decode cX11_minute 159 = .ok (.getfield 470, 3) := by decide +kernel
theorem dX11_minute_162 : decode cX11_minute 162 = .ok (.iconst 1, 1) := by decide +kernel
theorem dX11_minute_163 : decode cX11_minute 163 = .ok (.iadd, 1) := by decide +kernel
theorem dX11_minute_164 : decode cX11_minute 164 = .ok (.putfield 470, 3) := by decide +kernel
theorem dX11_minute_167 : decode cX11_minute 167 = .ok (.aload_n 0, 1) := by decide +kernel
theorem dX11_minute_168 : decode cX11_minute 168 = .ok (.invokevirtual 484, 3) := by decide +kernel
theorem dX11_minute_171 : decode cX11_minute 171 = .ok (.return_, 1) := by decide +kernel
theorem dX11_minutes_0 : decode cX11_minutes 0 = .ok (.aload_n 0, 1) := by decide +kernel
theorem dX11_minutes_1 : decode cX11_minutes 1 = .ok (.getfield 475, 3) := by decide +kernel
theorem dX11_minutes_4 : decode cX11_minutes 4 = .ok (.ifCond .eq 15, 3) := by decide +kernel
theorem dX11_minutes_7 : decode cX11_minutes 7 = .ok (.iload_n 1, 1) := by decide +kernel
theorem dX11_minutes_8 : decode cX11_minutes 8 = .ok (.i2l, 1) := by decide +kernel
theorem dX11_minutes_9 : decode cX11_minutes 9 = .ok (.lconst 0, 1) := by decide +kernel
theorem dX11_minutes_10 : decode cX11_minutes 10 = .ok (.ldc2_w 491, 3) := by decide +kernel
theorem dX11_minutes_13 : decode cX11_minutes 13 = .ok (.invokestatic 148, 3) := by decide +kernel
theorem dX11_minutes_16 : decode cX11_minutes 16 = .ok (.ifCond .ne 5, 3) := by decide +kernel
theorem dX11_minutes_19 : decode cX11_minutes 19 = .ok (.iconst (-1), 1) := by decide +kernel
theorem dX11_minutes_20 : decode cX11_minutes 20 = .ok (.ireturn, 1) := by decide +kernel
theorem dX11_minutes_21 : decode cX11_minutes 21 = .ok (.iconst 0, 1) := by decide +kernel
theorem dX11_minutes_22 : decode cX11_minutes 22 = .ok (.istore_n 2, 1) := by decide +kernel
theorem dX11_minutes_23 : decode cX11_minutes 23 = .ok (.iload_n 2, 1) := by decide +kernel
theorem dX11_minutes_24 : decode cX11_minutes 24 = .ok (.iload_n 1, 1) := by decide +kernel
theorem dX11_minutes_25 : decode cX11_minutes 25 = .ok (.if_icmp .ge 13, 3) := by decide +kernel
theorem dX11_minutes_28 : decode cX11_minutes 28 = .ok (.aload_n 0, 1) := by decide +kernel
theorem dX11_minutes_29 : decode cX11_minutes 29 = .ok (.invokevirtual 493, 3) := by decide +kernel
theorem dX11_minutes_32 : decode cX11_minutes 32 = .ok (.iinc 2 1, 3) := by decide +kernel
theorem dX11_minutes_35 : decode cX11_minutes 35 = .ok (.goto (-12), 3) := by decide +kernel
theorem dX11_minutes_38 : decode cX11_minutes 38 = .ok (.aload_n 0, 1) := by decide +kernel
theorem dX11_minutes_39 : decode cX11_minutes 39 = .ok (.getfield 470, 3) := by decide +kernel
theorem dX11_minutes_42 : decode cX11_minutes 42 = .ok (.ireturn, 1) := by decide +kernel
theorem dX11_place_0 : decode cX11_place 0 = .ok (.iload_n 1, 1) := by decide +kernel
theorem dX11_place_1 : decode cX11_place 1 = .ok (.iload_n 2, 1) := by decide +kernel
theorem dX11_place_2 : decode cX11_place 2 = .ok (.invokestatic 467, 3) := by decide +kernel
theorem dX11_place_5 : decode cX11_place 5 = .ok (.ifCond .eq 15, 3) := by decide +kernel
theorem dX11_place_8 : decode cX11_place 8 = .ok (.iload_n 3, 1) := by decide +kernel
theorem dX11_place_9 : decode cX11_place 9 = .ok (.i2l, 1) := by decide +kernel
theorem dX11_place_10 : decode cX11_place 10 = .ok (.lconst 0, 1) := by decide +kernel
theorem dX11_place_11 : decode cX11_place 11 = .ok (.ldc2_w 496, 3) := by decide +kernel
theorem dX11_place_14 : decode cX11_place 14 = .ok (.invokestatic 148, 3) := by decide +kernel
theorem dX11_place_17 : decode cX11_place 17 = .ok (.ifCond .ne 7, 3) := by decide +kernel
theorem dX11_place_20 : decode cX11_place 20 = .ok (.sipush (-1000), 3) := by decide +kernel
theorem dX11_place_23 : decode cX11_place 23 = .ok (.ireturn, 1) := by decide +kernel
theorem dX11_place_24 : decode cX11_place 24 = .ok (.bipush 12, 2) := by decide +kernel
theorem dX11_place_26 : decode cX11_place 26 = .ok (.iload_n 2, 1) := by decide +kernel
theorem dX11_place_27 : decode cX11_place 27 = .ok (.imul, 1) := by decide +kernel
theorem dX11_place_28 : decode cX11_place 28 = .ok (.iload_n 1, 1) := by decide +kernel
theorem dX11_place_29 : decode cX11_place 29 = .ok (.iadd, 1) := by decide +kernel
theorem dX11_place_30 : decode cX11_place 30 = .ok (.istore 4, 2) := by decide +kernel
theorem dX11_place_32 : decode cX11_place 32 = .ok (.iload_n 3, 1) := by decide +kernel
theorem dX11_place_33 : decode cX11_place 33 = .ok (.tableswitch 59 0 2 #[27, 35, 51], 27) := by decide +kernel
theorem dX11_place_60 : decode cX11_place 60 = .ok (.aload_n 0, 1) := by decide +kernel
theorem dX11_place_61 : decode cX11_place 61 = .ok (.getfield 109, 3) := by decide +kernel
theorem dX11_place_64 : decode cX11_place 64 = .ok (.iload 4, 2) := by decide +kernel
theorem dX11_place_66 : decode cX11_place 66 = .ok (.iaload, 1) := by decide +kernel
theorem dX11_place_67 : decode cX11_place 67 = .ok (.ireturn, 1) := by decide +kernel
theorem dX11_place_68 : decode cX11_place 68 = .ok (.aload_n 0, 1) := by decide +kernel
theorem dX11_place_69 : decode cX11_place 69 = .ok (.getfield 106, 3) := by decide +kernel
theorem dX11_place_72 : decode cX11_place 72 = .ok (.iload 4, 2) := by decide +kernel
theorem dX11_place_74 : decode cX11_place 74 = .ok (.iaload, 1) := by decide +kernel
theorem dX11_place_75 : decode cX11_place 75 = .ok (.aload_n 0, 1) := by decide +kernel
theorem dX11_place_76 : decode cX11_place 76 = .ok (.getfield 109, 3) := by decide +kernel
theorem dX11_place_79 : decode cX11_place 79 = .ok (.iload 4, 2) := by decide +kernel
theorem dX11_place_81 : decode cX11_place 81 = .ok (.iaload, 1) := by decide +kernel
theorem dX11_place_82 : decode cX11_place 82 = .ok (.iadd, 1) := by decide +kernel
theorem dX11_place_83 : decode cX11_place 83 = .ok (.ireturn, 1) := by decide +kernel
theorem dX11_place_84 : decode cX11_place 84 = .ok (.aload_n 0, 1) := by decide +kernel
theorem dX11_place_85 : decode cX11_place 85 = .ok (.getfield 112, 3) := by decide +kernel
theorem dX11_place_88 : decode cX11_place 88 = .ok (.iload 4, 2) := by decide +kernel
theorem dX11_place_90 : decode cX11_place 90 = .ok (.iaload, 1) := by decide +kernel
theorem dX11_place_91 : decode cX11_place 91 = .ok (.ireturn, 1) := by decide +kernel
theorem dX11_place_92 : decode cX11_place 92 = .ok (.aload_n 0, 1) := by decide +kernel
theorem dX11_place_93 : decode cX11_place 93 = .ok (.getfield 475, 3) := by decide +kernel
theorem dX11_place_96 : decode cX11_place 96 = .ok (.ifCond .eq 13, 3) := by decide +kernel
theorem dX11_place_99 : decode cX11_place 99 = .ok (.aload_n 0, 1) := by decide +kernel
theorem dX11_place_100 : decode cX11_place 100 = .ok (.getfield 115, 3) := by decide +kernel
theorem dX11_place_103 : decode cX11_place 103 = .ok (.iload 4, 2) := by decide +kernel
theorem dX11_place_105 : decode cX11_place 105 = .ok (.iaload, 1) := by decide +kernel
theorem dX11_place_106 : decode cX11_place 106 = .ok (.goto 4, 3) := by decide +kernel
theorem dX11_place_109 : decode cX11_place 109 = .ok (.iconst (-1), 1) := by decide +kernel
theorem dX11_place_110 : decode cX11_place 110 = .ok (.ireturn, 1) := by decide +kernel
theorem dX11_witness_0 : decode cX11_witness 0 = .ok (.aload_n 0, 1) := by decide +kernel
theorem dX11_witness_1 : decode cX11_witness 1 = .ok (.getfield 235, 3) := by decide +kernel
theorem dX11_witness_4 : decode cX11_witness 4 = .ok (.sipush 300, 3) := by decide +kernel
theorem dX11_witness_7 : decode cX11_witness 7 = .ok (.if_icmp .eq 41, 3) := by decide +kernel
theorem dX11_witness_10 : decode cX11_witness 10 = .ok (.iload_n 1, 1) := by decide +kernel
theorem dX11_witness_11 : decode cX11_witness 11 = .ok (.i2l, 1) := by decide +kernel
theorem dX11_witness_12 : decode cX11_witness 12 = .ok (.lconst 0, 1) := by decide +kernel
theorem dX11_witness_13 : decode cX11_witness 13 = .ok (.aload_n 0, 1) := by decide +kernel
theorem dX11_witness_14 : decode cX11_witness 14 = .ok (.getfield 212, 3) := by decide +kernel
theorem dX11_witness_17 : decode cX11_witness 17 = .ok (.i2l, 1) := by decide +kernel
theorem dX11_witness_18 : decode cX11_witness 18 = .ok (.invokestatic 148, 3) := by decide +kernel
theorem dX11_witness_21 : decode cX11_witness 21 = .ok (.ifCond .eq 27, 3) := by decide +kernel
theorem dX11_witness_24 : decode cX11_witness 24 = .ok (.iload_n 2, 1) := by decide +kernel
theorem dX11_witness_25 : decode cX11_witness 25 = .ok (.i2l, 1) := by decide +kernel
theorem dX11_witness_26 : decode cX11_witness 26 = .ok (.lconst 0, 1) := by decide +kernel
theorem dX11_witness_27 : decode cX11_witness 27 = .ok (.ldc2_w 498, 3) := by decide +kernel
theorem dX11_witness_30 : decode cX11_witness 30 = .ok (.invokestatic 148, 3) := by decide +kernel
theorem dX11_witness_33 : decode cX11_witness 33 = .ok (.ifCond .eq 15, 3) := by decide +kernel
theorem dX11_witness_36 : decode cX11_witness 36 = .ok (.iload_n 3, 1) := by decide +kernel
theorem dX11_witness_37 : decode cX11_witness 37 = .ok (.i2l, 1) := by decide +kernel
theorem dX11_witness_38 : decode cX11_witness 38 = .ok (.lconst 0, 1) := by decide +kernel
theorem dX11_witness_39 : decode cX11_witness 39 = .ok (.ldc2_w 500, 3) := by decide +kernel
theorem dX11_witness_42 : decode cX11_witness 42 = .ok (.invokestatic 148, 3) := by decide +kernel
theorem dX11_witness_45 : decode cX11_witness 45 = .ok (.ifCond .ne 5, 3) := by decide +kernel
theorem dX11_witness_48 : decode cX11_witness 48 = .ok (.iconst (-1), 1) := by decide +kernel
theorem dX11_witness_49 : decode cX11_witness 49 = .ok (.ireturn, 1) := by decide +kernel
theorem dX11_witness_50 : decode cX11_witness 50 = .ok (.aload_n 0, 1) := by decide +kernel
theorem dX11_witness_51 : decode cX11_witness 51 = .ok (.getfield 124, 3) := by decide +kernel
theorem dX11_witness_54 : decode cX11_witness 54 = .ok (.aload_n 0, 1) := by decide +kernel
theorem dX11_witness_55 : decode cX11_witness 55 = .ok (.getfield 235, 3) := by decide +kernel
theorem dX11_witness_58 : decode cX11_witness 58 = .ok (.iload_n 1, 1) := by decide +kernel
theorem dX11_witness_59 : decode cX11_witness 59 = .ok (.iastore, 1) := by decide +kernel
theorem dX11_witness_60 : decode cX11_witness 60 = .ok (.aload_n 0, 1) := by decide +kernel
theorem dX11_witness_61 : decode cX11_witness 61 = .ok (.getfield 127, 3) := by decide +kernel
theorem dX11_witness_64 : decode cX11_witness 64 = .ok (.aload_n 0, 1) := by decide +kernel
theorem dX11_witness_65 : decode cX11_witness 65 = .ok (.getfield 235, 3) := by decide +kernel
theorem dX11_witness_68 : decode cX11_witness 68 = .ok (.iload_n 2, 1) := by decide +kernel
theorem dX11_witness_69 : decode cX11_witness 69 = .ok (.iastore, 1) := by decide +kernel
theorem dX11_witness_70 : decode cX11_witness 70 = .ok (.aload_n 0, 1) := by decide +kernel
theorem dX11_witness_71 : decode cX11_witness 71 = .ok (.getfield 130, 3) := by decide +kernel
theorem dX11_witness_74 : decode cX11_witness 74 = .ok (.aload_n 0, 1) := by decide +kernel
theorem dX11_witness_75 : decode cX11_witness 75 = .ok (.getfield 235, 3) := by decide +kernel
theorem dX11_witness_78 : decode cX11_witness 78 = .ok (.iload_n 3, 1) := by decide +kernel
theorem dX11_witness_79 : decode cX11_witness 79 = .ok (.iastore, 1) := by decide +kernel
theorem dX11_witness_80 : decode cX11_witness 80 = .ok (.aload_n 0, 1) := by decide +kernel
theorem dX11_witness_81 : decode cX11_witness 81 = .ok (.dup, 1) := by decide +kernel
theorem dX11_witness_82 : decode cX11_witness 82 = .ok (.getfield 235, 3) := by decide +kernel
theorem dX11_witness_85 : decode cX11_witness 85 = .ok (.iconst 1, 1) := by decide +kernel
theorem dX11_witness_86 : decode cX11_witness 86 = .ok (.iadd, 1) := by decide +kernel
theorem dX11_witness_87 : decode cX11_witness 87 = .ok (.putfield 235, 3) := by decide +kernel
theorem dX11_witness_90 : decode cX11_witness 90 = .ok (.aload_n 0, 1) := by decide +kernel
theorem dX11_witness_91 : decode cX11_witness 91 = .ok (.getfield 235, 3) := by decide +kernel
theorem dX11_witness_94 : decode cX11_witness 94 = .ok (.ireturn, 1) := by decide +kernel
theorem dX11_lean_0 : decode cX11_lean 0 = .ok (.iload_n 1, 1) := by decide +kernel
theorem dX11_lean_1 : decode cX11_lean 1 = .ok (.i2l, 1) := by decide +kernel
theorem dX11_lean_2 : decode cX11_lean 2 = .ok (.lconst 0, 1) := by decide +kernel
theorem dX11_lean_3 : decode cX11_lean 3 = .ok (.ldc2_w 498, 3) := by decide +kernel
theorem dX11_lean_6 : decode cX11_lean 6 = .ok (.invokestatic 148, 3) := by decide +kernel
theorem dX11_lean_9 : decode cX11_lean 9 = .ok (.ifCond .eq 52, 3) := by decide +kernel
theorem dX11_lean_12 : decode cX11_lean 12 = .ok (.iload_n 2, 1) := by decide +kernel
theorem dX11_lean_13 : decode cX11_lean 13 = .ok (.i2l, 1) := by decide +kernel
theorem dX11_lean_14 : decode cX11_lean 14 = .ok (.lconst 0, 1) := by decide +kernel
theorem dX11_lean_15 : decode cX11_lean 15 = .ok (.ldc2_w 502, 3) := by decide +kernel
theorem dX11_lean_18 : decode cX11_lean 18 = .ok (.invokestatic 148, 3) := by decide +kernel
theorem dX11_lean_21 : decode cX11_lean 21 = .ok (.ifCond .eq 40, 3) := by decide +kernel
theorem dX11_lean_24 : decode cX11_lean 24 = .ok (.iload_n 3, 1) := by decide +kernel
theorem dX11_lean_25 : decode cX11_lean 25 = .ok (.i2l, 1) := by decide +kernel
theorem dX11_lean_26 : decode cX11_lean 26 = .ok (.lconst 0, 1) := by decide +kernel
theorem dX11_lean_27 : decode cX11_lean 27 = .ok (.ldc2_w 473, 3) := by decide +kernel
theorem dX11_lean_30 : decode cX11_lean 30 = .ok (.invokestatic 148, 3) := by decide +kernel
theorem dX11_lean_33 : decode cX11_lean 33 = .ok (.ifCond .eq 28, 3) := by decide +kernel
theorem dX11_lean_36 : decode cX11_lean 36 = .ok (.iload 4, 2) := by decide +kernel
theorem dX11_lean_38 : decode cX11_lean 38 = .ok (.i2l, 1) := by decide +kernel
theorem dX11_lean_39 : decode cX11_lean 39 = .ok (.iload_n 3, 1) := by decide +kernel
theorem dX11_lean_40 : decode cX11_lean 40 = .ok (.i2l, 1) := by decide +kernel
theorem dX11_lean_41 : decode cX11_lean 41 = .ok (.ldc2_w 473, 3) := by decide +kernel
theorem dX11_lean_44 : decode cX11_lean 44 = .ok (.invokestatic 148, 3) := by decide +kernel
theorem dX11_lean_47 : decode cX11_lean 47 = .ok (.ifCond .eq 14, 3) := by decide +kernel
theorem dX11_lean_50 : decode cX11_lean 50 = .ok (.iload 5, 2) := by decide +kernel
theorem dX11_lean_52 : decode cX11_lean 52 = .ok (.i2l, 1) := by decide +kernel
theorem dX11_lean_53 : decode cX11_lean 53 = .ok (.lconst 0, 1) := by decide +kernel
theorem dX11_lean_54 : decode cX11_lean 54 = .ok (.lconst 1, 1) := by decide +kernel
theorem dX11_lean_55 : decode cX11_lean 55 = .ok (.invokestatic 148, 3) := by decide +kernel
theorem dX11_lean_58 : decode cX11_lean 58 = .ok (.ifCond .ne 7, 3) := by decide +kernel
theorem dX11_lean_61 : decode cX11_lean 61 = .ok (.sipush (-1000), 3) := by decide +kernel
theorem dX11_lean_64 : decode cX11_lean 64 = .ok (.ireturn, 1) := by decide +kernel
theorem dX11_lean_65 : decode cX11_lean 65 = .ok (.iconst 0, 1) := by decide +kernel
theorem dX11_lean_66 : decode cX11_lean 66 = .ok (.istore 6, 2) := by decide +kernel
theorem dX11_lean_68 : decode cX11_lean 68 = .ok (.iconst 0, 1) := by decide +kernel
theorem dX11_lean_69 : decode cX11_lean 69 = .ok (.istore 7, 2) := by decide +kernel
theorem dX11_lean_71 : decode cX11_lean 71 = .ok (.iconst 0, 1) := by decide +kernel
theorem dX11_lean_72 : decode cX11_lean 72 = .ok (.istore 8, 2) := by decide +kernel
theorem dX11_lean_74 : decode cX11_lean 74 = .ok (.iconst 0, 1) := by decide +kernel
theorem dX11_lean_75 : decode cX11_lean 75 = .ok (.istore 9, 2) := by decide +kernel
theorem dX11_lean_77 : decode cX11_lean 77 = .ok (.iconst 0, 1) := by decide +kernel
theorem dX11_lean_78 : decode cX11_lean 78 = .ok (.istore 10, 2) := by decide +kernel
theorem dX11_lean_80 : decode cX11_lean 80 = .ok (.iload 10, 2) := by decide +kernel
theorem dX11_lean_82 : decode cX11_lean 82 = .ok (.aload_n 0, 1) := by decide +kernel
theorem dX11_lean_83 : decode cX11_lean 83 = .ok (.getfield 235, 3) := by decide +kernel
theorem dX11_lean_86 : decode cX11_lean 86 = .ok (.if_icmp .ge 130, 3) := by decide +kernel
theorem dX11_lean_89 : decode cX11_lean 89 = .ok (.aload_n 0, 1) := by decide +kernel
theorem dX11_lean_90 : decode cX11_lean 90 = .ok (.getfield 124, 3) := by decide +kernel
theorem dX11_lean_93 : decode cX11_lean 93 = .ok (.iload 10, 2) := by decide +kernel
theorem dX11_lean_95 : decode cX11_lean 95 = .ok (.iaload, 1) := by decide +kernel
theorem dX11_lean_96 : decode cX11_lean 96 = .ok (.i2l, 1) := by decide +kernel
theorem dX11_lean_97 : decode cX11_lean 97 = .ok (.iload_n 3, 1) := by decide +kernel
theorem dX11_lean_98 : decode cX11_lean 98 = .ok (.i2l, 1) := by decide +kernel
theorem dX11_lean_99 : decode cX11_lean 99 = .ok (.iload 4, 2) := by decide +kernel
theorem dX11_lean_101 : decode cX11_lean 101 = .ok (.i2l, 1) := by decide +kernel
theorem dX11_lean_102 : decode cX11_lean 102 = .ok (.invokestatic 148, 3) := by decide +kernel
theorem dX11_lean_105 : decode cX11_lean 105 = .ok (.ifCond .eq 105, 3) := by decide +kernel
theorem dX11_lean_108 : decode cX11_lean 108 = .ok (.aload_n 0, 1) := by decide +kernel
theorem dX11_lean_109 : decode cX11_lean 109 = .ok (.getfield 130, 3) := by decide +kernel
theorem dX11_lean_112 : decode cX11_lean 112 = .ok (.iload 10, 2) := by decide +kernel
theorem dX11_lean_114 : decode cX11_lean 114 = .ok (.iaload, 1) := by decide +kernel
theorem dX11_lean_115 : decode cX11_lean 115 = .ok (.iload_n 2, 1) := by decide +kernel
theorem dX11_lean_116 : decode cX11_lean 116 = .ok (.ishr, 1) := by decide +kernel
theorem dX11_lean_117 : decode cX11_lean 117 = .ok (.iconst 1, 1) := by decide +kernel
theorem dX11_lean_118 : decode cX11_lean 118 = .ok (.iand, 1) := by decide +kernel
theorem dX11_lean_119 : decode cX11_lean 119 = .ok (.iconst 1, 1) := by decide +kernel
theorem dX11_lean_120 : decode cX11_lean 120 = .ok (.if_icmp .ne 7, 3) := by decide +kernel
theorem dX11_lean_123 : decode cX11_lean 123 = .ok (.iconst 1, 1) := by decide +kernel
theorem dX11_lean_124 : decode cX11_lean 124 = .ok (.goto 4, 3) := by decide +kernel
theorem dX11_lean_127 : decode cX11_lean 127 = .ok (.iconst 0, 1) := by decide +kernel
theorem dX11_lean_128 : decode cX11_lean 128 = .ok (.istore 11, 2) := by decide +kernel
theorem dX11_lean_130 : decode cX11_lean 130 = .ok (.aload_n 0, 1) := by decide +kernel
theorem dX11_lean_131 : decode cX11_lean 131 = .ok (.getfield 127, 3) := by decide +kernel
theorem dX11_lean_134 : decode cX11_lean 134 = .ok (.iload 10, 2) := by decide +kernel
theorem dX11_lean_136 : decode cX11_lean 136 = .ok (.iaload, 1) := by decide +kernel
theorem dX11_lean_137 : decode cX11_lean 137 = .ok (.iload_n 1, 1) := by decide +kernel
theorem dX11_lean_138 : decode cX11_lean 138 = .ok (.if_icmp .ne 7, 3) := by decide +kernel
theorem dX11_lean_141 : decode cX11_lean 141 = .ok (.iconst 1, 1) := by decide +kernel
theorem dX11_lean_142 : decode cX11_lean 142 = .ok (.goto 4, 3) := by decide +kernel
theorem dX11_lean_145 : decode cX11_lean 145 = .ok (.iconst 0, 1) := by decide +kernel
theorem dX11_lean_146 : decode cX11_lean 146 = .ok (.istore 12, 2) := by decide +kernel
theorem dX11_lean_148 : decode cX11_lean 148 = .ok (.iload 6, 2) := by decide +kernel
theorem dX11_lean_150 : decode cX11_lean 150 = .ok (.iload 11, 2) := by decide +kernel
theorem dX11_lean_152 : decode cX11_lean 152 = .ok (.ifCond .eq 7, 3) := by decide +kernel
theorem dX11_lean_155 : decode cX11_lean 155 = .ok (.iconst 1, 1) := by decide +kernel
theorem dX11_lean_156 : decode cX11_lean 156 = .ok (.goto 4, 3) := by decide +kernel
theorem dX11_lean_159 : decode cX11_lean 159 = .ok (.iconst 0, 1) := by decide +kernel
theorem dX11_lean_160 : decode cX11_lean 160 = .ok (.iadd, 1) := by decide +kernel
theorem dX11_lean_161 : decode cX11_lean 161 = .ok (.istore 6, 2) := by decide +kernel
theorem dX11_lean_163 : decode cX11_lean 163 = .ok (.iload 7, 2) := by decide +kernel
theorem dX11_lean_165 : decode cX11_lean 165 = .ok (.iload 11, 2) := by decide +kernel
theorem dX11_lean_167 : decode cX11_lean 167 = .ok (.ifCond .eq 7, 3) := by decide +kernel
theorem dX11_lean_170 : decode cX11_lean 170 = .ok (.iconst 0, 1) := by decide +kernel
theorem dX11_lean_171 : decode cX11_lean 171 = .ok (.goto 4, 3) := by decide +kernel
theorem dX11_lean_174 : decode cX11_lean 174 = .ok (.iconst 1, 1) := by decide +kernel
theorem dX11_lean_175 : decode cX11_lean 175 = .ok (.iadd, 1) := by decide +kernel
theorem dX11_lean_176 : decode cX11_lean 176 = .ok (.istore 7, 2) := by decide +kernel
theorem dX11_lean_178 : decode cX11_lean 178 = .ok (.iload 8, 2) := by decide +kernel
theorem dX11_lean_180 : decode cX11_lean 180 = .ok (.iload 11, 2) := by decide +kernel
theorem dX11_lean_182 : decode cX11_lean 182 = .ok (.ifCond .eq 8, 3) := by decide +kernel
theorem dX11_lean_185 : decode cX11_lean 185 = .ok (.iload 12, 2) := by decide +kernel
theorem dX11_lean_187 : decode cX11_lean 187 = .ok (.goto 4, 3) := by decide +kernel
theorem dX11_lean_190 : decode cX11_lean 190 = .ok (.iconst 0, 1) := by decide +kernel
theorem dX11_lean_191 : decode cX11_lean 191 = .ok (.iadd, 1) := by decide +kernel
theorem dX11_lean_192 : decode cX11_lean 192 = .ok (.istore 8, 2) := by decide +kernel
theorem dX11_lean_194 : decode cX11_lean 194 = .ok (.iload 9, 2) := by decide +kernel
theorem dX11_lean_196 : decode cX11_lean 196 = .ok (.iload 11, 2) := by decide +kernel
theorem dX11_lean_198 : decode cX11_lean 198 = .ok (.ifCond .eq 7, 3) := by decide +kernel
theorem dX11_lean_201 : decode cX11_lean 201 = .ok (.iconst 0, 1) := by decide +kernel
theorem dX11_lean_202 : decode cX11_lean 202 = .ok (.goto 5, 3) := by decide +kernel
theorem dX11_lean_205 : decode cX11_lean 205 = .ok (.iload 12, 2) := by decide +kernel
theorem dX11_lean_207 : decode cX11_lean 207 = .ok (.iadd, 1) := by decide +kernel
theorem dX11_lean_208 : decode cX11_lean 208 = .ok (.istore 9, 2) := by decide +kernel
theorem dX11_lean_210 : decode cX11_lean 210 = .ok (.iinc 10 1, 3) := by decide +kernel
theorem dX11_lean_213 : decode cX11_lean 213 = .ok (.goto (-133), 3) := by decide +kernel
theorem dX11_lean_216 : decode cX11_lean 216 = .ok (.iload 6, 2) := by decide +kernel
theorem dX11_lean_218 : decode cX11_lean 218 = .ok (.ifCond .eq 8, 3) := by decide +kernel
theorem dX11_lean_221 : decode cX11_lean 221 = .ok (.iload 7, 2) := by decide +kernel
theorem dX11_lean_223 : decode cX11_lean 223 = .ok (.ifCond .ne 5, 3) := by decide +kernel
theorem dX11_lean_226 : decode cX11_lean 226 = .ok (.iconst 0, 1) := by decide +kernel
theorem dX11_lean_227 : decode cX11_lean 227 = .ok (.ireturn, 1) := by decide +kernel
theorem dX11_lean_228 : decode cX11_lean 228 = .ok (.iload 8, 2) := by decide +kernel
theorem dX11_lean_230 : decode cX11_lean 230 = .ok (.iload 7, 2) := by decide +kernel
theorem dX11_lean_232 : decode cX11_lean 232 = .ok (.imul, 1) := by decide +kernel
theorem dX11_lean_233 : decode cX11_lean 233 = .ok (.iload 9, 2) := by decide +kernel
theorem dX11_lean_235 : decode cX11_lean 235 = .ok (.iload 6, 2) := by decide +kernel
theorem dX11_lean_237 : decode cX11_lean 237 = .ok (.imul, 1) := by decide +kernel
theorem dX11_lean_238 : decode cX11_lean 238 = .ok (.isub, 1) := by decide +kernel
theorem dX11_lean_239 : decode cX11_lean 239 = .ok (.istore 10, 2) := by decide +kernel
theorem dX11_lean_241 : decode cX11_lean 241 = .ok (.iload 6, 2) := by decide +kernel
theorem dX11_lean_243 : decode cX11_lean 243 = .ok (.iload 7, 2) := by decide +kernel
theorem dX11_lean_245 : decode cX11_lean 245 = .ok (.imul, 1) := by decide +kernel
theorem dX11_lean_246 : decode cX11_lean 246 = .ok (.istore 11, 2) := by decide +kernel
theorem dX11_lean_248 : decode cX11_lean 248 = .ok (.iload 10, 2) := by decide +kernel
theorem dX11_lean_250 : decode cX11_lean 250 = .ok (.ifCond .ge 9, 3) := by decide +kernel
theorem dX11_lean_253 : decode cX11_lean 253 = .ok (.iload 10, 2) := by decide +kernel
theorem dX11_lean_255 : decode cX11_lean 255 = .ok (.ineg, 1) := by decide +kernel
theorem dX11_lean_256 : decode cX11_lean 256 = .ok (.goto 5, 3) := by decide +kernel
theorem dX11_lean_259 : decode cX11_lean 259 = .ok (.iload 10, 2) := by decide +kernel
theorem dX11_lean_261 : decode cX11_lean 261 = .ok (.istore 12, 2) := by decide +kernel
theorem dX11_lean_263 : decode cX11_lean 263 = .ok (.iload 11, 2) := by decide +kernel
theorem dX11_lean_265 : decode cX11_lean 265 = .ok (.istore 13, 2) := by decide +kernel
theorem dX11_lean_267 : decode cX11_lean 267 = .ok (.iload 12, 2) := by decide +kernel
theorem dX11_lean_269 : decode cX11_lean 269 = .ok (.ifCond .eq 21, 3) := by decide +kernel
theorem dX11_lean_272 : decode cX11_lean 272 = .ok (.iload 13, 2) := by decide +kernel
theorem dX11_lean_274 : decode cX11_lean 274 = .ok (.iload 12, 2) := by decide +kernel
theorem dX11_lean_276 : decode cX11_lean 276 = .ok (.irem, 1) := by decide +kernel
theorem dX11_lean_277 : decode cX11_lean 277 = .ok (.istore 14, 2) := by decide +kernel
theorem dX11_lean_279 : decode cX11_lean 279 = .ok (.iload 12, 2) := by decide +kernel
theorem dX11_lean_281 : decode cX11_lean 281 = .ok (.istore 13, 2) := by decide +kernel
theorem dX11_lean_283 : decode cX11_lean 283 = .ok (.iload 14, 2) := by decide +kernel
theorem dX11_lean_285 : decode cX11_lean 285 = .ok (.istore 12, 2) := by decide +kernel
theorem dX11_lean_287 : decode cX11_lean 287 = .ok (.goto (-20), 3) := by decide +kernel
theorem dX11_lean_290 : decode cX11_lean 290 = .ok (.iload 5, 2) := by decide +kernel
theorem dX11_lean_292 : decode cX11_lean 292 = .ok (.ifCond .ne 11, 3) := by decide +kernel
theorem dX11_lean_295 : decode cX11_lean 295 = .ok (.iload 10, 2) := by decide +kernel
theorem dX11_lean_297 : decode cX11_lean 297 = .ok (.iload 13, 2) := by decide +kernel
theorem dX11_lean_299 : decode cX11_lean 299 = .ok (.idiv, 1) := by decide +kernel
theorem dX11_lean_300 : decode cX11_lean 300 = .ok (.goto 8, 3) := by decide +kernel
theorem dX11_lean_303 : decode cX11_lean 303 = .ok (.iload 11, 2) := by decide +kernel
theorem dX11_lean_305 : decode cX11_lean 305 = .ok (.iload 13, 2) := by decide +kernel
theorem dX11_lean_307 : decode cX11_lean 307 = .ok (.idiv, 1) := by decide +kernel
theorem dX11_lean_308 : decode cX11_lean 308 = .ok (.ireturn, 1) := by decide +kernel
theorem dX11_carry_0 : decode cX11_carry 0 = .ok (.iconst 0, 1) := by decide +kernel
theorem dX11_carry_1 : decode cX11_carry 1 = .ok (.istore_n 2, 1) := by decide +kernel
theorem dX11_carry_2 : decode cX11_carry 2 = .ok (.iload_n 2, 1) := by decide +kernel
theorem dX11_carry_3 : decode cX11_carry 3 = .ok (.aload_n 1, 1) := by decide +kernel
theorem dX11_carry_4 : decode cX11_carry 4 = .ok (.arraylength, 1) := by decide +kernel
theorem dX11_carry_5 : decode cX11_carry 5 = .ok (.if_icmp .ge 53, 3) := by decide +kernel
theorem dX11_carry_8 : decode cX11_carry 8 = .ok (.aload_n 0, 1) := by decide +kernel
theorem dX11_carry_9 : decode cX11_carry 9 = .ok (.getfield 504, 3) := by decide +kernel
theorem dX11_carry_12 : decode cX11_carry 12 = .ok (.ifCond .eq 18, 3) := by decide +kernel
theorem dX11_carry_15 : decode cX11_carry 15 = .ok (.aload_n 1, 1) := by decide +kernel
theorem dX11_carry_16 : decode cX11_carry 16 = .ok (.iload_n 2, 1) := by decide +kernel
theorem dX11_carry_17 : decode cX11_carry 17 = .ok (.aload_n 0, 1) := by decide +kernel
theorem dX11_carry_18 : decode cX11_carry 18 = .ok (.getfield 133, 3) := by decide +kernel
theorem dX11_carry_21 : decode cX11_carry 21 = .ok (.aload_n 0, 1) := by decide +kernel
theorem dX11_carry_22 : decode cX11_carry 22 = .ok (.getfield 507, 3) := by decide +kernel
theorem dX11_carry_25 : decode cX11_carry 25 = .ok (.iaload, 1) := by decide +kernel
theorem dX11_carry_26 : decode cX11_carry 26 = .ok (.iastore, 1) := by decide +kernel
theorem dX11_carry_27 : decode cX11_carry 27 = .ok (.goto 15, 3) := by decide +kernel
theorem dX11_carry_30 : decode cX11_carry 30 = .ok (.aload_n 0, 1) := by decide +kernel
theorem dX11_carry_31 : decode cX11_carry 31 = .ok (.getfield 133, 3) := by decide +kernel
theorem dX11_carry_34 : decode cX11_carry 34 = .ok (.aload_n 0, 1) := by decide +kernel
theorem dX11_carry_35 : decode cX11_carry 35 = .ok (.getfield 507, 3) := by decide +kernel
theorem dX11_carry_38 : decode cX11_carry 38 = .ok (.aload_n 1, 1) := by decide +kernel
theorem dX11_carry_39 : decode cX11_carry 39 = .ok (.iload_n 2, 1) := by decide +kernel
theorem dX11_carry_40 : decode cX11_carry 40 = .ok (.iaload, 1) := by decide +kernel
theorem dX11_carry_41 : decode cX11_carry 41 = .ok (.iastore, 1) := by decide +kernel
theorem dX11_carry_42 : decode cX11_carry 42 = .ok (.aload_n 0, 1) := by decide +kernel
theorem dX11_carry_43 : decode cX11_carry 43 = .ok (.dup, 1) := by decide +kernel
theorem dX11_carry_44 : decode cX11_carry 44 = .ok (.getfield 507, 3) := by decide +kernel
theorem dX11_carry_47 : decode cX11_carry 47 = .ok (.iconst 1, 1) := by decide +kernel
theorem dX11_carry_48 : decode cX11_carry 48 = .ok (.iadd, 1) := by decide +kernel
theorem dX11_carry_49 : decode cX11_carry 49 = .ok (.putfield 507, 3) := by decide +kernel
theorem dX11_carry_52 : decode cX11_carry 52 = .ok (.iinc 2 1, 3) := by decide +kernel
theorem dX11_carry_55 : decode cX11_carry 55 = .ok (.goto (-53), 3) := by decide +kernel
theorem dX11_carry_58 : decode cX11_carry 58 = .ok (.return_, 1) := by decide +kernel
theorem dX11_carries_0 : decode cX11_carries 0 = .ok (.aload_n 0, 1) := by decide +kernel
theorem dX11_carries_1 : decode cX11_carries 1 = .ok (.sipush 1660, 3) := by decide +kernel
theorem dX11_carries_4 : decode cX11_carries 4 = .ok (.iload_n 1, 1) := by decide +kernel
theorem dX11_carries_5 : decode cX11_carries 5 = .ok (.imul, 1) := by decide +kernel
theorem dX11_carries_6 : decode cX11_carries 6 = .ok (.putfield 507, 3) := by decide +kernel
theorem dX11_carries_9 : decode cX11_carries 9 = .ok (.aload_n 0, 1) := by decide +kernel
theorem dX11_carries_10 : decode cX11_carries 10 = .ok (.aload_n 0, 1) := by decide +kernel
theorem dX11_carries_11 : decode cX11_carries 11 = .ok (.getfield 136, 3) := by decide +kernel
theorem dX11_carries_14 : decode cX11_carries 14 = .ok (.invokevirtual 510, 3) := by decide +kernel
theorem dX11_carries_17 : decode cX11_carries 17 = .ok (.aload_n 0, 1) := by decide +kernel
theorem dX11_carries_18 : decode cX11_carries 18 = .ok (.aload_n 0, 1) := by decide +kernel
theorem dX11_carries_19 : decode cX11_carries 19 = .ok (.getfield 22, 3) := by decide +kernel
theorem dX11_carries_22 : decode cX11_carries 22 = .ok (.invokevirtual 510, 3) := by decide +kernel
theorem dX11_carries_25 : decode cX11_carries 25 = .ok (.aload_n 0, 1) := by decide +kernel
theorem dX11_carries_26 : decode cX11_carries 26 = .ok (.aload_n 0, 1) := by decide +kernel
theorem dX11_carries_27 : decode cX11_carries 27 = .ok (.getfield 26, 3) := by decide +kernel
theorem dX11_carries_30 : decode cX11_carries 30 = .ok (.invokevirtual 510, 3) := by decide +kernel
theorem dX11_carries_33 : decode cX11_carries 33 = .ok (.aload_n 0, 1) := by decide +kernel
theorem dX11_carries_34 : decode cX11_carries 34 = .ok (.aload_n 0, 1) := by decide +kernel
theorem dX11_carries_35 : decode cX11_carries 35 = .ok (.getfield 29, 3) := by decide +kernel
theorem dX11_carries_38 : decode cX11_carries 38 = .ok (.invokevirtual 510, 3) := by decide +kernel
theorem dX11_carries_41 : decode cX11_carries 41 = .ok (.aload_n 0, 1) := by decide +kernel
theorem dX11_carries_42 : decode cX11_carries 42 = .ok (.aload_n 0, 1) := by decide +kernel
theorem dX11_carries_43 : decode cX11_carries 43 = .ok (.getfield 32, 3) := by decide +kernel
theorem dX11_carries_46 : decode cX11_carries 46 = .ok (.invokevirtual 510, 3) := by decide +kernel
theorem dX11_carries_49 : decode cX11_carries 49 = .ok (.aload_n 0, 1) := by decide +kernel
theorem dX11_carries_50 : decode cX11_carries 50 = .ok (.aload_n 0, 1) := by decide +kernel
theorem dX11_carries_51 : decode cX11_carries 51 = .ok (.getfield 35, 3) := by decide +kernel
theorem dX11_carries_54 : decode cX11_carries 54 = .ok (.invokevirtual 510, 3) := by decide +kernel
theorem dX11_carries_57 : decode cX11_carries 57 = .ok (.aload_n 0, 1) := by decide +kernel
theorem dX11_carries_58 : decode cX11_carries 58 = .ok (.aload_n 0, 1) := by decide +kernel
theorem dX11_carries_59 : decode cX11_carries 59 = .ok (.getfield 38, 3) := by decide +kernel
theorem dX11_carries_62 : decode cX11_carries 62 = .ok (.invokevirtual 510, 3) := by decide +kernel
theorem dX11_carries_65 : decode cX11_carries 65 = .ok (.aload_n 0, 1) := by decide +kernel
theorem dX11_carries_66 : decode cX11_carries 66 = .ok (.aload_n 0, 1) := by decide +kernel
theorem dX11_carries_67 : decode cX11_carries 67 = .ok (.getfield 41, 3) := by decide +kernel
theorem dX11_carries_70 : decode cX11_carries 70 = .ok (.invokevirtual 510, 3) := by decide +kernel
theorem dX11_carries_73 : decode cX11_carries 73 = .ok (.aload_n 0, 1) := by decide +kernel
theorem dX11_carries_74 : decode cX11_carries 74 = .ok (.aload_n 0, 1) := by decide +kernel
theorem dX11_carries_75 : decode cX11_carries 75 = .ok (.getfield 44, 3) := by decide +kernel
theorem dX11_carries_78 : decode cX11_carries 78 = .ok (.invokevirtual 510, 3) := by decide +kernel
theorem dX11_carries_81 : decode cX11_carries 81 = .ok (.aload_n 0, 1) := by decide +kernel
theorem dX11_carries_82 : decode cX11_carries 82 = .ok (.aload_n 0, 1) := by decide +kernel
theorem dX11_carries_83 : decode cX11_carries 83 = .ok (.getfield 47, 3) := by decide +kernel
theorem dX11_carries_86 : decode cX11_carries 86 = .ok (.invokevirtual 510, 3) := by decide +kernel
theorem dX11_carries_89 : decode cX11_carries 89 = .ok (.aload_n 0, 1) := by decide +kernel
theorem dX11_carries_90 : decode cX11_carries 90 = .ok (.aload_n 0, 1) := by decide +kernel
theorem dX11_carries_91 : decode cX11_carries 91 = .ok (.getfield 50, 3) := by decide +kernel
theorem dX11_carries_94 : decode cX11_carries 94 = .ok (.invokevirtual 510, 3) := by decide +kernel
theorem dX11_carries_97 : decode cX11_carries 97 = .ok (.aload_n 0, 1) := by decide +kernel
theorem dX11_carries_98 : decode cX11_carries 98 = .ok (.aload_n 0, 1) := by decide +kernel
theorem dX11_carries_99 : decode cX11_carries 99 = .ok (.getfield 53, 3) := by decide +kernel
theorem dX11_carries_102 : decode cX11_carries 102 = .ok (.invokevirtual 510, 3) := by decide +kernel
theorem dX11_carries_105 : decode cX11_carries 105 = .ok (.aload_n 0, 1) := by decide +kernel
theorem dX11_carries_106 : decode cX11_carries 106 = .ok (.aload_n 0, 1) := by decide +kernel
theorem dX11_carries_107 : decode cX11_carries 107 = .ok (.getfield 97, 3) := by decide +kernel
theorem dX11_carries_110 : decode cX11_carries 110 = .ok (.invokevirtual 510, 3) := by decide +kernel
theorem dX11_carries_113 : decode cX11_carries 113 = .ok (.aload_n 0, 1) := by decide +kernel
theorem dX11_carries_114 : decode cX11_carries 114 = .ok (.aload_n 0, 1) := by decide +kernel
theorem dX11_carries_115 : decode cX11_carries 115 = .ok (.getfield 103, 3) := by decide +kernel
theorem dX11_carries_118 : decode cX11_carries 118 = .ok (.invokevirtual 510, 3) := by decide +kernel
theorem dX11_carries_121 : decode cX11_carries 121 = .ok (.aload_n 0, 1) := by decide +kernel
theorem dX11_carries_122 : decode cX11_carries 122 = .ok (.aload_n 0, 1) := by decide +kernel
theorem dX11_carries_123 : decode cX11_carries 123 = .ok (.getfield 106, 3) := by decide +kernel
theorem dX11_carries_126 : decode cX11_carries 126 = .ok (.invokevirtual 510, 3) := by decide +kernel
theorem dX11_carries_129 : decode cX11_carries 129 = .ok (.aload_n 0, 1) := by decide +kernel
theorem dX11_carries_130 : decode cX11_carries 130 = .ok (.aload_n 0, 1) := by decide +kernel
theorem dX11_carries_131 : decode cX11_carries 131 = .ok (.getfield 109, 3) := by decide +kernel
theorem dX11_carries_134 : decode cX11_carries 134 = .ok (.invokevirtual 510, 3) := by decide +kernel
theorem dX11_carries_137 : decode cX11_carries 137 = .ok (.aload_n 0, 1) := by decide +kernel
theorem dX11_carries_138 : decode cX11_carries 138 = .ok (.aload_n 0, 1) := by decide +kernel
theorem dX11_carries_139 : decode cX11_carries 139 = .ok (.getfield 112, 3) := by decide +kernel
theorem dX11_carries_142 : decode cX11_carries 142 = .ok (.invokevirtual 510, 3) := by decide +kernel
theorem dX11_carries_145 : decode cX11_carries 145 = .ok (.aload_n 0, 1) := by decide +kernel
theorem dX11_carries_146 : decode cX11_carries 146 = .ok (.aload_n 0, 1) := by decide +kernel
theorem dX11_carries_147 : decode cX11_carries 147 = .ok (.getfield 115, 3) := by decide +kernel
theorem dX11_carries_150 : decode cX11_carries 150 = .ok (.invokevirtual 510, 3) := by decide +kernel
theorem dX11_carries_153 : decode cX11_carries 153 = .ok (.aload_n 0, 1) := by decide +kernel
theorem dX11_carries_154 : decode cX11_carries 154 = .ok (.aload_n 0, 1) := by decide +kernel
theorem dX11_carries_155 : decode cX11_carries 155 = .ok (.getfield 124, 3) := by decide +kernel
theorem dX11_carries_158 : decode cX11_carries 158 = .ok (.invokevirtual 510, 3) := by decide +kernel
theorem dX11_carries_161 : decode cX11_carries 161 = .ok (.aload_n 0, 1) := by decide +kernel
theorem dX11_carries_162 : decode cX11_carries 162 = .ok (.aload_n 0, 1) := by decide +kernel
theorem dX11_carries_163 : decode cX11_carries 163 = .ok (.getfield 127, 3) := by decide +kernel
theorem dX11_carries_166 : decode cX11_carries 166 = .ok (.invokevirtual 510, 3) := by decide +kernel
theorem dX11_carries_169 : decode cX11_carries 169 = .ok (.aload_n 0, 1) := by decide +kernel
theorem dX11_carries_170 : decode cX11_carries 170 = .ok (.aload_n 0, 1) := by decide +kernel
theorem dX11_carries_171 : decode cX11_carries 171 = .ok (.getfield 130, 3) := by decide +kernel
theorem dX11_carries_174 : decode cX11_carries 174 = .ok (.invokevirtual 510, 3) := by decide +kernel
theorem dX11_carries_177 : decode cX11_carries 177 = .ok (.return_, 1) := by decide +kernel
theorem dX11_mark_0 : decode cX11_mark 0 = .ok (.iload_n 1, 1) := by decide +kernel
theorem dX11_mark_1 : decode cX11_mark 1 = .ok (.i2l, 1) := by decide +kernel
theorem dX11_mark_2 : decode cX11_mark 2 = .ok (.lconst 0, 1) := by decide +kernel
theorem dX11_mark_3 : decode cX11_mark 3 = .ok (.ldc2_w 496, 3) := by decide +kernel
theorem dX11_mark_6 : decode cX11_mark 6 = .ok (.invokestatic 148, 3) := by decide +kernel
theorem dX11_mark_9 : decode cX11_mark 9 = .ok (.ifCond .ne 5, 3) := by decide +kernel
theorem dX11_mark_12 : decode cX11_mark 12 = .ok (.iconst (-1), 1) := by decide +kernel
theorem dX11_mark_13 : decode cX11_mark 13 = .ok (.ireturn, 1) := by decide +kernel
theorem dX11_mark_14 : decode cX11_mark 14 = .ok (.aload_n 0, 1) := by decide +kernel
theorem dX11_mark_15 : decode cX11_mark 15 = .ok (.getfield 136, 3) := by decide +kernel
theorem dX11_mark_18 : decode cX11_mark 18 = .ok (.iconst 0, 1) := by decide +kernel
theorem dX11_mark_19 : decode cX11_mark 19 = .ok (.aload_n 0, 1) := by decide +kernel
theorem dX11_mark_20 : decode cX11_mark 20 = .ok (.getfield 212, 3) := by decide +kernel
theorem dX11_mark_23 : decode cX11_mark 23 = .ok (.iastore, 1) := by decide +kernel
theorem dX11_mark_24 : decode cX11_mark 24 = .ok (.aload_n 0, 1) := by decide +kernel
theorem dX11_mark_25 : decode cX11_mark 25 = .ok (.getfield 136, 3) := by decide +kernel
theorem dX11_mark_28 : decode cX11_mark 28 = .ok (.iconst 1, 1) := by decide +kernel
theorem dX11_mark_29 : decode cX11_mark 29 = .ok (.aload_n 0, 1) := by decide +kernel
theorem dX11_mark_30 : decode cX11_mark 30 = .ok (.getfield 156, 3) := by decide +kernel
theorem dX11_mark_33 : decode cX11_mark 33 = .ok (.ifCond .eq 7, 3) := by decide +kernel
theorem dX11_mark_36 : decode cX11_mark 36 = .ok (.iconst 1, 1) := by decide +kernel
theorem dX11_mark_37 : decode cX11_mark 37 = .ok (.goto 4, 3) := by decide +kernel
theorem dX11_mark_40 : decode cX11_mark 40 = .ok (.iconst 0, 1) := by decide +kernel
theorem dX11_mark_41 : decode cX11_mark 41 = .ok (.iastore, 1) := by decide +kernel
theorem dX11_mark_42 : decode cX11_mark 42 = .ok (.aload_n 0, 1) := by decide +kernel
theorem dX11_mark_43 : decode cX11_mark 43 = .ok (.getfield 136, 3) := by decide +kernel
theorem dX11_mark_46 : decode cX11_mark 46 = .ok (.iconst 2, 1) := by decide +kernel
theorem dX11_mark_47 : decode cX11_mark 47 = .ok (.aload_n 0, 1) := by decide +kernel
theorem dX11_mark_48 : decode cX11_mark 48 = .ok (.getfield 160, 3) := by decide +kernel
theorem dX11_mark_51 : decode cX11_mark 51 = .ok (.iastore, 1) := by decide +kernel
theorem dX11_mark_52 : decode cX11_mark 52 = .ok (.aload_n 0, 1) := by decide +kernel
theorem dX11_mark_53 : decode cX11_mark 53 = .ok (.getfield 136, 3) := by decide +kernel
theorem dX11_mark_56 : decode cX11_mark 56 = .ok (.iconst 3, 1) := by decide +kernel
theorem dX11_mark_57 : decode cX11_mark 57 = .ok (.aload_n 0, 1) := by decide +kernel
theorem dX11_mark_58 : decode cX11_mark 58 = .ok (.getfield 163, 3) := by decide +kernel
theorem dX11_mark_61 : decode cX11_mark 61 = .ok (.iastore, 1) := by decide +kernel
theorem dX11_mark_62 : decode cX11_mark 62 = .ok (.aload_n 0, 1) := by decide +kernel
theorem dX11_mark_63 : decode cX11_mark 63 = .ok (.getfield 136, 3) := by decide +kernel
theorem dX11_mark_66 : decode cX11_mark 66 = .ok (.iconst 4, 1) := by decide +kernel
theorem dX11_mark_67 : decode cX11_mark 67 = .ok (.aload_n 0, 1) := by decide +kernel
theorem dX11_mark_68 : decode cX11_mark 68 = .ok (.getfield 166, 3) := by decide +kernel
theorem dX11_mark_71 : decode cX11_mark 71 = .ok (.iastore, 1) := by decide +kernel
theorem dX11_mark_72 : decode cX11_mark 72 = .ok (.aload_n 0, 1) := by decide +kernel
theorem dX11_mark_73 : decode cX11_mark 73 = .ok (.getfield 136, 3) := by decide +kernel
theorem dX11_mark_76 : decode cX11_mark 76 = .ok (.iconst 5, 1) := by decide +kernel
theorem dX11_mark_77 : decode cX11_mark 77 = .ok (.aload_n 0, 1) := by decide +kernel
theorem dX11_mark_78 : decode cX11_mark 78 = .ok (.getfield 169, 3) := by decide +kernel
theorem dX11_mark_81 : decode cX11_mark 81 = .ok (.iastore, 1) := by decide +kernel
theorem dX11_mark_82 : decode cX11_mark 82 = .ok (.aload_n 0, 1) := by decide +kernel
theorem dX11_mark_83 : decode cX11_mark 83 = .ok (.getfield 136, 3) := by decide +kernel
theorem dX11_mark_86 : decode cX11_mark 86 = .ok (.bipush 6, 2) := by decide +kernel
theorem dX11_mark_88 : decode cX11_mark 88 = .ok (.aload_n 0, 1) := by decide +kernel
theorem dX11_mark_89 : decode cX11_mark 89 = .ok (.getfield 172, 3) := by decide +kernel
theorem dX11_mark_92 : decode cX11_mark 92 = .ok (.iastore, 1) := by decide +kernel
theorem dX11_mark_93 : decode cX11_mark 93 = .ok (.aload_n 0, 1) := by decide +kernel
theorem dX11_mark_94 : decode cX11_mark 94 = .ok (.getfield 136, 3) := by decide +kernel
theorem dX11_mark_97 : decode cX11_mark 97 = .ok (.bipush 7, 2) := by decide +kernel
theorem dX11_mark_99 : decode cX11_mark 99 = .ok (.aload_n 0, 1) := by decide +kernel
theorem dX11_mark_100 : decode cX11_mark 100 = .ok (.getfield 175, 3) := by decide +kernel
theorem dX11_mark_103 : decode cX11_mark 103 = .ok (.iastore, 1) := by decide +kernel
theorem dX11_mark_104 : decode cX11_mark 104 = .ok (.aload_n 0, 1) := by decide +kernel
theorem dX11_mark_105 : decode cX11_mark 105 = .ok (.getfield 136, 3) := by decide +kernel
theorem dX11_mark_108 : decode cX11_mark 108 = .ok (.bipush 8, 2) := by decide +kernel
theorem dX11_mark_110 : decode cX11_mark 110 = .ok (.aload_n 0, 1) := by decide +kernel
theorem dX11_mark_111 : decode cX11_mark 111 = .ok (.getfield 178, 3) := by decide +kernel
theorem dX11_mark_114 : decode cX11_mark 114 = .ok (.iastore, 1) := by decide +kernel
theorem dX11_mark_115 : decode cX11_mark 115 = .ok (.aload_n 0, 1) := by decide +kernel
theorem dX11_mark_116 : decode cX11_mark 116 = .ok (.getfield 136, 3) := by decide +kernel
theorem dX11_mark_119 : decode cX11_mark 119 = .ok (.bipush 9, 2) := by decide +kernel
theorem dX11_mark_121 : decode cX11_mark 121 = .ok (.aload_n 0, 1) := by decide +kernel
theorem dX11_mark_122 : decode cX11_mark 122 = .ok (.getfield 181, 3) := by decide +kernel
theorem dX11_mark_125 : decode cX11_mark 125 = .ok (.iastore, 1) := by decide +kernel
theorem dX11_mark_126 : decode cX11_mark 126 = .ok (.aload_n 0, 1) := by decide +kernel
theorem dX11_mark_127 : decode cX11_mark 127 = .ok (.getfield 136, 3) := by decide +kernel
theorem dX11_mark_130 : decode cX11_mark 130 = .ok (.bipush 10, 2) := by decide +kernel
theorem dX11_mark_132 : decode cX11_mark 132 = .ok (.aload_n 0, 1) := by decide +kernel
theorem dX11_mark_133 : decode cX11_mark 133 = .ok (.getfield 7, 3) := by decide +kernel
theorem dX11_mark_136 : decode cX11_mark 136 = .ok (.iastore, 1) := by decide +kernel
theorem dX11_mark_137 : decode cX11_mark 137 = .ok (.aload_n 0, 1) := by decide +kernel
theorem dX11_mark_138 : decode cX11_mark 138 = .ok (.getfield 136, 3) := by decide +kernel
theorem dX11_mark_141 : decode cX11_mark 141 = .ok (.bipush 11, 2) := by decide +kernel
theorem dX11_mark_143 : decode cX11_mark 143 = .ok (.aload_n 0, 1) := by decide +kernel
theorem dX11_mark_144 : decode cX11_mark 144 = .ok (.getfield 184, 3) := by decide +kernel
theorem dX11_mark_147 : decode cX11_mark 147 = .ok (.iastore, 1) := by decide +kernel
theorem dX11_mark_148 : decode cX11_mark 148 = .ok (.aload_n 0, 1) := by decide +kernel
theorem dX11_mark_149 : decode cX11_mark 149 = .ok (.getfield 136, 3) := by decide +kernel
theorem dX11_mark_152 : decode cX11_mark 152 = .ok (.bipush 12, 2) := by decide +kernel
theorem dX11_mark_154 : decode cX11_mark 154 = .ok (.aload_n 0, 1) := by decide +kernel
theorem dX11_mark_155 : decode cX11_mark 155 = .ok (.getfield 13, 3) := by decide +kernel
theorem dX11_mark_158 : decode cX11_mark 158 = .ok (.iastore, 1) := by decide +kernel
theorem dX11_mark_159 : decode cX11_mark 159 = .ok (.aload_n 0, 1) := by decide +kernel
theorem dX11_mark_160 : decode cX11_mark 160 = .ok (.getfield 136, 3) := by decide +kernel
theorem dX11_mark_163 : decode cX11_mark 163 = .ok (.bipush 13, 2) := by decide +kernel
theorem dX11_mark_165 : decode cX11_mark 165 = .ok (.aload_n 0, 1) := by decide +kernel
theorem dX11_mark_166 : decode cX11_mark 166 = .ok (.getfield 16, 3) := by decide +kernel
theorem dX11_mark_169 : decode cX11_mark 169 = .ok (.iastore, 1) := by decide +kernel
theorem dX11_mark_170 : decode cX11_mark 170 = .ok (.aload_n 0, 1) := by decide +kernel
theorem dX11_mark_171 : decode cX11_mark 171 = .ok (.getfield 136, 3) := by decide +kernel
theorem dX11_mark_174 : decode cX11_mark 174 = .ok (.bipush 14, 2) := by decide +kernel
theorem dX11_mark_176 : decode cX11_mark 176 = .ok (.aload_n 0, 1) := by decide +kernel
theorem dX11_mark_177 : decode cX11_mark 177 = .ok (.getfield 19, 3) := by decide +kernel
theorem dX11_mark_180 : decode cX11_mark 180 = .ok (.iastore, 1) := by decide +kernel
theorem dX11_mark_181 : decode cX11_mark 181 = .ok (.aload_n 0, 1) := by decide +kernel
theorem dX11_mark_182 : decode cX11_mark 182 = .ok (.getfield 136, 3) := by decide +kernel
theorem dX11_mark_185 : decode cX11_mark 185 = .ok (.bipush 15, 2) := by decide +kernel
theorem dX11_mark_187 : decode cX11_mark 187 = .ok (.aload_n 0, 1) := by decide +kernel
theorem dX11_mark_188 : decode cX11_mark 188 = .ok (.getfield 475, 3) := by decide +kernel
theorem dX11_mark_191 : decode cX11_mark 191 = .ok (.ifCond .eq 7, 3) := by decide +kernel
theorem dX11_mark_194 : decode cX11_mark 194 = .ok (.iconst 1, 1) := by decide +kernel
theorem dX11_mark_195 : decode cX11_mark 195 = .ok (.goto 4, 3) := by decide +kernel
theorem dX11_mark_198 : decode cX11_mark 198 = .ok (.iconst 0, 1) := by decide +kernel
theorem dX11_mark_199 : decode cX11_mark 199 = .ok (.iastore, 1) := by decide +kernel
theorem dX11_mark_200 : decode cX11_mark 200 = .ok (.aload_n 0, 1) := by decide +kernel
theorem dX11_mark_201 : decode cX11_mark 201 = .ok (.getfield 136, 3) := by decide +kernel
theorem dX11_mark_204 : decode cX11_mark 204 = .ok (.bipush 16, 2) := by decide +kernel
theorem dX11_mark_206 : decode cX11_mark 206 = .ok (.aload_n 0, 1) := by decide +kernel
theorem dX11_mark_207 : decode cX11_mark 207 = .ok (.getfield 478, 3) := by decide +kernel
theorem dX11_mark_210 : decode cX11_mark 210 = .ok (.iastore, 1) := by decide +kernel
theorem dX11_mark_211 : decode cX11_mark 211 = .ok (.aload_n 0, 1) := by decide +kernel
theorem dX11_mark_212 : decode cX11_mark 212 = .ok (.getfield 136, 3) := by decide +kernel
theorem dX11_mark_215 : decode cX11_mark 215 = .ok (.bipush 17, 2) := by decide +kernel
theorem dX11_mark_217 : decode cX11_mark 217 = .ok (.aload_n 0, 1) := by decide +kernel
theorem dX11_mark_218 : decode cX11_mark 218 = .ok (.getfield 481, 3) := by decide +kernel
theorem dX11_mark_221 : decode cX11_mark 221 = .ok (.iastore, 1) := by decide +kernel
theorem dX11_mark_222 : decode cX11_mark 222 = .ok (.aload_n 0, 1) := by decide +kernel
theorem dX11_mark_223 : decode cX11_mark 223 = .ok (.getfield 136, 3) := by decide +kernel
theorem dX11_mark_226 : decode cX11_mark 226 = .ok (.bipush 18, 2) := by decide +kernel
theorem dX11_mark_228 : decode cX11_mark 228 = .ok (.aload_n 0, 1) := by decide +kernel
theorem dX11_mark_229 : decode cX11_mark 229 = .ok (.getfield 470, 3) := by decide +kernel
theorem dX11_mark_232 : decode cX11_mark 232 = .ok (.iastore, 1) := by decide +kernel
theorem dX11_mark_233 : decode cX11_mark 233 = .ok (.aload_n 0, 1) := by decide +kernel
theorem dX11_mark_234 : decode cX11_mark 234 = .ok (.getfield 136, 3) := by decide +kernel
theorem dX11_mark_237 : decode cX11_mark 237 = .ok (.bipush 19, 2) := by decide +kernel
theorem dX11_mark_239 : decode cX11_mark 239 = .ok (.aload_n 0, 1) := by decide +kernel
theorem dX11_mark_240 : decode cX11_mark 240 = .ok (.getfield 235, 3) := by decide +kernel
theorem dX11_mark_243 : decode cX11_mark 243 = .ok (.iastore, 1) := by decide +kernel
theorem dX11_mark_244 : decode cX11_mark 244 = .ok (.aload_n 0, 1) := by decide +kernel
theorem dX11_mark_245 : decode cX11_mark 245 = .ok (.getfield 139, 3) := by decide +kernel
theorem dX11_mark_248 : decode cX11_mark 248 = .ok (.iload_n 1, 1) := by decide +kernel
theorem dX11_mark_249 : decode cX11_mark 249 = .ok (.iconst 1, 1) := by decide +kernel
theorem dX11_mark_250 : decode cX11_mark 250 = .ok (.bastore, 1) := by decide +kernel
theorem dX11_mark_251 : decode cX11_mark 251 = .ok (.aload_n 0, 1) := by decide +kernel
theorem dX11_mark_252 : decode cX11_mark 252 = .ok (.iconst 0, 1) := by decide +kernel
theorem dX11_mark_253 : decode cX11_mark 253 = .ok (.putfield 504, 3) := by decide +kernel
theorem dX11_mark_256 : decode cX11_mark 256 = .ok (.aload_n 0, 1) := by decide +kernel
theorem dX11_mark_257 : decode cX11_mark 257 = .ok (.iload_n 1, 1) := by decide +kernel
theorem dX11_mark_258 : decode cX11_mark 258 = .ok (.invokevirtual 514, 3) := by decide +kernel
theorem dX11_mark_261 : decode cX11_mark 261 = .ok (.aload_n 0, 1) := by decide +kernel
theorem dX11_mark_262 : decode cX11_mark 262 = .ok (.getfield 212, 3) := by decide +kernel
theorem dX11_mark_265 : decode cX11_mark 265 = .ok (.ireturn, 1) := by decide +kernel
theorem dX11_back_0 : decode cX11_back 0 = .ok (.iload_n 1, 1) := by decide +kernel
theorem dX11_back_1 : decode cX11_back 1 = .ok (.i2l, 1) := by decide +kernel
theorem dX11_back_2 : decode cX11_back 2 = .ok (.lconst 0, 1) := by decide +kernel
theorem dX11_back_3 : decode cX11_back 3 = .ok (.ldc2_w 496, 3) := by decide +kernel
theorem dX11_back_6 : decode cX11_back 6 = .ok (.invokestatic 148, 3) := by decide +kernel
theorem dX11_back_9 : decode cX11_back 9 = .ok (.ifCond .eq 12, 3) := by decide +kernel
theorem dX11_back_12 : decode cX11_back 12 = .ok (.aload_n 0, 1) := by decide +kernel
theorem dX11_back_13 : decode cX11_back 13 = .ok (.getfield 139, 3) := by decide +kernel
theorem dX11_back_16 : decode cX11_back 16 = .ok (.iload_n 1, 1) := by decide +kernel
theorem dX11_back_17 : decode cX11_back 17 = .ok (.baload, 1) := by decide +kernel
theorem dX11_back_18 : decode cX11_back 18 = .ok (.ifCond .ne 5, 3) := by decide +kernel
theorem dX11_back_21 : decode cX11_back 21 = .ok (.iconst (-1), 1) := by decide +kernel
theorem dX11_back_22 : decode cX11_back 22 = .ok (.ireturn, 1) := by decide +kernel
theorem dX11_back_23 : decode cX11_back 23 = .ok (.aload_n 0, 1) := by decide +kernel
theorem dX11_back_24 : decode cX11_back 24 = .ok (.iconst 1, 1) := by decide +kernel
theorem dX11_back_25 : decode cX11_back 25 = .ok (.putfield 504, 3) := by decide +kernel
theorem dX11_back_28 : decode cX11_back 28 = .ok (.aload_n 0, 1) := by decide +kernel
theorem dX11_back_29 : decode cX11_back 29 = .ok (.iload_n 1, 1) := by decide +kernel
theorem dX11_back_30 : decode cX11_back 30 = .ok (.invokevirtual 514, 3) := by decide +kernel
theorem dX11_back_33 : decode cX11_back 33 = .ok (.aload_n 0, 1) := by decide +kernel
theorem dX11_back_34 : decode cX11_back 34 = .ok (.aload_n 0, 1) := by decide +kernel
theorem dX11_back_35 : decode cX11_back 35 = .ok (.getfield 136, 3) := by decide +kernel
theorem dX11_back_38 : decode cX11_back 38 = .ok (.iconst 0, 1) := by decide +kernel
theorem dX11_back_39 : decode cX11_back 39 = .ok (.iaload, 1) := by decide +kernel
theorem dX11_back_40 : decode cX11_back 40 = .ok (.putfield 212, 3) := by decide +kernel
theorem dX11_back_43 : decode cX11_back 43 = .ok (.aload_n 0, 1) := by decide +kernel
theorem dX11_back_44 : decode cX11_back 44 = .ok (.aload_n 0, 1) := by decide +kernel
theorem dX11_back_45 : decode cX11_back 45 = .ok (.getfield 136, 3) := by decide +kernel
theorem dX11_back_48 : decode cX11_back 48 = .ok (.iconst 1, 1) := by decide +kernel
theorem dX11_back_49 : decode cX11_back 49 = .ok (.iaload, 1) := by decide +kernel
theorem dX11_back_50 : decode cX11_back 50 = .ok (.iconst 1, 1) := by decide +kernel
theorem dX11_back_51 : decode cX11_back 51 = .ok (.if_icmp .ne 7, 3) := by decide +kernel
theorem dX11_back_54 : decode cX11_back 54 = .ok (.iconst 1, 1) := by decide +kernel
theorem dX11_back_55 : decode cX11_back 55 = .ok (.goto 4, 3) := by decide +kernel
theorem dX11_back_58 : decode cX11_back 58 = .ok (.iconst 0, 1) := by decide +kernel
theorem dX11_back_59 : decode cX11_back 59 = .ok (.putfield 156, 3) := by decide +kernel
theorem dX11_back_62 : decode cX11_back 62 = .ok (.aload_n 0, 1) := by decide +kernel
theorem dX11_back_63 : decode cX11_back 63 = .ok (.aload_n 0, 1) := by decide +kernel
theorem dX11_back_64 : decode cX11_back 64 = .ok (.getfield 136, 3) := by decide +kernel
theorem dX11_back_67 : decode cX11_back 67 = .ok (.iconst 2, 1) := by decide +kernel
theorem dX11_back_68 : decode cX11_back 68 = .ok (.iaload, 1) := by decide +kernel
theorem dX11_back_69 : decode cX11_back 69 = .ok (.putfield 160, 3) := by decide +kernel
theorem dX11_back_72 : decode cX11_back 72 = .ok (.aload_n 0, 1) := by decide +kernel
theorem dX11_back_73 : decode cX11_back 73 = .ok (.aload_n 0, 1) := by decide +kernel
theorem dX11_back_74 : decode cX11_back 74 = .ok (.getfield 136, 3) := by decide +kernel
theorem dX11_back_77 : decode cX11_back 77 = .ok (.iconst 3, 1) := by decide +kernel
theorem dX11_back_78 : decode cX11_back 78 = .ok (.iaload, 1) := by decide +kernel
theorem dX11_back_79 : decode cX11_back 79 = .ok (.putfield 163, 3) := by decide +kernel
theorem dX11_back_82 : decode cX11_back 82 = .ok (.aload_n 0, 1) := by decide +kernel
theorem dX11_back_83 : decode cX11_back 83 = .ok (.aload_n 0, 1) := by decide +kernel
theorem dX11_back_84 : decode cX11_back 84 = .ok (.getfield 136, 3) := by decide +kernel
theorem dX11_back_87 : decode cX11_back 87 = .ok (.iconst 4, 1) := by decide +kernel
theorem dX11_back_88 : decode cX11_back 88 = .ok (.iaload, 1) := by decide +kernel
theorem dX11_back_89 : decode cX11_back 89 = .ok (.putfield 166, 3) := by decide +kernel
theorem dX11_back_92 : decode cX11_back 92 = .ok (.aload_n 0, 1) := by decide +kernel
theorem dX11_back_93 : decode cX11_back 93 = .ok (.aload_n 0, 1) := by decide +kernel
theorem dX11_back_94 : decode cX11_back 94 = .ok (.getfield 136, 3) := by decide +kernel
theorem dX11_back_97 : decode cX11_back 97 = .ok (.iconst 5, 1) := by decide +kernel
theorem dX11_back_98 : decode cX11_back 98 = .ok (.iaload, 1) := by decide +kernel
theorem dX11_back_99 : decode cX11_back 99 = .ok (.putfield 169, 3) := by decide +kernel
theorem dX11_back_102 : decode cX11_back 102 = .ok (.aload_n 0, 1) := by decide +kernel
theorem dX11_back_103 : decode cX11_back 103 = .ok (.aload_n 0, 1) := by decide +kernel
theorem dX11_back_104 : decode cX11_back 104 = .ok (.getfield 136, 3) := by decide +kernel
theorem dX11_back_107 : decode cX11_back 107 = .ok (.bipush 6, 2) := by decide +kernel
theorem dX11_back_109 : decode cX11_back 109 = .ok (.iaload, 1) := by decide +kernel
theorem dX11_back_110 : decode cX11_back 110 = .ok (.putfield 172, 3) := by decide +kernel
theorem dX11_back_113 : decode cX11_back 113 = .ok (.aload_n 0, 1) := by decide +kernel
theorem dX11_back_114 : decode cX11_back 114 = .ok (.aload_n 0, 1) := by decide +kernel
theorem dX11_back_115 : decode cX11_back 115 = .ok (.getfield 136, 3) := by decide +kernel
theorem dX11_back_118 : decode cX11_back 118 = .ok (.bipush 7, 2) := by decide +kernel
theorem dX11_back_120 : decode cX11_back 120 = .ok (.iaload, 1) := by decide +kernel
theorem dX11_back_121 : decode cX11_back 121 = .ok (.putfield 175, 3) := by decide +kernel
theorem dX11_back_124 : decode cX11_back 124 = .ok (.aload_n 0, 1) := by decide +kernel
theorem dX11_back_125 : decode cX11_back 125 = .ok (.aload_n 0, 1) := by decide +kernel
theorem dX11_back_126 : decode cX11_back 126 = .ok (.getfield 136, 3) := by decide +kernel
theorem dX11_back_129 : decode cX11_back 129 = .ok (.bipush 8, 2) := by decide +kernel
theorem dX11_back_131 : decode cX11_back 131 = .ok (.iaload, 1) := by decide +kernel
theorem dX11_back_132 : decode cX11_back 132 = .ok (.putfield 178, 3) := by decide +kernel
theorem dX11_back_135 : decode cX11_back 135 = .ok (.aload_n 0, 1) := by decide +kernel
theorem dX11_back_136 : decode cX11_back 136 = .ok (.aload_n 0, 1) := by decide +kernel
theorem dX11_back_137 : decode cX11_back 137 = .ok (.getfield 136, 3) := by decide +kernel
theorem dX11_back_140 : decode cX11_back 140 = .ok (.bipush 9, 2) := by decide +kernel
theorem dX11_back_142 : decode cX11_back 142 = .ok (.iaload, 1) := by decide +kernel
theorem dX11_back_143 : decode cX11_back 143 = .ok (.putfield 181, 3) := by decide +kernel
theorem dX11_back_146 : decode cX11_back 146 = .ok (.aload_n 0, 1) := by decide +kernel
theorem dX11_back_147 : decode cX11_back 147 = .ok (.aload_n 0, 1) := by decide +kernel
theorem dX11_back_148 : decode cX11_back 148 = .ok (.getfield 136, 3) := by decide +kernel
theorem dX11_back_151 : decode cX11_back 151 = .ok (.bipush 10, 2) := by decide +kernel
theorem dX11_back_153 : decode cX11_back 153 = .ok (.iaload, 1) := by decide +kernel
theorem dX11_back_154 : decode cX11_back 154 = .ok (.putfield 7, 3) := by decide +kernel
theorem dX11_back_157 : decode cX11_back 157 = .ok (.aload_n 0, 1) := by decide +kernel
theorem dX11_back_158 : decode cX11_back 158 = .ok (.aload_n 0, 1) := by decide +kernel
theorem dX11_back_159 : decode cX11_back 159 = .ok (.getfield 136, 3) := by decide +kernel
theorem dX11_back_162 : decode cX11_back 162 = .ok (.bipush 11, 2) := by decide +kernel
theorem dX11_back_164 : decode cX11_back 164 = .ok (.iaload, 1) := by decide +kernel
theorem dX11_back_165 : decode cX11_back 165 = .ok (.putfield 184, 3) := by decide +kernel
theorem dX11_back_168 : decode cX11_back 168 = .ok (.aload_n 0, 1) := by decide +kernel
theorem dX11_back_169 : decode cX11_back 169 = .ok (.aload_n 0, 1) := by decide +kernel
theorem dX11_back_170 : decode cX11_back 170 = .ok (.getfield 136, 3) := by decide +kernel
theorem dX11_back_173 : decode cX11_back 173 = .ok (.bipush 12, 2) := by decide +kernel
theorem dX11_back_175 : decode cX11_back 175 = .ok (.iaload, 1) := by decide +kernel
theorem dX11_back_176 : decode cX11_back 176 = .ok (.putfield 13, 3) := by decide +kernel
theorem dX11_back_179 : decode cX11_back 179 = .ok (.aload_n 0, 1) := by decide +kernel
theorem dX11_back_180 : decode cX11_back 180 = .ok (.aload_n 0, 1) := by decide +kernel
theorem dX11_back_181 : decode cX11_back 181 = .ok (.getfield 136, 3) := by decide +kernel
theorem dX11_back_184 : decode cX11_back 184 = .ok (.bipush 13, 2) := by decide +kernel
theorem dX11_back_186 : decode cX11_back 186 = .ok (.iaload, 1) := by decide +kernel
theorem dX11_back_187 : decode cX11_back 187 = .ok (.putfield 16, 3) := by decide +kernel
theorem dX11_back_190 : decode cX11_back 190 = .ok (.aload_n 0, 1) := by decide +kernel
theorem dX11_back_191 : decode cX11_back 191 = .ok (.aload_n 0, 1) := by decide +kernel
theorem dX11_back_192 : decode cX11_back 192 = .ok (.getfield 136, 3) := by decide +kernel
theorem dX11_back_195 : decode cX11_back 195 = .ok (.bipush 14, 2) := by decide +kernel
theorem dX11_back_197 : decode cX11_back 197 = .ok (.iaload, 1) := by decide +kernel
theorem dX11_back_198 : decode cX11_back 198 = .ok (.putfield 19, 3) := by decide +kernel
theorem dX11_back_201 : decode cX11_back 201 = .ok (.aload_n 0, 1) := by decide +kernel
theorem dX11_back_202 : decode cX11_back 202 = .ok (.aload_n 0, 1) := by decide +kernel
theorem dX11_back_203 : decode cX11_back 203 = .ok (.getfield 136, 3) := by decide +kernel
theorem dX11_back_206 : decode cX11_back 206 = .ok (.bipush 15, 2) := by decide +kernel
theorem dX11_back_208 : decode cX11_back 208 = .ok (.iaload, 1) := by decide +kernel
theorem dX11_back_209 : decode cX11_back 209 = .ok (.iconst 1, 1) := by decide +kernel
theorem dX11_back_210 : decode cX11_back 210 = .ok (.if_icmp .ne 7, 3) := by decide +kernel
theorem dX11_back_213 : decode cX11_back 213 = .ok (.iconst 1, 1) := by decide +kernel
theorem dX11_back_214 : decode cX11_back 214 = .ok (.goto 4, 3) := by decide +kernel
theorem dX11_back_217 : decode cX11_back 217 = .ok (.iconst 0, 1) := by decide +kernel
theorem dX11_back_218 : decode cX11_back 218 = .ok (.putfield 475, 3) := by decide +kernel
theorem dX11_back_221 : decode cX11_back 221 = .ok (.aload_n 0, 1) := by decide +kernel
theorem dX11_back_222 : decode cX11_back 222 = .ok (.aload_n 0, 1) := by decide +kernel
theorem dX11_back_223 : decode cX11_back 223 = .ok (.getfield 136, 3) := by decide +kernel
theorem dX11_back_226 : decode cX11_back 226 = .ok (.bipush 16, 2) := by decide +kernel
theorem dX11_back_228 : decode cX11_back 228 = .ok (.iaload, 1) := by decide +kernel
theorem dX11_back_229 : decode cX11_back 229 = .ok (.putfield 478, 3) := by decide +kernel
theorem dX11_back_232 : decode cX11_back 232 = .ok (.aload_n 0, 1) := by decide +kernel
theorem dX11_back_233 : decode cX11_back 233 = .ok (.aload_n 0, 1) := by decide +kernel
theorem dX11_back_234 : decode cX11_back 234 = .ok (.getfield 136, 3) := by decide +kernel
theorem dX11_back_237 : decode cX11_back 237 = .ok (.bipush 17, 2) := by decide +kernel
theorem dX11_back_239 : decode cX11_back 239 = .ok (.iaload, 1) := by decide +kernel
theorem dX11_back_240 : decode cX11_back 240 = .ok (.putfield 481, 3) := by decide +kernel
theorem dX11_back_243 : decode cX11_back 243 = .ok (.aload_n 0, 1) := by decide +kernel
theorem dX11_back_244 : decode cX11_back 244 = .ok (.aload_n 0, 1) := by decide +kernel
theorem dX11_back_245 : decode cX11_back 245 = .ok (.getfield 136, 3) := by decide +kernel
theorem dX11_back_248 : decode cX11_back 248 = .ok (.bipush 18, 2) := by decide +kernel
theorem dX11_back_250 : decode cX11_back 250 = .ok (.iaload, 1) := by decide +kernel
theorem dX11_back_251 : decode cX11_back 251 = .ok (.putfield 470, 3) := by decide +kernel
theorem dX11_back_254 : decode cX11_back 254 = .ok (.aload_n 0, 1) := by decide +kernel
theorem dX11_back_255 : decode cX11_back 255 = .ok (.aload_n 0, 1) := by decide +kernel
theorem dX11_back_256 : decode cX11_back 256 = .ok (.getfield 136, 3) := by decide +kernel
theorem dX11_back_259 : decode cX11_back 259 = .ok (.bipush 19, 2) := by decide +kernel
theorem dX11_back_261 : decode cX11_back 261 = .ok (.iaload, 1) := by decide +kernel
theorem dX11_back_262 : decode cX11_back 262 = .ok (.putfield 235, 3) := by decide +kernel
theorem dX11_back_265 : decode cX11_back 265 = .ok (.aload_n 0, 1) := by decide +kernel
theorem dX11_back_266 : decode cX11_back 266 = .ok (.getfield 212, 3) := by decide +kernel
theorem dX11_back_269 : decode cX11_back 269 = .ok (.ireturn, 1) := by decide +kernel
