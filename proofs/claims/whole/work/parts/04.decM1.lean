theorem d_M_around_0 : decode b_M_around 0 = .ok (.iload_n 3, 1) := by decide +kernel
theorem d_M_around_1 : decode b_M_around 1 = .ok (.iload_n 2, 1) := by decide +kernel
theorem d_M_around_2 : decode b_M_around 2 = .ok (.isub, 1) := by decide +kernel
theorem d_M_around_3 : decode b_M_around 3 = .ok (.istore 8, 2) := by decide +kernel
theorem d_M_around_5 : decode b_M_around 5 = .ok (.iload 8, 2) := by decide +kernel
theorem d_M_around_7 : decode b_M_around 7 = .ok (.iconst 1, 1) := by decide +kernel
theorem d_M_around_8 : decode b_M_around 8 = .ok (.if_icmp .ne 33, 3) := by decide +kernel
theorem d_M_around_11 : decode b_M_around 11 = .ok (.aload_n 0, 1) := by decide +kernel
theorem d_M_around_12 : decode b_M_around 12 = .ok (.getfield 9, 3) := by decide +kernel
theorem d_M_around_15 : decode b_M_around 15 = .ok (.iload_n 2, 1) := by decide +kernel
theorem d_M_around_16 : decode b_M_around 16 = .ok (.laload, 1) := by decide +kernel
theorem d_M_around_17 : decode b_M_around 17 = .ok (.lload 4, 2) := by decide +kernel
theorem d_M_around_19 : decode b_M_around 19 = .ok (.lcmp, 1) := by decide +kernel
theorem d_M_around_20 : decode b_M_around 20 = .ok (.ifCond .ne 20, 3) := by decide +kernel
theorem d_M_around_23 : decode b_M_around 23 = .ok (.aload_n 0, 1) := by decide +kernel
theorem d_M_around_24 : decode b_M_around 24 = .ok (.getfield 13, 3) := by decide +kernel
theorem d_M_around_27 : decode b_M_around 27 = .ok (.iload_n 2, 1) := by decide +kernel
theorem d_M_around_28 : decode b_M_around 28 = .ok (.laload, 1) := by decide +kernel
theorem d_M_around_29 : decode b_M_around 29 = .ok (.lload 6, 2) := by decide +kernel
theorem d_M_around_31 : decode b_M_around 31 = .ok (.lcmp, 1) := by decide +kernel
theorem d_M_around_32 : decode b_M_around 32 = .ok (.ifCond .ne 8, 3) := by decide +kernel
theorem d_M_around_35 : decode b_M_around 35 = .ok (.aload_n 0, 1) := by decide +kernel
theorem d_M_around_36 : decode b_M_around 36 = .ok (.iconst 1, 1) := by decide +kernel
theorem d_M_around_37 : decode b_M_around 37 = .ok (.putfield 52, 3) := by decide +kernel
theorem d_M_around_40 : decode b_M_around 40 = .ok (.return_, 1) := by decide +kernel
theorem d_M_around_41 : decode b_M_around 41 = .ok (.iload_n 2, 1) := by decide +kernel
theorem d_M_around_42 : decode b_M_around 42 = .ok (.istore 9, 2) := by decide +kernel
theorem d_M_around_44 : decode b_M_around 44 = .ok (.iload 9, 2) := by decide +kernel
theorem d_M_around_46 : decode b_M_around 46 = .ok (.iload_n 3, 1) := by decide +kernel
theorem d_M_around_47 : decode b_M_around 47 = .ok (.if_icmp .ge 19, 3) := by decide +kernel
theorem d_M_around_50 : decode b_M_around 50 = .ok (.aload_n 0, 1) := by decide +kernel
theorem d_M_around_51 : decode b_M_around 51 = .ok (.getfield 16, 3) := by decide +kernel
theorem d_M_around_54 : decode b_M_around 54 = .ok (.iload 9, 2) := by decide +kernel
theorem d_M_around_56 : decode b_M_around 56 = .ok (.baload, 1) := by decide +kernel
theorem d_M_around_57 : decode b_M_around 57 = .ok (.ifCond .ne 9, 3) := by decide +kernel
theorem d_M_around_60 : decode b_M_around 60 = .ok (.iinc 9 1, 3) := by decide +kernel
theorem d_M_around_63 : decode b_M_around 63 = .ok (.goto (-19), 3) := by decide +kernel
theorem d_M_around_66 : decode b_M_around 66 = .ok (.iload 9, 2) := by decide +kernel
theorem d_M_around_68 : decode b_M_around 68 = .ok (.iload_n 3, 1) := by decide +kernel
theorem d_M_around_69 : decode b_M_around 69 = .ok (.if_icmp .ne 7, 3) := by decide +kernel
theorem d_M_around_72 : decode b_M_around 72 = .ok (.iconst 1, 1) := by decide +kernel
theorem d_M_around_73 : decode b_M_around 73 = .ok (.goto 4, 3) := by decide +kernel
theorem d_M_around_76 : decode b_M_around 76 = .ok (.iconst 0, 1) := by decide +kernel
theorem d_M_around_77 : decode b_M_around 77 = .ok (.istore 10, 2) := by decide +kernel
theorem d_M_around_79 : decode b_M_around 79 = .ok (.iload 10, 2) := by decide +kernel
theorem d_M_around_81 : decode b_M_around 81 = .ok (.ifCond .eq 6, 3) := by decide +kernel
theorem d_M_around_84 : decode b_M_around 84 = .ok (.iload_n 2, 1) := by decide +kernel
theorem d_M_around_85 : decode b_M_around 85 = .ok (.istore 9, 2) := by decide +kernel
theorem d_M_around_87 : decode b_M_around 87 = .ok (.iload 9, 2) := by decide +kernel
theorem d_M_around_89 : decode b_M_around 89 = .ok (.iload_n 2, 1) := by decide +kernel
theorem d_M_around_90 : decode b_M_around 90 = .ok (.if_icmp .ne 9, 3) := by decide +kernel
theorem d_M_around_93 : decode b_M_around 93 = .ok (.iload_n 3, 1) := by decide +kernel
theorem d_M_around_94 : decode b_M_around 94 = .ok (.iconst 1, 1) := by decide +kernel
theorem d_M_around_95 : decode b_M_around 95 = .ok (.isub, 1) := by decide +kernel
theorem d_M_around_96 : decode b_M_around 96 = .ok (.goto 7, 3) := by decide +kernel
theorem d_M_around_99 : decode b_M_around 99 = .ok (.iload 9, 2) := by decide +kernel
theorem d_M_around_101 : decode b_M_around 101 = .ok (.iconst 1, 1) := by decide +kernel
theorem d_M_around_102 : decode b_M_around 102 = .ok (.isub, 1) := by decide +kernel
theorem d_M_around_103 : decode b_M_around 103 = .ok (.istore 11, 2) := by decide +kernel
theorem d_M_around_105 : decode b_M_around 105 = .ok (.iload 10, 2) := by decide +kernel
theorem d_M_around_107 : decode b_M_around 107 = .ok (.ifCond .eq 28, 3) := by decide +kernel
theorem d_M_around_110 : decode b_M_around 110 = .ok (.aload_n 0, 1) := by decide +kernel
theorem d_M_around_111 : decode b_M_around 111 = .ok (.getfield 9, 3) := by decide +kernel
theorem d_M_around_114 : decode b_M_around 114 = .ok (.iload 11, 2) := by decide +kernel
theorem d_M_around_116 : decode b_M_around 116 = .ok (.laload, 1) := by decide +kernel
theorem d_M_around_117 : decode b_M_around 117 = .ok (.aload_n 0, 1) := by decide +kernel
theorem d_M_around_118 : decode b_M_around 118 = .ok (.getfield 9, 3) := by decide +kernel
theorem d_M_around_121 : decode b_M_around 121 = .ok (.iload 9, 2) := by decide +kernel
theorem d_M_around_123 : decode b_M_around 123 = .ok (.laload, 1) := by decide +kernel
theorem d_M_around_124 : decode b_M_around 124 = .ok (.ladd, 1) := by decide +kernel
theorem d_M_around_125 : decode b_M_around 125 = .ok (.ldc2_w 76, 3) := by decide +kernel
theorem d_M_around_128 : decode b_M_around 128 = .ok (.ldiv, 1) := by decide +kernel
theorem d_M_around_129 : decode b_M_around 129 = .ok (.lload 4, 2) := by decide +kernel
theorem d_M_around_131 : decode b_M_around 131 = .ok (.lsub, 1) := by decide +kernel
theorem d_M_around_132 : decode b_M_around 132 = .ok (.goto 13, 3) := by decide +kernel
theorem d_M_around_135 : decode b_M_around 135 = .ok (.aload_n 0, 1) := by decide +kernel
theorem d_M_around_136 : decode b_M_around 136 = .ok (.getfield 9, 3) := by decide +kernel
theorem d_M_around_139 : decode b_M_around 139 = .ok (.iload 9, 2) := by decide +kernel
theorem d_M_around_141 : decode b_M_around 141 = .ok (.laload, 1) := by decide +kernel
theorem d_M_around_142 : decode b_M_around 142 = .ok (.lload 4, 2) := by decide +kernel
theorem d_M_around_144 : decode b_M_around 144 = .ok (.lsub, 1) := by decide +kernel
theorem d_M_around_145 : decode b_M_around 145 = .ok (.lstore 12, 2) := by decide +kernel
theorem d_M_around_147 : decode b_M_around 147 = .ok (.iload 10, 2) := by decide +kernel
theorem d_M_around_149 : decode b_M_around 149 = .ok (.ifCond .eq 28, 3) := by decide +kernel
theorem d_M_around_152 : decode b_M_around 152 = .ok (.aload_n 0, 1) := by decide +kernel
theorem d_M_around_153 : decode b_M_around 153 = .ok (.getfield 13, 3) := by decide +kernel
theorem d_M_around_156 : decode b_M_around 156 = .ok (.iload 11, 2) := by decide +kernel
theorem d_M_around_158 : decode b_M_around 158 = .ok (.laload, 1) := by decide +kernel
theorem d_M_around_159 : decode b_M_around 159 = .ok (.aload_n 0, 1) := by decide +kernel
theorem d_M_around_160 : decode b_M_around 160 = .ok (.getfield 13, 3) := by decide +kernel
theorem d_M_around_163 : decode b_M_around 163 = .ok (.iload 9, 2) := by decide +kernel
theorem d_M_around_165 : decode b_M_around 165 = .ok (.laload, 1) := by decide +kernel
theorem d_M_around_166 : decode b_M_around 166 = .ok (.ladd, 1) := by decide +kernel
theorem d_M_around_167 : decode b_M_around 167 = .ok (.ldc2_w 76, 3) := by decide +kernel
theorem d_M_around_170 : decode b_M_around 170 = .ok (.ldiv, 1) := by decide +kernel
theorem d_M_around_171 : decode b_M_around 171 = .ok (.lload 6, 2) := by decide +kernel
theorem d_M_around_173 : decode b_M_around 173 = .ok (.lsub, 1) := by decide +kernel
theorem d_M_around_174 : decode b_M_around 174 = .ok (.goto 13, 3) := by decide +kernel
theorem d_M_around_177 : decode b_M_around 177 = .ok (.aload_n 0, 1) := by decide +kernel
theorem d_M_around_178 : decode b_M_around 178 = .ok (.getfield 13, 3) := by decide +kernel
theorem d_M_around_181 : decode b_M_around 181 = .ok (.iload 9, 2) := by decide +kernel
theorem d_M_around_183 : decode b_M_around 183 = .ok (.laload, 1) := by decide +kernel
theorem d_M_around_184 : decode b_M_around 184 = .ok (.lload 6, 2) := by decide +kernel
theorem d_M_around_186 : decode b_M_around 186 = .ok (.lsub, 1) := by decide +kernel
theorem d_M_around_187 : decode b_M_around 187 = .ok (.lstore 14, 2) := by decide +kernel
theorem d_M_around_189 : decode b_M_around 189 = .ok (.iload 10, 2) := by decide +kernel
theorem d_M_around_191 : decode b_M_around 191 = .ok (.ifCond .eq 7, 3) := by decide +kernel
theorem d_M_around_194 : decode b_M_around 194 = .ok (.iconst 0, 1) := by decide +kernel
theorem d_M_around_195 : decode b_M_around 195 = .ok (.goto 4, 3) := by decide +kernel
theorem d_M_around_198 : decode b_M_around 198 = .ok (.iconst 1, 1) := by decide +kernel
theorem d_M_around_199 : decode b_M_around 199 = .ok (.istore 16, 2) := by decide +kernel
theorem d_M_around_201 : decode b_M_around 201 = .ok (.iload 10, 2) := by decide +kernel
theorem d_M_around_203 : decode b_M_around 203 = .ok (.ifCond .eq 8, 3) := by decide +kernel
theorem d_M_around_206 : decode b_M_around 206 = .ok (.iload 8, 2) := by decide +kernel
theorem d_M_around_208 : decode b_M_around 208 = .ok (.goto 7, 3) := by decide +kernel
theorem d_M_around_211 : decode b_M_around 211 = .ok (.iload 8, 2) := by decide +kernel
theorem d_M_around_213 : decode b_M_around 213 = .ok (.iconst 1, 1) := by decide +kernel
theorem d_M_around_214 : decode b_M_around 214 = .ok (.iadd, 1) := by decide +kernel
theorem d_M_around_215 : decode b_M_around 215 = .ok (.istore 17, 2) := by decide +kernel
theorem d_M_around_217 : decode b_M_around 217 = .ok (.iload 16, 2) := by decide +kernel
theorem d_M_around_219 : decode b_M_around 219 = .ok (.iload 17, 2) := by decide +kernel
theorem d_M_around_221 : decode b_M_around 221 = .ok (.if_icmp .ge 252, 3) := by decide +kernel
theorem d_M_around_224 : decode b_M_around 224 = .ok (.iload_n 2, 1) := by decide +kernel
theorem d_M_around_225 : decode b_M_around 225 = .ok (.iload 9, 2) := by decide +kernel
theorem d_M_around_227 : decode b_M_around 227 = .ok (.iload_n 2, 1) := by decide +kernel
theorem d_M_around_228 : decode b_M_around 228 = .ok (.isub, 1) := by decide +kernel
theorem d_M_around_229 : decode b_M_around 229 = .ok (.iload 16, 2) := by decide +kernel
theorem d_M_around_231 : decode b_M_around 231 = .ok (.iadd, 1) := by decide +kernel
theorem d_M_around_232 : decode b_M_around 232 = .ok (.iload 8, 2) := by decide +kernel
theorem d_M_around_234 : decode b_M_around 234 = .ok (.irem, 1) := by decide +kernel
theorem d_M_around_235 : decode b_M_around 235 = .ok (.iadd, 1) := by decide +kernel
theorem d_M_around_236 : decode b_M_around 236 = .ok (.istore 18, 2) := by decide +kernel
theorem d_M_around_238 : decode b_M_around 238 = .ok (.aload_n 0, 1) := by decide +kernel
theorem d_M_around_239 : decode b_M_around 239 = .ok (.getfield 16, 3) := by decide +kernel
theorem d_M_around_242 : decode b_M_around 242 = .ok (.iload 18, 2) := by decide +kernel
theorem d_M_around_244 : decode b_M_around 244 = .ok (.baload, 1) := by decide +kernel
theorem d_M_around_245 : decode b_M_around 245 = .ok (.ifCond .eq 61, 3) := by decide +kernel
theorem d_M_around_248 : decode b_M_around 248 = .ok (.aload_n 0, 1) := by decide +kernel
theorem d_M_around_249 : decode b_M_around 249 = .ok (.lload 12, 2) := by decide +kernel
theorem d_M_around_251 : decode b_M_around 251 = .ok (.lload 14, 2) := by decide +kernel
theorem d_M_around_253 : decode b_M_around 253 = .ok (.aload_n 0, 1) := by decide +kernel
theorem d_M_around_254 : decode b_M_around 254 = .ok (.getfield 9, 3) := by decide +kernel
theorem d_M_around_257 : decode b_M_around 257 = .ok (.iload 18, 2) := by decide +kernel
theorem d_M_around_259 : decode b_M_around 259 = .ok (.laload, 1) := by decide +kernel
theorem d_M_around_260 : decode b_M_around 260 = .ok (.lload 4, 2) := by decide +kernel
theorem d_M_around_262 : decode b_M_around 262 = .ok (.lsub, 1) := by decide +kernel
theorem d_M_around_263 : decode b_M_around 263 = .ok (.aload_n 0, 1) := by decide +kernel
theorem d_M_around_264 : decode b_M_around 264 = .ok (.getfield 13, 3) := by decide +kernel
theorem d_M_around_267 : decode b_M_around 267 = .ok (.iload 18, 2) := by decide +kernel
theorem d_M_around_269 : decode b_M_around 269 = .ok (.laload, 1) := by decide +kernel
theorem d_M_around_270 : decode b_M_around 270 = .ok (.lload 6, 2) := by decide +kernel
theorem d_M_around_272 : decode b_M_around 272 = .ok (.lsub, 1) := by decide +kernel
theorem d_M_around_273 : decode b_M_around 273 = .ok (.invokevirtual 81, 3) := by decide +kernel
theorem d_M_around_276 : decode b_M_around 276 = .ok (.aload_n 0, 1) := by decide +kernel
theorem d_M_around_277 : decode b_M_around 277 = .ok (.getfield 9, 3) := by decide +kernel
theorem d_M_around_280 : decode b_M_around 280 = .ok (.iload 18, 2) := by decide +kernel
theorem d_M_around_282 : decode b_M_around 282 = .ok (.laload, 1) := by decide +kernel
theorem d_M_around_283 : decode b_M_around 283 = .ok (.lload 4, 2) := by decide +kernel
theorem d_M_around_285 : decode b_M_around 285 = .ok (.lsub, 1) := by decide +kernel
theorem d_M_around_286 : decode b_M_around 286 = .ok (.lstore 12, 2) := by decide +kernel
theorem d_M_around_288 : decode b_M_around 288 = .ok (.aload_n 0, 1) := by decide +kernel
theorem d_M_around_289 : decode b_M_around 289 = .ok (.getfield 13, 3) := by decide +kernel
theorem d_M_around_292 : decode b_M_around 292 = .ok (.iload 18, 2) := by decide +kernel
theorem d_M_around_294 : decode b_M_around 294 = .ok (.laload, 1) := by decide +kernel
theorem d_M_around_295 : decode b_M_around 295 = .ok (.lload 6, 2) := by decide +kernel
theorem d_M_around_297 : decode b_M_around 297 = .ok (.lsub, 1) := by decide +kernel
theorem d_M_around_298 : decode b_M_around 298 = .ok (.lstore 14, 2) := by decide +kernel
theorem d_M_around_300 : decode b_M_around 300 = .ok (.iinc 16 1, 3) := by decide +kernel
theorem d_M_around_303 : decode b_M_around 303 = .ok (.goto (-86), 3) := by decide +kernel
theorem d_M_around_306 : decode b_M_around 306 = .ok (.iload_n 2, 1) := by decide +kernel
theorem d_M_around_307 : decode b_M_around 307 = .ok (.iload 9, 2) := by decide +kernel
theorem d_M_around_309 : decode b_M_around 309 = .ok (.iload_n 2, 1) := by decide +kernel
theorem d_M_around_310 : decode b_M_around 310 = .ok (.isub, 1) := by decide +kernel
theorem d_M_around_311 : decode b_M_around 311 = .ok (.iload 16, 2) := by decide +kernel
theorem d_M_around_313 : decode b_M_around 313 = .ok (.iadd, 1) := by decide +kernel
theorem d_M_around_314 : decode b_M_around 314 = .ok (.iconst 1, 1) := by decide +kernel
theorem d_M_around_315 : decode b_M_around 315 = .ok (.iadd, 1) := by decide +kernel
theorem d_M_around_316 : decode b_M_around 316 = .ok (.iload 8, 2) := by decide +kernel
theorem d_M_around_318 : decode b_M_around 318 = .ok (.irem, 1) := by decide +kernel
theorem d_M_around_319 : decode b_M_around 319 = .ok (.iadd, 1) := by decide +kernel
theorem d_M_around_320 : decode b_M_around 320 = .ok (.istore 19, 2) := by decide +kernel
theorem d_M_around_322 : decode b_M_around 322 = .ok (.aload_n 0, 1) := by decide +kernel
theorem d_M_around_323 : decode b_M_around 323 = .ok (.getfield 16, 3) := by decide +kernel
theorem d_M_around_326 : decode b_M_around 326 = .ok (.iload 19, 2) := by decide +kernel
theorem d_M_around_328 : decode b_M_around 328 = .ok (.baload, 1) := by decide +kernel
theorem d_M_around_329 : decode b_M_around 329 = .ok (.istore 20, 2) := by decide +kernel
theorem d_M_around_331 : decode b_M_around 331 = .ok (.iload 20, 2) := by decide +kernel
theorem d_M_around_333 : decode b_M_around 333 = .ok (.ifCond .eq 16, 3) := by decide +kernel
theorem d_M_around_336 : decode b_M_around 336 = .ok (.aload_n 0, 1) := by decide +kernel
theorem d_M_around_337 : decode b_M_around 337 = .ok (.getfield 9, 3) := by decide +kernel
theorem d_M_around_340 : decode b_M_around 340 = .ok (.iload 19, 2) := by decide +kernel
theorem d_M_around_342 : decode b_M_around 342 = .ok (.laload, 1) := by decide +kernel
theorem d_M_around_343 : decode b_M_around 343 = .ok (.lload 4, 2) := by decide +kernel
theorem d_M_around_345 : decode b_M_around 345 = .ok (.lsub, 1) := by decide +kernel
theorem d_M_around_346 : decode b_M_around 346 = .ok (.goto 25, 3) := by decide +kernel
theorem d_M_around_349 : decode b_M_around 349 = .ok (.aload_n 0, 1) := by decide +kernel
theorem d_M_around_350 : decode b_M_around 350 = .ok (.getfield 9, 3) := by decide +kernel
theorem d_M_around_353 : decode b_M_around 353 = .ok (.iload 18, 2) := by decide +kernel
theorem d_M_around_355 : decode b_M_around 355 = .ok (.laload, 1) := by decide +kernel
theorem d_M_around_356 : decode b_M_around 356 = .ok (.aload_n 0, 1) := by decide +kernel
theorem d_M_around_357 : decode b_M_around 357 = .ok (.getfield 9, 3) := by decide +kernel
theorem d_M_around_360 : decode b_M_around 360 = .ok (.iload 19, 2) := by decide +kernel
theorem d_M_around_362 : decode b_M_around 362 = .ok (.laload, 1) := by decide +kernel
theorem d_M_around_363 : decode b_M_around 363 = .ok (.ladd, 1) := by decide +kernel
theorem d_M_around_364 : decode b_M_around 364 = .ok (.ldc2_w 76, 3) := by decide +kernel
theorem d_M_around_367 : decode b_M_around 367 = .ok (.ldiv, 1) := by decide +kernel
theorem d_M_around_368 : decode b_M_around 368 = .ok (.lload 4, 2) := by decide +kernel
theorem d_M_around_370 : decode b_M_around 370 = .ok (.lsub, 1) := by decide +kernel
theorem d_M_around_371 : decode b_M_around 371 = .ok (.lstore 21, 2) := by decide +kernel
theorem d_M_around_373 : decode b_M_around 373 = .ok (.iload 20, 2) := by decide +kernel
theorem d_M_around_375 : decode b_M_around 375 = .ok (.ifCond .eq 16, 3) := by decide +kernel
theorem d_M_around_378 : decode b_M_around 378 = .ok (.aload_n 0, 1) := by decide +kernel
theorem d_M_around_379 : decode b_M_around 379 = .ok (.getfield 13, 3) := by decide +kernel
theorem d_M_around_382 : decode b_M_around 382 = .ok (.iload 19, 2) := by decide +kernel
theorem d_M_around_384 : decode b_M_around 384 = .ok (.laload, 1) := by decide +kernel
theorem d_M_around_385 : decode b_M_around 385 = .ok (.lload 6, 2) := by decide +kernel
theorem d_M_around_387 : decode b_M_around 387 = .ok (.lsub, 1) := by decide +kernel
theorem d_M_around_388 : decode b_M_around 388 = .ok (.goto 25, 3) := by decide +kernel
theorem d_M_around_391 : decode b_M_around 391 = .ok (.aload_n 0, 1) := by decide +kernel
theorem d_M_around_392 : decode b_M_around 392 = .ok (.getfield 13, 3) := by decide +kernel
theorem d_M_around_395 : decode b_M_around 395 = .ok (.iload 18, 2) := by decide +kernel
theorem d_M_around_397 : decode b_M_around 397 = .ok (.laload, 1) := by decide +kernel
theorem d_M_around_398 : decode b_M_around 398 = .ok (.aload_n 0, 1) := by decide +kernel
theorem d_M_around_399 : decode b_M_around 399 = .ok (.getfield 13, 3) := by decide +kernel
theorem d_M_around_402 : decode b_M_around 402 = .ok (.iload 19, 2) := by decide +kernel
theorem d_M_around_404 : decode b_M_around 404 = .ok (.laload, 1) := by decide +kernel
theorem d_M_around_405 : decode b_M_around 405 = .ok (.ladd, 1) := by decide +kernel
theorem d_M_around_406 : decode b_M_around 406 = .ok (.ldc2_w 76, 3) := by decide +kernel
theorem d_M_around_409 : decode b_M_around 409 = .ok (.ldiv, 1) := by decide +kernel
theorem d_M_around_410 : decode b_M_around 410 = .ok (.lload 6, 2) := by decide +kernel
theorem d_M_around_412 : decode b_M_around 412 = .ok (.lsub, 1) := by decide +kernel
theorem d_M_around_413 : decode b_M_around 413 = .ok (.lstore 23, 2) := by decide +kernel
theorem d_M_around_415 : decode b_M_around 415 = .ok (.aload_n 0, 1) := by decide +kernel
theorem d_M_around_416 : decode b_M_around 416 = .ok (.lload 12, 2) := by decide +kernel
theorem d_M_around_418 : decode b_M_around 418 = .ok (.lload 14, 2) := by decide +kernel
theorem d_M_around_420 : decode b_M_around 420 = .ok (.aload_n 0, 1) := by decide +kernel
theorem d_M_around_421 : decode b_M_around 421 = .ok (.getfield 9, 3) := by decide +kernel
theorem d_M_around_424 : decode b_M_around 424 = .ok (.iload 18, 2) := by decide +kernel
theorem d_M_around_426 : decode b_M_around 426 = .ok (.laload, 1) := by decide +kernel
theorem d_M_around_427 : decode b_M_around 427 = .ok (.lload 4, 2) := by decide +kernel
theorem d_M_around_429 : decode b_M_around 429 = .ok (.lsub, 1) := by decide +kernel
theorem d_M_around_430 : decode b_M_around 430 = .ok (.aload_n 0, 1) := by decide +kernel
theorem d_M_around_431 : decode b_M_around 431 = .ok (.getfield 13, 3) := by decide +kernel
theorem d_M_around_434 : decode b_M_around 434 = .ok (.iload 18, 2) := by decide +kernel
theorem d_M_around_436 : decode b_M_around 436 = .ok (.laload, 1) := by decide +kernel
theorem d_M_around_437 : decode b_M_around 437 = .ok (.lload 6, 2) := by decide +kernel
theorem d_M_around_439 : decode b_M_around 439 = .ok (.lsub, 1) := by decide +kernel
theorem d_M_around_440 : decode b_M_around 440 = .ok (.lload 21, 2) := by decide +kernel
theorem d_M_around_442 : decode b_M_around 442 = .ok (.lload 23, 2) := by decide +kernel
theorem d_M_around_444 : decode b_M_around 444 = .ok (.invokevirtual 85, 3) := by decide +kernel
theorem d_M_around_447 : decode b_M_around 447 = .ok (.lload 21, 2) := by decide +kernel
theorem d_M_around_449 : decode b_M_around 449 = .ok (.lstore 12, 2) := by decide +kernel
theorem d_M_around_451 : decode b_M_around 451 = .ok (.lload 23, 2) := by decide +kernel
theorem d_M_around_453 : decode b_M_around 453 = .ok (.lstore 14, 2) := by decide +kernel
theorem d_M_around_455 : decode b_M_around 455 = .ok (.iload 16, 2) := by decide +kernel
theorem d_M_around_457 : decode b_M_around 457 = .ok (.iload 20, 2) := by decide +kernel
theorem d_M_around_459 : decode b_M_around 459 = .ok (.ifCond .eq 7, 3) := by decide +kernel
theorem d_M_around_462 : decode b_M_around 462 = .ok (.iconst 2, 1) := by decide +kernel
theorem d_M_around_463 : decode b_M_around 463 = .ok (.goto 4, 3) := by decide +kernel
theorem d_M_around_466 : decode b_M_around 466 = .ok (.iconst 1, 1) := by decide +kernel
theorem d_M_around_467 : decode b_M_around 467 = .ok (.iadd, 1) := by decide +kernel
theorem d_M_around_468 : decode b_M_around 468 = .ok (.istore 16, 2) := by decide +kernel
theorem d_M_around_470 : decode b_M_around 470 = .ok (.goto (-253), 3) := by decide +kernel
theorem d_M_around_473 : decode b_M_around 473 = .ok (.return_, 1) := by decide +kernel
