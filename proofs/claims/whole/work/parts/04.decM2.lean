theorem d_M_curve_0 : decode b_M_curve 0 = .ok (.lload 5, 2) := by decide +kernel
theorem d_M_curve_2 : decode b_M_curve 2 = .ok (.lload 11, 2) := by decide +kernel
theorem d_M_curve_4 : decode b_M_curve 4 = .ok (.lmul, 1) := by decide +kernel
theorem d_M_curve_5 : decode b_M_curve 5 = .ok (.lload 9, 2) := by decide +kernel
theorem d_M_curve_7 : decode b_M_curve 7 = .ok (.lload 7, 2) := by decide +kernel
theorem d_M_curve_9 : decode b_M_curve 9 = .ok (.lmul, 1) := by decide +kernel
theorem d_M_curve_10 : decode b_M_curve 10 = .ok (.lsub, 1) := by decide +kernel
theorem d_M_curve_11 : decode b_M_curve 11 = .ok (.lstore 13, 2) := by decide +kernel
theorem d_M_curve_13 : decode b_M_curve 13 = .ok (.lload 9, 2) := by decide +kernel
theorem d_M_curve_15 : decode b_M_curve 15 = .ok (.lload_n 3, 1) := by decide +kernel
theorem d_M_curve_16 : decode b_M_curve 16 = .ok (.lmul, 1) := by decide +kernel
theorem d_M_curve_17 : decode b_M_curve 17 = .ok (.lload_n 1, 1) := by decide +kernel
theorem d_M_curve_18 : decode b_M_curve 18 = .ok (.lload 11, 2) := by decide +kernel
theorem d_M_curve_20 : decode b_M_curve 20 = .ok (.lmul, 1) := by decide +kernel
theorem d_M_curve_21 : decode b_M_curve 21 = .ok (.lsub, 1) := by decide +kernel
theorem d_M_curve_22 : decode b_M_curve 22 = .ok (.lstore 15, 2) := by decide +kernel
theorem d_M_curve_24 : decode b_M_curve 24 = .ok (.lload_n 1, 1) := by decide +kernel
theorem d_M_curve_25 : decode b_M_curve 25 = .ok (.lload 7, 2) := by decide +kernel
theorem d_M_curve_27 : decode b_M_curve 27 = .ok (.lmul, 1) := by decide +kernel
theorem d_M_curve_28 : decode b_M_curve 28 = .ok (.lload 5, 2) := by decide +kernel
theorem d_M_curve_30 : decode b_M_curve 30 = .ok (.lload_n 3, 1) := by decide +kernel
theorem d_M_curve_31 : decode b_M_curve 31 = .ok (.lmul, 1) := by decide +kernel
theorem d_M_curve_32 : decode b_M_curve 32 = .ok (.lsub, 1) := by decide +kernel
theorem d_M_curve_33 : decode b_M_curve 33 = .ok (.lstore 17, 2) := by decide +kernel
theorem d_M_curve_35 : decode b_M_curve 35 = .ok (.lload 13, 2) := by decide +kernel
theorem d_M_curve_37 : decode b_M_curve 37 = .ok (.lload 15, 2) := by decide +kernel
theorem d_M_curve_39 : decode b_M_curve 39 = .ok (.ladd, 1) := by decide +kernel
theorem d_M_curve_40 : decode b_M_curve 40 = .ok (.lload 17, 2) := by decide +kernel
theorem d_M_curve_42 : decode b_M_curve 42 = .ok (.ladd, 1) := by decide +kernel
theorem d_M_curve_43 : decode b_M_curve 43 = .ok (.lstore 19, 2) := by decide +kernel
theorem d_M_curve_45 : decode b_M_curve 45 = .ok (.lload 19, 2) := by decide +kernel
theorem d_M_curve_47 : decode b_M_curve 47 = .ok (.lconst 0, 1) := by decide +kernel
theorem d_M_curve_48 : decode b_M_curve 48 = .ok (.lcmp, 1) := by decide +kernel
theorem d_M_curve_49 : decode b_M_curve 49 = .ok (.ifCond .ne 136, 3) := by decide +kernel
theorem d_M_curve_52 : decode b_M_curve 52 = .ok (.lload_n 1, 1) := by decide +kernel
theorem d_M_curve_53 : decode b_M_curve 53 = .ok (.lload 5, 2) := by decide +kernel
theorem d_M_curve_55 : decode b_M_curve 55 = .ok (.lcmp, 1) := by decide +kernel
theorem d_M_curve_56 : decode b_M_curve 56 = .ok (.ifCond .ne 11, 3) := by decide +kernel
theorem d_M_curve_59 : decode b_M_curve 59 = .ok (.lload 5, 2) := by decide +kernel
theorem d_M_curve_61 : decode b_M_curve 61 = .ok (.lload 9, 2) := by decide +kernel
theorem d_M_curve_63 : decode b_M_curve 63 = .ok (.lcmp, 1) := by decide +kernel
theorem d_M_curve_64 : decode b_M_curve 64 = .ok (.ifCond .eq 7, 3) := by decide +kernel
theorem d_M_curve_67 : decode b_M_curve 67 = .ok (.iconst 1, 1) := by decide +kernel
theorem d_M_curve_68 : decode b_M_curve 68 = .ok (.goto 4, 3) := by decide +kernel
theorem d_M_curve_71 : decode b_M_curve 71 = .ok (.iconst 0, 1) := by decide +kernel
theorem d_M_curve_72 : decode b_M_curve 72 = .ok (.istore 21, 2) := by decide +kernel
theorem d_M_curve_74 : decode b_M_curve 74 = .ok (.lload 13, 2) := by decide +kernel
theorem d_M_curve_76 : decode b_M_curve 76 = .ok (.lconst 0, 1) := by decide +kernel
theorem d_M_curve_77 : decode b_M_curve 77 = .ok (.lcmp, 1) := by decide +kernel
theorem d_M_curve_78 : decode b_M_curve 78 = .ok (.ifCond .ne 21, 3) := by decide +kernel
theorem d_M_curve_81 : decode b_M_curve 81 = .ok (.lload 15, 2) := by decide +kernel
theorem d_M_curve_83 : decode b_M_curve 83 = .ok (.lconst 0, 1) := by decide +kernel
theorem d_M_curve_84 : decode b_M_curve 84 = .ok (.lcmp, 1) := by decide +kernel
theorem d_M_curve_85 : decode b_M_curve 85 = .ok (.ifCond .ne 14, 3) := by decide +kernel
theorem d_M_curve_88 : decode b_M_curve 88 = .ok (.lload 17, 2) := by decide +kernel
theorem d_M_curve_90 : decode b_M_curve 90 = .ok (.lconst 0, 1) := by decide +kernel
theorem d_M_curve_91 : decode b_M_curve 91 = .ok (.lcmp, 1) := by decide +kernel
theorem d_M_curve_92 : decode b_M_curve 92 = .ok (.ifCond .ne 7, 3) := by decide +kernel
theorem d_M_curve_95 : decode b_M_curve 95 = .ok (.iconst 1, 1) := by decide +kernel
theorem d_M_curve_96 : decode b_M_curve 96 = .ok (.goto 4, 3) := by decide +kernel
theorem d_M_curve_99 : decode b_M_curve 99 = .ok (.iconst 0, 1) := by decide +kernel
theorem d_M_curve_100 : decode b_M_curve 100 = .ok (.istore 22, 2) := by decide +kernel
theorem d_M_curve_102 : decode b_M_curve 102 = .ok (.iload 21, 2) := by decide +kernel
theorem d_M_curve_104 : decode b_M_curve 104 = .ok (.ifCond .ne 38, 3) := by decide +kernel
theorem d_M_curve_107 : decode b_M_curve 107 = .ok (.lload_n 3, 1) := by decide +kernel
theorem d_M_curve_108 : decode b_M_curve 108 = .ok (.lload 7, 2) := by decide +kernel
theorem d_M_curve_110 : decode b_M_curve 110 = .ok (.lcmp, 1) := by decide +kernel
theorem d_M_curve_111 : decode b_M_curve 111 = .ok (.ifCond .ne 31, 3) := by decide +kernel
theorem d_M_curve_114 : decode b_M_curve 114 = .ok (.lload 7, 2) := by decide +kernel
theorem d_M_curve_116 : decode b_M_curve 116 = .ok (.lload 11, 2) := by decide +kernel
theorem d_M_curve_118 : decode b_M_curve 118 = .ok (.lcmp, 1) := by decide +kernel
theorem d_M_curve_119 : decode b_M_curve 119 = .ok (.ifCond .ne 23, 3) := by decide +kernel
theorem d_M_curve_122 : decode b_M_curve 122 = .ok (.lload_n 1, 1) := by decide +kernel
theorem d_M_curve_123 : decode b_M_curve 123 = .ok (.lconst 0, 1) := by decide +kernel
theorem d_M_curve_124 : decode b_M_curve 124 = .ok (.lcmp, 1) := by decide +kernel
theorem d_M_curve_125 : decode b_M_curve 125 = .ok (.ifCond .ne 57, 3) := by decide +kernel
theorem d_M_curve_128 : decode b_M_curve 128 = .ok (.lload_n 3, 1) := by decide +kernel
theorem d_M_curve_129 : decode b_M_curve 129 = .ok (.lconst 0, 1) := by decide +kernel
theorem d_M_curve_130 : decode b_M_curve 130 = .ok (.lcmp, 1) := by decide +kernel
theorem d_M_curve_131 : decode b_M_curve 131 = .ok (.ifCond .ne 51, 3) := by decide +kernel
theorem d_M_curve_134 : decode b_M_curve 134 = .ok (.aload_n 0, 1) := by decide +kernel
theorem d_M_curve_135 : decode b_M_curve 135 = .ok (.iconst 1, 1) := by decide +kernel
theorem d_M_curve_136 : decode b_M_curve 136 = .ok (.putfield 52, 3) := by decide +kernel
theorem d_M_curve_139 : decode b_M_curve 139 = .ok (.goto 43, 3) := by decide +kernel
theorem d_M_curve_142 : decode b_M_curve 142 = .ok (.iload 22, 2) := by decide +kernel
theorem d_M_curve_144 : decode b_M_curve 144 = .ok (.ifCond .eq 38, 3) := by decide +kernel
theorem d_M_curve_147 : decode b_M_curve 147 = .ok (.iload 21, 2) := by decide +kernel
theorem d_M_curve_149 : decode b_M_curve 149 = .ok (.ifCond .eq 17, 3) := by decide +kernel
theorem d_M_curve_152 : decode b_M_curve 152 = .ok (.lload_n 1, 1) := by decide +kernel
theorem d_M_curve_153 : decode b_M_curve 153 = .ok (.lload 5, 2) := by decide +kernel
theorem d_M_curve_155 : decode b_M_curve 155 = .ok (.lload 9, 2) := by decide +kernel
theorem d_M_curve_157 : decode b_M_curve 157 = .ok (.invokestatic 63, 3) := by decide +kernel
theorem d_M_curve_160 : decode b_M_curve 160 = .ok (.ifCond .eq 22, 3) := by decide +kernel
theorem d_M_curve_163 : decode b_M_curve 163 = .ok (.goto 14, 3) := by decide +kernel
theorem d_M_curve_166 : decode b_M_curve 166 = .ok (.lload_n 3, 1) := by decide +kernel
theorem d_M_curve_167 : decode b_M_curve 167 = .ok (.lload 7, 2) := by decide +kernel
theorem d_M_curve_169 : decode b_M_curve 169 = .ok (.lload 11, 2) := by decide +kernel
theorem d_M_curve_171 : decode b_M_curve 171 = .ok (.invokestatic 63, 3) := by decide +kernel
theorem d_M_curve_174 : decode b_M_curve 174 = .ok (.ifCond .eq 8, 3) := by decide +kernel
theorem d_M_curve_177 : decode b_M_curve 177 = .ok (.aload_n 0, 1) := by decide +kernel
theorem d_M_curve_178 : decode b_M_curve 178 = .ok (.iconst 1, 1) := by decide +kernel
theorem d_M_curve_179 : decode b_M_curve 179 = .ok (.putfield 52, 3) := by decide +kernel
theorem d_M_curve_182 : decode b_M_curve 182 = .ok (.goto 73, 3) := by decide +kernel
theorem d_M_curve_185 : decode b_M_curve 185 = .ok (.lload 19, 2) := by decide +kernel
theorem d_M_curve_187 : decode b_M_curve 187 = .ok (.invokestatic 44, 3) := by decide +kernel
theorem d_M_curve_190 : decode b_M_curve 190 = .ok (.istore 21, 2) := by decide +kernel
theorem d_M_curve_192 : decode b_M_curve 192 = .ok (.iload 21, 2) := by decide +kernel
theorem d_M_curve_194 : decode b_M_curve 194 = .ok (.i2l, 1) := by decide +kernel
theorem d_M_curve_195 : decode b_M_curve 195 = .ok (.lload 13, 2) := by decide +kernel
theorem d_M_curve_197 : decode b_M_curve 197 = .ok (.lmul, 1) := by decide +kernel
theorem d_M_curve_198 : decode b_M_curve 198 = .ok (.lconst 0, 1) := by decide +kernel
theorem d_M_curve_199 : decode b_M_curve 199 = .ok (.lcmp, 1) := by decide +kernel
theorem d_M_curve_200 : decode b_M_curve 200 = .ok (.ifCond .lt 55, 3) := by decide +kernel
theorem d_M_curve_203 : decode b_M_curve 203 = .ok (.iload 21, 2) := by decide +kernel
theorem d_M_curve_205 : decode b_M_curve 205 = .ok (.i2l, 1) := by decide +kernel
theorem d_M_curve_206 : decode b_M_curve 206 = .ok (.lload 15, 2) := by decide +kernel
theorem d_M_curve_208 : decode b_M_curve 208 = .ok (.lmul, 1) := by decide +kernel
theorem d_M_curve_209 : decode b_M_curve 209 = .ok (.lconst 0, 1) := by decide +kernel
theorem d_M_curve_210 : decode b_M_curve 210 = .ok (.lcmp, 1) := by decide +kernel
theorem d_M_curve_211 : decode b_M_curve 211 = .ok (.ifCond .lt 44, 3) := by decide +kernel
theorem d_M_curve_214 : decode b_M_curve 214 = .ok (.iload 21, 2) := by decide +kernel
theorem d_M_curve_216 : decode b_M_curve 216 = .ok (.i2l, 1) := by decide +kernel
theorem d_M_curve_217 : decode b_M_curve 217 = .ok (.lload 17, 2) := by decide +kernel
theorem d_M_curve_219 : decode b_M_curve 219 = .ok (.lmul, 1) := by decide +kernel
theorem d_M_curve_220 : decode b_M_curve 220 = .ok (.lconst 0, 1) := by decide +kernel
theorem d_M_curve_221 : decode b_M_curve 221 = .ok (.lcmp, 1) := by decide +kernel
theorem d_M_curve_222 : decode b_M_curve 222 = .ok (.ifCond .lt 33, 3) := by decide +kernel
theorem d_M_curve_225 : decode b_M_curve 225 = .ok (.aload_n 0, 1) := by decide +kernel
theorem d_M_curve_226 : decode b_M_curve 226 = .ok (.iload 21, 2) := by decide +kernel
theorem d_M_curve_228 : decode b_M_curve 228 = .ok (.i2l, 1) := by decide +kernel
theorem d_M_curve_229 : decode b_M_curve 229 = .ok (.lload 13, 2) := by decide +kernel
theorem d_M_curve_231 : decode b_M_curve 231 = .ok (.lmul, 1) := by decide +kernel
theorem d_M_curve_232 : decode b_M_curve 232 = .ok (.iload 21, 2) := by decide +kernel
theorem d_M_curve_234 : decode b_M_curve 234 = .ok (.i2l, 1) := by decide +kernel
theorem d_M_curve_235 : decode b_M_curve 235 = .ok (.lload 15, 2) := by decide +kernel
theorem d_M_curve_237 : decode b_M_curve 237 = .ok (.lmul, 1) := by decide +kernel
theorem d_M_curve_238 : decode b_M_curve 238 = .ok (.iload 21, 2) := by decide +kernel
theorem d_M_curve_240 : decode b_M_curve 240 = .ok (.i2l, 1) := by decide +kernel
theorem d_M_curve_241 : decode b_M_curve 241 = .ok (.lload 17, 2) := by decide +kernel
theorem d_M_curve_243 : decode b_M_curve 243 = .ok (.lmul, 1) := by decide +kernel
theorem d_M_curve_244 : decode b_M_curve 244 = .ok (.invokevirtual 67, 3) := by decide +kernel
theorem d_M_curve_247 : decode b_M_curve 247 = .ok (.ifCond .eq 8, 3) := by decide +kernel
theorem d_M_curve_250 : decode b_M_curve 250 = .ok (.aload_n 0, 1) := by decide +kernel
theorem d_M_curve_251 : decode b_M_curve 251 = .ok (.iconst 1, 1) := by decide +kernel
theorem d_M_curve_252 : decode b_M_curve 252 = .ok (.putfield 52, 3) := by decide +kernel
theorem d_M_curve_255 : decode b_M_curve 255 = .ok (.aload_n 0, 1) := by decide +kernel
theorem d_M_curve_256 : decode b_M_curve 256 = .ok (.getfield 52, 3) := by decide +kernel
theorem d_M_curve_259 : decode b_M_curve 259 = .ok (.ifCond .eq 4, 3) := by decide +kernel
theorem d_M_curve_262 : decode b_M_curve 262 = .ok (.return_, 1) := by decide +kernel
theorem d_M_curve_263 : decode b_M_curve 263 = .ok (.lload_n 3, 1) := by decide +kernel
theorem d_M_curve_264 : decode b_M_curve 264 = .ok (.lconst 0, 1) := by decide +kernel
theorem d_M_curve_265 : decode b_M_curve 265 = .ok (.lcmp, 1) := by decide +kernel
theorem d_M_curve_266 : decode b_M_curve 266 = .ok (.ifCond .lt 7, 3) := by decide +kernel
theorem d_M_curve_269 : decode b_M_curve 269 = .ok (.iconst 1, 1) := by decide +kernel
theorem d_M_curve_270 : decode b_M_curve 270 = .ok (.goto 4, 3) := by decide +kernel
theorem d_M_curve_273 : decode b_M_curve 273 = .ok (.iconst 0, 1) := by decide +kernel
theorem d_M_curve_274 : decode b_M_curve 274 = .ok (.istore 21, 2) := by decide +kernel
theorem d_M_curve_276 : decode b_M_curve 276 = .ok (.lload 11, 2) := by decide +kernel
theorem d_M_curve_278 : decode b_M_curve 278 = .ok (.lconst 0, 1) := by decide +kernel
theorem d_M_curve_279 : decode b_M_curve 279 = .ok (.lcmp, 1) := by decide +kernel
theorem d_M_curve_280 : decode b_M_curve 280 = .ok (.ifCond .lt 7, 3) := by decide +kernel
theorem d_M_curve_283 : decode b_M_curve 283 = .ok (.iconst 1, 1) := by decide +kernel
theorem d_M_curve_284 : decode b_M_curve 284 = .ok (.goto 4, 3) := by decide +kernel
theorem d_M_curve_287 : decode b_M_curve 287 = .ok (.iconst 0, 1) := by decide +kernel
theorem d_M_curve_288 : decode b_M_curve 288 = .ok (.istore 22, 2) := by decide +kernel
theorem d_M_curve_290 : decode b_M_curve 290 = .ok (.iload 21, 2) := by decide +kernel
theorem d_M_curve_292 : decode b_M_curve 292 = .ok (.iload 22, 2) := by decide +kernel
theorem d_M_curve_294 : decode b_M_curve 294 = .ok (.if_icmp .eq 38, 3) := by decide +kernel
theorem d_M_curve_297 : decode b_M_curve 297 = .ok (.aload_n 0, 1) := by decide +kernel
theorem d_M_curve_298 : decode b_M_curve 298 = .ok (.iload 21, 2) := by decide +kernel
theorem d_M_curve_300 : decode b_M_curve 300 = .ok (.iload 22, 2) := by decide +kernel
theorem d_M_curve_302 : decode b_M_curve 302 = .ok (.aload_n 0, 1) := by decide +kernel
theorem d_M_curve_303 : decode b_M_curve 303 = .ok (.lload_n 1, 1) := by decide +kernel
theorem d_M_curve_304 : decode b_M_curve 304 = .ok (.lload_n 3, 1) := by decide +kernel
theorem d_M_curve_305 : decode b_M_curve 305 = .ok (.lload 5, 2) := by decide +kernel
theorem d_M_curve_307 : decode b_M_curve 307 = .ok (.lload 7, 2) := by decide +kernel
theorem d_M_curve_309 : decode b_M_curve 309 = .ok (.lload 9, 2) := by decide +kernel
theorem d_M_curve_311 : decode b_M_curve 311 = .ok (.lload 11, 2) := by decide +kernel
theorem d_M_curve_313 : decode b_M_curve 313 = .ok (.iload 22, 2) := by decide +kernel
theorem d_M_curve_315 : decode b_M_curve 315 = .ok (.ifCond .eq 7, 3) := by decide +kernel
theorem d_M_curve_318 : decode b_M_curve 318 = .ok (.iconst 1, 1) := by decide +kernel
theorem d_M_curve_319 : decode b_M_curve 319 = .ok (.goto 4, 3) := by decide +kernel
theorem d_M_curve_322 : decode b_M_curve 322 = .ok (.iconst (-1), 1) := by decide +kernel
theorem d_M_curve_323 : decode b_M_curve 323 = .ok (.invokevirtual 70, 3) := by decide +kernel
theorem d_M_curve_326 : decode b_M_curve 326 = .ok (.invokevirtual 59, 3) := by decide +kernel
theorem d_M_curve_329 : decode b_M_curve 329 = .ok (.goto 118, 3) := by decide +kernel
theorem d_M_curve_332 : decode b_M_curve 332 = .ok (.iload 21, 2) := by decide +kernel
theorem d_M_curve_334 : decode b_M_curve 334 = .ok (.ifCond .eq 13, 3) := by decide +kernel
theorem d_M_curve_337 : decode b_M_curve 337 = .ok (.lload 7, 2) := by decide +kernel
theorem d_M_curve_339 : decode b_M_curve 339 = .ok (.lconst 0, 1) := by decide +kernel
theorem d_M_curve_340 : decode b_M_curve 340 = .ok (.lcmp, 1) := by decide +kernel
theorem d_M_curve_341 : decode b_M_curve 341 = .ok (.ifCond .ge 106, 3) := by decide +kernel
theorem d_M_curve_344 : decode b_M_curve 344 = .ok (.goto 10, 3) := by decide +kernel
theorem d_M_curve_347 : decode b_M_curve 347 = .ok (.lload 7, 2) := by decide +kernel
theorem d_M_curve_349 : decode b_M_curve 349 = .ok (.lconst 0, 1) := by decide +kernel
theorem d_M_curve_350 : decode b_M_curve 350 = .ok (.lcmp, 1) := by decide +kernel
theorem d_M_curve_351 : decode b_M_curve 351 = .ok (.ifCond .le 96, 3) := by decide +kernel
theorem d_M_curve_354 : decode b_M_curve 354 = .ok (.lload 7, 2) := by decide +kernel
theorem d_M_curve_356 : decode b_M_curve 356 = .ok (.lload 7, 2) := by decide +kernel
theorem d_M_curve_358 : decode b_M_curve 358 = .ok (.lmul, 1) := by decide +kernel
theorem d_M_curve_359 : decode b_M_curve 359 = .ok (.lload_n 3, 1) := by decide +kernel
theorem d_M_curve_360 : decode b_M_curve 360 = .ok (.lload 11, 2) := by decide +kernel
theorem d_M_curve_362 : decode b_M_curve 362 = .ok (.lmul, 1) := by decide +kernel
theorem d_M_curve_363 : decode b_M_curve 363 = .ok (.lcmp, 1) := by decide +kernel
theorem d_M_curve_364 : decode b_M_curve 364 = .ok (.ifCond .le 83, 3) := by decide +kernel
theorem d_M_curve_367 : decode b_M_curve 367 = .ok (.aload_n 0, 1) := by decide +kernel
theorem d_M_curve_368 : decode b_M_curve 368 = .ok (.iload 21, 2) := by decide +kernel
theorem d_M_curve_370 : decode b_M_curve 370 = .ok (.iload 21, 2) := by decide +kernel
theorem d_M_curve_372 : decode b_M_curve 372 = .ok (.ifCond .ne 7, 3) := by decide +kernel
theorem d_M_curve_375 : decode b_M_curve 375 = .ok (.iconst 1, 1) := by decide +kernel
theorem d_M_curve_376 : decode b_M_curve 376 = .ok (.goto 4, 3) := by decide +kernel
theorem d_M_curve_379 : decode b_M_curve 379 = .ok (.iconst 0, 1) := by decide +kernel
theorem d_M_curve_380 : decode b_M_curve 380 = .ok (.aload_n 0, 1) := by decide +kernel
theorem d_M_curve_381 : decode b_M_curve 381 = .ok (.lload_n 1, 1) := by decide +kernel
theorem d_M_curve_382 : decode b_M_curve 382 = .ok (.lload_n 3, 1) := by decide +kernel
theorem d_M_curve_383 : decode b_M_curve 383 = .ok (.lload 5, 2) := by decide +kernel
theorem d_M_curve_385 : decode b_M_curve 385 = .ok (.lload 7, 2) := by decide +kernel
theorem d_M_curve_387 : decode b_M_curve 387 = .ok (.lload 9, 2) := by decide +kernel
theorem d_M_curve_389 : decode b_M_curve 389 = .ok (.lload 11, 2) := by decide +kernel
theorem d_M_curve_391 : decode b_M_curve 391 = .ok (.iload 21, 2) := by decide +kernel
theorem d_M_curve_393 : decode b_M_curve 393 = .ok (.ifCond .eq 7, 3) := by decide +kernel
theorem d_M_curve_396 : decode b_M_curve 396 = .ok (.iconst (-1), 1) := by decide +kernel
theorem d_M_curve_397 : decode b_M_curve 397 = .ok (.goto 4, 3) := by decide +kernel
theorem d_M_curve_400 : decode b_M_curve 400 = .ok (.iconst 1, 1) := by decide +kernel
theorem d_M_curve_401 : decode b_M_curve 401 = .ok (.invokevirtual 70, 3) := by decide +kernel
theorem d_M_curve_404 : decode b_M_curve 404 = .ok (.invokevirtual 59, 3) := by decide +kernel
theorem d_M_curve_407 : decode b_M_curve 407 = .ok (.aload_n 0, 1) := by decide +kernel
theorem d_M_curve_408 : decode b_M_curve 408 = .ok (.iload 21, 2) := by decide +kernel
theorem d_M_curve_410 : decode b_M_curve 410 = .ok (.ifCond .ne 7, 3) := by decide +kernel
theorem d_M_curve_413 : decode b_M_curve 413 = .ok (.iconst 1, 1) := by decide +kernel
theorem d_M_curve_414 : decode b_M_curve 414 = .ok (.goto 4, 3) := by decide +kernel
theorem d_M_curve_417 : decode b_M_curve 417 = .ok (.iconst 0, 1) := by decide +kernel
theorem d_M_curve_418 : decode b_M_curve 418 = .ok (.iload 21, 2) := by decide +kernel
theorem d_M_curve_420 : decode b_M_curve 420 = .ok (.aload_n 0, 1) := by decide +kernel
theorem d_M_curve_421 : decode b_M_curve 421 = .ok (.lload_n 1, 1) := by decide +kernel
theorem d_M_curve_422 : decode b_M_curve 422 = .ok (.lload_n 3, 1) := by decide +kernel
theorem d_M_curve_423 : decode b_M_curve 423 = .ok (.lload 5, 2) := by decide +kernel
theorem d_M_curve_425 : decode b_M_curve 425 = .ok (.lload 7, 2) := by decide +kernel
theorem d_M_curve_427 : decode b_M_curve 427 = .ok (.lload 9, 2) := by decide +kernel
theorem d_M_curve_429 : decode b_M_curve 429 = .ok (.lload 11, 2) := by decide +kernel
theorem d_M_curve_431 : decode b_M_curve 431 = .ok (.iload 21, 2) := by decide +kernel
theorem d_M_curve_433 : decode b_M_curve 433 = .ok (.ifCond .eq 7, 3) := by decide +kernel
theorem d_M_curve_436 : decode b_M_curve 436 = .ok (.iconst 1, 1) := by decide +kernel
theorem d_M_curve_437 : decode b_M_curve 437 = .ok (.goto 4, 3) := by decide +kernel
theorem d_M_curve_440 : decode b_M_curve 440 = .ok (.iconst (-1), 1) := by decide +kernel
theorem d_M_curve_441 : decode b_M_curve 441 = .ok (.invokevirtual 70, 3) := by decide +kernel
theorem d_M_curve_444 : decode b_M_curve 444 = .ok (.invokevirtual 59, 3) := by decide +kernel
theorem d_M_curve_447 : decode b_M_curve 447 = .ok (.return_, 1) := by decide +kernel
theorem d_M_side_0 : decode b_M_side 0 = .ok (.lload_n 1, 1) := by decide +kernel
theorem d_M_side_1 : decode b_M_side 1 = .ok (.ldc2_w 76, 3) := by decide +kernel
theorem d_M_side_4 : decode b_M_side 4 = .ok (.lload 5, 2) := by decide +kernel
theorem d_M_side_6 : decode b_M_side 6 = .ok (.lmul, 1) := by decide +kernel
theorem d_M_side_7 : decode b_M_side 7 = .ok (.lsub, 1) := by decide +kernel
theorem d_M_side_8 : decode b_M_side 8 = .ok (.lload 9, 2) := by decide +kernel
theorem d_M_side_10 : decode b_M_side 10 = .ok (.ladd, 1) := by decide +kernel
theorem d_M_side_11 : decode b_M_side 11 = .ok (.lstore 14, 2) := by decide +kernel
theorem d_M_side_13 : decode b_M_side 13 = .ok (.ldc2_w 76, 3) := by decide +kernel
theorem d_M_side_16 : decode b_M_side 16 = .ok (.lload 5, 2) := by decide +kernel
theorem d_M_side_18 : decode b_M_side 18 = .ok (.lload_n 1, 1) := by decide +kernel
theorem d_M_side_19 : decode b_M_side 19 = .ok (.lsub, 1) := by decide +kernel
theorem d_M_side_20 : decode b_M_side 20 = .ok (.lmul, 1) := by decide +kernel
theorem d_M_side_21 : decode b_M_side 21 = .ok (.lstore 16, 2) := by decide +kernel
theorem d_M_side_23 : decode b_M_side 23 = .ok (.lload_n 3, 1) := by decide +kernel
theorem d_M_side_24 : decode b_M_side 24 = .ok (.ldc2_w 76, 3) := by decide +kernel
theorem d_M_side_27 : decode b_M_side 27 = .ok (.lload 7, 2) := by decide +kernel
theorem d_M_side_29 : decode b_M_side 29 = .ok (.lmul, 1) := by decide +kernel
theorem d_M_side_30 : decode b_M_side 30 = .ok (.lsub, 1) := by decide +kernel
theorem d_M_side_31 : decode b_M_side 31 = .ok (.lload 11, 2) := by decide +kernel
theorem d_M_side_33 : decode b_M_side 33 = .ok (.ladd, 1) := by decide +kernel
theorem d_M_side_34 : decode b_M_side 34 = .ok (.lstore 18, 2) := by decide +kernel
theorem d_M_side_36 : decode b_M_side 36 = .ok (.ldc2_w 76, 3) := by decide +kernel
theorem d_M_side_39 : decode b_M_side 39 = .ok (.lload 7, 2) := by decide +kernel
theorem d_M_side_41 : decode b_M_side 41 = .ok (.lload_n 3, 1) := by decide +kernel
theorem d_M_side_42 : decode b_M_side 42 = .ok (.lsub, 1) := by decide +kernel
theorem d_M_side_43 : decode b_M_side 43 = .ok (.lmul, 1) := by decide +kernel
theorem d_M_side_44 : decode b_M_side 44 = .ok (.lstore 20, 2) := by decide +kernel
theorem d_M_side_46 : decode b_M_side 46 = .ok (.lload 18, 2) := by decide +kernel
theorem d_M_side_48 : decode b_M_side 48 = .ok (.lconst 0, 1) := by decide +kernel
theorem d_M_side_49 : decode b_M_side 49 = .ok (.lcmp, 1) := by decide +kernel
theorem d_M_side_50 : decode b_M_side 50 = .ok (.ifCond .ne 29, 3) := by decide +kernel
theorem d_M_side_53 : decode b_M_side 53 = .ok (.lload 14, 2) := by decide +kernel
theorem d_M_side_55 : decode b_M_side 55 = .ok (.lload_n 3, 1) := by decide +kernel
theorem d_M_side_56 : decode b_M_side 56 = .ok (.lmul, 1) := by decide +kernel
theorem d_M_side_57 : decode b_M_side 57 = .ok (.lload_n 3, 1) := by decide +kernel
theorem d_M_side_58 : decode b_M_side 58 = .ok (.lmul, 1) := by decide +kernel
theorem d_M_side_59 : decode b_M_side 59 = .ok (.lload 16, 2) := by decide +kernel
theorem d_M_side_61 : decode b_M_side 61 = .ok (.lload 20, 2) := by decide +kernel
theorem d_M_side_63 : decode b_M_side 63 = .ok (.lmul, 1) := by decide +kernel
theorem d_M_side_64 : decode b_M_side 64 = .ok (.lload_n 3, 1) := by decide +kernel
theorem d_M_side_65 : decode b_M_side 65 = .ok (.lmul, 1) := by decide +kernel
theorem d_M_side_66 : decode b_M_side 66 = .ok (.lsub, 1) := by decide +kernel
theorem d_M_side_67 : decode b_M_side 67 = .ok (.lload_n 1, 1) := by decide +kernel
theorem d_M_side_68 : decode b_M_side 68 = .ok (.lload 20, 2) := by decide +kernel
theorem d_M_side_70 : decode b_M_side 70 = .ok (.lmul, 1) := by decide +kernel
theorem d_M_side_71 : decode b_M_side 71 = .ok (.lload 20, 2) := by decide +kernel
theorem d_M_side_73 : decode b_M_side 73 = .ok (.lmul, 1) := by decide +kernel
theorem d_M_side_74 : decode b_M_side 74 = .ok (.ladd, 1) := by decide +kernel
theorem d_M_side_75 : decode b_M_side 75 = .ok (.invokestatic 44, 3) := by decide +kernel
theorem d_M_side_78 : decode b_M_side 78 = .ok (.ireturn, 1) := by decide +kernel
theorem d_M_side_79 : decode b_M_side 79 = .ok (.lload 18, 2) := by decide +kernel
theorem d_M_side_81 : decode b_M_side 81 = .ok (.lload 16, 2) := by decide +kernel
theorem d_M_side_83 : decode b_M_side 83 = .ok (.lmul, 1) := by decide +kernel
theorem d_M_side_84 : decode b_M_side 84 = .ok (.lload 14, 2) := by decide +kernel
theorem d_M_side_86 : decode b_M_side 86 = .ok (.lload 20, 2) := by decide +kernel
theorem d_M_side_88 : decode b_M_side 88 = .ok (.lmul, 1) := by decide +kernel
theorem d_M_side_89 : decode b_M_side 89 = .ok (.lsub, 1) := by decide +kernel
theorem d_M_side_90 : decode b_M_side 90 = .ok (.lstore 22, 2) := by decide +kernel
theorem d_M_side_92 : decode b_M_side 92 = .ok (.lload 18, 2) := by decide +kernel
theorem d_M_side_94 : decode b_M_side 94 = .ok (.lload_n 1, 1) := by decide +kernel
theorem d_M_side_95 : decode b_M_side 95 = .ok (.lmul, 1) := by decide +kernel
theorem d_M_side_96 : decode b_M_side 96 = .ok (.lload 14, 2) := by decide +kernel
theorem d_M_side_98 : decode b_M_side 98 = .ok (.lload_n 3, 1) := by decide +kernel
theorem d_M_side_99 : decode b_M_side 99 = .ok (.lmul, 1) := by decide +kernel
theorem d_M_side_100 : decode b_M_side 100 = .ok (.lsub, 1) := by decide +kernel
theorem d_M_side_101 : decode b_M_side 101 = .ok (.lstore 24, 2) := by decide +kernel
theorem d_M_side_103 : decode b_M_side 103 = .ok (.aload_n 0, 1) := by decide +kernel
theorem d_M_side_104 : decode b_M_side 104 = .ok (.ldc2_w 76, 3) := by decide +kernel
theorem d_M_side_107 : decode b_M_side 107 = .ok (.lload 18, 2) := by decide +kernel
theorem d_M_side_109 : decode b_M_side 109 = .ok (.lmul, 1) := by decide +kernel
theorem d_M_side_110 : decode b_M_side 110 = .ok (.lload 24, 2) := by decide +kernel
theorem d_M_side_112 : decode b_M_side 112 = .ok (.lmul, 1) := by decide +kernel
theorem d_M_side_113 : decode b_M_side 113 = .ok (.lload 22, 2) := by decide +kernel
theorem d_M_side_115 : decode b_M_side 115 = .ok (.lload 20, 2) := by decide +kernel
theorem d_M_side_117 : decode b_M_side 117 = .ok (.lmul, 1) := by decide +kernel
theorem d_M_side_118 : decode b_M_side 118 = .ok (.lsub, 1) := by decide +kernel
theorem d_M_side_119 : decode b_M_side 119 = .ok (.iload 13, 2) := by decide +kernel
theorem d_M_side_121 : decode b_M_side 121 = .ok (.i2l, 1) := by decide +kernel
theorem d_M_side_122 : decode b_M_side 122 = .ok (.lload 22, 2) := by decide +kernel
theorem d_M_side_124 : decode b_M_side 124 = .ok (.lmul, 1) := by decide +kernel
theorem d_M_side_125 : decode b_M_side 125 = .ok (.lload 20, 2) := by decide +kernel
theorem d_M_side_127 : decode b_M_side 127 = .ok (.lload 20, 2) := by decide +kernel
theorem d_M_side_129 : decode b_M_side 129 = .ok (.lmul, 1) := by decide +kernel
theorem d_M_side_130 : decode b_M_side 130 = .ok (.ldc2_w 74, 3) := by decide +kernel
theorem d_M_side_133 : decode b_M_side 133 = .ok (.lload 18, 2) := by decide +kernel
theorem d_M_side_135 : decode b_M_side 135 = .ok (.lmul, 1) := by decide +kernel
theorem d_M_side_136 : decode b_M_side 136 = .ok (.lload_n 3, 1) := by decide +kernel
theorem d_M_side_137 : decode b_M_side 137 = .ok (.lmul, 1) := by decide +kernel
theorem d_M_side_138 : decode b_M_side 138 = .ok (.lsub, 1) := by decide +kernel
theorem d_M_side_139 : decode b_M_side 139 = .ok (.invokevirtual 78, 3) := by decide +kernel
theorem d_M_side_142 : decode b_M_side 142 = .ok (.ireturn, 1) := by decide +kernel
