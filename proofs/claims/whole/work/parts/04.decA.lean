theorem d_A_init_0 : decode b_A_init 0 = .ok (.aload_n 0, 1) := by decide +kernel
theorem d_A_init_1 : decode b_A_init 1 = .ok (.invokespecial 5, 3) := by decide +kernel
theorem d_A_init_4 : decode b_A_init 4 = .ok (.aload_n 0, 1) := by decide +kernel
theorem d_A_init_5 : decode b_A_init 5 = .ok (.iload_n 1, 1) := by decide +kernel
theorem d_A_init_6 : decode b_A_init 6 = .ok (.putfield 11, 3) := by decide +kernel
theorem d_A_init_9 : decode b_A_init 9 = .ok (.aload_n 0, 1) := by decide +kernel
theorem d_A_init_10 : decode b_A_init 10 = .ok (.iload_n 2, 1) := by decide +kernel
theorem d_A_init_11 : decode b_A_init 11 = .ok (.putfield 15, 3) := by decide +kernel
theorem d_A_init_14 : decode b_A_init 14 = .ok (.aload_n 0, 1) := by decide +kernel
theorem d_A_init_15 : decode b_A_init 15 = .ok (.iload_n 3, 1) := by decide +kernel
theorem d_A_init_16 : decode b_A_init 16 = .ok (.putfield 18, 3) := by decide +kernel
theorem d_A_init_19 : decode b_A_init 19 = .ok (.aload_n 0, 1) := by decide +kernel
theorem d_A_init_20 : decode b_A_init 20 = .ok (.iload 4, 2) := by decide +kernel
theorem d_A_init_22 : decode b_A_init 22 = .ok (.putfield 21, 3) := by decide +kernel
theorem d_A_init_25 : decode b_A_init 25 = .ok (.aload_n 0, 1) := by decide +kernel
theorem d_A_init_26 : decode b_A_init 26 = .ok (.iload 5, 2) := by decide +kernel
theorem d_A_init_28 : decode b_A_init 28 = .ok (.putfield 24, 3) := by decide +kernel
theorem d_A_init_31 : decode b_A_init 31 = .ok (.aload_n 0, 1) := by decide +kernel
theorem d_A_init_32 : decode b_A_init 32 = .ok (.iload 6, 2) := by decide +kernel
theorem d_A_init_34 : decode b_A_init 34 = .ok (.putfield 27, 3) := by decide +kernel
theorem d_A_init_37 : decode b_A_init 37 = .ok (.return_, 1) := by decide +kernel
theorem d_A_turnsAround_0 : decode b_A_turnsAround 0 = .ok (.aload_n 0, 1) := by decide +kernel
theorem d_A_turnsAround_1 : decode b_A_turnsAround 1 = .ok (.iload_n 2, 1) := by decide +kernel
theorem d_A_turnsAround_2 : decode b_A_turnsAround 2 = .ok (.invokevirtual 39, 3) := by decide +kernel
theorem d_A_turnsAround_5 : decode b_A_turnsAround 5 = .ok (.ifCond .eq 25, 3) := by decide +kernel
theorem d_A_turnsAround_8 : decode b_A_turnsAround 8 = .ok (.iload_n 1, 1) := by decide +kernel
theorem d_A_turnsAround_9 : decode b_A_turnsAround 9 = .ok (.aload_n 0, 1) := by decide +kernel
theorem d_A_turnsAround_10 : decode b_A_turnsAround 10 = .ok (.getfield 11, 3) := by decide +kernel
theorem d_A_turnsAround_13 : decode b_A_turnsAround 13 = .ok (.aload_n 0, 1) := by decide +kernel
theorem d_A_turnsAround_14 : decode b_A_turnsAround 14 = .ok (.getfield 18, 3) := by decide +kernel
theorem d_A_turnsAround_17 : decode b_A_turnsAround 17 = .ok (.aload_n 0, 1) := by decide +kernel
theorem d_A_turnsAround_18 : decode b_A_turnsAround 18 = .ok (.getfield 24, 3) := by decide +kernel
theorem d_A_turnsAround_21 : decode b_A_turnsAround 21 = .ok (.invokestatic 36, 3) := by decide +kernel
theorem d_A_turnsAround_24 : decode b_A_turnsAround 24 = .ok (.invokestatic 36, 3) := by decide +kernel
theorem d_A_turnsAround_27 : decode b_A_turnsAround 27 = .ok (.if_icmp .le 5, 3) := by decide +kernel
theorem d_A_turnsAround_30 : decode b_A_turnsAround 30 = .ok (.iconst 0, 1) := by decide +kernel
theorem d_A_turnsAround_31 : decode b_A_turnsAround 31 = .ok (.ireturn, 1) := by decide +kernel
theorem d_A_turnsAround_32 : decode b_A_turnsAround 32 = .ok (.aload_n 0, 1) := by decide +kernel
theorem d_A_turnsAround_33 : decode b_A_turnsAround 33 = .ok (.getfield 18, 3) := by decide +kernel
theorem d_A_turnsAround_36 : decode b_A_turnsAround 36 = .ok (.iload_n 1, 1) := by decide +kernel
theorem d_A_turnsAround_37 : decode b_A_turnsAround 37 = .ok (.isub, 1) := by decide +kernel
theorem d_A_turnsAround_38 : decode b_A_turnsAround 38 = .ok (.i2l, 1) := by decide +kernel
theorem d_A_turnsAround_39 : decode b_A_turnsAround 39 = .ok (.aload_n 0, 1) := by decide +kernel
theorem d_A_turnsAround_40 : decode b_A_turnsAround 40 = .ok (.getfield 21, 3) := by decide +kernel
theorem d_A_turnsAround_43 : decode b_A_turnsAround 43 = .ok (.iload_n 2, 1) := by decide +kernel
theorem d_A_turnsAround_44 : decode b_A_turnsAround 44 = .ok (.isub, 1) := by decide +kernel
theorem d_A_turnsAround_45 : decode b_A_turnsAround 45 = .ok (.i2l, 1) := by decide +kernel
theorem d_A_turnsAround_46 : decode b_A_turnsAround 46 = .ok (.aload_n 0, 1) := by decide +kernel
theorem d_A_turnsAround_47 : decode b_A_turnsAround 47 = .ok (.getfield 24, 3) := by decide +kernel
theorem d_A_turnsAround_50 : decode b_A_turnsAround 50 = .ok (.iload_n 1, 1) := by decide +kernel
theorem d_A_turnsAround_51 : decode b_A_turnsAround 51 = .ok (.isub, 1) := by decide +kernel
theorem d_A_turnsAround_52 : decode b_A_turnsAround 52 = .ok (.i2l, 1) := by decide +kernel
theorem d_A_turnsAround_53 : decode b_A_turnsAround 53 = .ok (.aload_n 0, 1) := by decide +kernel
theorem d_A_turnsAround_54 : decode b_A_turnsAround 54 = .ok (.getfield 27, 3) := by decide +kernel
theorem d_A_turnsAround_57 : decode b_A_turnsAround 57 = .ok (.iload_n 2, 1) := by decide +kernel
theorem d_A_turnsAround_58 : decode b_A_turnsAround 58 = .ok (.isub, 1) := by decide +kernel
theorem d_A_turnsAround_59 : decode b_A_turnsAround 59 = .ok (.i2l, 1) := by decide +kernel
theorem d_A_turnsAround_60 : decode b_A_turnsAround 60 = .ok (.invokestatic 43, 3) := by decide +kernel
theorem d_A_turnsAround_63 : decode b_A_turnsAround 63 = .ok (.lstore_n 3, 1) := by decide +kernel
theorem d_A_turnsAround_64 : decode b_A_turnsAround 64 = .ok (.aload_n 0, 1) := by decide +kernel
theorem d_A_turnsAround_65 : decode b_A_turnsAround 65 = .ok (.getfield 24, 3) := by decide +kernel
theorem d_A_turnsAround_68 : decode b_A_turnsAround 68 = .ok (.iload_n 1, 1) := by decide +kernel
theorem d_A_turnsAround_69 : decode b_A_turnsAround 69 = .ok (.isub, 1) := by decide +kernel
theorem d_A_turnsAround_70 : decode b_A_turnsAround 70 = .ok (.i2l, 1) := by decide +kernel
theorem d_A_turnsAround_71 : decode b_A_turnsAround 71 = .ok (.aload_n 0, 1) := by decide +kernel
theorem d_A_turnsAround_72 : decode b_A_turnsAround 72 = .ok (.getfield 27, 3) := by decide +kernel
theorem d_A_turnsAround_75 : decode b_A_turnsAround 75 = .ok (.iload_n 2, 1) := by decide +kernel
theorem d_A_turnsAround_76 : decode b_A_turnsAround 76 = .ok (.isub, 1) := by decide +kernel
theorem d_A_turnsAround_77 : decode b_A_turnsAround 77 = .ok (.i2l, 1) := by decide +kernel
theorem d_A_turnsAround_78 : decode b_A_turnsAround 78 = .ok (.aload_n 0, 1) := by decide +kernel
theorem d_A_turnsAround_79 : decode b_A_turnsAround 79 = .ok (.getfield 11, 3) := by decide +kernel
theorem d_A_turnsAround_82 : decode b_A_turnsAround 82 = .ok (.iload_n 1, 1) := by decide +kernel
theorem d_A_turnsAround_83 : decode b_A_turnsAround 83 = .ok (.isub, 1) := by decide +kernel
theorem d_A_turnsAround_84 : decode b_A_turnsAround 84 = .ok (.i2l, 1) := by decide +kernel
theorem d_A_turnsAround_85 : decode b_A_turnsAround 85 = .ok (.aload_n 0, 1) := by decide +kernel
theorem d_A_turnsAround_86 : decode b_A_turnsAround 86 = .ok (.getfield 15, 3) := by decide +kernel
theorem d_A_turnsAround_89 : decode b_A_turnsAround 89 = .ok (.iload_n 2, 1) := by decide +kernel
theorem d_A_turnsAround_90 : decode b_A_turnsAround 90 = .ok (.isub, 1) := by decide +kernel
theorem d_A_turnsAround_91 : decode b_A_turnsAround 91 = .ok (.i2l, 1) := by decide +kernel
theorem d_A_turnsAround_92 : decode b_A_turnsAround 92 = .ok (.invokestatic 43, 3) := by decide +kernel
theorem d_A_turnsAround_95 : decode b_A_turnsAround 95 = .ok (.lstore 5, 2) := by decide +kernel
theorem d_A_turnsAround_97 : decode b_A_turnsAround 97 = .ok (.aload_n 0, 1) := by decide +kernel
theorem d_A_turnsAround_98 : decode b_A_turnsAround 98 = .ok (.getfield 11, 3) := by decide +kernel
theorem d_A_turnsAround_101 : decode b_A_turnsAround 101 = .ok (.iload_n 1, 1) := by decide +kernel
theorem d_A_turnsAround_102 : decode b_A_turnsAround 102 = .ok (.isub, 1) := by decide +kernel
theorem d_A_turnsAround_103 : decode b_A_turnsAround 103 = .ok (.i2l, 1) := by decide +kernel
theorem d_A_turnsAround_104 : decode b_A_turnsAround 104 = .ok (.aload_n 0, 1) := by decide +kernel
theorem d_A_turnsAround_105 : decode b_A_turnsAround 105 = .ok (.getfield 15, 3) := by decide +kernel
theorem d_A_turnsAround_108 : decode b_A_turnsAround 108 = .ok (.iload_n 2, 1) := by decide +kernel
theorem d_A_turnsAround_109 : decode b_A_turnsAround 109 = .ok (.isub, 1) := by decide +kernel
theorem d_A_turnsAround_110 : decode b_A_turnsAround 110 = .ok (.i2l, 1) := by decide +kernel
theorem d_A_turnsAround_111 : decode b_A_turnsAround 111 = .ok (.aload_n 0, 1) := by decide +kernel
theorem d_A_turnsAround_112 : decode b_A_turnsAround 112 = .ok (.getfield 18, 3) := by decide +kernel
theorem d_A_turnsAround_115 : decode b_A_turnsAround 115 = .ok (.iload_n 1, 1) := by decide +kernel
theorem d_A_turnsAround_116 : decode b_A_turnsAround 116 = .ok (.isub, 1) := by decide +kernel
theorem d_A_turnsAround_117 : decode b_A_turnsAround 117 = .ok (.i2l, 1) := by decide +kernel
theorem d_A_turnsAround_118 : decode b_A_turnsAround 118 = .ok (.aload_n 0, 1) := by decide +kernel
theorem d_A_turnsAround_119 : decode b_A_turnsAround 119 = .ok (.getfield 21, 3) := by decide +kernel
theorem d_A_turnsAround_122 : decode b_A_turnsAround 122 = .ok (.iload_n 2, 1) := by decide +kernel
theorem d_A_turnsAround_123 : decode b_A_turnsAround 123 = .ok (.isub, 1) := by decide +kernel
theorem d_A_turnsAround_124 : decode b_A_turnsAround 124 = .ok (.i2l, 1) := by decide +kernel
theorem d_A_turnsAround_125 : decode b_A_turnsAround 125 = .ok (.invokestatic 43, 3) := by decide +kernel
theorem d_A_turnsAround_128 : decode b_A_turnsAround 128 = .ok (.lstore 7, 2) := by decide +kernel
theorem d_A_turnsAround_130 : decode b_A_turnsAround 130 = .ok (.lload_n 3, 1) := by decide +kernel
theorem d_A_turnsAround_131 : decode b_A_turnsAround 131 = .ok (.lload 5, 2) := by decide +kernel
theorem d_A_turnsAround_133 : decode b_A_turnsAround 133 = .ok (.ladd, 1) := by decide +kernel
theorem d_A_turnsAround_134 : decode b_A_turnsAround 134 = .ok (.lload 7, 2) := by decide +kernel
theorem d_A_turnsAround_136 : decode b_A_turnsAround 136 = .ok (.ladd, 1) := by decide +kernel
theorem d_A_turnsAround_137 : decode b_A_turnsAround 137 = .ok (.lconst 0, 1) := by decide +kernel
theorem d_A_turnsAround_138 : decode b_A_turnsAround 138 = .ok (.invokestatic 47, 3) := by decide +kernel
theorem d_A_turnsAround_141 : decode b_A_turnsAround 141 = .ok (.istore 9, 2) := by decide +kernel
theorem d_A_turnsAround_143 : decode b_A_turnsAround 143 = .ok (.aload_n 0, 1) := by decide +kernel
theorem d_A_turnsAround_144 : decode b_A_turnsAround 144 = .ok (.lload 5, 2) := by decide +kernel
theorem d_A_turnsAround_146 : decode b_A_turnsAround 146 = .ok (.invokevirtual 53, 3) := by decide +kernel
theorem d_A_turnsAround_149 : decode b_A_turnsAround 149 = .ok (.istore 10, 2) := by decide +kernel
theorem d_A_turnsAround_151 : decode b_A_turnsAround 151 = .ok (.aload_n 0, 1) := by decide +kernel
theorem d_A_turnsAround_152 : decode b_A_turnsAround 152 = .ok (.iload 10, 2) := by decide +kernel
theorem d_A_turnsAround_154 : decode b_A_turnsAround 154 = .ok (.iload_n 2, 1) := by decide +kernel
theorem d_A_turnsAround_155 : decode b_A_turnsAround 155 = .ok (.invokevirtual 57, 3) := by decide +kernel
theorem d_A_turnsAround_158 : decode b_A_turnsAround 158 = .ok (.istore 11, 2) := by decide +kernel
theorem d_A_turnsAround_160 : decode b_A_turnsAround 160 = .ok (.iload 9, 2) := by decide +kernel
theorem d_A_turnsAround_162 : decode b_A_turnsAround 162 = .ok (.ifCond .ne 53, 3) := by decide +kernel
theorem d_A_turnsAround_165 : decode b_A_turnsAround 165 = .ok (.lload_n 3, 1) := by decide +kernel
theorem d_A_turnsAround_166 : decode b_A_turnsAround 166 = .ok (.lconst 0, 1) := by decide +kernel
theorem d_A_turnsAround_167 : decode b_A_turnsAround 167 = .ok (.lcmp, 1) := by decide +kernel
theorem d_A_turnsAround_168 : decode b_A_turnsAround 168 = .ok (.ifCond .ne 21, 3) := by decide +kernel
theorem d_A_turnsAround_171 : decode b_A_turnsAround 171 = .ok (.lload 5, 2) := by decide +kernel
theorem d_A_turnsAround_173 : decode b_A_turnsAround 173 = .ok (.lconst 0, 1) := by decide +kernel
theorem d_A_turnsAround_174 : decode b_A_turnsAround 174 = .ok (.lcmp, 1) := by decide +kernel
theorem d_A_turnsAround_175 : decode b_A_turnsAround 175 = .ok (.ifCond .ne 14, 3) := by decide +kernel
theorem d_A_turnsAround_178 : decode b_A_turnsAround 178 = .ok (.lload 7, 2) := by decide +kernel
theorem d_A_turnsAround_180 : decode b_A_turnsAround 180 = .ok (.lconst 0, 1) := by decide +kernel
theorem d_A_turnsAround_181 : decode b_A_turnsAround 181 = .ok (.lcmp, 1) := by decide +kernel
theorem d_A_turnsAround_182 : decode b_A_turnsAround 182 = .ok (.ifCond .ne 7, 3) := by decide +kernel
theorem d_A_turnsAround_185 : decode b_A_turnsAround 185 = .ok (.iconst 1, 1) := by decide +kernel
theorem d_A_turnsAround_186 : decode b_A_turnsAround 186 = .ok (.goto 4, 3) := by decide +kernel
theorem d_A_turnsAround_189 : decode b_A_turnsAround 189 = .ok (.iconst 0, 1) := by decide +kernel
theorem d_A_turnsAround_190 : decode b_A_turnsAround 190 = .ok (.istore 12, 2) := by decide +kernel
theorem d_A_turnsAround_192 : decode b_A_turnsAround 192 = .ok (.iload 12, 2) := by decide +kernel
theorem d_A_turnsAround_194 : decode b_A_turnsAround 194 = .ok (.ifCond .eq 18, 3) := by decide +kernel
theorem d_A_turnsAround_197 : decode b_A_turnsAround 197 = .ok (.aload_n 0, 1) := by decide +kernel
theorem d_A_turnsAround_198 : decode b_A_turnsAround 198 = .ok (.iload_n 1, 1) := by decide +kernel
theorem d_A_turnsAround_199 : decode b_A_turnsAround 199 = .ok (.iload_n 2, 1) := by decide +kernel
theorem d_A_turnsAround_200 : decode b_A_turnsAround 200 = .ok (.invokevirtual 60, 3) := by decide +kernel
theorem d_A_turnsAround_203 : decode b_A_turnsAround 203 = .ok (.ifCond .eq 9, 3) := by decide +kernel
theorem d_A_turnsAround_206 : decode b_A_turnsAround 206 = .ok (.sipush 1000, 3) := by decide +kernel
theorem d_A_turnsAround_209 : decode b_A_turnsAround 209 = .ok (.goto 5, 3) := by decide +kernel
theorem d_A_turnsAround_212 : decode b_A_turnsAround 212 = .ok (.iload 11, 2) := by decide +kernel
theorem d_A_turnsAround_214 : decode b_A_turnsAround 214 = .ok (.ireturn, 1) := by decide +kernel
theorem d_A_turnsAround_215 : decode b_A_turnsAround 215 = .ok (.iload 9, 2) := by decide +kernel
theorem d_A_turnsAround_217 : decode b_A_turnsAround 217 = .ok (.i2l, 1) := by decide +kernel
theorem d_A_turnsAround_218 : decode b_A_turnsAround 218 = .ok (.lload_n 3, 1) := by decide +kernel
theorem d_A_turnsAround_219 : decode b_A_turnsAround 219 = .ok (.lmul, 1) := by decide +kernel
theorem d_A_turnsAround_220 : decode b_A_turnsAround 220 = .ok (.lconst 0, 1) := by decide +kernel
theorem d_A_turnsAround_221 : decode b_A_turnsAround 221 = .ok (.lcmp, 1) := by decide +kernel
theorem d_A_turnsAround_222 : decode b_A_turnsAround 222 = .ok (.ifCond .lt 25, 3) := by decide +kernel
theorem d_A_turnsAround_225 : decode b_A_turnsAround 225 = .ok (.iload 9, 2) := by decide +kernel
theorem d_A_turnsAround_227 : decode b_A_turnsAround 227 = .ok (.i2l, 1) := by decide +kernel
theorem d_A_turnsAround_228 : decode b_A_turnsAround 228 = .ok (.lload 5, 2) := by decide +kernel
theorem d_A_turnsAround_230 : decode b_A_turnsAround 230 = .ok (.lmul, 1) := by decide +kernel
theorem d_A_turnsAround_231 : decode b_A_turnsAround 231 = .ok (.lconst 0, 1) := by decide +kernel
theorem d_A_turnsAround_232 : decode b_A_turnsAround 232 = .ok (.lcmp, 1) := by decide +kernel
theorem d_A_turnsAround_233 : decode b_A_turnsAround 233 = .ok (.ifCond .lt 14, 3) := by decide +kernel
theorem d_A_turnsAround_236 : decode b_A_turnsAround 236 = .ok (.iload 9, 2) := by decide +kernel
theorem d_A_turnsAround_238 : decode b_A_turnsAround 238 = .ok (.i2l, 1) := by decide +kernel
theorem d_A_turnsAround_239 : decode b_A_turnsAround 239 = .ok (.lload 7, 2) := by decide +kernel
theorem d_A_turnsAround_241 : decode b_A_turnsAround 241 = .ok (.lmul, 1) := by decide +kernel
theorem d_A_turnsAround_242 : decode b_A_turnsAround 242 = .ok (.lconst 0, 1) := by decide +kernel
theorem d_A_turnsAround_243 : decode b_A_turnsAround 243 = .ok (.lcmp, 1) := by decide +kernel
theorem d_A_turnsAround_244 : decode b_A_turnsAround 244 = .ok (.ifCond .ge 6, 3) := by decide +kernel
theorem d_A_turnsAround_247 : decode b_A_turnsAround 247 = .ok (.iload 11, 2) := by decide +kernel
theorem d_A_turnsAround_249 : decode b_A_turnsAround 249 = .ok (.ireturn, 1) := by decide +kernel
theorem d_A_turnsAround_250 : decode b_A_turnsAround 250 = .ok (.lload 5, 2) := by decide +kernel
theorem d_A_turnsAround_252 : decode b_A_turnsAround 252 = .ok (.invokestatic 64, 3) := by decide +kernel
theorem d_A_turnsAround_255 : decode b_A_turnsAround 255 = .ok (.lload 5, 2) := by decide +kernel
theorem d_A_turnsAround_257 : decode b_A_turnsAround 257 = .ok (.invokestatic 64, 3) := by decide +kernel
theorem d_A_turnsAround_260 : decode b_A_turnsAround 260 = .ok (.ldc2_w 68, 3) := by decide +kernel
theorem d_A_turnsAround_263 : decode b_A_turnsAround 263 = .ok (.lload_n 3, 1) := by decide +kernel
theorem d_A_turnsAround_264 : decode b_A_turnsAround 264 = .ok (.invokestatic 64, 3) := by decide +kernel
theorem d_A_turnsAround_267 : decode b_A_turnsAround 267 = .ok (.lmul, 1) := by decide +kernel
theorem d_A_turnsAround_268 : decode b_A_turnsAround 268 = .ok (.lload 7, 2) := by decide +kernel
theorem d_A_turnsAround_270 : decode b_A_turnsAround 270 = .ok (.invokestatic 64, 3) := by decide +kernel
theorem d_A_turnsAround_273 : decode b_A_turnsAround 273 = .ok (.invokestatic 70, 3) := by decide +kernel
theorem d_A_turnsAround_276 : decode b_A_turnsAround 276 = .ok (.istore 12, 2) := by decide +kernel
theorem d_A_turnsAround_278 : decode b_A_turnsAround 278 = .ok (.iload 12, 2) := by decide +kernel
theorem d_A_turnsAround_280 : decode b_A_turnsAround 280 = .ok (.ifCond .ne 7, 3) := by decide +kernel
theorem d_A_turnsAround_283 : decode b_A_turnsAround 283 = .ok (.sipush 1000, 3) := by decide +kernel
theorem d_A_turnsAround_286 : decode b_A_turnsAround 286 = .ok (.ireturn, 1) := by decide +kernel
theorem d_A_turnsAround_287 : decode b_A_turnsAround 287 = .ok (.iload 12, 2) := by decide +kernel
theorem d_A_turnsAround_289 : decode b_A_turnsAround 289 = .ok (.ifCond .ge 18, 3) := by decide +kernel
theorem d_A_turnsAround_292 : decode b_A_turnsAround 292 = .ok (.iload 10, 2) := by decide +kernel
theorem d_A_turnsAround_294 : decode b_A_turnsAround 294 = .ok (.iload 9, 2) := by decide +kernel
theorem d_A_turnsAround_296 : decode b_A_turnsAround 296 = .ok (.if_icmp .ne 11, 3) := by decide +kernel
theorem d_A_turnsAround_299 : decode b_A_turnsAround 299 = .ok (.iload 11, 2) := by decide +kernel
theorem d_A_turnsAround_301 : decode b_A_turnsAround 301 = .ok (.iload 9, 2) := by decide +kernel
theorem d_A_turnsAround_303 : decode b_A_turnsAround 303 = .ok (.iadd, 1) := by decide +kernel
theorem d_A_turnsAround_304 : decode b_A_turnsAround 304 = .ok (.goto 5, 3) := by decide +kernel
theorem d_A_turnsAround_307 : decode b_A_turnsAround 307 = .ok (.iload 11, 2) := by decide +kernel
theorem d_A_turnsAround_309 : decode b_A_turnsAround 309 = .ok (.ireturn, 1) := by decide +kernel
theorem d_A_mayMeetHeight_0 : decode b_A_mayMeetHeight 0 = .ok (.iload_n 1, 1) := by decide +kernel
theorem d_A_mayMeetHeight_1 : decode b_A_mayMeetHeight 1 = .ok (.aload_n 0, 1) := by decide +kernel
theorem d_A_mayMeetHeight_2 : decode b_A_mayMeetHeight 2 = .ok (.getfield 15, 3) := by decide +kernel
theorem d_A_mayMeetHeight_5 : decode b_A_mayMeetHeight 5 = .ok (.aload_n 0, 1) := by decide +kernel
theorem d_A_mayMeetHeight_6 : decode b_A_mayMeetHeight 6 = .ok (.getfield 21, 3) := by decide +kernel
theorem d_A_mayMeetHeight_9 : decode b_A_mayMeetHeight 9 = .ok (.aload_n 0, 1) := by decide +kernel
theorem d_A_mayMeetHeight_10 : decode b_A_mayMeetHeight 10 = .ok (.getfield 27, 3) := by decide +kernel
theorem d_A_mayMeetHeight_13 : decode b_A_mayMeetHeight 13 = .ok (.invokestatic 30, 3) := by decide +kernel
theorem d_A_mayMeetHeight_16 : decode b_A_mayMeetHeight 16 = .ok (.invokestatic 30, 3) := by decide +kernel
theorem d_A_mayMeetHeight_19 : decode b_A_mayMeetHeight 19 = .ok (.if_icmp .lt 29, 3) := by decide +kernel
theorem d_A_mayMeetHeight_22 : decode b_A_mayMeetHeight 22 = .ok (.iload_n 1, 1) := by decide +kernel
theorem d_A_mayMeetHeight_23 : decode b_A_mayMeetHeight 23 = .ok (.aload_n 0, 1) := by decide +kernel
theorem d_A_mayMeetHeight_24 : decode b_A_mayMeetHeight 24 = .ok (.getfield 15, 3) := by decide +kernel
theorem d_A_mayMeetHeight_27 : decode b_A_mayMeetHeight 27 = .ok (.aload_n 0, 1) := by decide +kernel
theorem d_A_mayMeetHeight_28 : decode b_A_mayMeetHeight 28 = .ok (.getfield 21, 3) := by decide +kernel
theorem d_A_mayMeetHeight_31 : decode b_A_mayMeetHeight 31 = .ok (.aload_n 0, 1) := by decide +kernel
theorem d_A_mayMeetHeight_32 : decode b_A_mayMeetHeight 32 = .ok (.getfield 27, 3) := by decide +kernel
theorem d_A_mayMeetHeight_35 : decode b_A_mayMeetHeight 35 = .ok (.invokestatic 36, 3) := by decide +kernel
theorem d_A_mayMeetHeight_38 : decode b_A_mayMeetHeight 38 = .ok (.invokestatic 36, 3) := by decide +kernel
theorem d_A_mayMeetHeight_41 : decode b_A_mayMeetHeight 41 = .ok (.if_icmp .gt 7, 3) := by decide +kernel
theorem d_A_mayMeetHeight_44 : decode b_A_mayMeetHeight 44 = .ok (.iconst 1, 1) := by decide +kernel
theorem d_A_mayMeetHeight_45 : decode b_A_mayMeetHeight 45 = .ok (.goto 4, 3) := by decide +kernel
theorem d_A_mayMeetHeight_48 : decode b_A_mayMeetHeight 48 = .ok (.iconst 0, 1) := by decide +kernel
theorem d_A_mayMeetHeight_49 : decode b_A_mayMeetHeight 49 = .ok (.ireturn, 1) := by decide +kernel
theorem d_A_turn_0 : decode b_A_turn 0 = .ok (.lload_n 0, 1) := by decide +kernel
theorem d_A_turn_1 : decode b_A_turn 1 = .ok (.lload 6, 2) := by decide +kernel
theorem d_A_turn_3 : decode b_A_turn 3 = .ok (.lmul, 1) := by decide +kernel
theorem d_A_turn_4 : decode b_A_turn 4 = .ok (.lload_n 2, 1) := by decide +kernel
theorem d_A_turn_5 : decode b_A_turn 5 = .ok (.lload 4, 2) := by decide +kernel
theorem d_A_turn_7 : decode b_A_turn 7 = .ok (.lmul, 1) := by decide +kernel
theorem d_A_turn_8 : decode b_A_turn 8 = .ok (.lsub, 1) := by decide +kernel
theorem d_A_turn_9 : decode b_A_turn 9 = .ok (.lreturn, 1) := by decide +kernel
theorem d_A_sideOfChord_0 : decode b_A_sideOfChord 0 = .ok (.lload_n 1, 1) := by decide +kernel
theorem d_A_sideOfChord_1 : decode b_A_sideOfChord 1 = .ok (.lconst 0, 1) := by decide +kernel
theorem d_A_sideOfChord_2 : decode b_A_sideOfChord 2 = .ok (.lcmp, 1) := by decide +kernel
theorem d_A_sideOfChord_3 : decode b_A_sideOfChord 3 = .ok (.ifCond .eq 15, 3) := by decide +kernel
theorem d_A_sideOfChord_6 : decode b_A_sideOfChord 6 = .ok (.lload_n 1, 1) := by decide +kernel
theorem d_A_sideOfChord_7 : decode b_A_sideOfChord 7 = .ok (.lconst 0, 1) := by decide +kernel
theorem d_A_sideOfChord_8 : decode b_A_sideOfChord 8 = .ok (.lcmp, 1) := by decide +kernel
theorem d_A_sideOfChord_9 : decode b_A_sideOfChord 9 = .ok (.ifCond .ge 7, 3) := by decide +kernel
theorem d_A_sideOfChord_12 : decode b_A_sideOfChord 12 = .ok (.iconst (-1), 1) := by decide +kernel
theorem d_A_sideOfChord_13 : decode b_A_sideOfChord 13 = .ok (.goto 4, 3) := by decide +kernel
theorem d_A_sideOfChord_16 : decode b_A_sideOfChord 16 = .ok (.iconst 1, 1) := by decide +kernel
theorem d_A_sideOfChord_17 : decode b_A_sideOfChord 17 = .ok (.ireturn, 1) := by decide +kernel
theorem d_A_sideOfChord_18 : decode b_A_sideOfChord 18 = .ok (.aload_n 0, 1) := by decide +kernel
theorem d_A_sideOfChord_19 : decode b_A_sideOfChord 19 = .ok (.getfield 27, 3) := by decide +kernel
theorem d_A_sideOfChord_22 : decode b_A_sideOfChord 22 = .ok (.aload_n 0, 1) := by decide +kernel
theorem d_A_sideOfChord_23 : decode b_A_sideOfChord 23 = .ok (.getfield 15, 3) := by decide +kernel
theorem d_A_sideOfChord_26 : decode b_A_sideOfChord 26 = .ok (.if_icmp .eq 17, 3) := by decide +kernel
theorem d_A_sideOfChord_29 : decode b_A_sideOfChord 29 = .ok (.aload_n 0, 1) := by decide +kernel
theorem d_A_sideOfChord_30 : decode b_A_sideOfChord 30 = .ok (.getfield 27, 3) := by decide +kernel
theorem d_A_sideOfChord_33 : decode b_A_sideOfChord 33 = .ok (.aload_n 0, 1) := by decide +kernel
theorem d_A_sideOfChord_34 : decode b_A_sideOfChord 34 = .ok (.getfield 15, 3) := by decide +kernel
theorem d_A_sideOfChord_37 : decode b_A_sideOfChord 37 = .ok (.invokestatic 74, 3) := by decide +kernel
theorem d_A_sideOfChord_40 : decode b_A_sideOfChord 40 = .ok (.goto 14, 3) := by decide +kernel
theorem d_A_sideOfChord_43 : decode b_A_sideOfChord 43 = .ok (.aload_n 0, 1) := by decide +kernel
theorem d_A_sideOfChord_44 : decode b_A_sideOfChord 44 = .ok (.getfield 24, 3) := by decide +kernel
theorem d_A_sideOfChord_47 : decode b_A_sideOfChord 47 = .ok (.aload_n 0, 1) := by decide +kernel
theorem d_A_sideOfChord_48 : decode b_A_sideOfChord 48 = .ok (.getfield 11, 3) := by decide +kernel
theorem d_A_sideOfChord_51 : decode b_A_sideOfChord 51 = .ok (.invokestatic 74, 3) := by decide +kernel
theorem d_A_sideOfChord_54 : decode b_A_sideOfChord 54 = .ok (.ireturn, 1) := by decide +kernel
theorem d_A_chordShare_0 : decode b_A_chordShare 0 = .ok (.aload_n 0, 1) := by decide +kernel
theorem d_A_chordShare_1 : decode b_A_chordShare 1 = .ok (.getfield 15, 3) := by decide +kernel
theorem d_A_chordShare_4 : decode b_A_chordShare 4 = .ok (.iload_n 2, 1) := by decide +kernel
theorem d_A_chordShare_5 : decode b_A_chordShare 5 = .ok (.if_icmp .lt 7, 3) := by decide +kernel
theorem d_A_chordShare_8 : decode b_A_chordShare 8 = .ok (.iconst 1, 1) := by decide +kernel
theorem d_A_chordShare_9 : decode b_A_chordShare 9 = .ok (.goto 4, 3) := by decide +kernel
theorem d_A_chordShare_12 : decode b_A_chordShare 12 = .ok (.iconst 0, 1) := by decide +kernel
theorem d_A_chordShare_13 : decode b_A_chordShare 13 = .ok (.istore_n 3, 1) := by decide +kernel
theorem d_A_chordShare_14 : decode b_A_chordShare 14 = .ok (.aload_n 0, 1) := by decide +kernel
theorem d_A_chordShare_15 : decode b_A_chordShare 15 = .ok (.getfield 27, 3) := by decide +kernel
theorem d_A_chordShare_18 : decode b_A_chordShare 18 = .ok (.iload_n 2, 1) := by decide +kernel
theorem d_A_chordShare_19 : decode b_A_chordShare 19 = .ok (.if_icmp .lt 7, 3) := by decide +kernel
theorem d_A_chordShare_22 : decode b_A_chordShare 22 = .ok (.iconst 1, 1) := by decide +kernel
theorem d_A_chordShare_23 : decode b_A_chordShare 23 = .ok (.goto 4, 3) := by decide +kernel
theorem d_A_chordShare_26 : decode b_A_chordShare 26 = .ok (.iconst 0, 1) := by decide +kernel
theorem d_A_chordShare_27 : decode b_A_chordShare 27 = .ok (.istore 4, 2) := by decide +kernel
theorem d_A_chordShare_29 : decode b_A_chordShare 29 = .ok (.iload_n 3, 1) := by decide +kernel
theorem d_A_chordShare_30 : decode b_A_chordShare 30 = .ok (.iload 4, 2) := by decide +kernel
theorem d_A_chordShare_32 : decode b_A_chordShare 32 = .ok (.if_icmp .ne 5, 3) := by decide +kernel
theorem d_A_chordShare_35 : decode b_A_chordShare 35 = .ok (.iconst 0, 1) := by decide +kernel
theorem d_A_chordShare_36 : decode b_A_chordShare 36 = .ok (.ireturn, 1) := by decide +kernel
theorem d_A_chordShare_37 : decode b_A_chordShare 37 = .ok (.iload 4, 2) := by decide +kernel
theorem d_A_chordShare_39 : decode b_A_chordShare 39 = .ok (.ifCond .eq 13, 3) := by decide +kernel
theorem d_A_chordShare_42 : decode b_A_chordShare 42 = .ok (.iload_n 1, 1) := by decide +kernel
theorem d_A_chordShare_43 : decode b_A_chordShare 43 = .ok (.ifCond .ge 7, 3) := by decide +kernel
theorem d_A_chordShare_46 : decode b_A_chordShare 46 = .ok (.iconst 1, 1) := by decide +kernel
theorem d_A_chordShare_47 : decode b_A_chordShare 47 = .ok (.goto 4, 3) := by decide +kernel
theorem d_A_chordShare_50 : decode b_A_chordShare 50 = .ok (.iconst 0, 1) := by decide +kernel
theorem d_A_chordShare_51 : decode b_A_chordShare 51 = .ok (.ireturn, 1) := by decide +kernel
theorem d_A_chordShare_52 : decode b_A_chordShare 52 = .ok (.iload_n 1, 1) := by decide +kernel
theorem d_A_chordShare_53 : decode b_A_chordShare 53 = .ok (.ifCond .le 7, 3) := by decide +kernel
theorem d_A_chordShare_56 : decode b_A_chordShare 56 = .ok (.iconst (-1), 1) := by decide +kernel
theorem d_A_chordShare_57 : decode b_A_chordShare 57 = .ok (.goto 4, 3) := by decide +kernel
theorem d_A_chordShare_60 : decode b_A_chordShare 60 = .ok (.iconst 0, 1) := by decide +kernel
theorem d_A_chordShare_61 : decode b_A_chordShare 61 = .ok (.ireturn, 1) := by decide +kernel
theorem d_A_onStraightArc_0 : decode b_A_onStraightArc 0 = .ok (.aload_n 0, 1) := by decide +kernel
theorem d_A_onStraightArc_1 : decode b_A_onStraightArc 1 = .ok (.getfield 11, 3) := by decide +kernel
theorem d_A_onStraightArc_4 : decode b_A_onStraightArc 4 = .ok (.iload_n 1, 1) := by decide +kernel
theorem d_A_onStraightArc_5 : decode b_A_onStraightArc 5 = .ok (.isub, 1) := by decide +kernel
theorem d_A_onStraightArc_6 : decode b_A_onStraightArc 6 = .ok (.i2l, 1) := by decide +kernel
theorem d_A_onStraightArc_7 : decode b_A_onStraightArc 7 = .ok (.aload_n 0, 1) := by decide +kernel
theorem d_A_onStraightArc_8 : decode b_A_onStraightArc 8 = .ok (.getfield 18, 3) := by decide +kernel
theorem d_A_onStraightArc_11 : decode b_A_onStraightArc 11 = .ok (.iload_n 1, 1) := by decide +kernel
theorem d_A_onStraightArc_12 : decode b_A_onStraightArc 12 = .ok (.isub, 1) := by decide +kernel
theorem d_A_onStraightArc_13 : decode b_A_onStraightArc 13 = .ok (.i2l, 1) := by decide +kernel
theorem d_A_onStraightArc_14 : decode b_A_onStraightArc 14 = .ok (.aload_n 0, 1) := by decide +kernel
theorem d_A_onStraightArc_15 : decode b_A_onStraightArc 15 = .ok (.getfield 24, 3) := by decide +kernel
theorem d_A_onStraightArc_18 : decode b_A_onStraightArc 18 = .ok (.iload_n 1, 1) := by decide +kernel
theorem d_A_onStraightArc_19 : decode b_A_onStraightArc 19 = .ok (.isub, 1) := by decide +kernel
theorem d_A_onStraightArc_20 : decode b_A_onStraightArc 20 = .ok (.i2l, 1) := by decide +kernel
theorem d_A_onStraightArc_21 : decode b_A_onStraightArc 21 = .ok (.invokestatic 78, 3) := by decide +kernel
theorem d_A_onStraightArc_24 : decode b_A_onStraightArc 24 = .ok (.ifCond .eq 34, 3) := by decide +kernel
theorem d_A_onStraightArc_27 : decode b_A_onStraightArc 27 = .ok (.aload_n 0, 1) := by decide +kernel
theorem d_A_onStraightArc_28 : decode b_A_onStraightArc 28 = .ok (.getfield 15, 3) := by decide +kernel
theorem d_A_onStraightArc_31 : decode b_A_onStraightArc 31 = .ok (.iload_n 2, 1) := by decide +kernel
theorem d_A_onStraightArc_32 : decode b_A_onStraightArc 32 = .ok (.isub, 1) := by decide +kernel
theorem d_A_onStraightArc_33 : decode b_A_onStraightArc 33 = .ok (.i2l, 1) := by decide +kernel
theorem d_A_onStraightArc_34 : decode b_A_onStraightArc 34 = .ok (.aload_n 0, 1) := by decide +kernel
theorem d_A_onStraightArc_35 : decode b_A_onStraightArc 35 = .ok (.getfield 21, 3) := by decide +kernel
theorem d_A_onStraightArc_38 : decode b_A_onStraightArc 38 = .ok (.iload_n 2, 1) := by decide +kernel
theorem d_A_onStraightArc_39 : decode b_A_onStraightArc 39 = .ok (.isub, 1) := by decide +kernel
theorem d_A_onStraightArc_40 : decode b_A_onStraightArc 40 = .ok (.i2l, 1) := by decide +kernel
theorem d_A_onStraightArc_41 : decode b_A_onStraightArc 41 = .ok (.aload_n 0, 1) := by decide +kernel
theorem d_A_onStraightArc_42 : decode b_A_onStraightArc 42 = .ok (.getfield 27, 3) := by decide +kernel
theorem d_A_onStraightArc_45 : decode b_A_onStraightArc 45 = .ok (.iload_n 2, 1) := by decide +kernel
theorem d_A_onStraightArc_46 : decode b_A_onStraightArc 46 = .ok (.isub, 1) := by decide +kernel
theorem d_A_onStraightArc_47 : decode b_A_onStraightArc 47 = .ok (.i2l, 1) := by decide +kernel
theorem d_A_onStraightArc_48 : decode b_A_onStraightArc 48 = .ok (.invokestatic 78, 3) := by decide +kernel
theorem d_A_onStraightArc_51 : decode b_A_onStraightArc 51 = .ok (.ifCond .eq 7, 3) := by decide +kernel
theorem d_A_onStraightArc_54 : decode b_A_onStraightArc 54 = .ok (.iconst 1, 1) := by decide +kernel
theorem d_A_onStraightArc_55 : decode b_A_onStraightArc 55 = .ok (.goto 4, 3) := by decide +kernel
theorem d_A_onStraightArc_58 : decode b_A_onStraightArc 58 = .ok (.iconst 0, 1) := by decide +kernel
theorem d_A_onStraightArc_59 : decode b_A_onStraightArc 59 = .ok (.ireturn, 1) := by decide +kernel
theorem d_A_reachesZero_0 : decode b_A_reachesZero 0 = .ok (.lload_n 0, 1) := by decide +kernel
theorem d_A_reachesZero_1 : decode b_A_reachesZero 1 = .ok (.lconst 0, 1) := by decide +kernel
theorem d_A_reachesZero_2 : decode b_A_reachesZero 2 = .ok (.invokestatic 47, 3) := by decide +kernel
theorem d_A_reachesZero_5 : decode b_A_reachesZero 5 = .ok (.istore 6, 2) := by decide +kernel
theorem d_A_reachesZero_7 : decode b_A_reachesZero 7 = .ok (.iload 6, 2) := by decide +kernel
theorem d_A_reachesZero_9 : decode b_A_reachesZero 9 = .ok (.ifCond .eq 14, 3) := by decide +kernel
theorem d_A_reachesZero_12 : decode b_A_reachesZero 12 = .ok (.lload 4, 2) := by decide +kernel
theorem d_A_reachesZero_14 : decode b_A_reachesZero 14 = .ok (.lconst 0, 1) := by decide +kernel
theorem d_A_reachesZero_15 : decode b_A_reachesZero 15 = .ok (.invokestatic 47, 3) := by decide +kernel
theorem d_A_reachesZero_18 : decode b_A_reachesZero 18 = .ok (.iload 6, 2) := by decide +kernel
theorem d_A_reachesZero_20 : decode b_A_reachesZero 20 = .ok (.if_icmp .eq 5, 3) := by decide +kernel
theorem d_A_reachesZero_23 : decode b_A_reachesZero 23 = .ok (.iconst 1, 1) := by decide +kernel
theorem d_A_reachesZero_24 : decode b_A_reachesZero 24 = .ok (.ireturn, 1) := by decide +kernel
theorem d_A_reachesZero_25 : decode b_A_reachesZero 25 = .ok (.lload_n 2, 1) := by decide +kernel
theorem d_A_reachesZero_26 : decode b_A_reachesZero 26 = .ok (.lconst 0, 1) := by decide +kernel
theorem d_A_reachesZero_27 : decode b_A_reachesZero 27 = .ok (.invokestatic 47, 3) := by decide +kernel
theorem d_A_reachesZero_30 : decode b_A_reachesZero 30 = .ok (.iload 6, 2) := by decide +kernel
theorem d_A_reachesZero_32 : decode b_A_reachesZero 32 = .ok (.ineg, 1) := by decide +kernel
theorem d_A_reachesZero_33 : decode b_A_reachesZero 33 = .ok (.if_icmp .ne 18, 3) := by decide +kernel
theorem d_A_reachesZero_36 : decode b_A_reachesZero 36 = .ok (.lload_n 2, 1) := by decide +kernel
theorem d_A_reachesZero_37 : decode b_A_reachesZero 37 = .ok (.lload_n 2, 1) := by decide +kernel
theorem d_A_reachesZero_38 : decode b_A_reachesZero 38 = .ok (.lmul, 1) := by decide +kernel
theorem d_A_reachesZero_39 : decode b_A_reachesZero 39 = .ok (.lload_n 0, 1) := by decide +kernel
theorem d_A_reachesZero_40 : decode b_A_reachesZero 40 = .ok (.lload 4, 2) := by decide +kernel
theorem d_A_reachesZero_42 : decode b_A_reachesZero 42 = .ok (.lmul, 1) := by decide +kernel
theorem d_A_reachesZero_43 : decode b_A_reachesZero 43 = .ok (.lcmp, 1) := by decide +kernel
theorem d_A_reachesZero_44 : decode b_A_reachesZero 44 = .ok (.ifCond .lt 7, 3) := by decide +kernel
theorem d_A_reachesZero_47 : decode b_A_reachesZero 47 = .ok (.iconst 1, 1) := by decide +kernel
theorem d_A_reachesZero_48 : decode b_A_reachesZero 48 = .ok (.goto 4, 3) := by decide +kernel
theorem d_A_reachesZero_51 : decode b_A_reachesZero 51 = .ok (.iconst 0, 1) := by decide +kernel
theorem d_A_reachesZero_52 : decode b_A_reachesZero 52 = .ok (.ireturn, 1) := by decide +kernel
theorem d_A_compareProducts_0 : decode b_A_compareProducts 0 = .ok (.lload_n 0, 1) := by decide +kernel
theorem d_A_compareProducts_1 : decode b_A_compareProducts 1 = .ok (.lload_n 2, 1) := by decide +kernel
theorem d_A_compareProducts_2 : decode b_A_compareProducts 2 = .ok (.invokestatic 82, 3) := by decide +kernel
theorem d_A_compareProducts_5 : decode b_A_compareProducts 5 = .ok (.lload 4, 2) := by decide +kernel
theorem d_A_compareProducts_7 : decode b_A_compareProducts 7 = .ok (.lload 6, 2) := by decide +kernel
theorem d_A_compareProducts_9 : decode b_A_compareProducts 9 = .ok (.invokestatic 82, 3) := by decide +kernel
theorem d_A_compareProducts_12 : decode b_A_compareProducts 12 = .ok (.invokestatic 47, 3) := by decide +kernel
theorem d_A_compareProducts_15 : decode b_A_compareProducts 15 = .ok (.istore 8, 2) := by decide +kernel
theorem d_A_compareProducts_17 : decode b_A_compareProducts 17 = .ok (.iload 8, 2) := by decide +kernel
theorem d_A_compareProducts_19 : decode b_A_compareProducts 19 = .ok (.ifCond .eq 8, 3) := by decide +kernel
theorem d_A_compareProducts_22 : decode b_A_compareProducts 22 = .ok (.iload 8, 2) := by decide +kernel
theorem d_A_compareProducts_24 : decode b_A_compareProducts 24 = .ok (.goto 18, 3) := by decide +kernel
theorem d_A_compareProducts_27 : decode b_A_compareProducts 27 = .ok (.lload_n 0, 1) := by decide +kernel
theorem d_A_compareProducts_28 : decode b_A_compareProducts 28 = .ok (.lload_n 2, 1) := by decide +kernel
theorem d_A_compareProducts_29 : decode b_A_compareProducts 29 = .ok (.invokestatic 86, 3) := by decide +kernel
theorem d_A_compareProducts_32 : decode b_A_compareProducts 32 = .ok (.lload 4, 2) := by decide +kernel
theorem d_A_compareProducts_34 : decode b_A_compareProducts 34 = .ok (.lload 6, 2) := by decide +kernel
theorem d_A_compareProducts_36 : decode b_A_compareProducts 36 = .ok (.invokestatic 86, 3) := by decide +kernel
theorem d_A_compareProducts_39 : decode b_A_compareProducts 39 = .ok (.invokestatic 47, 3) := by decide +kernel
theorem d_A_compareProducts_42 : decode b_A_compareProducts 42 = .ok (.ireturn, 1) := by decide +kernel
theorem d_A_highPart_0 : decode b_A_highPart 0 = .ok (.lload_n 0, 1) := by decide +kernel
theorem d_A_highPart_1 : decode b_A_highPart 1 = .ok (.bipush 20, 2) := by decide +kernel
theorem d_A_highPart_3 : decode b_A_highPart 3 = .ok (.lshr, 1) := by decide +kernel
theorem d_A_highPart_4 : decode b_A_highPart 4 = .ok (.lload_n 2, 1) := by decide +kernel
theorem d_A_highPart_5 : decode b_A_highPart 5 = .ok (.lmul, 1) := by decide +kernel
theorem d_A_highPart_6 : decode b_A_highPart 6 = .ok (.lload_n 0, 1) := by decide +kernel
theorem d_A_highPart_7 : decode b_A_highPart 7 = .ok (.ldc2_w 89, 3) := by decide +kernel
theorem d_A_highPart_10 : decode b_A_highPart 10 = .ok (.land, 1) := by decide +kernel
theorem d_A_highPart_11 : decode b_A_highPart 11 = .ok (.lload_n 2, 1) := by decide +kernel
theorem d_A_highPart_12 : decode b_A_highPart 12 = .ok (.lmul, 1) := by decide +kernel
theorem d_A_highPart_13 : decode b_A_highPart 13 = .ok (.bipush 20, 2) := by decide +kernel
theorem d_A_highPart_15 : decode b_A_highPart 15 = .ok (.lshr, 1) := by decide +kernel
theorem d_A_highPart_16 : decode b_A_highPart 16 = .ok (.ladd, 1) := by decide +kernel
theorem d_A_highPart_17 : decode b_A_highPart 17 = .ok (.lreturn, 1) := by decide +kernel
theorem d_A_lowPart_0 : decode b_A_lowPart 0 = .ok (.lload_n 0, 1) := by decide +kernel
theorem d_A_lowPart_1 : decode b_A_lowPart 1 = .ok (.ldc2_w 89, 3) := by decide +kernel
theorem d_A_lowPart_4 : decode b_A_lowPart 4 = .ok (.land, 1) := by decide +kernel
theorem d_A_lowPart_5 : decode b_A_lowPart 5 = .ok (.lload_n 2, 1) := by decide +kernel
theorem d_A_lowPart_6 : decode b_A_lowPart 6 = .ok (.lmul, 1) := by decide +kernel
theorem d_A_lowPart_7 : decode b_A_lowPart 7 = .ok (.ldc2_w 89, 3) := by decide +kernel
theorem d_A_lowPart_10 : decode b_A_lowPart 10 = .ok (.land, 1) := by decide +kernel
theorem d_A_lowPart_11 : decode b_A_lowPart 11 = .ok (.lreturn, 1) := by decide +kernel
