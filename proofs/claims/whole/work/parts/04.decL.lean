theorem d_L_cell_0 : decode b_L_cell 0 = .ok (.iload_n 1, 1) := by decide +kernel
theorem d_L_cell_1 : decode b_L_cell 1 = .ok (.aload_n 0, 1) := by decide +kernel
theorem d_L_cell_2 : decode b_L_cell 2 = .ok (.arraylength, 1) := by decide +kernel
theorem d_L_cell_3 : decode b_L_cell 3 = .ok (.if_icmp .ge 9, 3) := by decide +kernel
theorem d_L_cell_6 : decode b_L_cell 6 = .ok (.aload_n 0, 1) := by decide +kernel
theorem d_L_cell_7 : decode b_L_cell 7 = .ok (.iload_n 1, 1) := by decide +kernel
theorem d_L_cell_8 : decode b_L_cell 8 = .ok (.iaload, 1) := by decide +kernel
theorem d_L_cell_9 : decode b_L_cell 9 = .ok (.goto 4, 3) := by decide +kernel
theorem d_L_cell_12 : decode b_L_cell 12 = .ok (.iconst 0, 1) := by decide +kernel
theorem d_L_cell_13 : decode b_L_cell 13 = .ok (.ireturn, 1) := by decide +kernel
theorem d_L_law_0 : decode b_L_law 0 = .ok (.new 7, 3) := by decide +kernel
theorem d_L_law_3 : decode b_L_law 3 = .ok (.dup, 1) := by decide +kernel
theorem d_L_law_4 : decode b_L_law 4 = .ok (.aload_n 0, 1) := by decide +kernel
theorem d_L_law_5 : decode b_L_law 5 = .ok (.iconst 0, 1) := by decide +kernel
theorem d_L_law_6 : decode b_L_law 6 = .ok (.invokestatic 9, 3) := by decide +kernel
theorem d_L_law_9 : decode b_L_law 9 = .ok (.invokespecial 15, 3) := by decide +kernel
theorem d_L_law_12 : decode b_L_law 12 = .ok (.astore_n 1, 1) := by decide +kernel
theorem d_L_law_13 : decode b_L_law 13 = .ok (.new 18, 3) := by decide +kernel
theorem d_L_law_16 : decode b_L_law 16 = .ok (.dup, 1) := by decide +kernel
theorem d_L_law_17 : decode b_L_law 17 = .ok (.aload_n 0, 1) := by decide +kernel
theorem d_L_law_18 : decode b_L_law 18 = .ok (.iconst 0, 1) := by decide +kernel
theorem d_L_law_19 : decode b_L_law 19 = .ok (.invokestatic 9, 3) := by decide +kernel
theorem d_L_law_22 : decode b_L_law 22 = .ok (.invokespecial 20, 3) := by decide +kernel
theorem d_L_law_25 : decode b_L_law 25 = .ok (.astore_n 2, 1) := by decide +kernel
theorem d_L_law_26 : decode b_L_law 26 = .ok (.iconst 1, 1) := by decide +kernel
theorem d_L_law_27 : decode b_L_law 27 = .ok (.istore_n 3, 1) := by decide +kernel
theorem d_L_law_28 : decode b_L_law 28 = .ok (.iload_n 3, 1) := by decide +kernel
theorem d_L_law_29 : decode b_L_law 29 = .ok (.aload_n 0, 1) := by decide +kernel
theorem d_L_law_30 : decode b_L_law 30 = .ok (.arraylength, 1) := by decide +kernel
theorem d_L_law_31 : decode b_L_law 31 = .ok (.iconst 4, 1) := by decide +kernel
theorem d_L_law_32 : decode b_L_law 32 = .ok (.isub, 1) := by decide +kernel
theorem d_L_law_33 : decode b_L_law 33 = .ok (.if_icmp .gt 218, 3) := by decide +kernel
theorem d_L_law_36 : decode b_L_law 36 = .ok (.aload_n 0, 1) := by decide +kernel
theorem d_L_law_37 : decode b_L_law 37 = .ok (.iload_n 3, 1) := by decide +kernel
theorem d_L_law_38 : decode b_L_law 38 = .ok (.iaload, 1) := by decide +kernel
theorem d_L_law_39 : decode b_L_law 39 = .ok (.bipush 7, 2) := by decide +kernel
theorem d_L_law_41 : decode b_L_law 41 = .ok (.iand, 1) := by decide +kernel
theorem d_L_law_42 : decode b_L_law 42 = .ok (.tableswitch 203 0 5 #[38, 97, 110, 123, 156, 180], 38) := by decide +kernel
theorem d_L_law_80 : decode b_L_law 80 = .ok (.aload_n 1, 1) := by decide +kernel
theorem d_L_law_81 : decode b_L_law 81 = .ok (.aload_n 0, 1) := by decide +kernel
theorem d_L_law_82 : decode b_L_law 82 = .ok (.iload_n 3, 1) := by decide +kernel
theorem d_L_law_83 : decode b_L_law 83 = .ok (.iconst 1, 1) := by decide +kernel
theorem d_L_law_84 : decode b_L_law 84 = .ok (.iadd, 1) := by decide +kernel
theorem d_L_law_85 : decode b_L_law 85 = .ok (.iaload, 1) := by decide +kernel
theorem d_L_law_86 : decode b_L_law 86 = .ok (.aload_n 0, 1) := by decide +kernel
theorem d_L_law_87 : decode b_L_law 87 = .ok (.iload_n 3, 1) := by decide +kernel
theorem d_L_law_88 : decode b_L_law 88 = .ok (.iconst 2, 1) := by decide +kernel
theorem d_L_law_89 : decode b_L_law 89 = .ok (.iadd, 1) := by decide +kernel
theorem d_L_law_90 : decode b_L_law 90 = .ok (.iaload, 1) := by decide +kernel
theorem d_L_law_91 : decode b_L_law 91 = .ok (.aload_n 0, 1) := by decide +kernel
theorem d_L_law_92 : decode b_L_law 92 = .ok (.iload_n 3, 1) := by decide +kernel
theorem d_L_law_93 : decode b_L_law 93 = .ok (.iconst 3, 1) := by decide +kernel
theorem d_L_law_94 : decode b_L_law 94 = .ok (.iadd, 1) := by decide +kernel
theorem d_L_law_95 : decode b_L_law 95 = .ok (.iaload, 1) := by decide +kernel
theorem d_L_law_96 : decode b_L_law 96 = .ok (.ifCond .eq 7, 3) := by decide +kernel
theorem d_L_law_99 : decode b_L_law 99 = .ok (.iconst 1, 1) := by decide +kernel
theorem d_L_law_100 : decode b_L_law 100 = .ok (.goto 4, 3) := by decide +kernel
theorem d_L_law_103 : decode b_L_law 103 = .ok (.iconst 0, 1) := by decide +kernel
theorem d_L_law_104 : decode b_L_law 104 = .ok (.invokevirtual 21, 3) := by decide +kernel
theorem d_L_law_107 : decode b_L_law 107 = .ok (.aload_n 2, 1) := by decide +kernel
theorem d_L_law_108 : decode b_L_law 108 = .ok (.aload_n 0, 1) := by decide +kernel
theorem d_L_law_109 : decode b_L_law 109 = .ok (.iload_n 3, 1) := by decide +kernel
theorem d_L_law_110 : decode b_L_law 110 = .ok (.iconst 1, 1) := by decide +kernel
theorem d_L_law_111 : decode b_L_law 111 = .ok (.iadd, 1) := by decide +kernel
theorem d_L_law_112 : decode b_L_law 112 = .ok (.iaload, 1) := by decide +kernel
theorem d_L_law_113 : decode b_L_law 113 = .ok (.aload_n 0, 1) := by decide +kernel
theorem d_L_law_114 : decode b_L_law 114 = .ok (.iload_n 3, 1) := by decide +kernel
theorem d_L_law_115 : decode b_L_law 115 = .ok (.iconst 2, 1) := by decide +kernel
theorem d_L_law_116 : decode b_L_law 116 = .ok (.iadd, 1) := by decide +kernel
theorem d_L_law_117 : decode b_L_law 117 = .ok (.iaload, 1) := by decide +kernel
theorem d_L_law_118 : decode b_L_law 118 = .ok (.aload_n 0, 1) := by decide +kernel
theorem d_L_law_119 : decode b_L_law 119 = .ok (.iload_n 3, 1) := by decide +kernel
theorem d_L_law_120 : decode b_L_law 120 = .ok (.iconst 3, 1) := by decide +kernel
theorem d_L_law_121 : decode b_L_law 121 = .ok (.iadd, 1) := by decide +kernel
theorem d_L_law_122 : decode b_L_law 122 = .ok (.iaload, 1) := by decide +kernel
theorem d_L_law_123 : decode b_L_law 123 = .ok (.ifCond .eq 7, 3) := by decide +kernel
theorem d_L_law_126 : decode b_L_law 126 = .ok (.iconst 1, 1) := by decide +kernel
theorem d_L_law_127 : decode b_L_law 127 = .ok (.goto 4, 3) := by decide +kernel
theorem d_L_law_130 : decode b_L_law 130 = .ok (.iconst 0, 1) := by decide +kernel
theorem d_L_law_131 : decode b_L_law 131 = .ok (.invokevirtual 25, 3) := by decide +kernel
theorem d_L_law_134 : decode b_L_law 134 = .ok (.if_icmp .eq 111, 3) := by decide +kernel
theorem d_L_law_137 : decode b_L_law 137 = .ok (.iconst 0, 1) := by decide +kernel
theorem d_L_law_138 : decode b_L_law 138 = .ok (.ireturn, 1) := by decide +kernel
theorem d_L_law_139 : decode b_L_law 139 = .ok (.aload_n 1, 1) := by decide +kernel
theorem d_L_law_140 : decode b_L_law 140 = .ok (.invokevirtual 26, 3) := by decide +kernel
theorem d_L_law_143 : decode b_L_law 143 = .ok (.aload_n 2, 1) := by decide +kernel
theorem d_L_law_144 : decode b_L_law 144 = .ok (.invokevirtual 30, 3) := by decide +kernel
theorem d_L_law_147 : decode b_L_law 147 = .ok (.if_icmp .eq 98, 3) := by decide +kernel
theorem d_L_law_150 : decode b_L_law 150 = .ok (.iconst 0, 1) := by decide +kernel
theorem d_L_law_151 : decode b_L_law 151 = .ok (.ireturn, 1) := by decide +kernel
theorem d_L_law_152 : decode b_L_law 152 = .ok (.aload_n 1, 1) := by decide +kernel
theorem d_L_law_153 : decode b_L_law 153 = .ok (.invokevirtual 31, 3) := by decide +kernel
theorem d_L_law_156 : decode b_L_law 156 = .ok (.aload_n 2, 1) := by decide +kernel
theorem d_L_law_157 : decode b_L_law 157 = .ok (.invokevirtual 34, 3) := by decide +kernel
theorem d_L_law_160 : decode b_L_law 160 = .ok (.if_icmp .eq 85, 3) := by decide +kernel
theorem d_L_law_163 : decode b_L_law 163 = .ok (.iconst 0, 1) := by decide +kernel
theorem d_L_law_164 : decode b_L_law 164 = .ok (.ireturn, 1) := by decide +kernel
theorem d_L_law_165 : decode b_L_law 165 = .ok (.aload_n 1, 1) := by decide +kernel
theorem d_L_law_166 : decode b_L_law 166 = .ok (.aload_n 0, 1) := by decide +kernel
theorem d_L_law_167 : decode b_L_law 167 = .ok (.iload_n 3, 1) := by decide +kernel
theorem d_L_law_168 : decode b_L_law 168 = .ok (.iconst 1, 1) := by decide +kernel
theorem d_L_law_169 : decode b_L_law 169 = .ok (.iadd, 1) := by decide +kernel
theorem d_L_law_170 : decode b_L_law 170 = .ok (.iaload, 1) := by decide +kernel
theorem d_L_law_171 : decode b_L_law 171 = .ok (.aload_n 0, 1) := by decide +kernel
theorem d_L_law_172 : decode b_L_law 172 = .ok (.iload_n 3, 1) := by decide +kernel
theorem d_L_law_173 : decode b_L_law 173 = .ok (.iconst 2, 1) := by decide +kernel
theorem d_L_law_174 : decode b_L_law 174 = .ok (.iadd, 1) := by decide +kernel
theorem d_L_law_175 : decode b_L_law 175 = .ok (.iaload, 1) := by decide +kernel
theorem d_L_law_176 : decode b_L_law 176 = .ok (.invokevirtual 35, 3) := by decide +kernel
theorem d_L_law_179 : decode b_L_law 179 = .ok (.aload_n 2, 1) := by decide +kernel
theorem d_L_law_180 : decode b_L_law 180 = .ok (.aload_n 0, 1) := by decide +kernel
theorem d_L_law_181 : decode b_L_law 181 = .ok (.iload_n 3, 1) := by decide +kernel
theorem d_L_law_182 : decode b_L_law 182 = .ok (.iconst 1, 1) := by decide +kernel
theorem d_L_law_183 : decode b_L_law 183 = .ok (.iadd, 1) := by decide +kernel
theorem d_L_law_184 : decode b_L_law 184 = .ok (.iaload, 1) := by decide +kernel
theorem d_L_law_185 : decode b_L_law 185 = .ok (.aload_n 0, 1) := by decide +kernel
theorem d_L_law_186 : decode b_L_law 186 = .ok (.iload_n 3, 1) := by decide +kernel
theorem d_L_law_187 : decode b_L_law 187 = .ok (.iconst 2, 1) := by decide +kernel
theorem d_L_law_188 : decode b_L_law 188 = .ok (.iadd, 1) := by decide +kernel
theorem d_L_law_189 : decode b_L_law 189 = .ok (.iaload, 1) := by decide +kernel
theorem d_L_law_190 : decode b_L_law 190 = .ok (.invokevirtual 39, 3) := by decide +kernel
theorem d_L_law_193 : decode b_L_law 193 = .ok (.if_icmp .eq 52, 3) := by decide +kernel
theorem d_L_law_196 : decode b_L_law 196 = .ok (.iconst 0, 1) := by decide +kernel
theorem d_L_law_197 : decode b_L_law 197 = .ok (.ireturn, 1) := by decide +kernel
theorem d_L_law_198 : decode b_L_law 198 = .ok (.aload_n 1, 1) := by decide +kernel
theorem d_L_law_199 : decode b_L_law 199 = .ok (.aload_n 0, 1) := by decide +kernel
theorem d_L_law_200 : decode b_L_law 200 = .ok (.iload_n 3, 1) := by decide +kernel
theorem d_L_law_201 : decode b_L_law 201 = .ok (.iconst 1, 1) := by decide +kernel
theorem d_L_law_202 : decode b_L_law 202 = .ok (.iadd, 1) := by decide +kernel
theorem d_L_law_203 : decode b_L_law 203 = .ok (.iaload, 1) := by decide +kernel
theorem d_L_law_204 : decode b_L_law 204 = .ok (.invokevirtual 40, 3) := by decide +kernel
theorem d_L_law_207 : decode b_L_law 207 = .ok (.aload_n 2, 1) := by decide +kernel
theorem d_L_law_208 : decode b_L_law 208 = .ok (.aload_n 0, 1) := by decide +kernel
theorem d_L_law_209 : decode b_L_law 209 = .ok (.iload_n 3, 1) := by decide +kernel
theorem d_L_law_210 : decode b_L_law 210 = .ok (.iconst 1, 1) := by decide +kernel
theorem d_L_law_211 : decode b_L_law 211 = .ok (.iadd, 1) := by decide +kernel
theorem d_L_law_212 : decode b_L_law 212 = .ok (.iaload, 1) := by decide +kernel
theorem d_L_law_213 : decode b_L_law 213 = .ok (.invokevirtual 44, 3) := by decide +kernel
theorem d_L_law_216 : decode b_L_law 216 = .ok (.lcmp, 1) := by decide +kernel
theorem d_L_law_217 : decode b_L_law 217 = .ok (.ifCond .eq 28, 3) := by decide +kernel
theorem d_L_law_220 : decode b_L_law 220 = .ok (.iconst 0, 1) := by decide +kernel
theorem d_L_law_221 : decode b_L_law 221 = .ok (.ireturn, 1) := by decide +kernel
theorem d_L_law_222 : decode b_L_law 222 = .ok (.aload_n 1, 1) := by decide +kernel
theorem d_L_law_223 : decode b_L_law 223 = .ok (.aload_n 0, 1) := by decide +kernel
theorem d_L_law_224 : decode b_L_law 224 = .ok (.iload_n 3, 1) := by decide +kernel
theorem d_L_law_225 : decode b_L_law 225 = .ok (.iconst 1, 1) := by decide +kernel
theorem d_L_law_226 : decode b_L_law 226 = .ok (.iadd, 1) := by decide +kernel
theorem d_L_law_227 : decode b_L_law 227 = .ok (.iaload, 1) := by decide +kernel
theorem d_L_law_228 : decode b_L_law 228 = .ok (.invokevirtual 45, 3) := by decide +kernel
theorem d_L_law_231 : decode b_L_law 231 = .ok (.aload_n 2, 1) := by decide +kernel
theorem d_L_law_232 : decode b_L_law 232 = .ok (.aload_n 0, 1) := by decide +kernel
theorem d_L_law_233 : decode b_L_law 233 = .ok (.iload_n 3, 1) := by decide +kernel
theorem d_L_law_234 : decode b_L_law 234 = .ok (.iconst 1, 1) := by decide +kernel
theorem d_L_law_235 : decode b_L_law 235 = .ok (.iadd, 1) := by decide +kernel
theorem d_L_law_236 : decode b_L_law 236 = .ok (.iaload, 1) := by decide +kernel
theorem d_L_law_237 : decode b_L_law 237 = .ok (.invokevirtual 49, 3) := by decide +kernel
theorem d_L_law_240 : decode b_L_law 240 = .ok (.if_icmp .eq 5, 3) := by decide +kernel
theorem d_L_law_243 : decode b_L_law 243 = .ok (.iconst 0, 1) := by decide +kernel
theorem d_L_law_244 : decode b_L_law 244 = .ok (.ireturn, 1) := by decide +kernel
theorem d_L_law_245 : decode b_L_law 245 = .ok (.iinc 3 4, 3) := by decide +kernel
theorem d_L_law_248 : decode b_L_law 248 = .ok (.goto (-220), 3) := by decide +kernel
theorem d_L_law_251 : decode b_L_law 251 = .ok (.iconst 1, 1) := by decide +kernel
theorem d_L_law_252 : decode b_L_law 252 = .ok (.ireturn, 1) := by decide +kernel
