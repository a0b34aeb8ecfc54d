theorem dL_areWays_236 : decode cL_areWays 236 = .ok (.istore 7, 2) := by decide +kernel
theorem dL_areWays_238 : decode cL_areWays 238 = .ok (.iload 7, 2) := by decide +kernel
theorem dL_areWays_240 : decode cL_areWays 240 = .ok (.aload_n 3, 1) := by decide +kernel
theorem dL_areWays_241 : decode cL_areWays 241 = .ok (.iconst 1, 1) := by decide +kernel
theorem dL_areWays_242 : decode cL_areWays 242 = .ok (.iaload, 1) := by decide +kernel
theorem dL_areWays_243 : decode cL_areWays 243 = .ok (.if_icmp .ge 39, 3) := by decide +kernel
theorem dL_areWays_246 : decode cL_areWays 246 = .ok (.iload 6, 2) := by decide +kernel
theorem dL_areWays_248 : decode cL_areWays 248 = .ok (.aload_n 1, 1) := by decide +kernel
theorem dL_areWays_249 : decode cL_areWays 249 = .ok (.bipush 6, 2) := by decide +kernel
theorem dL_areWays_251 : decode cL_areWays 251 = .ok (.aload_n 2, 1) := by decide +kernel
theorem dL_areWays_252 : decode cL_areWays 252 = .ok (.bipush 6, 2) := by decide +kernel
theorem dL_areWays_254 : decode cL_areWays 254 = .ok (.iload 7, 2) := by decide +kernel
theorem dL_areWays_256 : decode cL_areWays 256 = .ok (.iadd, 1) := by decide +kernel
theorem dL_areWays_257 : decode cL_areWays 257 = .ok (.iaload, 1) := by decide +kernel
theorem dL_areWays_258 : decode cL_areWays 258 = .ok (.iadd, 1) := by decide +kernel
theorem dL_areWays_259 : decode cL_areWays 259 = .ok (.iaload, 1) := by decide +kernel
theorem dL_areWays_260 : decode cL_areWays 260 = .ok (.iload 5, 2) := by decide +kernel
theorem dL_areWays_262 : decode cL_areWays 262 = .ok (.if_icmp .lt 10, 3) := by decide +kernel
theorem dL_areWays_265 : decode cL_areWays 265 = .ok (.iconst 1, 1) := by decide +kernel
theorem dL_areWays_266 : decode cL_areWays 266 = .ok (.iload 7, 2) := by decide +kernel
theorem dL_areWays_268 : decode cL_areWays 268 = .ok (.ishl, 1) := by decide +kernel
theorem dL_areWays_269 : decode cL_areWays 269 = .ok (.goto 4, 3) := by decide +kernel
theorem dL_areWays_272 : decode cL_areWays 272 = .ok (.iconst 0, 1) := by decide +kernel
theorem dL_areWays_273 : decode cL_areWays 273 = .ok (.ior, 1) := by decide +kernel
theorem dL_areWays_274 : decode cL_areWays 274 = .ok (.istore 6, 2) := by decide +kernel
theorem dL_areWays_276 : decode cL_areWays 276 = .ok (.iinc 7 1, 3) := by decide +kernel
theorem dL_areWays_279 : decode cL_areWays 279 = .ok (.goto (-41), 3) := by decide +kernel
theorem dL_areWays_282 : decode cL_areWays 282 = .ok (.aload_n 0, 1) := by decide +kernel
theorem dL_areWays_283 : decode cL_areWays 283 = .ok (.iload 5, 2) := by decide +kernel
theorem dL_areWays_285 : decode cL_areWays 285 = .ok (.invokevirtual 25, 3) := by decide +kernel
theorem dL_areWays_288 : decode cL_areWays 288 = .ok (.iload 6, 2) := by decide +kernel
theorem dL_areWays_290 : decode cL_areWays 290 = .ok (.if_icmp .ne 7, 3) := by decide +kernel
theorem dL_areWays_293 : decode cL_areWays 293 = .ok (.iconst 1, 1) := by decide +kernel
theorem dL_areWays_294 : decode cL_areWays 294 = .ok (.goto 4, 3) := by decide +kernel
theorem dL_areWays_297 : decode cL_areWays 297 = .ok (.iconst 0, 1) := by decide +kernel
theorem dL_areWays_298 : decode cL_areWays 298 = .ok (.istore 4, 2) := by decide +kernel
theorem dL_areWays_300 : decode cL_areWays 300 = .ok (.iinc 5 20, 3) := by decide +kernel
theorem dL_areWays_303 : decode cL_areWays 303 = .ok (.goto (-83), 3) := by decide +kernel
theorem dL_areWays_306 : decode cL_areWays 306 = .ok (.iload 4, 2) := by decide +kernel
theorem dL_areWays_308 : decode cL_areWays 308 = .ok (.ifCond .eq 21, 3) := by decide +kernel
theorem dL_areWays_311 : decode cL_areWays 311 = .ok (.aload_n 0, 1) := by decide +kernel
theorem dL_areWays_312 : decode cL_areWays 312 = .ok (.iconst 4, 1) := by decide +kernel
theorem dL_areWays_313 : decode cL_areWays 313 = .ok (.bipush 101, 2) := by decide +kernel
theorem dL_areWays_315 : decode cL_areWays 315 = .ok (.iconst 0, 1) := by decide +kernel
theorem dL_areWays_316 : decode cL_areWays 316 = .ok (.iconst 0, 1) := by decide +kernel
theorem dL_areWays_317 : decode cL_areWays 317 = .ok (.invokestatic 96, 3) := by decide +kernel
theorem dL_areWays_320 : decode cL_areWays 320 = .ok (.bipush (-20), 2) := by decide +kernel
theorem dL_areWays_322 : decode cL_areWays 322 = .ok (.if_icmp .ne 7, 3) := by decide +kernel
theorem dL_areWays_325 : decode cL_areWays 325 = .ok (.iconst 1, 1) := by decide +kernel
theorem dL_areWays_326 : decode cL_areWays 326 = .ok (.goto 4, 3) := by decide +kernel
theorem dL_areWays_329 : decode cL_areWays 329 = .ok (.iconst 0, 1) := by decide +kernel
theorem dL_areWays_330 : decode cL_areWays 330 = .ok (.ireturn, 1) := by decide +kernel
theorem dL_latest_0 : decode cL_latest 0 = .ok (.bipush 9, 2) := by decide +kernel
theorem dL_latest_2 : decode cL_latest 2 = .ok (.istore_n 1, 1) := by decide +kernel
theorem dL_latest_3 : decode cL_latest 3 = .ok (.iload_n 0, 1) := by decide +kernel
theorem dL_latest_4 : decode cL_latest 4 = .ok (.iload_n 1, 1) := by decide +kernel
theorem dL_latest_5 : decode cL_latest 5 = .ok (.ishr, 1) := by decide +kernel
theorem dL_latest_6 : decode cL_latest 6 = .ok (.iconst 1, 1) := by decide +kernel
theorem dL_latest_7 : decode cL_latest 7 = .ok (.iand, 1) := by decide +kernel
theorem dL_latest_8 : decode cL_latest 8 = .ok (.ifCond .ne 9, 3) := by decide +kernel
theorem dL_latest_11 : decode cL_latest 11 = .ok (.iinc 1 (-1), 3) := by decide +kernel
theorem dL_latest_14 : decode cL_latest 14 = .ok (.goto (-11), 3) := by decide +kernel
theorem dL_latest_17 : decode cL_latest 17 = .ok (.iload_n 1, 1) := by decide +kernel
theorem dL_latest_18 : decode cL_latest 18 = .ok (.ireturn, 1) := by decide +kernel
theorem dL_isFormat_0 : decode cL_isFormat 0 = .ok (.iload_n 3, 1) := by decide +kernel
theorem dL_isFormat_1 : decode cL_isFormat 1 = .ok (.ifCond .ne 83, 3) := by decide +kernel
theorem dL_isFormat_4 : decode cL_isFormat 4 = .ok (.iload 5, 2) := by decide +kernel
theorem dL_isFormat_6 : decode cL_isFormat 6 = .ok (.bipush 103, 2) := by decide +kernel
theorem dL_isFormat_8 : decode cL_isFormat 8 = .ok (.irem, 1) := by decide +kernel
theorem dL_isFormat_9 : decode cL_isFormat 9 = .ok (.bipush 100, 2) := by decide +kernel
theorem dL_isFormat_11 : decode cL_isFormat 11 = .ok (.if_icmp .le 8, 3) := by decide +kernel
theorem dL_isFormat_14 : decode cL_isFormat 14 = .ok (.bipush (-20), 2) := by decide +kernel
theorem dL_isFormat_16 : decode cL_isFormat 16 = .ok (.goto 19, 3) := by decide +kernel
theorem dL_isFormat_19 : decode cL_isFormat 19 = .ok (.aload_n 2, 1) := by decide +kernel
theorem dL_isFormat_20 : decode cL_isFormat 20 = .ok (.iconst 0, 1) := by decide +kernel
theorem dL_isFormat_21 : decode cL_isFormat 21 = .ok (.iaload, 1) := by decide +kernel
theorem dL_isFormat_22 : decode cL_isFormat 22 = .ok (.bipush 8, 2) := by decide +kernel
theorem dL_isFormat_24 : decode cL_isFormat 24 = .ok (.if_icmp .ne 8, 3) := by decide +kernel
theorem dL_isFormat_27 : decode cL_isFormat 27 = .ok (.bipush (-10), 2) := by decide +kernel
theorem dL_isFormat_29 : decode cL_isFormat 29 = .ok (.goto 6, 3) := by decide +kernel
theorem dL_isFormat_32 : decode cL_isFormat 32 = .ok (.aload_n 2, 1) := by decide +kernel
theorem dL_isFormat_33 : decode cL_isFormat 33 = .ok (.iconst 0, 1) := by decide +kernel
theorem dL_isFormat_34 : decode cL_isFormat 34 = .ok (.iaload, 1) := by decide +kernel
theorem dL_isFormat_35 : decode cL_isFormat 35 = .ok (.istore 7, 2) := by decide +kernel
theorem dL_isFormat_37 : decode cL_isFormat 37 = .ok (.iload 7, 2) := by decide +kernel
theorem dL_isFormat_39 : decode cL_isFormat 39 = .ok (.ifCond .lt 22, 3) := by decide +kernel
theorem dL_isFormat_42 : decode cL_isFormat 42 = .ok (.aload_n 1, 1) := by decide +kernel
theorem dL_isFormat_43 : decode cL_isFormat 43 = .ok (.bipush 6, 2) := by decide +kernel
theorem dL_isFormat_45 : decode cL_isFormat 45 = .ok (.iload 7, 2) := by decide +kernel
theorem dL_isFormat_47 : decode cL_isFormat 47 = .ok (.iadd, 1) := by decide +kernel
theorem dL_isFormat_48 : decode cL_isFormat 48 = .ok (.iload 5, 2) := by decide +kernel
theorem dL_isFormat_50 : decode cL_isFormat 50 = .ok (.bipush 103, 2) := by decide +kernel
theorem dL_isFormat_52 : decode cL_isFormat 52 = .ok (.irem, 1) := by decide +kernel
theorem dL_isFormat_53 : decode cL_isFormat 53 = .ok (.iastore, 1) := by decide +kernel
theorem dL_isFormat_54 : decode cL_isFormat 54 = .ok (.aload_n 2, 1) := by decide +kernel
theorem dL_isFormat_55 : decode cL_isFormat 55 = .ok (.iconst 0, 1) := by decide +kernel
theorem dL_isFormat_56 : decode cL_isFormat 56 = .ok (.dup2, 1) := by decide +kernel
theorem dL_isFormat_57 : decode cL_isFormat 57 = .ok (.iaload, 1) := by decide +kernel
theorem dL_isFormat_58 : decode cL_isFormat 58 = .ok (.iconst 1, 1) := by decide +kernel
theorem dL_isFormat_59 : decode cL_isFormat 59 = .ok (.iadd, 1) := by decide +kernel
theorem dL_isFormat_60 : decode cL_isFormat 60 = .ok (.iastore, 1) := by decide +kernel
theorem dL_isFormat_61 : decode cL_isFormat 61 = .ok (.aload_n 0, 1) := by decide +kernel
theorem dL_isFormat_62 : decode cL_isFormat 62 = .ok (.iconst 0, 1) := by decide +kernel
theorem dL_isFormat_63 : decode cL_isFormat 63 = .ok (.iload 5, 2) := by decide +kernel
theorem dL_isFormat_65 : decode cL_isFormat 65 = .ok (.bipush 103, 2) := by decide +kernel
theorem dL_isFormat_67 : decode cL_isFormat 67 = .ok (.irem, 1) := by decide +kernel
theorem dL_isFormat_68 : decode cL_isFormat 68 = .ok (.iconst 0, 1) := by decide +kernel
theorem dL_isFormat_69 : decode cL_isFormat 69 = .ok (.iconst 0, 1) := by decide +kernel
theorem dL_isFormat_70 : decode cL_isFormat 70 = .ok (.invokestatic 96, 3) := by decide +kernel
theorem dL_isFormat_73 : decode cL_isFormat 73 = .ok (.iload 7, 2) := by decide +kernel
theorem dL_isFormat_75 : decode cL_isFormat 75 = .ok (.if_icmp .ne 7, 3) := by decide +kernel
theorem dL_isFormat_78 : decode cL_isFormat 78 = .ok (.iconst 1, 1) := by decide +kernel
theorem dL_isFormat_79 : decode cL_isFormat 79 = .ok (.goto 4, 3) := by decide +kernel
theorem dL_isFormat_82 : decode cL_isFormat 82 = .ok (.iconst 0, 1) := by decide +kernel
theorem dL_isFormat_83 : decode cL_isFormat 83 = .ok (.ireturn, 1) := by decide +kernel
theorem dL_isFormat_84 : decode cL_isFormat 84 = .ok (.iload 4, 2) := by decide +kernel
theorem dL_isFormat_86 : decode cL_isFormat 86 = .ok (.aload_n 2, 1) := by decide +kernel
theorem dL_isFormat_87 : decode cL_isFormat 87 = .ok (.iconst 0, 1) := by decide +kernel
theorem dL_isFormat_88 : decode cL_isFormat 88 = .ok (.iaload, 1) := by decide +kernel
theorem dL_isFormat_89 : decode cL_isFormat 89 = .ok (.iconst 1, 1) := by decide +kernel
theorem dL_isFormat_90 : decode cL_isFormat 90 = .ok (.iadd, 1) := by decide +kernel
theorem dL_isFormat_91 : decode cL_isFormat 91 = .ok (.irem, 1) := by decide +kernel
theorem dL_isFormat_92 : decode cL_isFormat 92 = .ok (.istore 7, 2) := by decide +kernel
theorem dL_isFormat_94 : decode cL_isFormat 94 = .ok (.iload 6, 2) := by decide +kernel
theorem dL_isFormat_96 : decode cL_isFormat 96 = .ok (.aload_n 2, 1) := by decide +kernel
theorem dL_isFormat_97 : decode cL_isFormat 97 = .ok (.iconst 0, 1) := by decide +kernel
theorem dL_isFormat_98 : decode cL_isFormat 98 = .ok (.iaload, 1) := by decide +kernel
theorem dL_isFormat_99 : decode cL_isFormat 99 = .ok (.iconst 1, 1) := by decide +kernel
theorem dL_isFormat_100 : decode cL_isFormat 100 = .ok (.iadd, 1) := by decide +kernel
theorem dL_isFormat_101 : decode cL_isFormat 101 = .ok (.irem, 1) := by decide +kernel
theorem dL_isFormat_102 : decode cL_isFormat 102 = .ok (.istore 8, 2) := by decide +kernel
theorem dL_isFormat_104 : decode cL_isFormat 104 = .ok (.iload_n 3, 1) := by decide +kernel
theorem dL_isFormat_105 : decode cL_isFormat 105 = .ok (.iconst 1, 1) := by decide +kernel
theorem dL_isFormat_106 : decode cL_isFormat 106 = .ok (.if_icmp .ne 111, 3) := by decide +kernel
theorem dL_isFormat_109 : decode cL_isFormat 109 = .ok (.iload 5, 2) := by decide +kernel
theorem dL_isFormat_111 : decode cL_isFormat 111 = .ok (.bipush 102, 2) := by decide +kernel
theorem dL_isFormat_113 : decode cL_isFormat 113 = .ok (.irem, 1) := by decide +kernel
theorem dL_isFormat_114 : decode cL_isFormat 114 = .ok (.istore 9, 2) := by decide +kernel
theorem dL_isFormat_116 : decode cL_isFormat 116 = .ok (.iload 9, 2) := by decide +kernel
theorem dL_isFormat_118 : decode cL_isFormat 118 = .ok (.bipush 100, 2) := by decide +kernel
theorem dL_isFormat_120 : decode cL_isFormat 120 = .ok (.if_icmp .le 8, 3) := by decide +kernel
theorem dL_isFormat_123 : decode cL_isFormat 123 = .ok (.bipush (-20), 2) := by decide +kernel
theorem dL_isFormat_125 : decode cL_isFormat 125 = .ok (.goto 23, 3) := by decide +kernel
theorem dL_isFormat_128 : decode cL_isFormat 128 = .ok (.iload 7, 2) := by decide +kernel
theorem dL_isFormat_130 : decode cL_isFormat 130 = .ok (.aload_n 2, 1) := by decide +kernel
theorem dL_isFormat_131 : decode cL_isFormat 131 = .ok (.iconst 0, 1) := by decide +kernel
theorem dL_isFormat_132 : decode cL_isFormat 132 = .ok (.iaload, 1) := by decide +kernel
theorem dL_isFormat_133 : decode cL_isFormat 133 = .ok (.if_icmp .ne 8, 3) := by decide +kernel
theorem dL_isFormat_136 : decode cL_isFormat 136 = .ok (.bipush (-30), 2) := by decide +kernel
theorem dL_isFormat_138 : decode cL_isFormat 138 = .ok (.goto 10, 3) := by decide +kernel
theorem dL_isFormat_141 : decode cL_isFormat 141 = .ok (.aload_n 1, 1) := by decide +kernel
theorem dL_isFormat_142 : decode cL_isFormat 142 = .ok (.bipush 6, 2) := by decide +kernel
theorem dL_isFormat_144 : decode cL_isFormat 144 = .ok (.iload 7, 2) := by decide +kernel
theorem dL_isFormat_146 : decode cL_isFormat 146 = .ok (.iadd, 1) := by decide +kernel
theorem dL_isFormat_147 : decode cL_isFormat 147 = .ok (.iaload, 1) := by decide +kernel
theorem dL_isFormat_148 : decode cL_isFormat 148 = .ok (.istore 10, 2) := by decide +kernel
theorem dL_isFormat_150 : decode cL_isFormat 150 = .ok (.aload_n 1, 1) := by decide +kernel
theorem dL_isFormat_151 : decode cL_isFormat 151 = .ok (.bipush 6, 2) := by decide +kernel
theorem dL_isFormat_153 : decode cL_isFormat 153 = .ok (.iload 7, 2) := by decide +kernel
theorem dL_isFormat_155 : decode cL_isFormat 155 = .ok (.bipush 8, 2) := by decide +kernel
theorem dL_isFormat_157 : decode cL_isFormat 157 = .ok (.if_icmp .ge 8, 3) := by decide +kernel
theorem dL_isFormat_160 : decode cL_isFormat 160 = .ok (.iload 7, 2) := by decide +kernel
theorem dL_isFormat_162 : decode cL_isFormat 162 = .ok (.goto 4, 3) := by decide +kernel
theorem dL_isFormat_165 : decode cL_isFormat 165 = .ok (.iconst 0, 1) := by decide +kernel
theorem dL_isFormat_166 : decode cL_isFormat 166 = .ok (.iadd, 1) := by decide +kernel
theorem dL_isFormat_167 : decode cL_isFormat 167 = .ok (.iload 10, 2) := by decide +kernel
theorem dL_isFormat_169 : decode cL_isFormat 169 = .ok (.ifCond .ge 24, 3) := by decide +kernel
theorem dL_isFormat_172 : decode cL_isFormat 172 = .ok (.aload_n 1, 1) := by decide +kernel
theorem dL_isFormat_173 : decode cL_isFormat 173 = .ok (.bipush 6, 2) := by decide +kernel
theorem dL_isFormat_175 : decode cL_isFormat 175 = .ok (.iload 7, 2) := by decide +kernel
theorem dL_isFormat_177 : decode cL_isFormat 177 = .ok (.bipush 8, 2) := by decide +kernel
theorem dL_isFormat_179 : decode cL_isFormat 179 = .ok (.if_icmp .ge 8, 3) := by decide +kernel
theorem dL_isFormat_182 : decode cL_isFormat 182 = .ok (.iload 7, 2) := by decide +kernel
theorem dL_isFormat_184 : decode cL_isFormat 184 = .ok (.goto 4, 3) := by decide +kernel
theorem dL_isFormat_187 : decode cL_isFormat 187 = .ok (.iconst 0, 1) := by decide +kernel
theorem dL_isFormat_188 : decode cL_isFormat 188 = .ok (.iadd, 1) := by decide +kernel
theorem dL_isFormat_189 : decode cL_isFormat 189 = .ok (.iaload, 1) := by decide +kernel
theorem dL_isFormat_190 : decode cL_isFormat 190 = .ok (.goto 5, 3) := by decide +kernel
theorem dL_isFormat_193 : decode cL_isFormat 193 = .ok (.iload 9, 2) := by decide +kernel
theorem dL_isFormat_195 : decode cL_isFormat 195 = .ok (.iastore, 1) := by decide +kernel
theorem dL_isFormat_196 : decode cL_isFormat 196 = .ok (.aload_n 0, 1) := by decide +kernel
theorem dL_isFormat_197 : decode cL_isFormat 197 = .ok (.iconst 1, 1) := by decide +kernel
theorem dL_isFormat_198 : decode cL_isFormat 198 = .ok (.iload 7, 2) := by decide +kernel
theorem dL_isFormat_200 : decode cL_isFormat 200 = .ok (.iload 9, 2) := by decide +kernel
theorem dL_isFormat_202 : decode cL_isFormat 202 = .ok (.iconst 0, 1) := by decide +kernel
theorem dL_isFormat_203 : decode cL_isFormat 203 = .ok (.invokestatic 96, 3) := by decide +kernel
theorem dL_isFormat_206 : decode cL_isFormat 206 = .ok (.iload 10, 2) := by decide +kernel
theorem dL_isFormat_208 : decode cL_isFormat 208 = .ok (.if_icmp .ne 7, 3) := by decide +kernel
theorem dL_isFormat_211 : decode cL_isFormat 211 = .ok (.iconst 1, 1) := by decide +kernel
theorem dL_isFormat_212 : decode cL_isFormat 212 = .ok (.goto 4, 3) := by decide +kernel
theorem dL_isFormat_215 : decode cL_isFormat 215 = .ok (.iconst 0, 1) := by decide +kernel
theorem dL_isFormat_216 : decode cL_isFormat 216 = .ok (.ireturn, 1) := by decide +kernel
theorem dL_isFormat_217 : decode cL_isFormat 217 = .ok (.iload 5, 2) := by decide +kernel
theorem dL_isFormat_219 : decode cL_isFormat 219 = .ok (.bipush 102, 2) := by decide +kernel
theorem dL_isFormat_221 : decode cL_isFormat 221 = .ok (.irem, 1) := by decide +kernel
theorem dL_isFormat_222 : decode cL_isFormat 222 = .ok (.istore 9, 2) := by decide +kernel
theorem dL_isFormat_224 : decode cL_isFormat 224 = .ok (.aload_n 0, 1) := by decide +kernel
theorem dL_isFormat_225 : decode cL_isFormat 225 = .ok (.iconst 2, 1) := by decide +kernel
theorem dL_isFormat_226 : decode cL_isFormat 226 = .ok (.iload 7, 2) := by decide +kernel
theorem dL_isFormat_228 : decode cL_isFormat 228 = .ok (.iload 8, 2) := by decide +kernel
theorem dL_isFormat_230 : decode cL_isFormat 230 = .ok (.iload 9, 2) := by decide +kernel
theorem dL_isFormat_232 : decode cL_isFormat 232 = .ok (.invokestatic 96, 3) := by decide +kernel
theorem dL_isFormat_235 : decode cL_isFormat 235 = .ok (.istore 10, 2) := by decide +kernel
theorem dL_isFormat_237 : decode cL_isFormat 237 = .ok (.iload 9, 2) := by decide +kernel
theorem dL_isFormat_239 : decode cL_isFormat 239 = .ok (.bipush 100, 2) := by decide +kernel
theorem dL_isFormat_241 : decode cL_isFormat 241 = .ok (.if_icmp .gt 10, 3) := by decide +kernel
theorem dL_isFormat_244 : decode cL_isFormat 244 = .ok (.iload 7, 2) := by decide +kernel
theorem dL_isFormat_246 : decode cL_isFormat 246 = .ok (.iload 8, 2) := by decide +kernel
theorem dL_isFormat_248 : decode cL_isFormat 248 = .ok (.if_icmp .ne 16, 3) := by decide +kernel
theorem dL_isFormat_251 : decode cL_isFormat 251 = .ok (.iload 10, 2) := by decide +kernel
theorem dL_isFormat_253 : decode cL_isFormat 253 = .ok (.bipush (-20), 2) := by decide +kernel
theorem dL_isFormat_255 : decode cL_isFormat 255 = .ok (.if_icmp .ne 7, 3) := by decide +kernel
theorem dL_isFormat_258 : decode cL_isFormat 258 = .ok (.iconst 1, 1) := by decide +kernel
theorem dL_isFormat_259 : decode cL_isFormat 259 = .ok (.goto 4, 3) := by decide +kernel
theorem dL_isFormat_262 : decode cL_isFormat 262 = .ok (.iconst 0, 1) := by decide +kernel
theorem dL_isFormat_263 : decode cL_isFormat 263 = .ok (.ireturn, 1) := by decide +kernel
theorem dL_isFormat_264 : decode cL_isFormat 264 = .ok (.iload 7, 2) := by decide +kernel
theorem dL_isFormat_266 : decode cL_isFormat 266 = .ok (.aload_n 2, 1) := by decide +kernel
theorem dL_isFormat_267 : decode cL_isFormat 267 = .ok (.iconst 0, 1) := by decide +kernel
theorem dL_isFormat_268 : decode cL_isFormat 268 = .ok (.iaload, 1) := by decide +kernel
theorem dL_isFormat_269 : decode cL_isFormat 269 = .ok (.if_icmp .eq 11, 3) := by decide +kernel
theorem dL_isFormat_272 : decode cL_isFormat 272 = .ok (.iload 8, 2) := by decide +kernel
theorem dL_isFormat_274 : decode cL_isFormat 274 = .ok (.aload_n 2, 1) := by decide +kernel
theorem dL_isFormat_275 : decode cL_isFormat 275 = .ok (.iconst 0, 1) := by decide +kernel
theorem dL_isFormat_276 : decode cL_isFormat 276 = .ok (.iaload, 1) := by decide +kernel
theorem dL_isFormat_277 : decode cL_isFormat 277 = .ok (.if_icmp .ne 18, 3) := by decide +kernel
theorem dL_isFormat_280 : decode cL_isFormat 280 = .ok (.iload 10, 2) := by decide +kernel
theorem dL_isFormat_282 : decode cL_isFormat 282 = .ok (.bipush (-30), 2) := by decide +kernel
theorem dL_isFormat_284 : decode cL_isFormat 284 = .ok (.if_icmp .ne 7, 3) := by decide +kernel
theorem dL_isFormat_287 : decode cL_isFormat 287 = .ok (.iconst 1, 1) := by decide +kernel
theorem dL_isFormat_288 : decode cL_isFormat 288 = .ok (.goto 40, 3) := by decide +kernel
theorem dL_isFormat_291 : decode cL_isFormat 291 = .ok (.iconst 0, 1) := by decide +kernel
theorem dL_isFormat_292 : decode cL_isFormat 292 = .ok (.goto 36, 3) := by decide +kernel
theorem dL_isFormat_295 : decode cL_isFormat 295 = .ok (.iload 10, 2) := by decide +kernel
theorem dL_isFormat_297 : decode cL_isFormat 297 = .ok (.ifCond .lt 30, 3) := by decide +kernel
theorem dL_isFormat_300 : decode cL_isFormat 300 = .ok (.iload 10, 2) := by decide +kernel
theorem dL_isFormat_302 : decode cL_isFormat 302 = .ok (.iload 9, 2) := by decide +kernel
theorem dL_isFormat_304 : decode cL_isFormat 304 = .ok (.if_icmp .gt 23, 3) := by decide +kernel
theorem dL_isFormat_307 : decode cL_isFormat 307 = .ok (.aload_n 0, 1) := by decide +kernel
theorem dL_isFormat_308 : decode cL_isFormat 308 = .ok (.iload 7, 2) := by decide +kernel
theorem dL_isFormat_310 : decode cL_isFormat 310 = .ok (.iload 8, 2) := by decide +kernel
theorem dL_isFormat_312 : decode cL_isFormat 312 = .ok (.invokevirtual 22, 3) := by decide +kernel
theorem dL_isFormat_315 : decode cL_isFormat 315 = .ok (.bipush 100, 2) := by decide +kernel
theorem dL_isFormat_317 : decode cL_isFormat 317 = .ok (.idiv, 1) := by decide +kernel
theorem dL_isFormat_318 : decode cL_isFormat 318 = .ok (.iload 10, 2) := by decide +kernel
theorem dL_isFormat_320 : decode cL_isFormat 320 = .ok (.if_icmp .ne 7, 3) := by decide +kernel
theorem dL_isFormat_323 : decode cL_isFormat 323 = .ok (.iconst 1, 1) := by decide +kernel
theorem dL_isFormat_324 : decode cL_isFormat 324 = .ok (.goto 4, 3) := by decide +kernel
theorem dL_isFormat_327 : decode cL_isFormat 327 = .ok (.iconst 0, 1) := by decide +kernel
theorem dL_isFormat_328 : decode cL_isFormat 328 = .ok (.ireturn, 1) := by decide +kernel
theorem dL_isAdded_0 : decode cL_isAdded 0 = .ok (.iload 7, 2) := by decide +kernel
theorem dL_isAdded_2 : decode cL_isAdded 2 = .ok (.bipush 40, 2) := by decide +kernel
theorem dL_isAdded_4 : decode cL_isAdded 4 = .ok (.irem, 1) := by decide +kernel
theorem dL_isAdded_5 : decode cL_isAdded 5 = .ok (.ifCond .ne 8, 3) := by decide +kernel
theorem dL_isAdded_8 : decode cL_isAdded 8 = .ok (.ldc 99, 2) := by decide +kernel
theorem dL_isAdded_10 : decode cL_isAdded 10 = .ok (.goto 24, 3) := by decide +kernel
theorem dL_isAdded_13 : decode cL_isAdded 13 = .ok (.iload 7, 2) := by decide +kernel
theorem dL_isAdded_15 : decode cL_isAdded 15 = .ok (.iconst 3, 1) := by decide +kernel
theorem dL_isAdded_16 : decode cL_isAdded 16 = .ok (.irem, 1) := by decide +kernel
theorem dL_isAdded_17 : decode cL_isAdded 17 = .ok (.ifCond .ne 11, 3) := by decide +kernel
theorem dL_isAdded_20 : decode cL_isAdded 20 = .ok (.iload 7, 2) := by decide +kernel
theorem dL_isAdded_22 : decode cL_isAdded 22 = .ok (.bipush 7, 2) := by decide +kernel
theorem dL_isAdded_24 : decode cL_isAdded 24 = .ok (.irem, 1) := by decide +kernel
theorem dL_isAdded_25 : decode cL_isAdded 25 = .ok (.goto 9, 3) := by decide +kernel
theorem dL_isAdded_28 : decode cL_isAdded 28 = .ok (.iload 7, 2) := by decide +kernel
theorem dL_isAdded_30 : decode cL_isAdded 30 = .ok (.sipush 140, 3) := by decide +kernel
theorem dL_isAdded_33 : decode cL_isAdded 33 = .ok (.imul, 1) := by decide +kernel
theorem dL_isAdded_34 : decode cL_isAdded 34 = .ok (.istore 9, 2) := by decide +kernel
theorem dL_isAdded_36 : decode cL_isAdded 36 = .ok (.iload 5, 2) := by decide +kernel
theorem dL_isAdded_38 : decode cL_isAdded 38 = .ok (.ifCond .ne 174, 3) := by decide +kernel
theorem dL_isAdded_41 : decode cL_isAdded 41 = .ok (.iload 6, 2) := by decide +kernel
theorem dL_isAdded_43 : decode cL_isAdded 43 = .ok (.aload 4, 2) := by decide +kernel
theorem dL_isAdded_45 : decode cL_isAdded 45 = .ok (.iconst 0, 1) := by decide +kernel
theorem dL_isAdded_46 : decode cL_isAdded 46 = .ok (.iaload, 1) := by decide +kernel
theorem dL_isAdded_47 : decode cL_isAdded 47 = .ok (.iconst 1, 1) := by decide +kernel
theorem dL_isAdded_48 : decode cL_isAdded 48 = .ok (.iadd, 1) := by decide +kernel
theorem dL_isAdded_49 : decode cL_isAdded 49 = .ok (.irem, 1) := by decide +kernel
theorem dL_isAdded_50 : decode cL_isAdded 50 = .ok (.istore 10, 2) := by decide +kernel
theorem dL_isAdded_52 : decode cL_isAdded 52 = .ok (.iload 8, 2) := by decide +kernel
theorem dL_isAdded_54 : decode cL_isAdded 54 = .ok (.iconst 5, 1) := by decide +kernel
theorem dL_isAdded_55 : decode cL_isAdded 55 = .ok (.irem, 1) := by decide +kernel
theorem dL_isAdded_56 : decode cL_isAdded 56 = .ok (.istore 11, 2) := by decide +kernel
theorem dL_isAdded_58 : decode cL_isAdded 58 = .ok (.iload 9, 2) := by decide +kernel
theorem dL_isAdded_60 : decode cL_isAdded 60 = .ok (.ldc 99, 2) := by decide +kernel
theorem dL_isAdded_62 : decode cL_isAdded 62 = .ok (.if_icmp .ge 18, 3) := by decide +kernel
theorem dL_isAdded_65 : decode cL_isAdded 65 = .ok (.iload 11, 2) := by decide +kernel
theorem dL_isAdded_67 : decode cL_isAdded 67 = .ok (.ifCond .le 13, 3) := by decide +kernel
theorem dL_isAdded_70 : decode cL_isAdded 70 = .ok (.iload 11, 2) := by decide +kernel
theorem dL_isAdded_72 : decode cL_isAdded 72 = .ok (.iconst 4, 1) := by decide +kernel
theorem dL_isAdded_73 : decode cL_isAdded 73 = .ok (.if_icmp .ge 7, 3) := by decide +kernel
theorem dL_isAdded_76 : decode cL_isAdded 76 = .ok (.iconst 1, 1) := by decide +kernel
theorem dL_isAdded_77 : decode cL_isAdded 77 = .ok (.goto 4, 3) := by decide +kernel
theorem dL_isAdded_80 : decode cL_isAdded 80 = .ok (.iconst 0, 1) := by decide +kernel
theorem dL_isAdded_81 : decode cL_isAdded 81 = .ok (.istore 12, 2) := by decide +kernel
theorem dL_isAdded_83 : decode cL_isAdded 83 = .ok (.aload 4, 2) := by decide +kernel
theorem dL_isAdded_85 : decode cL_isAdded 85 = .ok (.iconst 1, 1) := by decide +kernel
theorem dL_isAdded_86 : decode cL_isAdded 86 = .ok (.iaload, 1) := by decide +kernel
theorem dL_isAdded_87 : decode cL_isAdded 87 = .ok (.bipush 6, 2) := by decide +kernel
theorem dL_isAdded_89 : decode cL_isAdded 89 = .ok (.if_icmp .ne 30, 3) := by decide +kernel
theorem dL_isAdded_92 : decode cL_isAdded 92 = .ok (.iload 12, 2) := by decide +kernel
theorem dL_isAdded_94 : decode cL_isAdded 94 = .ok (.ifCond .eq 25, 3) := by decide +kernel
theorem dL_isAdded_97 : decode cL_isAdded 97 = .ok (.iload 10, 2) := by decide +kernel
theorem dL_isAdded_99 : decode cL_isAdded 99 = .ok (.aload 4, 2) := by decide +kernel
theorem dL_isAdded_101 : decode cL_isAdded 101 = .ok (.iconst 0, 1) := by decide +kernel
theorem dL_isAdded_102 : decode cL_isAdded 102 = .ok (.iaload, 1) := by decide +kernel
theorem dL_isAdded_103 : decode cL_isAdded 103 = .ok (.if_icmp .ge 16, 3) := by decide +kernel
theorem dL_isAdded_106 : decode cL_isAdded 106 = .ok (.aload_n 0, 1) := by decide +kernel
theorem dL_isAdded_107 : decode cL_isAdded 107 = .ok (.invokevirtual 83, 3) := by decide +kernel
theorem dL_isAdded_110 : decode cL_isAdded 110 = .ok (.ifCond .lt 7, 3) := by decide +kernel
theorem dL_isAdded_113 : decode cL_isAdded 113 = .ok (.iconst 1, 1) := by decide +kernel
theorem dL_isAdded_114 : decode cL_isAdded 114 = .ok (.goto 4, 3) := by decide +kernel
theorem dL_isAdded_117 : decode cL_isAdded 117 = .ok (.iconst 0, 1) := by decide +kernel
theorem dL_isAdded_118 : decode cL_isAdded 118 = .ok (.ireturn, 1) := by decide +kernel
theorem dL_isAdded_119 : decode cL_isAdded 119 = .ok (.iload 12, 2) := by decide +kernel
theorem dL_isAdded_121 : decode cL_isAdded 121 = .ok (.ifCond .ne 8, 3) := by decide +kernel
theorem dL_isAdded_124 : decode cL_isAdded 124 = .ok (.bipush (-20), 2) := by decide +kernel
theorem dL_isAdded_126 : decode cL_isAdded 126 = .ok (.goto 21, 3) := by decide +kernel
theorem dL_isAdded_129 : decode cL_isAdded 129 = .ok (.iload 10, 2) := by decide +kernel
theorem dL_isAdded_131 : decode cL_isAdded 131 = .ok (.aload 4, 2) := by decide +kernel
theorem dL_isAdded_133 : decode cL_isAdded 133 = .ok (.iconst 0, 1) := by decide +kernel
theorem dL_isAdded_134 : decode cL_isAdded 134 = .ok (.iaload, 1) := by decide +kernel
theorem dL_isAdded_135 : decode cL_isAdded 135 = .ok (.if_icmp .ne 8, 3) := by decide +kernel
theorem dL_isAdded_138 : decode cL_isAdded 138 = .ok (.bipush (-30), 2) := by decide +kernel
theorem dL_isAdded_140 : decode cL_isAdded 140 = .ok (.goto 7, 3) := by decide +kernel
theorem dL_isAdded_143 : decode cL_isAdded 143 = .ok (.aload 4, 2) := by decide +kernel
theorem dL_isAdded_145 : decode cL_isAdded 145 = .ok (.iconst 1, 1) := by decide +kernel
theorem dL_isAdded_146 : decode cL_isAdded 146 = .ok (.iaload, 1) := by decide +kernel
theorem dL_isAdded_147 : decode cL_isAdded 147 = .ok (.istore 13, 2) := by decide +kernel
theorem dL_isAdded_149 : decode cL_isAdded 149 = .ok (.iload 13, 2) := by decide +kernel
theorem dL_isAdded_151 : decode cL_isAdded 151 = .ok (.ifCond .lt 39, 3) := by decide +kernel
theorem dL_isAdded_154 : decode cL_isAdded 154 = .ok (.aload_n 1, 1) := by decide +kernel
theorem dL_isAdded_155 : decode cL_isAdded 155 = .ok (.bipush 10, 2) := by decide +kernel
theorem dL_isAdded_157 : decode cL_isAdded 157 = .ok (.iload 13, 2) := by decide +kernel
theorem dL_isAdded_159 : decode cL_isAdded 159 = .ok (.imul, 1) := by decide +kernel
theorem dL_isAdded_160 : decode cL_isAdded 160 = .ok (.iload 9, 2) := by decide +kernel
theorem dL_isAdded_162 : decode cL_isAdded 162 = .ok (.iastore, 1) := by decide +kernel
theorem dL_isAdded_163 : decode cL_isAdded 163 = .ok (.aload_n 2, 1) := by decide +kernel
theorem dL_isAdded_164 : decode cL_isAdded 164 = .ok (.iload 13, 2) := by decide +kernel
theorem dL_isAdded_166 : decode cL_isAdded 166 = .ok (.iconst 1, 1) := by decide +kernel
theorem dL_isAdded_167 : decode cL_isAdded 167 = .ok (.iastore, 1) := by decide +kernel
theorem dL_isAdded_168 : decode cL_isAdded 168 = .ok (.aload_n 3, 1) := by decide +kernel
theorem dL_isAdded_169 : decode cL_isAdded 169 = .ok (.iload 13, 2) := by decide +kernel
theorem dL_isAdded_171 : decode cL_isAdded 171 = .ok (.iconst 1, 1) := by decide +kernel
theorem dL_isAdded_172 : decode cL_isAdded 172 = .ok (.iastore, 1) := by decide +kernel
theorem dL_isAdded_173 : decode cL_isAdded 173 = .ok (.aload_n 3, 1) := by decide +kernel
theorem dL_isAdded_174 : decode cL_isAdded 174 = .ok (.bipush 6, 2) := by decide +kernel
theorem dL_isAdded_176 : decode cL_isAdded 176 = .ok (.iload 13, 2) := by decide +kernel
theorem dL_isAdded_178 : decode cL_isAdded 178 = .ok (.iadd, 1) := by decide +kernel
theorem dL_isAdded_179 : decode cL_isAdded 179 = .ok (.iload 10, 2) := by decide +kernel
theorem dL_isAdded_181 : decode cL_isAdded 181 = .ok (.iastore, 1) := by decide +kernel
theorem dL_isAdded_182 : decode cL_isAdded 182 = .ok (.aload 4, 2) := by decide +kernel
theorem dL_isAdded_184 : decode cL_isAdded 184 = .ok (.iconst 1, 1) := by decide +kernel
theorem dL_isAdded_185 : decode cL_isAdded 185 = .ok (.dup2, 1) := by decide +kernel
theorem dL_isAdded_186 : decode cL_isAdded 186 = .ok (.iaload, 1) := by decide +kernel
theorem dL_isAdded_187 : decode cL_isAdded 187 = .ok (.iconst 1, 1) := by decide +kernel
theorem dL_isAdded_188 : decode cL_isAdded 188 = .ok (.iadd, 1) := by decide +kernel
theorem dL_isAdded_189 : decode cL_isAdded 189 = .ok (.iastore, 1) := by decide +kernel
theorem dL_isAdded_190 : decode cL_isAdded 190 = .ok (.aload_n 0, 1) := by decide +kernel
theorem dL_isAdded_191 : decode cL_isAdded 191 = .ok (.iconst 0, 1) := by decide +kernel
theorem dL_isAdded_192 : decode cL_isAdded 192 = .ok (.iload 10, 2) := by decide +kernel
theorem dL_isAdded_194 : decode cL_isAdded 194 = .ok (.iload 9, 2) := by decide +kernel
theorem dL_isAdded_196 : decode cL_isAdded 196 = .ok (.iload 11, 2) := by decide +kernel
theorem dL_isAdded_198 : decode cL_isAdded 198 = .ok (.invokestatic 90, 3) := by decide +kernel
theorem dL_isAdded_201 : decode cL_isAdded 201 = .ok (.iload 13, 2) := by decide +kernel
theorem dL_isAdded_203 : decode cL_isAdded 203 = .ok (.if_icmp .ne 7, 3) := by decide +kernel
theorem dL_isAdded_206 : decode cL_isAdded 206 = .ok (.iconst 1, 1) := by decide +kernel
theorem dL_isAdded_207 : decode cL_isAdded 207 = .ok (.goto 4, 3) := by decide +kernel
theorem dL_isAdded_210 : decode cL_isAdded 210 = .ok (.iconst 0, 1) := by decide +kernel
theorem dL_isAdded_211 : decode cL_isAdded 211 = .ok (.ireturn, 1) := by decide +kernel
theorem dL_isAdded_212 : decode cL_isAdded 212 = .ok (.iload 6, 2) := by decide +kernel
theorem dL_isAdded_214 : decode cL_isAdded 214 = .ok (.aload 4, 2) := by decide +kernel
theorem dL_isAdded_216 : decode cL_isAdded 216 = .ok (.iconst 1, 1) := by decide +kernel
theorem dL_isAdded_217 : decode cL_isAdded 217 = .ok (.iaload, 1) := by decide +kernel
theorem dL_isAdded_218 : decode cL_isAdded 218 = .ok (.iconst 1, 1) := by decide +kernel
theorem dL_isAdded_219 : decode cL_isAdded 219 = .ok (.iadd, 1) := by decide +kernel
theorem dL_isAdded_220 : decode cL_isAdded 220 = .ok (.irem, 1) := by decide +kernel
theorem dL_isAdded_221 : decode cL_isAdded 221 = .ok (.istore 10, 2) := by decide +kernel
theorem dL_isAdded_223 : decode cL_isAdded 223 = .ok (.iload 10, 2) := by decide +kernel
theorem dL_isAdded_225 : decode cL_isAdded 225 = .ok (.aload 4, 2) := by decide +kernel
theorem dL_isAdded_227 : decode cL_isAdded 227 = .ok (.iconst 1, 1) := by decide +kernel
theorem dL_isAdded_228 : decode cL_isAdded 228 = .ok (.iaload, 1) := by decide +kernel
theorem dL_isAdded_229 : decode cL_isAdded 229 = .ok (.if_icmp .ne 34, 3) := by decide +kernel
theorem dL_isAdded_232 : decode cL_isAdded 232 = .ok (.aload_n 0, 1) := by decide +kernel
theorem dL_isAdded_233 : decode cL_isAdded 233 = .ok (.iload 5, 2) := by decide +kernel
theorem dL_isAdded_235 : decode cL_isAdded 235 = .ok (.iload 10, 2) := by decide +kernel
theorem dL_isAdded_237 : decode cL_isAdded 237 = .ok (.iload 5, 2) := by decide +kernel
theorem dL_isAdded_239 : decode cL_isAdded 239 = .ok (.iconst 1, 1) := by decide +kernel
theorem dL_isAdded_240 : decode cL_isAdded 240 = .ok (.if_icmp .ne 7, 3) := by decide +kernel
theorem dL_isAdded_243 : decode cL_isAdded 243 = .ok (.iconst 1, 1) := by decide +kernel
theorem dL_isAdded_244 : decode cL_isAdded 244 = .ok (.goto 4, 3) := by decide +kernel
theorem dL_isAdded_247 : decode cL_isAdded 247 = .ok (.iconst 0, 1) := by decide +kernel
theorem dL_isAdded_248 : decode cL_isAdded 248 = .ok (.iconst 0, 1) := by decide +kernel
theorem dL_isAdded_249 : decode cL_isAdded 249 = .ok (.invokestatic 90, 3) := by decide +kernel
theorem dL_isAdded_252 : decode cL_isAdded 252 = .ok (.bipush (-30), 2) := by decide +kernel
theorem dL_isAdded_254 : decode cL_isAdded 254 = .ok (.if_icmp .ne 7, 3) := by decide +kernel
theorem dL_isAdded_257 : decode cL_isAdded 257 = .ok (.iconst 1, 1) := by decide +kernel
theorem dL_isAdded_258 : decode cL_isAdded 258 = .ok (.goto 4, 3) := by decide +kernel
theorem dL_isAdded_261 : decode cL_isAdded 261 = .ok (.iconst 0, 1) := by decide +kernel
theorem dL_isAdded_262 : decode cL_isAdded 262 = .ok (.ireturn, 1) := by decide +kernel
theorem dL_isAdded_263 : decode cL_isAdded 263 = .ok (.iload 5, 2) := by decide +kernel
theorem dL_isAdded_265 : decode cL_isAdded 265 = .ok (.iconst 1, 1) := by decide +kernel
theorem dL_isAdded_266 : decode cL_isAdded 266 = .ok (.if_icmp .ne 95, 3) := by decide +kernel
theorem dL_isAdded_269 : decode cL_isAdded 269 = .ok (.iload 9, 2) := by decide +kernel
theorem dL_isAdded_271 : decode cL_isAdded 271 = .ok (.ldc 100, 2) := by decide +kernel
theorem dL_isAdded_273 : decode cL_isAdded 273 = .ok (.if_icmp .le 8, 3) := by decide +kernel
theorem dL_isAdded_276 : decode cL_isAdded 276 = .ok (.bipush (-20), 2) := by decide +kernel
theorem dL_isAdded_278 : decode cL_isAdded 278 = .ok (.goto 21, 3) := by decide +kernel
theorem dL_isAdded_281 : decode cL_isAdded 281 = .ok (.aload_n 2, 1) := by decide +kernel
theorem dL_isAdded_282 : decode cL_isAdded 282 = .ok (.iload 10, 2) := by decide +kernel
theorem dL_isAdded_284 : decode cL_isAdded 284 = .ok (.iaload, 1) := by decide +kernel
theorem dL_isAdded_285 : decode cL_isAdded 285 = .ok (.bipush 10, 2) := by decide +kernel
theorem dL_isAdded_287 : decode cL_isAdded 287 = .ok (.if_icmp .ne 8, 3) := by decide +kernel
theorem dL_isAdded_290 : decode cL_isAdded 290 = .ok (.bipush (-10), 2) := by decide +kernel
theorem dL_isAdded_292 : decode cL_isAdded 292 = .ok (.goto 7, 3) := by decide +kernel
theorem dL_isAdded_295 : decode cL_isAdded 295 = .ok (.aload_n 2, 1) := by decide +kernel
theorem dL_isAdded_296 : decode cL_isAdded 296 = .ok (.iload 10, 2) := by decide +kernel
theorem dL_isAdded_298 : decode cL_isAdded 298 = .ok (.iaload, 1) := by decide +kernel
theorem dL_isAdded_299 : decode cL_isAdded 299 = .ok (.istore 11, 2) := by decide +kernel
theorem dL_isAdded_301 : decode cL_isAdded 301 = .ok (.iload 11, 2) := by decide +kernel
theorem dL_isAdded_303 : decode cL_isAdded 303 = .ok (.ifCond .lt 34, 3) := by decide +kernel
theorem dL_isAdded_306 : decode cL_isAdded 306 = .ok (.aload_n 1, 1) := by decide +kernel
theorem dL_isAdded_307 : decode cL_isAdded 307 = .ok (.bipush 10, 2) := by decide +kernel
theorem dL_isAdded_309 : decode cL_isAdded 309 = .ok (.iload 10, 2) := by decide +kernel
theorem dL_isAdded_311 : decode cL_isAdded 311 = .ok (.imul, 1) := by decide +kernel
theorem dL_isAdded_312 : decode cL_isAdded 312 = .ok (.iload 11, 2) := by decide +kernel
theorem dL_isAdded_314 : decode cL_isAdded 314 = .ok (.iadd, 1) := by decide +kernel
theorem dL_isAdded_315 : decode cL_isAdded 315 = .ok (.iload 9, 2) := by decide +kernel
theorem dL_isAdded_317 : decode cL_isAdded 317 = .ok (.iastore, 1) := by decide +kernel
theorem dL_isAdded_318 : decode cL_isAdded 318 = .ok (.aload_n 2, 1) := by decide +kernel
theorem dL_isAdded_319 : decode cL_isAdded 319 = .ok (.iload 10, 2) := by decide +kernel
theorem dL_isAdded_321 : decode cL_isAdded 321 = .ok (.dup2, 1) := by decide +kernel
theorem dL_isAdded_322 : decode cL_isAdded 322 = .ok (.iaload, 1) := by decide +kernel
theorem dL_isAdded_323 : decode cL_isAdded 323 = .ok (.iconst 1, 1) := by decide +kernel
theorem dL_isAdded_324 : decode cL_isAdded 324 = .ok (.iadd, 1) := by decide +kernel
theorem dL_isAdded_325 : decode cL_isAdded 325 = .ok (.iastore, 1) := by decide +kernel
theorem dL_isAdded_326 : decode cL_isAdded 326 = .ok (.aload_n 3, 1) := by decide +kernel
theorem dL_isAdded_327 : decode cL_isAdded 327 = .ok (.iload 10, 2) := by decide +kernel
theorem dL_isAdded_329 : decode cL_isAdded 329 = .ok (.dup2, 1) := by decide +kernel
theorem dL_isAdded_330 : decode cL_isAdded 330 = .ok (.iaload, 1) := by decide +kernel
theorem dL_isAdded_331 : decode cL_isAdded 331 = .ok (.iconst 1, 1) := by decide +kernel
theorem dL_isAdded_332 : decode cL_isAdded 332 = .ok (.iload 11, 2) := by decide +kernel
theorem dL_isAdded_334 : decode cL_isAdded 334 = .ok (.ishl, 1) := by decide +kernel
theorem dL_isAdded_335 : decode cL_isAdded 335 = .ok (.ior, 1) := by decide +kernel
theorem dL_isAdded_336 : decode cL_isAdded 336 = .ok (.iastore, 1) := by decide +kernel
theorem dL_isAdded_337 : decode cL_isAdded 337 = .ok (.aload_n 0, 1) := by decide +kernel
theorem dL_isAdded_338 : decode cL_isAdded 338 = .ok (.iconst 1, 1) := by decide +kernel
theorem dL_isAdded_339 : decode cL_isAdded 339 = .ok (.iload 10, 2) := by decide +kernel
theorem dL_isAdded_341 : decode cL_isAdded 341 = .ok (.iload 9, 2) := by decide +kernel
theorem dL_isAdded_343 : decode cL_isAdded 343 = .ok (.iload 8, 2) := by decide +kernel
theorem dL_isAdded_345 : decode cL_isAdded 345 = .ok (.iconst 2, 1) := by decide +kernel
theorem dL_isAdded_346 : decode cL_isAdded 346 = .ok (.irem, 1) := by decide +kernel
theorem dL_isAdded_347 : decode cL_isAdded 347 = .ok (.invokestatic 90, 3) := by decide +kernel
theorem dL_isAdded_350 : decode cL_isAdded 350 = .ok (.iload 11, 2) := by decide +kernel
theorem dL_isAdded_352 : decode cL_isAdded 352 = .ok (.if_icmp .ne 7, 3) := by decide +kernel
theorem dL_isAdded_355 : decode cL_isAdded 355 = .ok (.iconst 1, 1) := by decide +kernel
theorem dL_isAdded_356 : decode cL_isAdded 356 = .ok (.goto 4, 3) := by decide +kernel
theorem dL_isAdded_359 : decode cL_isAdded 359 = .ok (.iconst 0, 1) := by decide +kernel
theorem dL_isAdded_360 : decode cL_isAdded 360 = .ok (.ireturn, 1) := by decide +kernel
theorem dL_isAdded_361 : decode cL_isAdded 361 = .ok (.iload 8, 2) := by decide +kernel
theorem dL_isAdded_363 : decode cL_isAdded 363 = .ok (.aload 4, 2) := by decide +kernel
theorem dL_isAdded_365 : decode cL_isAdded 365 = .ok (.iconst 0, 1) := by decide +kernel
theorem dL_isAdded_366 : decode cL_isAdded 366 = .ok (.iaload, 1) := by decide +kernel
theorem dL_isAdded_367 : decode cL_isAdded 367 = .ok (.iconst 1, 1) := by decide +kernel
theorem dL_isAdded_368 : decode cL_isAdded 368 = .ok (.iadd, 1) := by decide +kernel
theorem dL_isAdded_369 : decode cL_isAdded 369 = .ok (.irem, 1) := by decide +kernel
theorem dL_isAdded_370 : decode cL_isAdded 370 = .ok (.istore 11, 2) := by decide +kernel
theorem dL_isAdded_372 : decode cL_isAdded 372 = .ok (.aload_n 3, 1) := by decide +kernel
theorem dL_isAdded_373 : decode cL_isAdded 373 = .ok (.iload 10, 2) := by decide +kernel
theorem dL_isAdded_375 : decode cL_isAdded 375 = .ok (.iaload, 1) := by decide +kernel
theorem dL_isAdded_376 : decode cL_isAdded 376 = .ok (.invokestatic 101, 3) := by decide +kernel
theorem dL_isAdded_379 : decode cL_isAdded 379 = .ok (.istore 12, 2) := by decide +kernel
theorem dL_isAdded_381 : decode cL_isAdded 381 = .ok (.aload_n 0, 1) := by decide +kernel
theorem dL_isAdded_382 : decode cL_isAdded 382 = .ok (.iload 10, 2) := by decide +kernel
theorem dL_isAdded_384 : decode cL_isAdded 384 = .ok (.iload 12, 2) := by decide +kernel
theorem dL_isAdded_386 : decode cL_isAdded 386 = .ok (.invokestatic 92, 3) := by decide +kernel
theorem dL_isAdded_389 : decode cL_isAdded 389 = .ok (.istore 13, 2) := by decide +kernel
theorem dL_isAdded_391 : decode cL_isAdded 391 = .ok (.iload 11, 2) := by decide +kernel
theorem dL_isAdded_393 : decode cL_isAdded 393 = .ok (.aload 4, 2) := by decide +kernel
theorem dL_isAdded_395 : decode cL_isAdded 395 = .ok (.iconst 0, 1) := by decide +kernel
theorem dL_isAdded_396 : decode cL_isAdded 396 = .ok (.iaload, 1) := by decide +kernel
theorem dL_isAdded_397 : decode cL_isAdded 397 = .ok (.if_icmp .ge 19, 3) := by decide +kernel
theorem dL_isAdded_400 : decode cL_isAdded 400 = .ok (.aload_n 0, 1) := by decide +kernel
theorem dL_isAdded_401 : decode cL_isAdded 401 = .ok (.aload_n 3, 1) := by decide +kernel
theorem dL_isAdded_402 : decode cL_isAdded 402 = .ok (.bipush 6, 2) := by decide +kernel
theorem dL_isAdded_404 : decode cL_isAdded 404 = .ok (.iload 10, 2) := by decide +kernel
theorem dL_isAdded_406 : decode cL_isAdded 406 = .ok (.iadd, 1) := by decide +kernel
theorem dL_isAdded_407 : decode cL_isAdded 407 = .ok (.iaload, 1) := by decide +kernel
theorem dL_isAdded_408 : decode cL_isAdded 408 = .ok (.iload 11, 2) := by decide +kernel
theorem dL_isAdded_410 : decode cL_isAdded 410 = .ok (.invokevirtual 22, 3) := by decide +kernel
theorem dL_isAdded_413 : decode cL_isAdded 413 = .ok (.goto 4, 3) := by decide +kernel
theorem dL_isAdded_416 : decode cL_isAdded 416 = .ok (.iconst (-1), 1) := by decide +kernel
theorem dL_isAdded_417 : decode cL_isAdded 417 = .ok (.istore 14, 2) := by decide +kernel
theorem dL_isAdded_419 : decode cL_isAdded 419 = .ok (.iload 14, 2) := by decide +kernel
theorem dL_isAdded_421 : decode cL_isAdded 421 = .ok (.ifCond .le 23, 3) := by decide +kernel
theorem dL_isAdded_424 : decode cL_isAdded 424 = .ok (.iload 13, 2) := by decide +kernel
theorem dL_isAdded_426 : decode cL_isAdded 426 = .ok (.ldc 104, 2) := by decide +kernel
theorem dL_isAdded_428 : decode cL_isAdded 428 = .ok (.if_icmp .le 16, 3) := by decide +kernel
theorem dL_isAdded_431 : decode cL_isAdded 431 = .ok (.aload_n 2, 1) := by decide +kernel
theorem dL_isAdded_432 : decode cL_isAdded 432 = .ok (.iload 10, 2) := by decide +kernel
theorem dL_isAdded_434 : decode cL_isAdded 434 = .ok (.iaload, 1) := by decide +kernel
theorem dL_isAdded_435 : decode cL_isAdded 435 = .ok (.bipush 10, 2) := by decide +kernel
theorem dL_isAdded_437 : decode cL_isAdded 437 = .ok (.if_icmp .ge 7, 3) := by decide +kernel
theorem dL_isAdded_440 : decode cL_isAdded 440 = .ok (.iconst 1, 1) := by decide +kernel
theorem dL_isAdded_441 : decode cL_isAdded 441 = .ok (.goto 4, 3) := by decide +kernel
theorem dL_isAdded_444 : decode cL_isAdded 444 = .ok (.iconst 0, 1) := by decide +kernel
theorem dL_isAdded_445 : decode cL_isAdded 445 = .ok (.istore 15, 2) := by decide +kernel
theorem dL_isAdded_447 : decode cL_isAdded 447 = .ok (.iload 11, 2) := by decide +kernel
theorem dL_isAdded_449 : decode cL_isAdded 449 = .ok (.aload 4, 2) := by decide +kernel
theorem dL_isAdded_451 : decode cL_isAdded 451 = .ok (.iconst 0, 1) := by decide +kernel
theorem dL_isAdded_452 : decode cL_isAdded 452 = .ok (.iaload, 1) := by decide +kernel
theorem dL_isAdded_453 : decode cL_isAdded 453 = .ok (.if_icmp .ne 8, 3) := by decide +kernel
theorem dL_isAdded_456 : decode cL_isAdded 456 = .ok (.bipush (-30), 2) := by decide +kernel
theorem dL_isAdded_458 : decode cL_isAdded 458 = .ok (.goto 17, 3) := by decide +kernel
theorem dL_isAdded_461 : decode cL_isAdded 461 = .ok (.iload 15, 2) := by decide +kernel
theorem dL_isAdded_463 : decode cL_isAdded 463 = .ok (.ifCond .eq 10, 3) := by decide +kernel
theorem dL_isAdded_466 : decode cL_isAdded 466 = .ok (.aload_n 2, 1) := by decide +kernel
theorem dL_isAdded_467 : decode cL_isAdded 467 = .ok (.iload 10, 2) := by decide +kernel
theorem dL_isAdded_469 : decode cL_isAdded 469 = .ok (.iaload, 1) := by decide +kernel
theorem dL_isAdded_470 : decode cL_isAdded 470 = .ok (.goto 5, 3) := by decide +kernel
theorem dL_isAdded_473 : decode cL_isAdded 473 = .ok (.bipush (-10), 2) := by decide +kernel
theorem dL_isAdded_475 : decode cL_isAdded 475 = .ok (.istore 16, 2) := by decide +kernel
theorem dL_isAdded_477 : decode cL_isAdded 477 = .ok (.iload 16, 2) := by decide +kernel
theorem dL_isAdded_479 : decode cL_isAdded 479 = .ok (.ifCond .lt 69, 3) := by decide +kernel
theorem dL_isAdded_482 : decode cL_isAdded 482 = .ok (.aload_n 1, 1) := by decide +kernel
theorem dL_isAdded_483 : decode cL_isAdded 483 = .ok (.bipush 10, 2) := by decide +kernel
theorem dL_isAdded_485 : decode cL_isAdded 485 = .ok (.iload 10, 2) := by decide +kernel
theorem dL_isAdded_487 : decode cL_isAdded 487 = .ok (.imul, 1) := by decide +kernel
theorem dL_isAdded_488 : decode cL_isAdded 488 = .ok (.iload 16, 2) := by decide +kernel
theorem dL_isAdded_490 : decode cL_isAdded 490 = .ok (.iadd, 1) := by decide +kernel
theorem dL_isAdded_491 : decode cL_isAdded 491 = .ok (.sipush 1000, 3) := by decide +kernel
theorem dL_isAdded_494 : decode cL_isAdded 494 = .ok (.iload 13, 2) := by decide +kernel
theorem dL_isAdded_496 : decode cL_isAdded 496 = .ok (.sipush 1000, 3) := by decide +kernel
theorem dL_isAdded_499 : decode cL_isAdded 499 = .ok (.irem, 1) := by decide +kernel
theorem dL_isAdded_500 : decode cL_isAdded 500 = .ok (.sipush 1000, 3) := by decide +kernel
theorem dL_isAdded_503 : decode cL_isAdded 503 = .ok (.iadd, 1) := by decide +kernel
theorem dL_isAdded_504 : decode cL_isAdded 504 = .ok (.sipush 1000, 3) := by decide +kernel
theorem dL_isAdded_507 : decode cL_isAdded 507 = .ok (.irem, 1) := by decide +kernel
theorem dL_isAdded_508 : decode cL_isAdded 508 = .ok (.imul, 1) := by decide +kernel
theorem dL_isAdded_509 : decode cL_isAdded 509 = .ok (.iload 14, 2) := by decide +kernel
theorem dL_isAdded_511 : decode cL_isAdded 511 = .ok (.bipush 100, 2) := by decide +kernel
theorem dL_isAdded_513 : decode cL_isAdded 513 = .ok (.idiv, 1) := by decide +kernel
theorem dL_isAdded_514 : decode cL_isAdded 514 = .ok (.sipush 1000, 3) := by decide +kernel
theorem dL_isAdded_517 : decode cL_isAdded 517 = .ok (.irem, 1) := by decide +kernel
theorem dL_isAdded_518 : decode cL_isAdded 518 = .ok (.iadd, 1) := by decide +kernel
theorem dL_isAdded_519 : decode cL_isAdded 519 = .ok (.iastore, 1) := by decide +kernel
theorem dL_isAdded_520 : decode cL_isAdded 520 = .ok (.aload_n 2, 1) := by decide +kernel
theorem dL_isAdded_521 : decode cL_isAdded 521 = .ok (.iload 10, 2) := by decide +kernel
theorem dL_isAdded_523 : decode cL_isAdded 523 = .ok (.dup2, 1) := by decide +kernel
theorem dL_isAdded_524 : decode cL_isAdded 524 = .ok (.iaload, 1) := by decide +kernel
theorem dL_isAdded_525 : decode cL_isAdded 525 = .ok (.iconst 1, 1) := by decide +kernel
theorem dL_isAdded_526 : decode cL_isAdded 526 = .ok (.iadd, 1) := by decide +kernel
theorem dL_isAdded_527 : decode cL_isAdded 527 = .ok (.iastore, 1) := by decide +kernel
theorem dL_isAdded_528 : decode cL_isAdded 528 = .ok (.aload_n 3, 1) := by decide +kernel
theorem dL_isAdded_529 : decode cL_isAdded 529 = .ok (.iload 10, 2) := by decide +kernel
theorem dL_isAdded_531 : decode cL_isAdded 531 = .ok (.dup2, 1) := by decide +kernel
theorem dL_isAdded_532 : decode cL_isAdded 532 = .ok (.iaload, 1) := by decide +kernel
theorem dL_isAdded_533 : decode cL_isAdded 533 = .ok (.iconst 1, 1) := by decide +kernel
theorem dL_isAdded_534 : decode cL_isAdded 534 = .ok (.iload 16, 2) := by decide +kernel
theorem dL_isAdded_536 : decode cL_isAdded 536 = .ok (.ishl, 1) := by decide +kernel
theorem dL_isAdded_537 : decode cL_isAdded 537 = .ok (.ior, 1) := by decide +kernel
theorem dL_isAdded_538 : decode cL_isAdded 538 = .ok (.iastore, 1) := by decide +kernel
theorem dL_isAdded_539 : decode cL_isAdded 539 = .ok (.aload_n 3, 1) := by decide +kernel
theorem dL_isAdded_540 : decode cL_isAdded 540 = .ok (.bipush 6, 2) := by decide +kernel
theorem dL_isAdded_542 : decode cL_isAdded 542 = .ok (.iload 10, 2) := by decide +kernel
theorem dL_isAdded_544 : decode cL_isAdded 544 = .ok (.iadd, 1) := by decide +kernel
theorem dL_isAdded_545 : decode cL_isAdded 545 = .ok (.iload 11, 2) := by decide +kernel
theorem dL_isAdded_547 : decode cL_isAdded 547 = .ok (.iastore, 1) := by decide +kernel
theorem dL_isAdded_548 : decode cL_isAdded 548 = .ok (.aload_n 0, 1) := by decide +kernel
theorem dL_isAdded_549 : decode cL_isAdded 549 = .ok (.iconst 2, 1) := by decide +kernel
theorem dL_isAdded_550 : decode cL_isAdded 550 = .ok (.iload 10, 2) := by decide +kernel
theorem dL_isAdded_552 : decode cL_isAdded 552 = .ok (.iload 11, 2) := by decide +kernel
theorem dL_isAdded_554 : decode cL_isAdded 554 = .ok (.iconst 0, 1) := by decide +kernel
theorem dL_isAdded_555 : decode cL_isAdded 555 = .ok (.invokestatic 90, 3) := by decide +kernel
theorem dL_isAdded_558 : decode cL_isAdded 558 = .ok (.iload 16, 2) := by decide +kernel
theorem dL_isAdded_560 : decode cL_isAdded 560 = .ok (.if_icmp .ne 7, 3) := by decide +kernel
theorem dL_isAdded_563 : decode cL_isAdded 563 = .ok (.iconst 1, 1) := by decide +kernel
theorem dL_isAdded_564 : decode cL_isAdded 564 = .ok (.goto 4, 3) := by decide +kernel
theorem dL_isAdded_567 : decode cL_isAdded 567 = .ok (.iconst 0, 1) := by decide +kernel
theorem dL_isAdded_568 : decode cL_isAdded 568 = .ok (.ireturn, 1) := by decide +kernel
theorem dL_isPurged_0 : decode cL_isPurged 0 = .ok (.iload 5, 2) := by decide +kernel
theorem dL_isPurged_2 : decode cL_isPurged 2 = .ok (.aload_n 3, 1) := by decide +kernel
theorem dL_isPurged_3 : decode cL_isPurged 3 = .ok (.iconst 1, 1) := by decide +kernel
theorem dL_isPurged_4 : decode cL_isPurged 4 = .ok (.iaload, 1) := by decide +kernel
theorem dL_isPurged_5 : decode cL_isPurged 5 = .ok (.if_icmp .eq 15, 3) := by decide +kernel
theorem dL_isPurged_8 : decode cL_isPurged 8 = .ok (.aload_n 2, 1) := by decide +kernel
theorem dL_isPurged_9 : decode cL_isPurged 9 = .ok (.iload 5, 2) := by decide +kernel
theorem dL_isPurged_11 : decode cL_isPurged 11 = .ok (.iaload, 1) := by decide +kernel
theorem dL_isPurged_12 : decode cL_isPurged 12 = .ok (.iload 6, 2) := by decide +kernel
theorem dL_isPurged_14 : decode cL_isPurged 14 = .ok (.ishr, 1) := by decide +kernel
theorem dL_isPurged_15 : decode cL_isPurged 15 = .ok (.iconst 1, 1) := by decide +kernel
theorem dL_isPurged_16 : decode cL_isPurged 16 = .ok (.iand, 1) := by decide +kernel
theorem dL_isPurged_17 : decode cL_isPurged 17 = .ok (.ifCond .ne 24, 3) := by decide +kernel
theorem dL_isPurged_20 : decode cL_isPurged 20 = .ok (.aload_n 0, 1) := by decide +kernel
theorem dL_isPurged_21 : decode cL_isPurged 21 = .ok (.iconst 3, 1) := by decide +kernel
theorem dL_isPurged_22 : decode cL_isPurged 22 = .ok (.iload 5, 2) := by decide +kernel
theorem dL_isPurged_24 : decode cL_isPurged 24 = .ok (.iload 6, 2) := by decide +kernel
theorem dL_isPurged_26 : decode cL_isPurged 26 = .ok (.iconst 0, 1) := by decide +kernel
theorem dL_isPurged_27 : decode cL_isPurged 27 = .ok (.invokestatic 90, 3) := by decide +kernel
theorem dL_isPurged_30 : decode cL_isPurged 30 = .ok (.bipush (-30), 2) := by decide +kernel
theorem dL_isPurged_32 : decode cL_isPurged 32 = .ok (.if_icmp .ne 7, 3) := by decide +kernel
theorem dL_isPurged_35 : decode cL_isPurged 35 = .ok (.iconst 1, 1) := by decide +kernel
theorem dL_isPurged_36 : decode cL_isPurged 36 = .ok (.goto 4, 3) := by decide +kernel
theorem dL_isPurged_39 : decode cL_isPurged 39 = .ok (.iconst 0, 1) := by decide +kernel
theorem dL_isPurged_40 : decode cL_isPurged 40 = .ok (.ireturn, 1) := by decide +kernel
theorem dL_isPurged_41 : decode cL_isPurged 41 = .ok (.aload_n 0, 1) := by decide +kernel
theorem dL_isPurged_42 : decode cL_isPurged 42 = .ok (.invokevirtual 83, 3) := by decide +kernel
theorem dL_isPurged_45 : decode cL_isPurged 45 = .ok (.istore 7, 2) := by decide +kernel
theorem dL_isPurged_47 : decode cL_isPurged 47 = .ok (.aload_n 2, 1) := by decide +kernel
theorem dL_isPurged_48 : decode cL_isPurged 48 = .ok (.iload 5, 2) := by decide +kernel
theorem dL_isPurged_50 : decode cL_isPurged 50 = .ok (.iaload, 1) := by decide +kernel
theorem dL_isPurged_51 : decode cL_isPurged 51 = .ok (.invokestatic 80, 3) := by decide +kernel
theorem dL_isPurged_54 : decode cL_isPurged 54 = .ok (.iconst 1, 1) := by decide +kernel
theorem dL_isPurged_55 : decode cL_isPurged 55 = .ok (.if_icmp .le 7, 3) := by decide +kernel
theorem dL_isPurged_58 : decode cL_isPurged 58 = .ok (.iconst 1, 1) := by decide +kernel
theorem dL_isPurged_59 : decode cL_isPurged 59 = .ok (.goto 4, 3) := by decide +kernel
theorem dL_isPurged_62 : decode cL_isPurged 62 = .ok (.iconst 0, 1) := by decide +kernel
theorem dL_isPurged_63 : decode cL_isPurged 63 = .ok (.istore 8, 2) := by decide +kernel
theorem dL_isPurged_65 : decode cL_isPurged 65 = .ok (.aload_n 0, 1) := by decide +kernel
theorem dL_isPurged_66 : decode cL_isPurged 66 = .ok (.iconst 3, 1) := by decide +kernel
theorem dL_isPurged_67 : decode cL_isPurged 67 = .ok (.iload 5, 2) := by decide +kernel
theorem dL_isPurged_69 : decode cL_isPurged 69 = .ok (.iload 6, 2) := by decide +kernel
theorem dL_isPurged_71 : decode cL_isPurged 71 = .ok (.iconst 0, 1) := by decide +kernel
theorem dL_isPurged_72 : decode cL_isPurged 72 = .ok (.invokestatic 90, 3) := by decide +kernel
theorem dL_isPurged_75 : decode cL_isPurged 75 = .ok (.istore 9, 2) := by decide +kernel
theorem dL_isPurged_77 : decode cL_isPurged 77 = .ok (.iload 8, 2) := by decide +kernel
theorem dL_isPurged_79 : decode cL_isPurged 79 = .ok (.ifCond .ne 25, 3) := by decide +kernel
theorem dL_isPurged_82 : decode cL_isPurged 82 = .ok (.iload 9, 2) := by decide +kernel
theorem dL_isPurged_84 : decode cL_isPurged 84 = .ok (.bipush (-10), 2) := by decide +kernel
theorem dL_isPurged_86 : decode cL_isPurged 86 = .ok (.if_icmp .ne 16, 3) := by decide +kernel
theorem dL_isPurged_89 : decode cL_isPurged 89 = .ok (.aload_n 0, 1) := by decide +kernel
theorem dL_isPurged_90 : decode cL_isPurged 90 = .ok (.invokevirtual 83, 3) := by decide +kernel
theorem dL_isPurged_93 : decode cL_isPurged 93 = .ok (.iload 7, 2) := by decide +kernel
theorem dL_isPurged_95 : decode cL_isPurged 95 = .ok (.if_icmp .ne 7, 3) := by decide +kernel
theorem dL_isPurged_98 : decode cL_isPurged 98 = .ok (.iconst 1, 1) := by decide +kernel
theorem dL_isPurged_99 : decode cL_isPurged 99 = .ok (.goto 4, 3) := by decide +kernel
theorem dL_isPurged_102 : decode cL_isPurged 102 = .ok (.iconst 0, 1) := by decide +kernel
theorem dL_isPurged_103 : decode cL_isPurged 103 = .ok (.ireturn, 1) := by decide +kernel
theorem dL_isPurged_104 : decode cL_isPurged 104 = .ok (.aload_n 2, 1) := by decide +kernel
theorem dL_isPurged_105 : decode cL_isPurged 105 = .ok (.iload 5, 2) := by decide +kernel
theorem dL_isPurged_107 : decode cL_isPurged 107 = .ok (.dup2, 1) := by decide +kernel
theorem dL_isPurged_108 : decode cL_isPurged 108 = .ok (.iaload, 1) := by decide +kernel
theorem dL_isPurged_109 : decode cL_isPurged 109 = .ok (.iconst 1, 1) := by decide +kernel
theorem dL_isPurged_110 : decode cL_isPurged 110 = .ok (.iload 6, 2) := by decide +kernel
theorem dL_isPurged_112 : decode cL_isPurged 112 = .ok (.ishl, 1) := by decide +kernel
theorem dL_isPurged_113 : decode cL_isPurged 113 = .ok (.iconst (-1), 1) := by decide +kernel
theorem dL_isPurged_114 : decode cL_isPurged 114 = .ok (.ixor, 1) := by decide +kernel
theorem dL_isPurged_115 : decode cL_isPurged 115 = .ok (.iand, 1) := by decide +kernel
theorem dL_isPurged_116 : decode cL_isPurged 116 = .ok (.iastore, 1) := by decide +kernel
theorem dL_isPurged_117 : decode cL_isPurged 117 = .ok (.aload_n 2, 1) := by decide +kernel
theorem dL_isPurged_118 : decode cL_isPurged 118 = .ok (.bipush 6, 2) := by decide +kernel
theorem dL_isPurged_120 : decode cL_isPurged 120 = .ok (.iload 5, 2) := by decide +kernel
theorem dL_isPurged_122 : decode cL_isPurged 122 = .ok (.iadd, 1) := by decide +kernel
theorem dL_isPurged_123 : decode cL_isPurged 123 = .ok (.aload 4, 2) := by decide +kernel
theorem dL_isPurged_125 : decode cL_isPurged 125 = .ok (.bipush 10, 2) := by decide +kernel
theorem dL_isPurged_127 : decode cL_isPurged 127 = .ok (.iload 5, 2) := by decide +kernel
theorem dL_isPurged_129 : decode cL_isPurged 129 = .ok (.imul, 1) := by decide +kernel
theorem dL_isPurged_130 : decode cL_isPurged 130 = .ok (.aload_n 2, 1) := by decide +kernel
theorem dL_isPurged_131 : decode cL_isPurged 131 = .ok (.iload 5, 2) := by decide +kernel
theorem dL_isPurged_133 : decode cL_isPurged 133 = .ok (.iaload, 1) := by decide +kernel
theorem dL_isPurged_134 : decode cL_isPurged 134 = .ok (.invokestatic 101, 3) := by decide +kernel
theorem dL_isPurged_137 : decode cL_isPurged 137 = .ok (.iadd, 1) := by decide +kernel
theorem dL_isPurged_138 : decode cL_isPurged 138 = .ok (.iaload, 1) := by decide +kernel
theorem dL_isPurged_139 : decode cL_isPurged 139 = .ok (.iastore, 1) := by decide +kernel
theorem dL_isPurged_140 : decode cL_isPurged 140 = .ok (.iload 9, 2) := by decide +kernel
theorem dL_isPurged_142 : decode cL_isPurged 142 = .ok (.ifCond .lt 19, 3) := by decide +kernel
theorem dL_isPurged_145 : decode cL_isPurged 145 = .ok (.aload_n 0, 1) := by decide +kernel
theorem dL_isPurged_146 : decode cL_isPurged 146 = .ok (.invokevirtual 83, 3) := by decide +kernel
theorem dL_isPurged_149 : decode cL_isPurged 149 = .ok (.iload 7, 2) := by decide +kernel
theorem dL_isPurged_151 : decode cL_isPurged 151 = .ok (.iload 9, 2) := by decide +kernel
theorem dL_isPurged_153 : decode cL_isPurged 153 = .ok (.isub, 1) := by decide +kernel
theorem dL_isPurged_154 : decode cL_isPurged 154 = .ok (.if_icmp .ne 7, 3) := by decide +kernel
theorem dL_isPurged_157 : decode cL_isPurged 157 = .ok (.iconst 1, 1) := by decide +kernel
theorem dL_isPurged_158 : decode cL_isPurged 158 = .ok (.goto 4, 3) := by decide +kernel
theorem dL_isPurged_161 : decode cL_isPurged 161 = .ok (.iconst 0, 1) := by decide +kernel
theorem dL_isPurged_162 : decode cL_isPurged 162 = .ok (.ireturn, 1) := by decide +kernel
theorem dL_isCopy_0 : decode cL_isCopy 0 = .ok (.iload_n 2, 1) := by decide +kernel
theorem dL_isCopy_1 : decode cL_isCopy 1 = .ok (.ifCond .ne 247, 3) := by decide +kernel
theorem dL_isCopy_4 : decode cL_isCopy 4 = .ok (.iload_n 3, 1) := by decide +kernel
theorem dL_isCopy_5 : decode cL_isCopy 5 = .ok (.iconst 5, 1) := by decide +kernel
theorem dL_isCopy_6 : decode cL_isCopy 6 = .ok (.irem, 1) := by decide +kernel
theorem dL_isCopy_7 : decode cL_isCopy 7 = .ok (.istore 6, 2) := by decide +kernel
theorem dL_isCopy_9 : decode cL_isCopy 9 = .ok (.iload 4, 2) := by decide +kernel
theorem dL_isCopy_11 : decode cL_isCopy 11 = .ok (.bipush 20, 2) := by decide +kernel
theorem dL_isCopy_13 : decode cL_isCopy 13 = .ok (.irem, 1) := by decide +kernel
theorem dL_isCopy_14 : decode cL_isCopy 14 = .ok (.istore 7, 2) := by decide +kernel
theorem dL_isCopy_16 : decode cL_isCopy 16 = .ok (.iload 5, 2) := by decide +kernel
theorem dL_isCopy_18 : decode cL_isCopy 18 = .ok (.sipush 2003, 3) := by decide +kernel
theorem dL_isCopy_21 : decode cL_isCopy 21 = .ok (.irem, 1) := by decide +kernel
theorem dL_isCopy_22 : decode cL_isCopy 22 = .ok (.sipush 1001, 3) := by decide +kernel
theorem dL_isCopy_25 : decode cL_isCopy 25 = .ok (.isub, 1) := by decide +kernel
theorem dL_isCopy_26 : decode cL_isCopy 26 = .ok (.istore 8, 2) := by decide +kernel
theorem dL_isCopy_28 : decode cL_isCopy 28 = .ok (.iload 6, 2) := by decide +kernel
theorem dL_isCopy_30 : decode cL_isCopy 30 = .ok (.iconst 4, 1) := by decide +kernel
theorem dL_isCopy_31 : decode cL_isCopy 31 = .ok (.if_icmp .ge 28, 3) := by decide +kernel
theorem dL_isCopy_34 : decode cL_isCopy 34 = .ok (.iload 8, 2) := by decide +kernel
theorem dL_isCopy_36 : decode cL_isCopy 36 = .ok (.ifCond .eq 23, 3) := by decide +kernel
theorem dL_isCopy_39 : decode cL_isCopy 39 = .ok (.iload 8, 2) := by decide +kernel
theorem dL_isCopy_41 : decode cL_isCopy 41 = .ok (.sipush (-1001), 3) := by decide +kernel
theorem dL_isCopy_44 : decode cL_isCopy 44 = .ok (.if_icmp .le 15, 3) := by decide +kernel
theorem dL_isCopy_47 : decode cL_isCopy 47 = .ok (.iload 8, 2) := by decide +kernel
theorem dL_isCopy_49 : decode cL_isCopy 49 = .ok (.sipush 1001, 3) := by decide +kernel
theorem dL_isCopy_52 : decode cL_isCopy 52 = .ok (.if_icmp .ge 7, 3) := by decide +kernel
theorem dL_isCopy_55 : decode cL_isCopy 55 = .ok (.iconst 1, 1) := by decide +kernel
theorem dL_isCopy_56 : decode cL_isCopy 56 = .ok (.goto 4, 3) := by decide +kernel
theorem dL_isCopy_59 : decode cL_isCopy 59 = .ok (.iconst 0, 1) := by decide +kernel
theorem dL_isCopy_60 : decode cL_isCopy 60 = .ok (.istore 9, 2) := by decide +kernel
theorem dL_isCopy_62 : decode cL_isCopy 62 = .ok (.aload_n 0, 1) := by decide +kernel
theorem dL_isCopy_63 : decode cL_isCopy 63 = .ok (.iconst 0, 1) := by decide +kernel
theorem dL_isCopy_64 : decode cL_isCopy 64 = .ok (.iload 7, 2) := by decide +kernel
theorem dL_isCopy_66 : decode cL_isCopy 66 = .ok (.iconst 0, 1) := by decide +kernel
theorem dL_isCopy_67 : decode cL_isCopy 67 = .ok (.iconst 0, 1) := by decide +kernel
theorem dL_isCopy_68 : decode cL_isCopy 68 = .ok (.invokestatic 74, 3) := by decide +kernel
theorem dL_isCopy_71 : decode cL_isCopy 71 = .ok (.istore 10, 2) := by decide +kernel
theorem dL_isCopy_73 : decode cL_isCopy 73 = .ok (.iload 9, 2) := by decide +kernel
theorem dL_isCopy_75 : decode cL_isCopy 75 = .ok (.ifCond .eq 23, 3) := by decide +kernel
theorem dL_isCopy_78 : decode cL_isCopy 78 = .ok (.iload 10, 2) := by decide +kernel
theorem dL_isCopy_80 : decode cL_isCopy 80 = .ok (.ifCond .lt 18, 3) := by decide +kernel
theorem dL_isCopy_83 : decode cL_isCopy 83 = .ok (.iload 10, 2) := by decide +kernel
theorem dL_isCopy_85 : decode cL_isCopy 85 = .ok (.iload 6, 2) := by decide +kernel
theorem dL_isCopy_87 : decode cL_isCopy 87 = .ok (.ishr, 1) := by decide +kernel
theorem dL_isCopy_88 : decode cL_isCopy 88 = .ok (.iconst 1, 1) := by decide +kernel
theorem dL_isCopy_89 : decode cL_isCopy 89 = .ok (.iand, 1) := by decide +kernel
theorem dL_isCopy_90 : decode cL_isCopy 90 = .ok (.iconst 1, 1) := by decide +kernel
theorem dL_isCopy_91 : decode cL_isCopy 91 = .ok (.if_icmp .ne 7, 3) := by decide +kernel
theorem dL_isCopy_94 : decode cL_isCopy 94 = .ok (.iconst 1, 1) := by decide +kernel
theorem dL_isCopy_95 : decode cL_isCopy 95 = .ok (.goto 4, 3) := by decide +kernel
theorem dL_isCopy_98 : decode cL_isCopy 98 = .ok (.iconst 0, 1) := by decide +kernel
theorem dL_isCopy_99 : decode cL_isCopy 99 = .ok (.istore 11, 2) := by decide +kernel
theorem dL_isCopy_101 : decode cL_isCopy 101 = .ok (.iload 11, 2) := by decide +kernel
theorem dL_isCopy_103 : decode cL_isCopy 103 = .ok (.ifCond .eq 12, 3) := by decide +kernel
theorem dL_isCopy_106 : decode cL_isCopy 106 = .ok (.aload_n 0, 1) := by decide +kernel
theorem dL_isCopy_107 : decode cL_isCopy 107 = .ok (.iload 7, 2) := by decide +kernel
theorem dL_isCopy_109 : decode cL_isCopy 109 = .ok (.invokevirtual 61, 3) := by decide +kernel
theorem dL_isCopy_112 : decode cL_isCopy 112 = .ok (.goto 4, 3) := by decide +kernel
theorem dL_isCopy_115 : decode cL_isCopy 115 = .ok (.iconst 0, 1) := by decide +kernel
theorem dL_isCopy_116 : decode cL_isCopy 116 = .ok (.istore 12, 2) := by decide +kernel
theorem dL_isCopy_118 : decode cL_isCopy 118 = .ok (.aload_n 0, 1) := by decide +kernel
theorem dL_isCopy_119 : decode cL_isCopy 119 = .ok (.iconst 2, 1) := by decide +kernel
theorem dL_isCopy_120 : decode cL_isCopy 120 = .ok (.iload 6, 2) := by decide +kernel
theorem dL_isCopy_122 : decode cL_isCopy 122 = .ok (.iload 7, 2) := by decide +kernel
theorem dL_isCopy_124 : decode cL_isCopy 124 = .ok (.iload 8, 2) := by decide +kernel
theorem dL_isCopy_126 : decode cL_isCopy 126 = .ok (.invokestatic 74, 3) := by decide +kernel
theorem dL_isCopy_129 : decode cL_isCopy 129 = .ok (.istore 13, 2) := by decide +kernel
theorem dL_isCopy_131 : decode cL_isCopy 131 = .ok (.aload_n 1, 1) := by decide +kernel
theorem dL_isCopy_132 : decode cL_isCopy 132 = .ok (.iconst 3, 1) := by decide +kernel
theorem dL_isCopy_133 : decode cL_isCopy 133 = .ok (.iload 11, 2) := by decide +kernel
theorem dL_isCopy_135 : decode cL_isCopy 135 = .ok (.ifCond .eq 7, 3) := by decide +kernel
theorem dL_isCopy_138 : decode cL_isCopy 138 = .ok (.iconst 1, 1) := by decide +kernel
theorem dL_isCopy_139 : decode cL_isCopy 139 = .ok (.goto 6, 3) := by decide +kernel
theorem dL_isCopy_142 : decode cL_isCopy 142 = .ok (.aload_n 1, 1) := by decide +kernel
theorem dL_isCopy_143 : decode cL_isCopy 143 = .ok (.iconst 3, 1) := by decide +kernel
theorem dL_isCopy_144 : decode cL_isCopy 144 = .ok (.iaload, 1) := by decide +kernel
theorem dL_isCopy_145 : decode cL_isCopy 145 = .ok (.iastore, 1) := by decide +kernel
theorem dL_isCopy_146 : decode cL_isCopy 146 = .ok (.iload 9, 2) := by decide +kernel
theorem dL_isCopy_148 : decode cL_isCopy 148 = .ok (.ifCond .ne 18, 3) := by decide +kernel
theorem dL_isCopy_151 : decode cL_isCopy 151 = .ok (.iload 13, 2) := by decide +kernel
theorem dL_isCopy_153 : decode cL_isCopy 153 = .ok (.bipush (-20), 2) := by decide +kernel
theorem dL_isCopy_155 : decode cL_isCopy 155 = .ok (.if_icmp .ne 7, 3) := by decide +kernel
theorem dL_isCopy_158 : decode cL_isCopy 158 = .ok (.iconst 1, 1) := by decide +kernel
theorem dL_isCopy_159 : decode cL_isCopy 159 = .ok (.goto 88, 3) := by decide +kernel
theorem dL_isCopy_162 : decode cL_isCopy 162 = .ok (.iconst 0, 1) := by decide +kernel
theorem dL_isCopy_163 : decode cL_isCopy 163 = .ok (.goto 84, 3) := by decide +kernel
theorem dL_isCopy_166 : decode cL_isCopy 166 = .ok (.iload 11, 2) := by decide +kernel
theorem dL_isCopy_168 : decode cL_isCopy 168 = .ok (.ifCond .ne 18, 3) := by decide +kernel
theorem dL_isCopy_171 : decode cL_isCopy 171 = .ok (.iload 13, 2) := by decide +kernel
theorem dL_isCopy_173 : decode cL_isCopy 173 = .ok (.bipush (-30), 2) := by decide +kernel
theorem dL_isCopy_175 : decode cL_isCopy 175 = .ok (.if_icmp .ne 7, 3) := by decide +kernel
theorem dL_isCopy_178 : decode cL_isCopy 178 = .ok (.iconst 1, 1) := by decide +kernel
theorem dL_isCopy_179 : decode cL_isCopy 179 = .ok (.goto 68, 3) := by decide +kernel
theorem dL_isCopy_182 : decode cL_isCopy 182 = .ok (.iconst 0, 1) := by decide +kernel
theorem dL_isCopy_183 : decode cL_isCopy 183 = .ok (.goto 64, 3) := by decide +kernel
theorem dL_isCopy_186 : decode cL_isCopy 186 = .ok (.iload 13, 2) := by decide +kernel
theorem dL_isCopy_188 : decode cL_isCopy 188 = .ok (.ifCond .lt 58, 3) := by decide +kernel
theorem dL_isCopy_191 : decode cL_isCopy 191 = .ok (.aload_n 0, 1) := by decide +kernel
theorem dL_isCopy_192 : decode cL_isCopy 192 = .ok (.iload 7, 2) := by decide +kernel
theorem dL_isCopy_194 : decode cL_isCopy 194 = .ok (.invokevirtual 61, 3) := by decide +kernel
theorem dL_isCopy_197 : decode cL_isCopy 197 = .ok (.iload 12, 2) := by decide +kernel
theorem dL_isCopy_199 : decode cL_isCopy 199 = .ok (.iconst 1, 1) := by decide +kernel
theorem dL_isCopy_200 : decode cL_isCopy 200 = .ok (.isub, 1) := by decide +kernel
theorem dL_isCopy_201 : decode cL_isCopy 201 = .ok (.if_icmp .lt 45, 3) := by decide +kernel
theorem dL_isCopy_204 : decode cL_isCopy 204 = .ok (.aload_n 0, 1) := by decide +kernel
theorem dL_isCopy_205 : decode cL_isCopy 205 = .ok (.iload 7, 2) := by decide +kernel
theorem dL_isCopy_207 : decode cL_isCopy 207 = .ok (.invokevirtual 61, 3) := by decide +kernel
theorem dL_isCopy_210 : decode cL_isCopy 210 = .ok (.iload 12, 2) := by decide +kernel
theorem dL_isCopy_212 : decode cL_isCopy 212 = .ok (.iconst 1, 1) := by decide +kernel
theorem dL_isCopy_213 : decode cL_isCopy 213 = .ok (.iadd, 1) := by decide +kernel
theorem dL_isCopy_214 : decode cL_isCopy 214 = .ok (.if_icmp .gt 32, 3) := by decide +kernel
theorem dL_isCopy_217 : decode cL_isCopy 217 = .ok (.iload 13, 2) := by decide +kernel
theorem dL_isCopy_219 : decode cL_isCopy 219 = .ok (.ifCond .eq 12, 3) := by decide +kernel
theorem dL_isCopy_222 : decode cL_isCopy 222 = .ok (.aload_n 0, 1) := by decide +kernel
theorem dL_isCopy_223 : decode cL_isCopy 223 = .ok (.iload 7, 2) := by decide +kernel
theorem dL_isCopy_225 : decode cL_isCopy 225 = .ok (.invokevirtual 61, 3) := by decide +kernel
theorem dL_isCopy_228 : decode cL_isCopy 228 = .ok (.ifCond .le 18, 3) := by decide +kernel
theorem dL_isCopy_231 : decode cL_isCopy 231 = .ok (.aload_n 0, 1) := by decide +kernel
theorem dL_isCopy_232 : decode cL_isCopy 232 = .ok (.iload 7, 2) := by decide +kernel
theorem dL_isCopy_234 : decode cL_isCopy 234 = .ok (.invokevirtual 58, 3) := by decide +kernel
theorem dL_isCopy_237 : decode cL_isCopy 237 = .ok (.iload 10, 2) := by decide +kernel
theorem dL_isCopy_239 : decode cL_isCopy 239 = .ok (.if_icmp .ne 7, 3) := by decide +kernel
theorem dL_isCopy_242 : decode cL_isCopy 242 = .ok (.iconst 1, 1) := by decide +kernel
theorem dL_isCopy_243 : decode cL_isCopy 243 = .ok (.goto 4, 3) := by decide +kernel
theorem dL_isCopy_246 : decode cL_isCopy 246 = .ok (.iconst 0, 1) := by decide +kernel
theorem dL_isCopy_247 : decode cL_isCopy 247 = .ok (.ireturn, 1) := by decide +kernel
theorem dL_isCopy_248 : decode cL_isCopy 248 = .ok (.iload_n 2, 1) := by decide +kernel
theorem dL_isCopy_249 : decode cL_isCopy 249 = .ok (.iconst 1, 1) := by decide +kernel
theorem dL_isCopy_250 : decode cL_isCopy 250 = .ok (.if_icmp .ne 127, 3) := by decide +kernel
theorem dL_isCopy_253 : decode cL_isCopy 253 = .ok (.iload_n 3, 1) := by decide +kernel
theorem dL_isCopy_254 : decode cL_isCopy 254 = .ok (.iconst 5, 1) := by decide +kernel
theorem dL_isCopy_255 : decode cL_isCopy 255 = .ok (.irem, 1) := by decide +kernel
theorem dL_isCopy_256 : decode cL_isCopy 256 = .ok (.istore 6, 2) := by decide +kernel
theorem dL_isCopy_258 : decode cL_isCopy 258 = .ok (.iconst 0, 1) := by decide +kernel
theorem dL_isCopy_259 : decode cL_isCopy 259 = .ok (.istore 7, 2) := by decide +kernel
theorem dL_isCopy_261 : decode cL_isCopy 261 = .ok (.iconst 0, 1) := by decide +kernel
theorem dL_isCopy_262 : decode cL_isCopy 262 = .ok (.istore 8, 2) := by decide +kernel
theorem dL_isCopy_264 : decode cL_isCopy 264 = .ok (.iload 8, 2) := by decide +kernel
theorem dL_isCopy_266 : decode cL_isCopy 266 = .ok (.bipush 64, 2) := by decide +kernel
theorem dL_isCopy_268 : decode cL_isCopy 268 = .ok (.if_icmp .ge 47, 3) := by decide +kernel
theorem dL_isCopy_271 : decode cL_isCopy 271 = .ok (.aload_n 0, 1) := by decide +kernel
theorem dL_isCopy_272 : decode cL_isCopy 272 = .ok (.iconst 0, 1) := by decide +kernel
theorem dL_isCopy_273 : decode cL_isCopy 273 = .ok (.iload 8, 2) := by decide +kernel
theorem dL_isCopy_275 : decode cL_isCopy 275 = .ok (.iconst 0, 1) := by decide +kernel
theorem dL_isCopy_276 : decode cL_isCopy 276 = .ok (.iconst 0, 1) := by decide +kernel
theorem dL_isCopy_277 : decode cL_isCopy 277 = .ok (.invokestatic 74, 3) := by decide +kernel
theorem dL_isCopy_280 : decode cL_isCopy 280 = .ok (.istore 9, 2) := by decide +kernel
theorem dL_isCopy_282 : decode cL_isCopy 282 = .ok (.iload 7, 2) := by decide +kernel
theorem dL_isCopy_284 : decode cL_isCopy 284 = .ok (.iload 6, 2) := by decide +kernel
theorem dL_isCopy_286 : decode cL_isCopy 286 = .ok (.iconst 4, 1) := by decide +kernel
theorem dL_isCopy_287 : decode cL_isCopy 287 = .ok (.if_icmp .ge 18, 3) := by decide +kernel
theorem dL_isCopy_290 : decode cL_isCopy 290 = .ok (.iload 9, 2) := by decide +kernel
theorem dL_isCopy_292 : decode cL_isCopy 292 = .ok (.ifCond .lt 13, 3) := by decide +kernel
theorem dL_isCopy_295 : decode cL_isCopy 295 = .ok (.iload 9, 2) := by decide +kernel
theorem dL_isCopy_297 : decode cL_isCopy 297 = .ok (.iload 6, 2) := by decide +kernel
theorem dL_isCopy_299 : decode cL_isCopy 299 = .ok (.ishr, 1) := by decide +kernel
theorem dL_isCopy_300 : decode cL_isCopy 300 = .ok (.iconst 1, 1) := by decide +kernel
theorem dL_isCopy_301 : decode cL_isCopy 301 = .ok (.iand, 1) := by decide +kernel
theorem dL_isCopy_302 : decode cL_isCopy 302 = .ok (.goto 4, 3) := by decide +kernel
theorem dL_isCopy_305 : decode cL_isCopy 305 = .ok (.iconst 0, 1) := by decide +kernel
theorem dL_isCopy_306 : decode cL_isCopy 306 = .ok (.iadd, 1) := by decide +kernel
theorem dL_isCopy_307 : decode cL_isCopy 307 = .ok (.istore 7, 2) := by decide +kernel
theorem dL_isCopy_309 : decode cL_isCopy 309 = .ok (.iinc 8 1, 3) := by decide +kernel
theorem dL_isCopy_312 : decode cL_isCopy 312 = .ok (.goto (-48), 3) := by decide +kernel
theorem dL_isCopy_315 : decode cL_isCopy 315 = .ok (.aload_n 0, 1) := by decide +kernel
theorem dL_isCopy_316 : decode cL_isCopy 316 = .ok (.iconst 3, 1) := by decide +kernel
theorem dL_isCopy_317 : decode cL_isCopy 317 = .ok (.iload 6, 2) := by decide +kernel
theorem dL_isCopy_319 : decode cL_isCopy 319 = .ok (.iconst 0, 1) := by decide +kernel
theorem dL_isCopy_320 : decode cL_isCopy 320 = .ok (.iconst 0, 1) := by decide +kernel
theorem dL_isCopy_321 : decode cL_isCopy 321 = .ok (.invokestatic 74, 3) := by decide +kernel
theorem dL_isCopy_324 : decode cL_isCopy 324 = .ok (.istore 8, 2) := by decide +kernel
theorem dL_isCopy_326 : decode cL_isCopy 326 = .ok (.aload_n 1, 1) := by decide +kernel
theorem dL_isCopy_327 : decode cL_isCopy 327 = .ok (.iconst 2, 1) := by decide +kernel
theorem dL_isCopy_328 : decode cL_isCopy 328 = .ok (.iload 6, 2) := by decide +kernel
theorem dL_isCopy_330 : decode cL_isCopy 330 = .ok (.iconst 3, 1) := by decide +kernel
theorem dL_isCopy_331 : decode cL_isCopy 331 = .ok (.if_icmp .le 9, 3) := by decide +kernel
theorem dL_isCopy_334 : decode cL_isCopy 334 = .ok (.aload_n 1, 1) := by decide +kernel
theorem dL_isCopy_335 : decode cL_isCopy 335 = .ok (.iconst 2, 1) := by decide +kernel
theorem dL_isCopy_336 : decode cL_isCopy 336 = .ok (.iaload, 1) := by decide +kernel
theorem dL_isCopy_337 : decode cL_isCopy 337 = .ok (.goto 11, 3) := by decide +kernel
theorem dL_isCopy_340 : decode cL_isCopy 340 = .ok (.aload_n 1, 1) := by decide +kernel
theorem dL_isCopy_341 : decode cL_isCopy 341 = .ok (.iconst 2, 1) := by decide +kernel
theorem dL_isCopy_342 : decode cL_isCopy 342 = .ok (.iaload, 1) := by decide +kernel
theorem dL_isCopy_343 : decode cL_isCopy 343 = .ok (.iconst 1, 1) := by decide +kernel
theorem dL_isCopy_344 : decode cL_isCopy 344 = .ok (.iload 6, 2) := by decide +kernel
theorem dL_isCopy_346 : decode cL_isCopy 346 = .ok (.ishl, 1) := by decide +kernel
theorem dL_isCopy_347 : decode cL_isCopy 347 = .ok (.ixor, 1) := by decide +kernel
theorem dL_isCopy_348 : decode cL_isCopy 348 = .ok (.iastore, 1) := by decide +kernel
theorem dL_isCopy_349 : decode cL_isCopy 349 = .ok (.aload_n 1, 1) := by decide +kernel
theorem dL_isCopy_350 : decode cL_isCopy 350 = .ok (.iconst 4, 1) := by decide +kernel
theorem dL_isCopy_351 : decode cL_isCopy 351 = .ok (.iconst 1, 1) := by decide +kernel
theorem dL_isCopy_352 : decode cL_isCopy 352 = .ok (.iastore, 1) := by decide +kernel
theorem dL_isCopy_353 : decode cL_isCopy 353 = .ok (.iload 8, 2) := by decide +kernel
theorem dL_isCopy_355 : decode cL_isCopy 355 = .ok (.iload 6, 2) := by decide +kernel
theorem dL_isCopy_357 : decode cL_isCopy 357 = .ok (.iconst 3, 1) := by decide +kernel
theorem dL_isCopy_358 : decode cL_isCopy 358 = .ok (.if_icmp .le 8, 3) := by decide +kernel
theorem dL_isCopy_361 : decode cL_isCopy 361 = .ok (.bipush (-20), 2) := by decide +kernel
theorem dL_isCopy_363 : decode cL_isCopy 363 = .ok (.goto 5, 3) := by decide +kernel
theorem dL_isCopy_366 : decode cL_isCopy 366 = .ok (.iload 7, 2) := by decide +kernel
theorem dL_isCopy_368 : decode cL_isCopy 368 = .ok (.if_icmp .ne 7, 3) := by decide +kernel
theorem dL_isCopy_371 : decode cL_isCopy 371 = .ok (.iconst 1, 1) := by decide +kernel
theorem dL_isCopy_372 : decode cL_isCopy 372 = .ok (.goto 4, 3) := by decide +kernel
theorem dL_isCopy_375 : decode cL_isCopy 375 = .ok (.iconst 0, 1) := by decide +kernel
theorem dL_isCopy_376 : decode cL_isCopy 376 = .ok (.ireturn, 1) := by decide +kernel
theorem dL_isCopy_377 : decode cL_isCopy 377 = .ok (.iload_n 2, 1) := by decide +kernel
theorem dL_isCopy_378 : decode cL_isCopy 378 = .ok (.iconst 2, 1) := by decide +kernel
theorem dL_isCopy_379 : decode cL_isCopy 379 = .ok (.if_icmp .ne 86, 3) := by decide +kernel
theorem dL_isCopy_382 : decode cL_isCopy 382 = .ok (.iload 4, 2) := by decide +kernel
theorem dL_isCopy_384 : decode cL_isCopy 384 = .ok (.bipush 102, 2) := by decide +kernel
theorem dL_isCopy_386 : decode cL_isCopy 386 = .ok (.irem, 1) := by decide +kernel
theorem dL_isCopy_387 : decode cL_isCopy 387 = .ok (.istore 6, 2) := by decide +kernel
theorem dL_isCopy_389 : decode cL_isCopy 389 = .ok (.aload_n 0, 1) := by decide +kernel
theorem dL_isCopy_390 : decode cL_isCopy 390 = .ok (.iconst 4, 1) := by decide +kernel
theorem dL_isCopy_391 : decode cL_isCopy 391 = .ok (.iload 6, 2) := by decide +kernel
theorem dL_isCopy_393 : decode cL_isCopy 393 = .ok (.iconst 0, 1) := by decide +kernel
theorem dL_isCopy_394 : decode cL_isCopy 394 = .ok (.iconst 0, 1) := by decide +kernel
theorem dL_isCopy_395 : decode cL_isCopy 395 = .ok (.invokestatic 74, 3) := by decide +kernel
theorem dL_isCopy_398 : decode cL_isCopy 398 = .ok (.istore 7, 2) := by decide +kernel
theorem dL_isCopy_400 : decode cL_isCopy 400 = .ok (.iload 6, 2) := by decide +kernel
theorem dL_isCopy_402 : decode cL_isCopy 402 = .ok (.iconst 1, 1) := by decide +kernel
theorem dL_isCopy_403 : decode cL_isCopy 403 = .ok (.if_icmp .lt 10, 3) := by decide +kernel
theorem dL_isCopy_406 : decode cL_isCopy 406 = .ok (.iload 6, 2) := by decide +kernel
theorem dL_isCopy_408 : decode cL_isCopy 408 = .ok (.bipush 100, 2) := by decide +kernel
theorem dL_isCopy_410 : decode cL_isCopy 410 = .ok (.if_icmp .le 18, 3) := by decide +kernel
theorem dL_isCopy_413 : decode cL_isCopy 413 = .ok (.iload 7, 2) := by decide +kernel
theorem dL_isCopy_415 : decode cL_isCopy 415 = .ok (.bipush (-20), 2) := by decide +kernel
theorem dL_isCopy_417 : decode cL_isCopy 417 = .ok (.if_icmp .ne 7, 3) := by decide +kernel
theorem dL_isCopy_420 : decode cL_isCopy 420 = .ok (.iconst 1, 1) := by decide +kernel
theorem dL_isCopy_421 : decode cL_isCopy 421 = .ok (.goto 43, 3) := by decide +kernel
theorem dL_isCopy_424 : decode cL_isCopy 424 = .ok (.iconst 0, 1) := by decide +kernel
theorem dL_isCopy_425 : decode cL_isCopy 425 = .ok (.goto 39, 3) := by decide +kernel
theorem dL_isCopy_428 : decode cL_isCopy 428 = .ok (.iload 7, 2) := by decide +kernel
theorem dL_isCopy_430 : decode cL_isCopy 430 = .ok (.bipush (-10), 2) := by decide +kernel
theorem dL_isCopy_432 : decode cL_isCopy 432 = .ok (.if_icmp .eq 27, 3) := by decide +kernel
theorem dL_isCopy_435 : decode cL_isCopy 435 = .ok (.iload 7, 2) := by decide +kernel
theorem dL_isCopy_437 : decode cL_isCopy 437 = .ok (.ifCond .lt 26, 3) := by decide +kernel
theorem dL_isCopy_440 : decode cL_isCopy 440 = .ok (.iload 7, 2) := by decide +kernel
theorem dL_isCopy_442 : decode cL_isCopy 442 = .ok (.iload 6, 2) := by decide +kernel
theorem dL_isCopy_444 : decode cL_isCopy 444 = .ok (.if_icmp .gt 19, 3) := by decide +kernel
theorem dL_isCopy_447 : decode cL_isCopy 447 = .ok (.aload_n 1, 1) := by decide +kernel
theorem dL_isCopy_448 : decode cL_isCopy 448 = .ok (.iconst 3, 1) := by decide +kernel
theorem dL_isCopy_449 : decode cL_isCopy 449 = .ok (.iaload, 1) := by decide +kernel
theorem dL_isCopy_450 : decode cL_isCopy 450 = .ok (.iconst 1, 1) := by decide +kernel
theorem dL_isCopy_451 : decode cL_isCopy 451 = .ok (.if_icmp .eq 8, 3) := by decide +kernel
theorem dL_isCopy_454 : decode cL_isCopy 454 = .ok (.iload 7, 2) := by decide +kernel
theorem dL_isCopy_456 : decode cL_isCopy 456 = .ok (.ifCond .ne 7, 3) := by decide +kernel
theorem dL_isCopy_459 : decode cL_isCopy 459 = .ok (.iconst 1, 1) := by decide +kernel
theorem dL_isCopy_460 : decode cL_isCopy 460 = .ok (.goto 4, 3) := by decide +kernel
theorem dL_isCopy_463 : decode cL_isCopy 463 = .ok (.iconst 0, 1) := by decide +kernel
theorem dL_isCopy_464 : decode cL_isCopy 464 = .ok (.ireturn, 1) := by decide +kernel
theorem dL_isCopy_465 : decode cL_isCopy 465 = .ok (.aload_n 0, 1) := by decide +kernel
theorem dL_isCopy_466 : decode cL_isCopy 466 = .ok (.invokevirtual 87, 3) := by decide +kernel
theorem dL_isCopy_469 : decode cL_isCopy 469 = .ok (.istore 6, 2) := by decide +kernel
theorem dL_isCopy_471 : decode cL_isCopy 471 = .ok (.aload_n 0, 1) := by decide +kernel
theorem dL_isCopy_472 : decode cL_isCopy 472 = .ok (.invokevirtual 105, 3) := by decide +kernel
theorem dL_isCopy_475 : decode cL_isCopy 475 = .ok (.istore 7, 2) := by decide +kernel
theorem dL_isCopy_477 : decode cL_isCopy 477 = .ok (.iload 7, 2) := by decide +kernel
theorem dL_isCopy_479 : decode cL_isCopy 479 = .ok (.ifCond .lt 26, 3) := by decide +kernel
theorem dL_isCopy_482 : decode cL_isCopy 482 = .ok (.aload_n 0, 1) := by decide +kernel
theorem dL_isCopy_483 : decode cL_isCopy 483 = .ok (.invokevirtual 87, 3) := by decide +kernel
theorem dL_isCopy_486 : decode cL_isCopy 486 = .ok (.iload 6, 2) := by decide +kernel
theorem dL_isCopy_488 : decode cL_isCopy 488 = .ok (.iload 7, 2) := by decide +kernel
theorem dL_isCopy_490 : decode cL_isCopy 490 = .ok (.isub, 1) := by decide +kernel
theorem dL_isCopy_491 : decode cL_isCopy 491 = .ok (.if_icmp .ne 14, 3) := by decide +kernel
theorem dL_isCopy_494 : decode cL_isCopy 494 = .ok (.aload_n 0, 1) := by decide +kernel
theorem dL_isCopy_495 : decode cL_isCopy 495 = .ok (.invokevirtual 105, 3) := by decide +kernel
theorem dL_isCopy_498 : decode cL_isCopy 498 = .ok (.ifCond .ne 7, 3) := by decide +kernel
theorem dL_isCopy_501 : decode cL_isCopy 501 = .ok (.iconst 1, 1) := by decide +kernel
theorem dL_isCopy_502 : decode cL_isCopy 502 = .ok (.goto 4, 3) := by decide +kernel
theorem dL_isCopy_505 : decode cL_isCopy 505 = .ok (.iconst 0, 1) := by decide +kernel
theorem dL_isCopy_506 : decode cL_isCopy 506 = .ok (.ireturn, 1) := by decide +kernel
theorem dL_isDone_0 : decode cL_isDone 0 = .ok (.aload_n 1, 1) := by decide +kernel
theorem dL_isDone_1 : decode cL_isDone 1 = .ok (.iload_n 2, 1) := by decide +kernel
theorem dL_isDone_2 : decode cL_isDone 2 = .ok (.bipush 30, 2) := by decide +kernel
theorem dL_isDone_4 : decode cL_isDone 4 = .ok (.invokestatic 108, 3) := by decide +kernel
theorem dL_isDone_7 : decode cL_isDone 7 = .ok (.istore 8, 2) := by decide +kernel
theorem dL_isDone_9 : decode cL_isDone 9 = .ok (.aload_n 1, 1) := by decide +kernel
theorem dL_isDone_10 : decode cL_isDone 10 = .ok (.iload_n 2, 1) := by decide +kernel
theorem dL_isDone_11 : decode cL_isDone 11 = .ok (.iconst 1, 1) := by decide +kernel
theorem dL_isDone_12 : decode cL_isDone 12 = .ok (.iadd, 1) := by decide +kernel
theorem dL_isDone_13 : decode cL_isDone 13 = .ok (.sipush 6000, 3) := by decide +kernel
theorem dL_isDone_16 : decode cL_isDone 16 = .ok (.invokestatic 108, 3) := by decide +kernel
theorem dL_isDone_19 : decode cL_isDone 19 = .ok (.istore 9, 2) := by decide +kernel
theorem dL_isDone_21 : decode cL_isDone 21 = .ok (.aload_n 1, 1) := by decide +kernel
theorem dL_isDone_22 : decode cL_isDone 22 = .ok (.iload_n 2, 1) := by decide +kernel
theorem dL_isDone_23 : decode cL_isDone 23 = .ok (.iconst 2, 1) := by decide +kernel
theorem dL_isDone_24 : decode cL_isDone 24 = .ok (.iadd, 1) := by decide +kernel
theorem dL_isDone_25 : decode cL_isDone 25 = .ok (.sipush 7000, 3) := by decide +kernel
theorem dL_isDone_28 : decode cL_isDone 28 = .ok (.invokestatic 108, 3) := by decide +kernel
theorem dL_isDone_31 : decode cL_isDone 31 = .ok (.istore 10, 2) := by decide +kernel
theorem dL_isDone_33 : decode cL_isDone 33 = .ok (.aload_n 1, 1) := by decide +kernel
theorem dL_isDone_34 : decode cL_isDone 34 = .ok (.iload_n 2, 1) := by decide +kernel
theorem dL_isDone_35 : decode cL_isDone 35 = .ok (.iconst 3, 1) := by decide +kernel
theorem dL_isDone_36 : decode cL_isDone 36 = .ok (.iadd, 1) := by decide +kernel
theorem dL_isDone_37 : decode cL_isDone 37 = .ok (.sipush 8000, 3) := by decide +kernel
theorem dL_isDone_40 : decode cL_isDone 40 = .ok (.invokestatic 108, 3) := by decide +kernel
theorem dL_isDone_43 : decode cL_isDone 43 = .ok (.istore 11, 2) := by decide +kernel
theorem dL_isDone_45 : decode cL_isDone 45 = .ok (.iload 8, 2) := by decide +kernel
theorem dL_isDone_47 : decode cL_isDone 47 = .ok (.bipush 6, 2) := by decide +kernel
theorem dL_isDone_49 : decode cL_isDone 49 = .ok (.if_icmp .lt 10, 3) := by decide +kernel
theorem dL_isDone_52 : decode cL_isDone 52 = .ok (.aload 6, 2) := by decide +kernel
theorem dL_isDone_54 : decode cL_isDone 54 = .ok (.iconst 0, 1) := by decide +kernel
theorem dL_isDone_55 : decode cL_isDone 55 = .ok (.iaload, 1) := by decide +kernel
theorem dL_isDone_56 : decode cL_isDone 56 = .ok (.ifCond .ne 46, 3) := by decide +kernel
theorem dL_isDone_59 : decode cL_isDone 59 = .ok (.aload_n 0, 1) := by decide +kernel
theorem dL_isDone_60 : decode cL_isDone 60 = .ok (.aload 4, 2) := by decide +kernel
theorem dL_isDone_62 : decode cL_isDone 62 = .ok (.aload 6, 2) := by decide +kernel
theorem dL_isDone_64 : decode cL_isDone 64 = .ok (.aload 6, 2) := by decide +kernel
theorem dL_isDone_66 : decode cL_isDone 66 = .ok (.iconst 0, 1) := by decide +kernel
theorem dL_isDone_67 : decode cL_isDone 67 = .ok (.iaload, 1) := by decide +kernel
theorem dL_isDone_68 : decode cL_isDone 68 = .ok (.ifCond .eq 9, 3) := by decide +kernel
theorem dL_isDone_71 : decode cL_isDone 71 = .ok (.iload 8, 2) := by decide +kernel
theorem dL_isDone_73 : decode cL_isDone 73 = .ok (.iconst 2, 1) := by decide +kernel
theorem dL_isDone_74 : decode cL_isDone 74 = .ok (.if_icmp .ge 7, 3) := by decide +kernel
theorem dL_isDone_77 : decode cL_isDone 77 = .ok (.iconst 0, 1) := by decide +kernel
theorem dL_isDone_78 : decode cL_isDone 78 = .ok (.goto 14, 3) := by decide +kernel
theorem dL_isDone_81 : decode cL_isDone 81 = .ok (.iload 8, 2) := by decide +kernel
theorem dL_isDone_83 : decode cL_isDone 83 = .ok (.iconst 2, 1) := by decide +kernel
theorem dL_isDone_84 : decode cL_isDone 84 = .ok (.if_icmp .ne 7, 3) := by decide +kernel
theorem dL_isDone_87 : decode cL_isDone 87 = .ok (.iconst 1, 1) := by decide +kernel
theorem dL_isDone_88 : decode cL_isDone 88 = .ok (.goto 4, 3) := by decide +kernel
theorem dL_isDone_91 : decode cL_isDone 91 = .ok (.iconst 2, 1) := by decide +kernel
theorem dL_isDone_92 : decode cL_isDone 92 = .ok (.iload 9, 2) := by decide +kernel
theorem dL_isDone_94 : decode cL_isDone 94 = .ok (.iload 10, 2) := by decide +kernel
theorem dL_isDone_96 : decode cL_isDone 96 = .ok (.iload 11, 2) := by decide +kernel
theorem dL_isDone_98 : decode cL_isDone 98 = .ok (.invokestatic 112, 3) := by decide +kernel
theorem dL_isDone_101 : decode cL_isDone 101 = .ok (.ireturn, 1) := by decide +kernel
theorem dL_isDone_102 : decode cL_isDone 102 = .ok (.iload 8, 2) := by decide +kernel
theorem dL_isDone_104 : decode cL_isDone 104 = .ok (.bipush 18, 2) := by decide +kernel
theorem dL_isDone_106 : decode cL_isDone 106 = .ok (.if_icmp .ge 128, 3) := by decide +kernel
theorem dL_isDone_109 : decode cL_isDone 109 = .ok (.aload_n 0, 1) := by decide +kernel
theorem dL_isDone_110 : decode cL_isDone 110 = .ok (.aload_n 3, 1) := by decide +kernel
theorem dL_isDone_111 : decode cL_isDone 111 = .ok (.aload 4, 2) := by decide +kernel
theorem dL_isDone_113 : decode cL_isDone 113 = .ok (.aload 5, 2) := by decide +kernel
theorem dL_isDone_115 : decode cL_isDone 115 = .ok (.aload 6, 2) := by decide +kernel
theorem dL_isDone_117 : decode cL_isDone 117 = .ok (.iload 8, 2) := by decide +kernel
theorem dL_isDone_119 : decode cL_isDone 119 = .ok (.bipush 9, 2) := by decide +kernel
theorem dL_isDone_121 : decode cL_isDone 121 = .ok (.if_icmp .ge 7, 3) := by decide +kernel
theorem dL_isDone_124 : decode cL_isDone 124 = .ok (.iconst 0, 1) := by decide +kernel
theorem dL_isDone_125 : decode cL_isDone 125 = .ok (.goto 15, 3) := by decide +kernel
theorem dL_isDone_128 : decode cL_isDone 128 = .ok (.iload 8, 2) := by decide +kernel
theorem dL_isDone_130 : decode cL_isDone 130 = .ok (.bipush 15, 2) := by decide +kernel
theorem dL_isDone_132 : decode cL_isDone 132 = .ok (.if_icmp .ge 7, 3) := by decide +kernel
theorem dL_isDone_135 : decode cL_isDone 135 = .ok (.iconst 1, 1) := by decide +kernel
theorem dL_isDone_136 : decode cL_isDone 136 = .ok (.goto 4, 3) := by decide +kernel
theorem dL_isDone_139 : decode cL_isDone 139 = .ok (.iconst 2, 1) := by decide +kernel
theorem dL_isDone_140 : decode cL_isDone 140 = .ok (.iload 9, 2) := by decide +kernel
theorem dL_isDone_142 : decode cL_isDone 142 = .ok (.iload 10, 2) := by decide +kernel
theorem dL_isDone_144 : decode cL_isDone 144 = .ok (.iload 11, 2) := by decide +kernel
theorem dL_isDone_146 : decode cL_isDone 146 = .ok (.invokestatic 116, 3) := by decide +kernel
theorem dL_isDone_149 : decode cL_isDone 149 = .ok (.istore 12, 2) := by decide +kernel
theorem dL_isDone_151 : decode cL_isDone 151 = .ok (.iconst 0, 1) := by decide +kernel
theorem dL_isDone_152 : decode cL_isDone 152 = .ok (.istore 13, 2) := by decide +kernel
theorem dL_isDone_154 : decode cL_isDone 154 = .ok (.iload 13, 2) := by decide +kernel
theorem dL_isDone_156 : decode cL_isDone 156 = .ok (.aload 6, 2) := by decide +kernel
theorem dL_isDone_158 : decode cL_isDone 158 = .ok (.iconst 1, 1) := by decide +kernel
theorem dL_isDone_159 : decode cL_isDone 159 = .ok (.iaload, 1) := by decide +kernel
theorem dL_isDone_160 : decode cL_isDone 160 = .ok (.if_icmp .ge 71, 3) := by decide +kernel
theorem dL_isDone_163 : decode cL_isDone 163 = .ok (.aload 7, 2) := by decide +kernel
theorem dL_isDone_165 : decode cL_isDone 165 = .ok (.bipush 10, 2) := by decide +kernel
theorem dL_isDone_167 : decode cL_isDone 167 = .ok (.iload 13, 2) := by decide +kernel
theorem dL_isDone_169 : decode cL_isDone 169 = .ok (.imul, 1) := by decide +kernel
theorem dL_isDone_170 : decode cL_isDone 170 = .ok (.aload 4, 2) := by decide +kernel
theorem dL_isDone_172 : decode cL_isDone 172 = .ok (.iload 13, 2) := by decide +kernel
theorem dL_isDone_174 : decode cL_isDone 174 = .ok (.iaload, 1) := by decide +kernel
theorem dL_isDone_175 : decode cL_isDone 175 = .ok (.iadd, 1) := by decide +kernel
theorem dL_isDone_176 : decode cL_isDone 176 = .ok (.iconst 1, 1) := by decide +kernel
theorem dL_isDone_177 : decode cL_isDone 177 = .ok (.isub, 1) := by decide +kernel
theorem dL_isDone_178 : decode cL_isDone 178 = .ok (.aload 5, 2) := by decide +kernel
theorem dL_isDone_180 : decode cL_isDone 180 = .ok (.iload 13, 2) := by decide +kernel
theorem dL_isDone_182 : decode cL_isDone 182 = .ok (.iaload, 1) := by decide +kernel
theorem dL_isDone_183 : decode cL_isDone 183 = .ok (.aload 4, 2) := by decide +kernel
theorem dL_isDone_185 : decode cL_isDone 185 = .ok (.iload 13, 2) := by decide +kernel
theorem dL_isDone_187 : decode cL_isDone 187 = .ok (.iaload, 1) := by decide +kernel
theorem dL_isDone_188 : decode cL_isDone 188 = .ok (.iconst 1, 1) := by decide +kernel
theorem dL_isDone_189 : decode cL_isDone 189 = .ok (.isub, 1) := by decide +kernel
theorem dL_isDone_190 : decode cL_isDone 190 = .ok (.ishr, 1) := by decide +kernel
theorem dL_isDone_191 : decode cL_isDone 191 = .ok (.iconst 1, 1) := by decide +kernel
theorem dL_isDone_192 : decode cL_isDone 192 = .ok (.iand, 1) := by decide +kernel
theorem dL_isDone_193 : decode cL_isDone 193 = .ok (.iconst 1, 1) := by decide +kernel
theorem dL_isDone_194 : decode cL_isDone 194 = .ok (.if_icmp .ne 14, 3) := by decide +kernel
theorem dL_isDone_197 : decode cL_isDone 197 = .ok (.aload 5, 2) := by decide +kernel
theorem dL_isDone_199 : decode cL_isDone 199 = .ok (.bipush 6, 2) := by decide +kernel
theorem dL_isDone_201 : decode cL_isDone 201 = .ok (.iload 13, 2) := by decide +kernel
theorem dL_isDone_203 : decode cL_isDone 203 = .ok (.iadd, 1) := by decide +kernel
theorem dL_isDone_204 : decode cL_isDone 204 = .ok (.iaload, 1) := by decide +kernel
theorem dL_isDone_205 : decode cL_isDone 205 = .ok (.goto 19, 3) := by decide +kernel
theorem dL_isDone_208 : decode cL_isDone 208 = .ok (.aload 7, 2) := by decide +kernel
theorem dL_isDone_210 : decode cL_isDone 210 = .ok (.bipush 10, 2) := by decide +kernel
theorem dL_isDone_212 : decode cL_isDone 212 = .ok (.iload 13, 2) := by decide +kernel
theorem dL_isDone_214 : decode cL_isDone 214 = .ok (.imul, 1) := by decide +kernel
theorem dL_isDone_215 : decode cL_isDone 215 = .ok (.aload 4, 2) := by decide +kernel
theorem dL_isDone_217 : decode cL_isDone 217 = .ok (.iload 13, 2) := by decide +kernel
theorem dL_isDone_219 : decode cL_isDone 219 = .ok (.iaload, 1) := by decide +kernel
theorem dL_isDone_220 : decode cL_isDone 220 = .ok (.iadd, 1) := by decide +kernel
theorem dL_isDone_221 : decode cL_isDone 221 = .ok (.iconst 1, 1) := by decide +kernel
theorem dL_isDone_222 : decode cL_isDone 222 = .ok (.isub, 1) := by decide +kernel
theorem dL_isDone_223 : decode cL_isDone 223 = .ok (.iaload, 1) := by decide +kernel
theorem dL_isDone_224 : decode cL_isDone 224 = .ok (.iastore, 1) := by decide +kernel
theorem dL_isDone_225 : decode cL_isDone 225 = .ok (.iinc 13 1, 3) := by decide +kernel
theorem dL_isDone_228 : decode cL_isDone 228 = .ok (.goto (-74), 3) := by decide +kernel
theorem dL_isDone_231 : decode cL_isDone 231 = .ok (.iload 12, 2) := by decide +kernel
theorem dL_isDone_233 : decode cL_isDone 233 = .ok (.ireturn, 1) := by decide +kernel
theorem dL_isDone_234 : decode cL_isDone 234 = .ok (.iload 8, 2) := by decide +kernel
theorem dL_isDone_236 : decode cL_isDone 236 = .ok (.bipush 21, 2) := by decide +kernel
theorem dL_isDone_238 : decode cL_isDone 238 = .ok (.if_icmp .ge 30, 3) := by decide +kernel
theorem dL_isDone_241 : decode cL_isDone 241 = .ok (.aload_n 0, 1) := by decide +kernel
theorem dL_isDone_242 : decode cL_isDone 242 = .ok (.aload 4, 2) := by decide +kernel
theorem dL_isDone_244 : decode cL_isDone 244 = .ok (.aload 5, 2) := by decide +kernel
theorem dL_isDone_246 : decode cL_isDone 246 = .ok (.aload 6, 2) := by decide +kernel
theorem dL_isDone_248 : decode cL_isDone 248 = .ok (.aload 7, 2) := by decide +kernel
theorem dL_isDone_250 : decode cL_isDone 250 = .ok (.iload 9, 2) := by decide +kernel
theorem dL_isDone_252 : decode cL_isDone 252 = .ok (.aload 6, 2) := by decide +kernel
theorem dL_isDone_254 : decode cL_isDone 254 = .ok (.iconst 1, 1) := by decide +kernel
theorem dL_isDone_255 : decode cL_isDone 255 = .ok (.iaload, 1) := by decide +kernel
theorem dL_isDone_256 : decode cL_isDone 256 = .ok (.iconst 1, 1) := by decide +kernel
theorem dL_isDone_257 : decode cL_isDone 257 = .ok (.iadd, 1) := by decide +kernel
theorem dL_isDone_258 : decode cL_isDone 258 = .ok (.irem, 1) := by decide +kernel
theorem dL_isDone_259 : decode cL_isDone 259 = .ok (.iload 10, 2) := by decide +kernel
theorem dL_isDone_261 : decode cL_isDone 261 = .ok (.bipush 10, 2) := by decide +kernel
theorem dL_isDone_263 : decode cL_isDone 263 = .ok (.irem, 1) := by decide +kernel
theorem dL_isDone_264 : decode cL_isDone 264 = .ok (.invokestatic 120, 3) := by decide +kernel
theorem dL_isDone_267 : decode cL_isDone 267 = .ok (.ireturn, 1) := by decide +kernel
theorem dL_isDone_268 : decode cL_isDone 268 = .ok (.aload_n 0, 1) := by decide +kernel
theorem dL_isDone_269 : decode cL_isDone 269 = .ok (.aload 6, 2) := by decide +kernel
theorem dL_isDone_271 : decode cL_isDone 271 = .ok (.iload 8, 2) := by decide +kernel
theorem dL_isDone_273 : decode cL_isDone 273 = .ok (.bipush 24, 2) := by decide +kernel
theorem dL_isDone_275 : decode cL_isDone 275 = .ok (.if_icmp .ge 7, 3) := by decide +kernel
theorem dL_isDone_278 : decode cL_isDone 278 = .ok (.iconst 0, 1) := by decide +kernel
theorem dL_isDone_279 : decode cL_isDone 279 = .ok (.goto 26, 3) := by decide +kernel
theorem dL_isDone_282 : decode cL_isDone 282 = .ok (.iload 8, 2) := by decide +kernel
theorem dL_isDone_284 : decode cL_isDone 284 = .ok (.bipush 24, 2) := by decide +kernel
theorem dL_isDone_286 : decode cL_isDone 286 = .ok (.if_icmp .ne 7, 3) := by decide +kernel
theorem dL_isDone_289 : decode cL_isDone 289 = .ok (.iconst 1, 1) := by decide +kernel
theorem dL_isDone_290 : decode cL_isDone 290 = .ok (.goto 15, 3) := by decide +kernel
theorem dL_isDone_293 : decode cL_isDone 293 = .ok (.iload 8, 2) := by decide +kernel
theorem dL_isDone_295 : decode cL_isDone 295 = .ok (.bipush 28, 2) := by decide +kernel
theorem dL_isDone_297 : decode cL_isDone 297 = .ok (.if_icmp .ge 7, 3) := by decide +kernel
theorem dL_isDone_300 : decode cL_isDone 300 = .ok (.iconst 2, 1) := by decide +kernel
theorem dL_isDone_301 : decode cL_isDone 301 = .ok (.goto 4, 3) := by decide +kernel
theorem dL_isDone_304 : decode cL_isDone 304 = .ok (.iconst 3, 1) := by decide +kernel
theorem dL_isDone_305 : decode cL_isDone 305 = .ok (.iload 9, 2) := by decide +kernel
theorem dL_isDone_307 : decode cL_isDone 307 = .ok (.iload 10, 2) := by decide +kernel
theorem dL_isDone_309 : decode cL_isDone 309 = .ok (.iload 11, 2) := by decide +kernel
theorem dL_isDone_311 : decode cL_isDone 311 = .ok (.invokestatic 124, 3) := by decide +kernel
theorem dL_isDone_314 : decode cL_isDone 314 = .ok (.ireturn, 1) := by decide +kernel
theorem dL_law_0 : decode cL_law 0 = .ok (.new 9, 3) := by decide +kernel
theorem dL_law_3 : decode cL_law 3 = .ok (.dup, 1) := by decide +kernel
theorem dL_law_4 : decode cL_law 4 = .ok (.invokespecial 128, 3) := by decide +kernel
theorem dL_law_7 : decode cL_law 7 = .ok (.astore_n 1, 1) := by decide +kernel
theorem dL_law_8 : decode cL_law 8 = .ok (.bipush 60, 2) := by decide +kernel
theorem dL_law_10 : decode cL_law 10 = .ok (.newarray .int, 2) := by decide +kernel
theorem dL_law_12 : decode cL_law 12 = .ok (.astore_n 2, 1) := by decide +kernel
theorem dL_law_13 : decode cL_law 13 = .ok (.bipush 14, 2) := by decide +kernel
theorem dL_law_15 : decode cL_law 15 = .ok (.newarray .int, 2) := by decide +kernel
theorem dL_law_17 : decode cL_law 17 = .ok (.astore_n 3, 1) := by decide +kernel
theorem dL_law_18 : decode cL_law 18 = .ok (.bipush 12, 2) := by decide +kernel
theorem dL_law_20 : decode cL_law 20 = .ok (.newarray .int, 2) := by decide +kernel
theorem dL_law_22 : decode cL_law 22 = .ok (.astore 4, 2) := by decide +kernel
theorem dL_law_24 : decode cL_law 24 = .ok (.iconst 5, 1) := by decide +kernel
theorem dL_law_25 : decode cL_law 25 = .ok (.newarray .int, 2) := by decide +kernel
theorem dL_law_27 : decode cL_law 27 = .ok (.astore 5, 2) := by decide +kernel
theorem dL_law_29 : decode cL_law 29 = .ok (.bipush 60, 2) := by decide +kernel
theorem dL_law_31 : decode cL_law 31 = .ok (.newarray .int, 2) := by decide +kernel
theorem dL_law_33 : decode cL_law 33 = .ok (.astore 6, 2) := by decide +kernel
theorem dL_law_35 : decode cL_law 35 = .ok (.aload_n 1, 1) := by decide +kernel
theorem dL_law_36 : decode cL_law 36 = .ok (.aload 5, 2) := by decide +kernel
theorem dL_law_38 : decode cL_law 38 = .ok (.invokestatic 129, 3) := by decide +kernel
theorem dL_law_41 : decode cL_law 41 = .ok (.ifCond .eq 26, 3) := by decide +kernel
theorem dL_law_44 : decode cL_law 44 = .ok (.aload_n 1, 1) := by decide +kernel
theorem dL_law_45 : decode cL_law 45 = .ok (.aload_n 3, 1) := by decide +kernel
theorem dL_law_46 : decode cL_law 46 = .ok (.aload 4, 2) := by decide +kernel
theorem dL_law_48 : decode cL_law 48 = .ok (.aload 5, 2) := by decide +kernel
theorem dL_law_50 : decode cL_law 50 = .ok (.invokestatic 133, 3) := by decide +kernel
theorem dL_law_53 : decode cL_law 53 = .ok (.ifCond .eq 14, 3) := by decide +kernel
theorem dL_law_56 : decode cL_law 56 = .ok (.aload_n 1, 1) := by decide +kernel
theorem dL_law_57 : decode cL_law 57 = .ok (.invokevirtual 105, 3) := by decide +kernel
theorem dL_law_60 : decode cL_law 60 = .ok (.ifCond .ne 7, 3) := by decide +kernel
theorem dL_law_63 : decode cL_law 63 = .ok (.iconst 1, 1) := by decide +kernel
theorem dL_law_64 : decode cL_law 64 = .ok (.goto 4, 3) := by decide +kernel
theorem dL_law_67 : decode cL_law 67 = .ok (.iconst 0, 1) := by decide +kernel
theorem dL_law_68 : decode cL_law 68 = .ok (.istore 7, 2) := by decide +kernel
theorem dL_law_70 : decode cL_law 70 = .ok (.iconst 0, 1) := by decide +kernel
theorem dL_law_71 : decode cL_law 71 = .ok (.istore 8, 2) := by decide +kernel
theorem dL_law_73 : decode cL_law 73 = .ok (.iload 8, 2) := by decide +kernel
theorem dL_law_75 : decode cL_law 75 = .ok (.bipush 64, 2) := by decide +kernel
theorem dL_law_77 : decode cL_law 77 = .ok (.if_icmp .ge 83, 3) := by decide +kernel
theorem dL_law_80 : decode cL_law 80 = .ok (.iload 7, 2) := by decide +kernel
theorem dL_law_82 : decode cL_law 82 = .ok (.ifCond .eq 78, 3) := by decide +kernel
theorem dL_law_85 : decode cL_law 85 = .ok (.aload_n 1, 1) := by decide +kernel
theorem dL_law_86 : decode cL_law 86 = .ok (.aload_n 0, 1) := by decide +kernel
theorem dL_law_87 : decode cL_law 87 = .ok (.iconst 4, 1) := by decide +kernel
theorem dL_law_88 : decode cL_law 88 = .ok (.iload 8, 2) := by decide +kernel
theorem dL_law_90 : decode cL_law 90 = .ok (.imul, 1) := by decide +kernel
theorem dL_law_91 : decode cL_law 91 = .ok (.aload_n 2, 1) := by decide +kernel
theorem dL_law_92 : decode cL_law 92 = .ok (.aload_n 3, 1) := by decide +kernel
theorem dL_law_93 : decode cL_law 93 = .ok (.aload 4, 2) := by decide +kernel
theorem dL_law_95 : decode cL_law 95 = .ok (.aload 5, 2) := by decide +kernel
theorem dL_law_97 : decode cL_law 97 = .ok (.aload 6, 2) := by decide +kernel
theorem dL_law_99 : decode cL_law 99 = .ok (.invokestatic 137, 3) := by decide +kernel
theorem dL_law_102 : decode cL_law 102 = .ok (.ifCond .eq 49, 3) := by decide +kernel
theorem dL_law_105 : decode cL_law 105 = .ok (.aload_n 1, 1) := by decide +kernel
theorem dL_law_106 : decode cL_law 106 = .ok (.aload 5, 2) := by decide +kernel
theorem dL_law_108 : decode cL_law 108 = .ok (.invokestatic 129, 3) := by decide +kernel
theorem dL_law_111 : decode cL_law 111 = .ok (.ifCond .eq 40, 3) := by decide +kernel
theorem dL_law_114 : decode cL_law 114 = .ok (.aload_n 1, 1) := by decide +kernel
theorem dL_law_115 : decode cL_law 115 = .ok (.aload_n 2, 1) := by decide +kernel
theorem dL_law_116 : decode cL_law 116 = .ok (.aload_n 3, 1) := by decide +kernel
theorem dL_law_117 : decode cL_law 117 = .ok (.aload 4, 2) := by decide +kernel
theorem dL_law_119 : decode cL_law 119 = .ok (.aload 5, 2) := by decide +kernel
theorem dL_law_121 : decode cL_law 121 = .ok (.invokestatic 141, 3) := by decide +kernel
theorem dL_law_124 : decode cL_law 124 = .ok (.ifCond .eq 27, 3) := by decide +kernel
theorem dL_law_127 : decode cL_law 127 = .ok (.iload 8, 2) := by decide +kernel
theorem dL_law_129 : decode cL_law 129 = .ok (.iconst 5, 1) := by decide +kernel
theorem dL_law_130 : decode cL_law 130 = .ok (.irem, 1) := by decide +kernel
theorem dL_law_131 : decode cL_law 131 = .ok (.iconst 4, 1) := by decide +kernel
theorem dL_law_132 : decode cL_law 132 = .ok (.if_icmp .lt 15, 3) := by decide +kernel
theorem dL_law_135 : decode cL_law 135 = .ok (.aload_n 1, 1) := by decide +kernel
theorem dL_law_136 : decode cL_law 136 = .ok (.aload_n 3, 1) := by decide +kernel
theorem dL_law_137 : decode cL_law 137 = .ok (.aload 4, 2) := by decide +kernel
theorem dL_law_139 : decode cL_law 139 = .ok (.aload 5, 2) := by decide +kernel
theorem dL_law_141 : decode cL_law 141 = .ok (.invokestatic 133, 3) := by decide +kernel
theorem dL_law_144 : decode cL_law 144 = .ok (.ifCond .eq 7, 3) := by decide +kernel
theorem dL_law_147 : decode cL_law 147 = .ok (.iconst 1, 1) := by decide +kernel
theorem dL_law_148 : decode cL_law 148 = .ok (.goto 4, 3) := by decide +kernel
theorem dL_law_151 : decode cL_law 151 = .ok (.iconst 0, 1) := by decide +kernel
theorem dL_law_152 : decode cL_law 152 = .ok (.istore 7, 2) := by decide +kernel
theorem dL_law_154 : decode cL_law 154 = .ok (.iinc 8 1, 3) := by decide +kernel
theorem dL_law_157 : decode cL_law 157 = .ok (.goto (-84), 3) := by decide +kernel
theorem dL_law_160 : decode cL_law 160 = .ok (.iload 7, 2) := by decide +kernel
theorem dL_law_162 : decode cL_law 162 = .ok (.ifCond .eq 142, 3) := by decide +kernel
theorem dL_law_165 : decode cL_law 165 = .ok (.aload_n 1, 1) := by decide +kernel
theorem dL_law_166 : decode cL_law 166 = .ok (.iconst 0, 1) := by decide +kernel
theorem dL_law_167 : decode cL_law 167 = .ok (.iconst (-1), 1) := by decide +kernel
theorem dL_law_168 : decode cL_law 168 = .ok (.iconst 0, 1) := by decide +kernel
theorem dL_law_169 : decode cL_law 169 = .ok (.iconst 0, 1) := by decide +kernel
theorem dL_law_170 : decode cL_law 170 = .ok (.invokestatic 96, 3) := by decide +kernel
theorem dL_law_173 : decode cL_law 173 = .ok (.bipush (-20), 2) := by decide +kernel
theorem dL_law_175 : decode cL_law 175 = .ok (.if_icmp .ne 129, 3) := by decide +kernel
theorem dL_law_178 : decode cL_law 178 = .ok (.aload_n 1, 1) := by decide +kernel
theorem dL_law_179 : decode cL_law 179 = .ok (.iconst 1, 1) := by decide +kernel
theorem dL_law_180 : decode cL_law 180 = .ok (.bipush 8, 2) := by decide +kernel
theorem dL_law_182 : decode cL_law 182 = .ok (.bipush 101, 2) := by decide +kernel
theorem dL_law_184 : decode cL_law 184 = .ok (.iconst 0, 1) := by decide +kernel
theorem dL_law_185 : decode cL_law 185 = .ok (.invokestatic 96, 3) := by decide +kernel
theorem dL_law_188 : decode cL_law 188 = .ok (.bipush (-20), 2) := by decide +kernel
theorem dL_law_190 : decode cL_law 190 = .ok (.if_icmp .ne 114, 3) := by decide +kernel
theorem dL_law_193 : decode cL_law 193 = .ok (.aload_n 1, 1) := by decide +kernel
theorem dL_law_194 : decode cL_law 194 = .ok (.iconst 2, 1) := by decide +kernel
theorem dL_law_195 : decode cL_law 195 = .ok (.iconst 0, 1) := by decide +kernel
theorem dL_law_196 : decode cL_law 196 = .ok (.iconst 0, 1) := by decide +kernel
theorem dL_law_197 : decode cL_law 197 = .ok (.iconst 0, 1) := by decide +kernel
theorem dL_law_198 : decode cL_law 198 = .ok (.invokestatic 96, 3) := by decide +kernel
theorem dL_law_201 : decode cL_law 201 = .ok (.bipush (-20), 2) := by decide +kernel
theorem dL_law_203 : decode cL_law 203 = .ok (.if_icmp .ne 101, 3) := by decide +kernel
theorem dL_law_206 : decode cL_law 206 = .ok (.aload_n 1, 1) := by decide +kernel
theorem dL_law_207 : decode cL_law 207 = .ok (.iconst 0, 1) := by decide +kernel
theorem dL_law_208 : decode cL_law 208 = .ok (.bipush 8, 2) := by decide +kernel
theorem dL_law_210 : decode cL_law 210 = .ok (.iconst (-1), 1) := by decide +kernel
theorem dL_law_211 : decode cL_law 211 = .ok (.iconst 1, 1) := by decide +kernel
theorem dL_law_212 : decode cL_law 212 = .ok (.invokestatic 90, 3) := by decide +kernel
theorem dL_law_215 : decode cL_law 215 = .ok (.bipush (-20), 2) := by decide +kernel
theorem dL_law_217 : decode cL_law 217 = .ok (.if_icmp .ne 87, 3) := by decide +kernel
theorem dL_law_220 : decode cL_law 220 = .ok (.aload_n 1, 1) := by decide +kernel
theorem dL_law_221 : decode cL_law 221 = .ok (.iconst 1, 1) := by decide +kernel
theorem dL_law_222 : decode cL_law 222 = .ok (.bipush 10, 2) := by decide +kernel
theorem dL_law_224 : decode cL_law 224 = .ok (.iconst (-1), 1) := by decide +kernel
theorem dL_law_225 : decode cL_law 225 = .ok (.iconst 0, 1) := by decide +kernel
theorem dL_law_226 : decode cL_law 226 = .ok (.invokestatic 90, 3) := by decide +kernel
theorem dL_law_229 : decode cL_law 229 = .ok (.bipush (-20), 2) := by decide +kernel
theorem dL_law_231 : decode cL_law 231 = .ok (.if_icmp .ne 73, 3) := by decide +kernel
theorem dL_law_234 : decode cL_law 234 = .ok (.aload_n 1, 1) := by decide +kernel
theorem dL_law_235 : decode cL_law 235 = .ok (.iconst 3, 1) := by decide +kernel
theorem dL_law_236 : decode cL_law 236 = .ok (.bipush 10, 2) := by decide +kernel
theorem dL_law_238 : decode cL_law 238 = .ok (.iconst 0, 1) := by decide +kernel
theorem dL_law_239 : decode cL_law 239 = .ok (.iconst 0, 1) := by decide +kernel
theorem dL_law_240 : decode cL_law 240 = .ok (.invokestatic 90, 3) := by decide +kernel
theorem dL_law_243 : decode cL_law 243 = .ok (.bipush (-30), 2) := by decide +kernel
theorem dL_law_245 : decode cL_law 245 = .ok (.if_icmp .ne 59, 3) := by decide +kernel
theorem dL_law_248 : decode cL_law 248 = .ok (.aload_n 1, 1) := by decide +kernel
theorem dL_law_249 : decode cL_law 249 = .ok (.iconst 2, 1) := by decide +kernel
theorem dL_law_250 : decode cL_law 250 = .ok (.iconst 4, 1) := by decide +kernel
theorem dL_law_251 : decode cL_law 251 = .ok (.bipush 100, 2) := by decide +kernel
theorem dL_law_253 : decode cL_law 253 = .ok (.iconst 1, 1) := by decide +kernel
theorem dL_law_254 : decode cL_law 254 = .ok (.invokestatic 74, 3) := by decide +kernel
theorem dL_law_257 : decode cL_law 257 = .ok (.bipush (-20), 2) := by decide +kernel
theorem dL_law_259 : decode cL_law 259 = .ok (.if_icmp .ne 45, 3) := by decide +kernel
theorem dL_law_262 : decode cL_law 262 = .ok (.aload_n 1, 1) := by decide +kernel
theorem dL_law_263 : decode cL_law 263 = .ok (.iconst 3, 1) := by decide +kernel
theorem dL_law_264 : decode cL_law 264 = .ok (.iconst (-1), 1) := by decide +kernel
theorem dL_law_265 : decode cL_law 265 = .ok (.iconst 0, 1) := by decide +kernel
theorem dL_law_266 : decode cL_law 266 = .ok (.iconst 0, 1) := by decide +kernel
theorem dL_law_267 : decode cL_law 267 = .ok (.invokestatic 74, 3) := by decide +kernel
theorem dL_law_270 : decode cL_law 270 = .ok (.bipush (-20), 2) := by decide +kernel
theorem dL_law_272 : decode cL_law 272 = .ok (.if_icmp .ne 32, 3) := by decide +kernel
theorem dL_law_275 : decode cL_law 275 = .ok (.aload_n 1, 1) := by decide +kernel
theorem dL_law_276 : decode cL_law 276 = .ok (.iconst 4, 1) := by decide +kernel
theorem dL_law_277 : decode cL_law 277 = .ok (.iconst 0, 1) := by decide +kernel
theorem dL_law_278 : decode cL_law 278 = .ok (.iconst 0, 1) := by decide +kernel
theorem dL_law_279 : decode cL_law 279 = .ok (.iconst 0, 1) := by decide +kernel
theorem dL_law_280 : decode cL_law 280 = .ok (.invokestatic 74, 3) := by decide +kernel
theorem dL_law_283 : decode cL_law 283 = .ok (.bipush (-20), 2) := by decide +kernel
theorem dL_law_285 : decode cL_law 285 = .ok (.if_icmp .ne 19, 3) := by decide +kernel
theorem dL_law_288 : decode cL_law 288 = .ok (.aload_n 1, 1) := by decide +kernel
theorem dL_law_289 : decode cL_law 289 = .ok (.aload_n 3, 1) := by decide +kernel
theorem dL_law_290 : decode cL_law 290 = .ok (.aload 4, 2) := by decide +kernel
theorem dL_law_292 : decode cL_law 292 = .ok (.aload 5, 2) := by decide +kernel
theorem dL_law_294 : decode cL_law 294 = .ok (.invokestatic 133, 3) := by decide +kernel
theorem dL_law_297 : decode cL_law 297 = .ok (.ifCond .eq 7, 3) := by decide +kernel
theorem dL_law_300 : decode cL_law 300 = .ok (.iconst 1, 1) := by decide +kernel
theorem dL_law_301 : decode cL_law 301 = .ok (.goto 4, 3) := by decide +kernel
theorem dL_law_304 : decode cL_law 304 = .ok (.iconst 0, 1) := by decide +kernel
theorem dL_law_305 : decode cL_law 305 = .ok (.ireturn, 1) := by decide +kernel
