theorem dL_refusesAny_0 : decode cL_refusesAny 0 = .ok (.iload_n 1, 1) := by decide +kernel
theorem dL_refusesAny_1 : decode cL_refusesAny 1 = .ok (.iconst 2, 1) := by decide +kernel
theorem dL_refusesAny_2 : decode cL_refusesAny 2 = .ok (.irem, 1) := by decide +kernel
theorem dL_refusesAny_3 : decode cL_refusesAny 3 = .ok (.ifCond .ne 12, 3) := by decide +kernel
theorem dL_refusesAny_6 : decode cL_refusesAny 6 = .ok (.iconst (-1), 1) := by decide +kernel
theorem dL_refusesAny_7 : decode cL_refusesAny 7 = .ok (.iload_n 1, 1) := by decide +kernel
theorem dL_refusesAny_8 : decode cL_refusesAny 8 = .ok (.bipush 99, 2) := by decide +kernel
theorem dL_refusesAny_10 : decode cL_refusesAny 10 = .ok (.irem, 1) := by decide +kernel
theorem dL_refusesAny_11 : decode cL_refusesAny 11 = .ok (.isub, 1) := by decide +kernel
theorem dL_refusesAny_12 : decode cL_refusesAny 12 = .ok (.goto 11, 3) := by decide +kernel
theorem dL_refusesAny_15 : decode cL_refusesAny 15 = .ok (.sipush 500, 3) := by decide +kernel
theorem dL_refusesAny_18 : decode cL_refusesAny 18 = .ok (.iload_n 1, 1) := by decide +kernel
theorem dL_refusesAny_19 : decode cL_refusesAny 19 = .ok (.bipush 99, 2) := by decide +kernel
theorem dL_refusesAny_21 : decode cL_refusesAny 21 = .ok (.irem, 1) := by decide +kernel
theorem dL_refusesAny_22 : decode cL_refusesAny 22 = .ok (.iadd, 1) := by decide +kernel
theorem dL_refusesAny_23 : decode cL_refusesAny 23 = .ok (.istore_n 2, 1) := by decide +kernel
theorem dL_refusesAny_24 : decode cL_refusesAny 24 = .ok (.iconst (-1), 1) := by decide +kernel
theorem dL_refusesAny_25 : decode cL_refusesAny 25 = .ok (.iload_n 1, 1) := by decide +kernel
theorem dL_refusesAny_26 : decode cL_refusesAny 26 = .ok (.bipush 99, 2) := by decide +kernel
theorem dL_refusesAny_28 : decode cL_refusesAny 28 = .ok (.irem, 1) := by decide +kernel
theorem dL_refusesAny_29 : decode cL_refusesAny 29 = .ok (.isub, 1) := by decide +kernel
theorem dL_refusesAny_30 : decode cL_refusesAny 30 = .ok (.istore_n 3, 1) := by decide +kernel
theorem dL_refusesAny_31 : decode cL_refusesAny 31 = .ok (.aload_n 0, 1) := by decide +kernel
theorem dL_refusesAny_32 : decode cL_refusesAny 32 = .ok (.iconst 0, 1) := by decide +kernel
theorem dL_refusesAny_33 : decode cL_refusesAny 33 = .ok (.iload_n 2, 1) := by decide +kernel
theorem dL_refusesAny_34 : decode cL_refusesAny 34 = .ok (.iconst 0, 1) := by decide +kernel
theorem dL_refusesAny_35 : decode cL_refusesAny 35 = .ok (.invokestatic 99, 3) := by decide +kernel
theorem dL_refusesAny_38 : decode cL_refusesAny 38 = .ok (.bipush (-11), 2) := by decide +kernel
theorem dL_refusesAny_40 : decode cL_refusesAny 40 = .ok (.if_icmp .ne 182, 3) := by decide +kernel
theorem dL_refusesAny_43 : decode cL_refusesAny 43 = .ok (.aload_n 0, 1) := by decide +kernel
theorem dL_refusesAny_44 : decode cL_refusesAny 44 = .ok (.iconst 1, 1) := by decide +kernel
theorem dL_refusesAny_45 : decode cL_refusesAny 45 = .ok (.iload_n 2, 1) := by decide +kernel
theorem dL_refusesAny_46 : decode cL_refusesAny 46 = .ok (.iconst 0, 1) := by decide +kernel
theorem dL_refusesAny_47 : decode cL_refusesAny 47 = .ok (.invokestatic 99, 3) := by decide +kernel
theorem dL_refusesAny_50 : decode cL_refusesAny 50 = .ok (.bipush (-11), 2) := by decide +kernel
theorem dL_refusesAny_52 : decode cL_refusesAny 52 = .ok (.if_icmp .ne 170, 3) := by decide +kernel
theorem dL_refusesAny_55 : decode cL_refusesAny 55 = .ok (.aload_n 0, 1) := by decide +kernel
theorem dL_refusesAny_56 : decode cL_refusesAny 56 = .ok (.iconst 4, 1) := by decide +kernel
theorem dL_refusesAny_57 : decode cL_refusesAny 57 = .ok (.iload_n 1, 1) := by decide +kernel
theorem dL_refusesAny_58 : decode cL_refusesAny 58 = .ok (.iconst 2, 1) := by decide +kernel
theorem dL_refusesAny_59 : decode cL_refusesAny 59 = .ok (.irem, 1) := by decide +kernel
theorem dL_refusesAny_60 : decode cL_refusesAny 60 = .ok (.ifCond .ne 7, 3) := by decide +kernel
theorem dL_refusesAny_63 : decode cL_refusesAny 63 = .ok (.iconst (-1), 1) := by decide +kernel
theorem dL_refusesAny_64 : decode cL_refusesAny 64 = .ok (.goto 4, 3) := by decide +kernel
theorem dL_refusesAny_67 : decode cL_refusesAny 67 = .ok (.iconst 3, 1) := by decide +kernel
theorem dL_refusesAny_68 : decode cL_refusesAny 68 = .ok (.iconst 5, 1) := by decide +kernel
theorem dL_refusesAny_69 : decode cL_refusesAny 69 = .ok (.invokestatic 99, 3) := by decide +kernel
theorem dL_refusesAny_72 : decode cL_refusesAny 72 = .ok (.bipush (-10), 2) := by decide +kernel
theorem dL_refusesAny_74 : decode cL_refusesAny 74 = .ok (.if_icmp .ne 148, 3) := by decide +kernel
theorem dL_refusesAny_77 : decode cL_refusesAny 77 = .ok (.aload_n 0, 1) := by decide +kernel
theorem dL_refusesAny_78 : decode cL_refusesAny 78 = .ok (.iconst 4, 1) := by decide +kernel
theorem dL_refusesAny_79 : decode cL_refusesAny 79 = .ok (.iconst 0, 1) := by decide +kernel
theorem dL_refusesAny_80 : decode cL_refusesAny 80 = .ok (.bipush 9, 2) := by decide +kernel
theorem dL_refusesAny_82 : decode cL_refusesAny 82 = .ok (.invokestatic 99, 3) := by decide +kernel
theorem dL_refusesAny_85 : decode cL_refusesAny 85 = .ok (.bipush (-11), 2) := by decide +kernel
theorem dL_refusesAny_87 : decode cL_refusesAny 87 = .ok (.if_icmp .ne 135, 3) := by decide +kernel
theorem dL_refusesAny_90 : decode cL_refusesAny 90 = .ok (.aload_n 0, 1) := by decide +kernel
theorem dL_refusesAny_91 : decode cL_refusesAny 91 = .ok (.iconst 4, 1) := by decide +kernel
theorem dL_refusesAny_92 : decode cL_refusesAny 92 = .ok (.iconst 0, 1) := by decide +kernel
theorem dL_refusesAny_93 : decode cL_refusesAny 93 = .ok (.bipush 101, 2) := by decide +kernel
theorem dL_refusesAny_95 : decode cL_refusesAny 95 = .ok (.invokestatic 99, 3) := by decide +kernel
theorem dL_refusesAny_98 : decode cL_refusesAny 98 = .ok (.bipush (-11), 2) := by decide +kernel
theorem dL_refusesAny_100 : decode cL_refusesAny 100 = .ok (.if_icmp .ne 122, 3) := by decide +kernel
theorem dL_refusesAny_103 : decode cL_refusesAny 103 = .ok (.aload_n 0, 1) := by decide +kernel
theorem dL_refusesAny_104 : decode cL_refusesAny 104 = .ok (.iconst 4, 1) := by decide +kernel
theorem dL_refusesAny_105 : decode cL_refusesAny 105 = .ok (.iconst 1, 1) := by decide +kernel
theorem dL_refusesAny_106 : decode cL_refusesAny 106 = .ok (.iconst 2, 1) := by decide +kernel
theorem dL_refusesAny_107 : decode cL_refusesAny 107 = .ok (.invokestatic 99, 3) := by decide +kernel
theorem dL_refusesAny_110 : decode cL_refusesAny 110 = .ok (.bipush (-11), 2) := by decide +kernel
theorem dL_refusesAny_112 : decode cL_refusesAny 112 = .ok (.if_icmp .ne 110, 3) := by decide +kernel
theorem dL_refusesAny_115 : decode cL_refusesAny 115 = .ok (.aload_n 0, 1) := by decide +kernel
theorem dL_refusesAny_116 : decode cL_refusesAny 116 = .ok (.iconst 4, 1) := by decide +kernel
theorem dL_refusesAny_117 : decode cL_refusesAny 117 = .ok (.iconst 1, 1) := by decide +kernel
theorem dL_refusesAny_118 : decode cL_refusesAny 118 = .ok (.bipush 41, 2) := by decide +kernel
theorem dL_refusesAny_120 : decode cL_refusesAny 120 = .ok (.invokestatic 99, 3) := by decide +kernel
theorem dL_refusesAny_123 : decode cL_refusesAny 123 = .ok (.bipush (-11), 2) := by decide +kernel
theorem dL_refusesAny_125 : decode cL_refusesAny 125 = .ok (.if_icmp .ne 97, 3) := by decide +kernel
theorem dL_refusesAny_128 : decode cL_refusesAny 128 = .ok (.aload_n 0, 1) := by decide +kernel
theorem dL_refusesAny_129 : decode cL_refusesAny 129 = .ok (.iconst 4, 1) := by decide +kernel
theorem dL_refusesAny_130 : decode cL_refusesAny 130 = .ok (.iconst 2, 1) := by decide +kernel
theorem dL_refusesAny_131 : decode cL_refusesAny 131 = .ok (.iconst 0, 1) := by decide +kernel
theorem dL_refusesAny_132 : decode cL_refusesAny 132 = .ok (.invokestatic 99, 3) := by decide +kernel
theorem dL_refusesAny_135 : decode cL_refusesAny 135 = .ok (.bipush (-11), 2) := by decide +kernel
theorem dL_refusesAny_137 : decode cL_refusesAny 137 = .ok (.if_icmp .ne 85, 3) := by decide +kernel
theorem dL_refusesAny_140 : decode cL_refusesAny 140 = .ok (.aload_n 0, 1) := by decide +kernel
theorem dL_refusesAny_141 : decode cL_refusesAny 141 = .ok (.iconst 4, 1) := by decide +kernel
theorem dL_refusesAny_142 : decode cL_refusesAny 142 = .ok (.iconst 2, 1) := by decide +kernel
theorem dL_refusesAny_143 : decode cL_refusesAny 143 = .ok (.bipush 9, 2) := by decide +kernel
theorem dL_refusesAny_145 : decode cL_refusesAny 145 = .ok (.invokestatic 99, 3) := by decide +kernel
theorem dL_refusesAny_148 : decode cL_refusesAny 148 = .ok (.bipush (-11), 2) := by decide +kernel
theorem dL_refusesAny_150 : decode cL_refusesAny 150 = .ok (.if_icmp .ne 72, 3) := by decide +kernel
theorem dL_refusesAny_153 : decode cL_refusesAny 153 = .ok (.aload_n 0, 1) := by decide +kernel
theorem dL_refusesAny_154 : decode cL_refusesAny 154 = .ok (.iconst 5, 1) := by decide +kernel
theorem dL_refusesAny_155 : decode cL_refusesAny 155 = .ok (.bipush 32, 2) := by decide +kernel
theorem dL_refusesAny_157 : decode cL_refusesAny 157 = .ok (.iconst 0, 1) := by decide +kernel
theorem dL_refusesAny_158 : decode cL_refusesAny 158 = .ok (.invokestatic 99, 3) := by decide +kernel
theorem dL_refusesAny_161 : decode cL_refusesAny 161 = .ok (.bipush (-11), 2) := by decide +kernel
theorem dL_refusesAny_163 : decode cL_refusesAny 163 = .ok (.if_icmp .ne 59, 3) := by decide +kernel
theorem dL_refusesAny_166 : decode cL_refusesAny 166 = .ok (.aload_n 0, 1) := by decide +kernel
theorem dL_refusesAny_167 : decode cL_refusesAny 167 = .ok (.iconst 5, 1) := by decide +kernel
theorem dL_refusesAny_168 : decode cL_refusesAny 168 = .ok (.bipush 127, 2) := by decide +kernel
theorem dL_refusesAny_170 : decode cL_refusesAny 170 = .ok (.iconst 0, 1) := by decide +kernel
theorem dL_refusesAny_171 : decode cL_refusesAny 171 = .ok (.invokestatic 99, 3) := by decide +kernel
theorem dL_refusesAny_174 : decode cL_refusesAny 174 = .ok (.bipush (-11), 2) := by decide +kernel
theorem dL_refusesAny_176 : decode cL_refusesAny 176 = .ok (.if_icmp .ne 46, 3) := by decide +kernel
theorem dL_refusesAny_179 : decode cL_refusesAny 179 = .ok (.aload_n 0, 1) := by decide +kernel
theorem dL_refusesAny_180 : decode cL_refusesAny 180 = .ok (.bipush 6, 2) := by decide +kernel
theorem dL_refusesAny_182 : decode cL_refusesAny 182 = .ok (.iconst 0, 1) := by decide +kernel
theorem dL_refusesAny_183 : decode cL_refusesAny 183 = .ok (.iconst 0, 1) := by decide +kernel
theorem dL_refusesAny_184 : decode cL_refusesAny 184 = .ok (.invokestatic 99, 3) := by decide +kernel
theorem dL_refusesAny_187 : decode cL_refusesAny 187 = .ok (.bipush (-11), 2) := by decide +kernel
theorem dL_refusesAny_189 : decode cL_refusesAny 189 = .ok (.if_icmp .ne 33, 3) := by decide +kernel
theorem dL_refusesAny_192 : decode cL_refusesAny 192 = .ok (.aload_n 0, 1) := by decide +kernel
theorem dL_refusesAny_193 : decode cL_refusesAny 193 = .ok (.bipush 8, 2) := by decide +kernel
theorem dL_refusesAny_195 : decode cL_refusesAny 195 = .ok (.iconst 2, 1) := by decide +kernel
theorem dL_refusesAny_196 : decode cL_refusesAny 196 = .ok (.iconst 0, 1) := by decide +kernel
theorem dL_refusesAny_197 : decode cL_refusesAny 197 = .ok (.invokestatic 99, 3) := by decide +kernel
theorem dL_refusesAny_200 : decode cL_refusesAny 200 = .ok (.bipush (-11), 2) := by decide +kernel
theorem dL_refusesAny_202 : decode cL_refusesAny 202 = .ok (.if_icmp .ne 20, 3) := by decide +kernel
theorem dL_refusesAny_205 : decode cL_refusesAny 205 = .ok (.aload_n 0, 1) := by decide +kernel
theorem dL_refusesAny_206 : decode cL_refusesAny 206 = .ok (.bipush 9, 2) := by decide +kernel
theorem dL_refusesAny_208 : decode cL_refusesAny 208 = .ok (.iload_n 3, 1) := by decide +kernel
theorem dL_refusesAny_209 : decode cL_refusesAny 209 = .ok (.iconst 0, 1) := by decide +kernel
theorem dL_refusesAny_210 : decode cL_refusesAny 210 = .ok (.invokestatic 99, 3) := by decide +kernel
theorem dL_refusesAny_213 : decode cL_refusesAny 213 = .ok (.bipush (-11), 2) := by decide +kernel
theorem dL_refusesAny_215 : decode cL_refusesAny 215 = .ok (.if_icmp .ne 7, 3) := by decide +kernel
theorem dL_refusesAny_218 : decode cL_refusesAny 218 = .ok (.iconst 1, 1) := by decide +kernel
theorem dL_refusesAny_219 : decode cL_refusesAny 219 = .ok (.goto 4, 3) := by decide +kernel
theorem dL_refusesAny_222 : decode cL_refusesAny 222 = .ok (.iconst 0, 1) := by decide +kernel
theorem dL_refusesAny_223 : decode cL_refusesAny 223 = .ok (.istore 4, 2) := by decide +kernel
theorem dL_refusesAny_225 : decode cL_refusesAny 225 = .ok (.iload 4, 2) := by decide +kernel
theorem dL_refusesAny_227 : decode cL_refusesAny 227 = .ok (.ifCond .eq 257, 3) := by decide +kernel
theorem dL_refusesAny_230 : decode cL_refusesAny 230 = .ok (.aload_n 0, 1) := by decide +kernel
theorem dL_refusesAny_231 : decode cL_refusesAny 231 = .ok (.bipush 10, 2) := by decide +kernel
theorem dL_refusesAny_233 : decode cL_refusesAny 233 = .ok (.iload_n 2, 1) := by decide +kernel
theorem dL_refusesAny_234 : decode cL_refusesAny 234 = .ok (.iconst 0, 1) := by decide +kernel
theorem dL_refusesAny_235 : decode cL_refusesAny 235 = .ok (.invokestatic 99, 3) := by decide +kernel
theorem dL_refusesAny_238 : decode cL_refusesAny 238 = .ok (.bipush (-11), 2) := by decide +kernel
theorem dL_refusesAny_240 : decode cL_refusesAny 240 = .ok (.if_icmp .ne 244, 3) := by decide +kernel
theorem dL_refusesAny_243 : decode cL_refusesAny 243 = .ok (.aload_n 0, 1) := by decide +kernel
theorem dL_refusesAny_244 : decode cL_refusesAny 244 = .ok (.bipush 11, 2) := by decide +kernel
theorem dL_refusesAny_246 : decode cL_refusesAny 246 = .ok (.iload_n 2, 1) := by decide +kernel
theorem dL_refusesAny_247 : decode cL_refusesAny 247 = .ok (.iconst 0, 1) := by decide +kernel
theorem dL_refusesAny_248 : decode cL_refusesAny 248 = .ok (.invokestatic 99, 3) := by decide +kernel
theorem dL_refusesAny_251 : decode cL_refusesAny 251 = .ok (.bipush (-11), 2) := by decide +kernel
theorem dL_refusesAny_253 : decode cL_refusesAny 253 = .ok (.if_icmp .ne 231, 3) := by decide +kernel
theorem dL_refusesAny_256 : decode cL_refusesAny 256 = .ok (.aload_n 0, 1) := by decide +kernel
theorem dL_refusesAny_257 : decode cL_refusesAny 257 = .ok (.bipush 11, 2) := by decide +kernel
theorem dL_refusesAny_259 : decode cL_refusesAny 259 = .ok (.iconst 0, 1) := by decide +kernel
theorem dL_refusesAny_260 : decode cL_refusesAny 260 = .ok (.iload_n 1, 1) := by decide +kernel
theorem dL_refusesAny_261 : decode cL_refusesAny 261 = .ok (.iconst 2, 1) := by decide +kernel
theorem dL_refusesAny_262 : decode cL_refusesAny 262 = .ok (.irem, 1) := by decide +kernel
theorem dL_refusesAny_263 : decode cL_refusesAny 263 = .ok (.ifCond .ne 7, 3) := by decide +kernel
theorem dL_refusesAny_266 : decode cL_refusesAny 266 = .ok (.iconst (-1), 1) := by decide +kernel
theorem dL_refusesAny_267 : decode cL_refusesAny 267 = .ok (.goto 4, 3) := by decide +kernel
theorem dL_refusesAny_270 : decode cL_refusesAny 270 = .ok (.iconst 4, 1) := by decide +kernel
theorem dL_refusesAny_271 : decode cL_refusesAny 271 = .ok (.invokestatic 99, 3) := by decide +kernel
theorem dL_refusesAny_274 : decode cL_refusesAny 274 = .ok (.bipush (-11), 2) := by decide +kernel
theorem dL_refusesAny_276 : decode cL_refusesAny 276 = .ok (.if_icmp .ne 208, 3) := by decide +kernel
theorem dL_refusesAny_279 : decode cL_refusesAny 279 = .ok (.aload_n 0, 1) := by decide +kernel
theorem dL_refusesAny_280 : decode cL_refusesAny 280 = .ok (.iconst 0, 1) := by decide +kernel
theorem dL_refusesAny_281 : decode cL_refusesAny 281 = .ok (.iload_n 2, 1) := by decide +kernel
theorem dL_refusesAny_282 : decode cL_refusesAny 282 = .ok (.iconst 0, 1) := by decide +kernel
theorem dL_refusesAny_283 : decode cL_refusesAny 283 = .ok (.invokestatic 105, 3) := by decide +kernel
theorem dL_refusesAny_286 : decode cL_refusesAny 286 = .ok (.bipush (-11), 2) := by decide +kernel
theorem dL_refusesAny_288 : decode cL_refusesAny 288 = .ok (.if_icmp .ne 196, 3) := by decide +kernel
theorem dL_refusesAny_291 : decode cL_refusesAny 291 = .ok (.aload_n 0, 1) := by decide +kernel
theorem dL_refusesAny_292 : decode cL_refusesAny 292 = .ok (.iconst 1, 1) := by decide +kernel
theorem dL_refusesAny_293 : decode cL_refusesAny 293 = .ok (.iload_n 3, 1) := by decide +kernel
theorem dL_refusesAny_294 : decode cL_refusesAny 294 = .ok (.iconst 0, 1) := by decide +kernel
theorem dL_refusesAny_295 : decode cL_refusesAny 295 = .ok (.invokestatic 105, 3) := by decide +kernel
theorem dL_refusesAny_298 : decode cL_refusesAny 298 = .ok (.bipush (-11), 2) := by decide +kernel
theorem dL_refusesAny_300 : decode cL_refusesAny 300 = .ok (.if_icmp .ne 184, 3) := by decide +kernel
theorem dL_refusesAny_303 : decode cL_refusesAny 303 = .ok (.aload_n 0, 1) := by decide +kernel
theorem dL_refusesAny_304 : decode cL_refusesAny 304 = .ok (.iconst 2, 1) := by decide +kernel
theorem dL_refusesAny_305 : decode cL_refusesAny 305 = .ok (.iload_n 3, 1) := by decide +kernel
theorem dL_refusesAny_306 : decode cL_refusesAny 306 = .ok (.iconst 0, 1) := by decide +kernel
theorem dL_refusesAny_307 : decode cL_refusesAny 307 = .ok (.invokestatic 105, 3) := by decide +kernel
theorem dL_refusesAny_310 : decode cL_refusesAny 310 = .ok (.bipush (-11), 2) := by decide +kernel
theorem dL_refusesAny_312 : decode cL_refusesAny 312 = .ok (.if_icmp .ne 172, 3) := by decide +kernel
theorem dL_refusesAny_315 : decode cL_refusesAny 315 = .ok (.aload_n 0, 1) := by decide +kernel
theorem dL_refusesAny_316 : decode cL_refusesAny 316 = .ok (.iconst 2, 1) := by decide +kernel
theorem dL_refusesAny_317 : decode cL_refusesAny 317 = .ok (.iconst 0, 1) := by decide +kernel
theorem dL_refusesAny_318 : decode cL_refusesAny 318 = .ok (.iload_n 1, 1) := by decide +kernel
theorem dL_refusesAny_319 : decode cL_refusesAny 319 = .ok (.iconst 2, 1) := by decide +kernel
theorem dL_refusesAny_320 : decode cL_refusesAny 320 = .ok (.irem, 1) := by decide +kernel
theorem dL_refusesAny_321 : decode cL_refusesAny 321 = .ok (.ifCond .ne 7, 3) := by decide +kernel
theorem dL_refusesAny_324 : decode cL_refusesAny 324 = .ok (.iconst 5, 1) := by decide +kernel
theorem dL_refusesAny_325 : decode cL_refusesAny 325 = .ok (.goto 5, 3) := by decide +kernel
theorem dL_refusesAny_328 : decode cL_refusesAny 328 = .ok (.bipush 105, 2) := by decide +kernel
theorem dL_refusesAny_330 : decode cL_refusesAny 330 = .ok (.invokestatic 105, 3) := by decide +kernel
theorem dL_refusesAny_333 : decode cL_refusesAny 333 = .ok (.bipush (-11), 2) := by decide +kernel
theorem dL_refusesAny_335 : decode cL_refusesAny 335 = .ok (.if_icmp .ne 149, 3) := by decide +kernel
theorem dL_refusesAny_338 : decode cL_refusesAny 338 = .ok (.aload_n 0, 1) := by decide +kernel
theorem dL_refusesAny_339 : decode cL_refusesAny 339 = .ok (.iconst 2, 1) := by decide +kernel
theorem dL_refusesAny_340 : decode cL_refusesAny 340 = .ok (.iconst 0, 1) := by decide +kernel
theorem dL_refusesAny_341 : decode cL_refusesAny 341 = .ok (.iconst (-1), 1) := by decide +kernel
theorem dL_refusesAny_342 : decode cL_refusesAny 342 = .ok (.invokestatic 105, 3) := by decide +kernel
theorem dL_refusesAny_345 : decode cL_refusesAny 345 = .ok (.bipush (-11), 2) := by decide +kernel
theorem dL_refusesAny_347 : decode cL_refusesAny 347 = .ok (.if_icmp .ne 137, 3) := by decide +kernel
theorem dL_refusesAny_350 : decode cL_refusesAny 350 = .ok (.aload_n 0, 1) := by decide +kernel
theorem dL_refusesAny_351 : decode cL_refusesAny 351 = .ok (.iconst 3, 1) := by decide +kernel
theorem dL_refusesAny_352 : decode cL_refusesAny 352 = .ok (.iload_n 2, 1) := by decide +kernel
theorem dL_refusesAny_353 : decode cL_refusesAny 353 = .ok (.iconst 0, 1) := by decide +kernel
theorem dL_refusesAny_354 : decode cL_refusesAny 354 = .ok (.invokestatic 105, 3) := by decide +kernel
theorem dL_refusesAny_357 : decode cL_refusesAny 357 = .ok (.bipush (-11), 2) := by decide +kernel
theorem dL_refusesAny_359 : decode cL_refusesAny 359 = .ok (.if_icmp .ne 125, 3) := by decide +kernel
theorem dL_refusesAny_362 : decode cL_refusesAny 362 = .ok (.aload_n 0, 1) := by decide +kernel
theorem dL_refusesAny_363 : decode cL_refusesAny 363 = .ok (.iconst 3, 1) := by decide +kernel
theorem dL_refusesAny_364 : decode cL_refusesAny 364 = .ok (.iconst 0, 1) := by decide +kernel
theorem dL_refusesAny_365 : decode cL_refusesAny 365 = .ok (.iload_n 3, 1) := by decide +kernel
theorem dL_refusesAny_366 : decode cL_refusesAny 366 = .ok (.invokestatic 105, 3) := by decide +kernel
theorem dL_refusesAny_369 : decode cL_refusesAny 369 = .ok (.bipush (-11), 2) := by decide +kernel
theorem dL_refusesAny_371 : decode cL_refusesAny 371 = .ok (.if_icmp .ne 113, 3) := by decide +kernel
theorem dL_refusesAny_374 : decode cL_refusesAny 374 = .ok (.aload_n 0, 1) := by decide +kernel
theorem dL_refusesAny_375 : decode cL_refusesAny 375 = .ok (.iconst 4, 1) := by decide +kernel
theorem dL_refusesAny_376 : decode cL_refusesAny 376 = .ok (.iload_n 1, 1) := by decide +kernel
theorem dL_refusesAny_377 : decode cL_refusesAny 377 = .ok (.iconst 2, 1) := by decide +kernel
theorem dL_refusesAny_378 : decode cL_refusesAny 378 = .ok (.irem, 1) := by decide +kernel
theorem dL_refusesAny_379 : decode cL_refusesAny 379 = .ok (.ifCond .ne 7, 3) := by decide +kernel
theorem dL_refusesAny_382 : decode cL_refusesAny 382 = .ok (.iconst (-1), 1) := by decide +kernel
theorem dL_refusesAny_383 : decode cL_refusesAny 383 = .ok (.goto 5, 3) := by decide +kernel
theorem dL_refusesAny_386 : decode cL_refusesAny 386 = .ok (.bipush 7, 2) := by decide +kernel
theorem dL_refusesAny_388 : decode cL_refusesAny 388 = .ok (.iconst 0, 1) := by decide +kernel
theorem dL_refusesAny_389 : decode cL_refusesAny 389 = .ok (.invokestatic 105, 3) := by decide +kernel
theorem dL_refusesAny_392 : decode cL_refusesAny 392 = .ok (.bipush (-11), 2) := by decide +kernel
theorem dL_refusesAny_394 : decode cL_refusesAny 394 = .ok (.if_icmp .ne 90, 3) := by decide +kernel
theorem dL_refusesAny_397 : decode cL_refusesAny 397 = .ok (.aload_n 0, 1) := by decide +kernel
theorem dL_refusesAny_398 : decode cL_refusesAny 398 = .ok (.iconst 5, 1) := by decide +kernel
theorem dL_refusesAny_399 : decode cL_refusesAny 399 = .ok (.iload_n 1, 1) := by decide +kernel
theorem dL_refusesAny_400 : decode cL_refusesAny 400 = .ok (.iconst 2, 1) := by decide +kernel
theorem dL_refusesAny_401 : decode cL_refusesAny 401 = .ok (.irem, 1) := by decide +kernel
theorem dL_refusesAny_402 : decode cL_refusesAny 402 = .ok (.ifCond .ne 7, 3) := by decide +kernel
theorem dL_refusesAny_405 : decode cL_refusesAny 405 = .ok (.iconst (-1), 1) := by decide +kernel
theorem dL_refusesAny_406 : decode cL_refusesAny 406 = .ok (.goto 5, 3) := by decide +kernel
theorem dL_refusesAny_409 : decode cL_refusesAny 409 = .ok (.bipush 6, 2) := by decide +kernel
theorem dL_refusesAny_411 : decode cL_refusesAny 411 = .ok (.iconst 0, 1) := by decide +kernel
theorem dL_refusesAny_412 : decode cL_refusesAny 412 = .ok (.invokestatic 105, 3) := by decide +kernel
theorem dL_refusesAny_415 : decode cL_refusesAny 415 = .ok (.bipush (-11), 2) := by decide +kernel
theorem dL_refusesAny_417 : decode cL_refusesAny 417 = .ok (.if_icmp .ne 67, 3) := by decide +kernel
theorem dL_refusesAny_420 : decode cL_refusesAny 420 = .ok (.aload_n 0, 1) := by decide +kernel
theorem dL_refusesAny_421 : decode cL_refusesAny 421 = .ok (.bipush 6, 2) := by decide +kernel
theorem dL_refusesAny_423 : decode cL_refusesAny 423 = .ok (.iload_n 3, 1) := by decide +kernel
theorem dL_refusesAny_424 : decode cL_refusesAny 424 = .ok (.iconst 0, 1) := by decide +kernel
theorem dL_refusesAny_425 : decode cL_refusesAny 425 = .ok (.invokestatic 105, 3) := by decide +kernel
theorem dL_refusesAny_428 : decode cL_refusesAny 428 = .ok (.bipush (-11), 2) := by decide +kernel
theorem dL_refusesAny_430 : decode cL_refusesAny 430 = .ok (.if_icmp .ne 54, 3) := by decide +kernel
theorem dL_refusesAny_433 : decode cL_refusesAny 433 = .ok (.aload_n 0, 1) := by decide +kernel
theorem dL_refusesAny_434 : decode cL_refusesAny 434 = .ok (.bipush 7, 2) := by decide +kernel
theorem dL_refusesAny_436 : decode cL_refusesAny 436 = .ok (.iload_n 1, 1) := by decide +kernel
theorem dL_refusesAny_437 : decode cL_refusesAny 437 = .ok (.iconst 2, 1) := by decide +kernel
theorem dL_refusesAny_438 : decode cL_refusesAny 438 = .ok (.irem, 1) := by decide +kernel
theorem dL_refusesAny_439 : decode cL_refusesAny 439 = .ok (.ifCond .ne 7, 3) := by decide +kernel
theorem dL_refusesAny_442 : decode cL_refusesAny 442 = .ok (.iconst (-1), 1) := by decide +kernel
theorem dL_refusesAny_443 : decode cL_refusesAny 443 = .ok (.goto 5, 3) := by decide +kernel
theorem dL_refusesAny_446 : decode cL_refusesAny 446 = .ok (.bipush 9, 2) := by decide +kernel
theorem dL_refusesAny_448 : decode cL_refusesAny 448 = .ok (.iconst 0, 1) := by decide +kernel
theorem dL_refusesAny_449 : decode cL_refusesAny 449 = .ok (.invokestatic 105, 3) := by decide +kernel
theorem dL_refusesAny_452 : decode cL_refusesAny 452 = .ok (.bipush (-11), 2) := by decide +kernel
theorem dL_refusesAny_454 : decode cL_refusesAny 454 = .ok (.if_icmp .ne 30, 3) := by decide +kernel
theorem dL_refusesAny_457 : decode cL_refusesAny 457 = .ok (.aload_n 0, 1) := by decide +kernel
theorem dL_refusesAny_458 : decode cL_refusesAny 458 = .ok (.bipush 8, 2) := by decide +kernel
theorem dL_refusesAny_460 : decode cL_refusesAny 460 = .ok (.iload_n 1, 1) := by decide +kernel
theorem dL_refusesAny_461 : decode cL_refusesAny 461 = .ok (.iconst 2, 1) := by decide +kernel
theorem dL_refusesAny_462 : decode cL_refusesAny 462 = .ok (.irem, 1) := by decide +kernel
theorem dL_refusesAny_463 : decode cL_refusesAny 463 = .ok (.ifCond .ne 7, 3) := by decide +kernel
theorem dL_refusesAny_466 : decode cL_refusesAny 466 = .ok (.iconst (-1), 1) := by decide +kernel
theorem dL_refusesAny_467 : decode cL_refusesAny 467 = .ok (.goto 4, 3) := by decide +kernel
theorem dL_refusesAny_470 : decode cL_refusesAny 470 = .ok (.iconst 3, 1) := by decide +kernel
theorem dL_refusesAny_471 : decode cL_refusesAny 471 = .ok (.iconst 0, 1) := by decide +kernel
theorem dL_refusesAny_472 : decode cL_refusesAny 472 = .ok (.invokestatic 105, 3) := by decide +kernel
theorem dL_refusesAny_475 : decode cL_refusesAny 475 = .ok (.bipush (-10), 2) := by decide +kernel
theorem dL_refusesAny_477 : decode cL_refusesAny 477 = .ok (.if_icmp .ne 7, 3) := by decide +kernel
theorem dL_refusesAny_480 : decode cL_refusesAny 480 = .ok (.iconst 1, 1) := by decide +kernel
theorem dL_refusesAny_481 : decode cL_refusesAny 481 = .ok (.goto 4, 3) := by decide +kernel
theorem dL_refusesAny_484 : decode cL_refusesAny 484 = .ok (.iconst 0, 1) := by decide +kernel
theorem dL_refusesAny_485 : decode cL_refusesAny 485 = .ok (.istore 4, 2) := by decide +kernel
theorem dL_refusesAny_487 : decode cL_refusesAny 487 = .ok (.iload 4, 2) := by decide +kernel
theorem dL_refusesAny_489 : decode cL_refusesAny 489 = .ok (.ifCond .eq 70, 3) := by decide +kernel
theorem dL_refusesAny_492 : decode cL_refusesAny 492 = .ok (.aload_n 0, 1) := by decide +kernel
theorem dL_refusesAny_493 : decode cL_refusesAny 493 = .ok (.bipush 9, 2) := by decide +kernel
theorem dL_refusesAny_495 : decode cL_refusesAny 495 = .ok (.iload_n 1, 1) := by decide +kernel
theorem dL_refusesAny_496 : decode cL_refusesAny 496 = .ok (.iconst 2, 1) := by decide +kernel
theorem dL_refusesAny_497 : decode cL_refusesAny 497 = .ok (.irem, 1) := by decide +kernel
theorem dL_refusesAny_498 : decode cL_refusesAny 498 = .ok (.ifCond .ne 7, 3) := by decide +kernel
theorem dL_refusesAny_501 : decode cL_refusesAny 501 = .ok (.iconst 0, 1) := by decide +kernel
theorem dL_refusesAny_502 : decode cL_refusesAny 502 = .ok (.goto 5, 3) := by decide +kernel
theorem dL_refusesAny_505 : decode cL_refusesAny 505 = .ok (.bipush 9, 2) := by decide +kernel
theorem dL_refusesAny_507 : decode cL_refusesAny 507 = .ok (.iconst 0, 1) := by decide +kernel
theorem dL_refusesAny_508 : decode cL_refusesAny 508 = .ok (.invokestatic 105, 3) := by decide +kernel
theorem dL_refusesAny_511 : decode cL_refusesAny 511 = .ok (.bipush (-11), 2) := by decide +kernel
theorem dL_refusesAny_513 : decode cL_refusesAny 513 = .ok (.if_icmp .ne 46, 3) := by decide +kernel
theorem dL_refusesAny_516 : decode cL_refusesAny 516 = .ok (.aload_n 0, 1) := by decide +kernel
theorem dL_refusesAny_517 : decode cL_refusesAny 517 = .ok (.bipush 10, 2) := by decide +kernel
theorem dL_refusesAny_519 : decode cL_refusesAny 519 = .ok (.iload_n 1, 1) := by decide +kernel
theorem dL_refusesAny_520 : decode cL_refusesAny 520 = .ok (.iconst 2, 1) := by decide +kernel
theorem dL_refusesAny_521 : decode cL_refusesAny 521 = .ok (.irem, 1) := by decide +kernel
theorem dL_refusesAny_522 : decode cL_refusesAny 522 = .ok (.ifCond .ne 7, 3) := by decide +kernel
theorem dL_refusesAny_525 : decode cL_refusesAny 525 = .ok (.iconst 0, 1) := by decide +kernel
theorem dL_refusesAny_526 : decode cL_refusesAny 526 = .ok (.goto 5, 3) := by decide +kernel
theorem dL_refusesAny_529 : decode cL_refusesAny 529 = .ok (.bipush 9, 2) := by decide +kernel
theorem dL_refusesAny_531 : decode cL_refusesAny 531 = .ok (.iconst 0, 1) := by decide +kernel
theorem dL_refusesAny_532 : decode cL_refusesAny 532 = .ok (.invokestatic 105, 3) := by decide +kernel
theorem dL_refusesAny_535 : decode cL_refusesAny 535 = .ok (.bipush (-11), 2) := by decide +kernel
theorem dL_refusesAny_537 : decode cL_refusesAny 537 = .ok (.if_icmp .ne 22, 3) := by decide +kernel
theorem dL_refusesAny_540 : decode cL_refusesAny 540 = .ok (.aload_n 0, 1) := by decide +kernel
theorem dL_refusesAny_541 : decode cL_refusesAny 541 = .ok (.bipush 11, 2) := by decide +kernel
theorem dL_refusesAny_543 : decode cL_refusesAny 543 = .ok (.iconst 1, 1) := by decide +kernel
theorem dL_refusesAny_544 : decode cL_refusesAny 544 = .ok (.iload_n 3, 1) := by decide +kernel
theorem dL_refusesAny_545 : decode cL_refusesAny 545 = .ok (.iadd, 1) := by decide +kernel
theorem dL_refusesAny_546 : decode cL_refusesAny 546 = .ok (.iconst 0, 1) := by decide +kernel
theorem dL_refusesAny_547 : decode cL_refusesAny 547 = .ok (.invokestatic 105, 3) := by decide +kernel
theorem dL_refusesAny_550 : decode cL_refusesAny 550 = .ok (.bipush (-11), 2) := by decide +kernel
theorem dL_refusesAny_552 : decode cL_refusesAny 552 = .ok (.if_icmp .ne 7, 3) := by decide +kernel
theorem dL_refusesAny_555 : decode cL_refusesAny 555 = .ok (.iconst 1, 1) := by decide +kernel
theorem dL_refusesAny_556 : decode cL_refusesAny 556 = .ok (.goto 4, 3) := by decide +kernel
theorem dL_refusesAny_559 : decode cL_refusesAny 559 = .ok (.iconst 0, 1) := by decide +kernel
theorem dL_refusesAny_560 : decode cL_refusesAny 560 = .ok (.istore 4, 2) := by decide +kernel
theorem dL_refusesAny_562 : decode cL_refusesAny 562 = .ok (.iload 4, 2) := by decide +kernel
theorem dL_refusesAny_564 : decode cL_refusesAny 564 = .ok (.ifCond .eq 42, 3) := by decide +kernel
theorem dL_refusesAny_567 : decode cL_refusesAny 567 = .ok (.aload_n 0, 1) := by decide +kernel
theorem dL_refusesAny_568 : decode cL_refusesAny 568 = .ok (.iconst 0, 1) := by decide +kernel
theorem dL_refusesAny_569 : decode cL_refusesAny 569 = .ok (.invokevirtual 74, 3) := by decide +kernel
theorem dL_refusesAny_572 : decode cL_refusesAny 572 = .ok (.ifCond .le 18, 3) := by decide +kernel
theorem dL_refusesAny_575 : decode cL_refusesAny 575 = .ok (.aload_n 0, 1) := by decide +kernel
theorem dL_refusesAny_576 : decode cL_refusesAny 576 = .ok (.iconst 2, 1) := by decide +kernel
theorem dL_refusesAny_577 : decode cL_refusesAny 577 = .ok (.iconst 0, 1) := by decide +kernel
theorem dL_refusesAny_578 : decode cL_refusesAny 578 = .ok (.iconst 0, 1) := by decide +kernel
theorem dL_refusesAny_579 : decode cL_refusesAny 579 = .ok (.invokestatic 99, 3) := by decide +kernel
theorem dL_refusesAny_582 : decode cL_refusesAny 582 = .ok (.bipush (-12), 2) := by decide +kernel
theorem dL_refusesAny_584 : decode cL_refusesAny 584 = .ok (.if_icmp .ne 22, 3) := by decide +kernel
theorem dL_refusesAny_587 : decode cL_refusesAny 587 = .ok (.goto 15, 3) := by decide +kernel
theorem dL_refusesAny_590 : decode cL_refusesAny 590 = .ok (.aload_n 0, 1) := by decide +kernel
theorem dL_refusesAny_591 : decode cL_refusesAny 591 = .ok (.iconst 3, 1) := by decide +kernel
theorem dL_refusesAny_592 : decode cL_refusesAny 592 = .ok (.iconst 0, 1) := by decide +kernel
theorem dL_refusesAny_593 : decode cL_refusesAny 593 = .ok (.iconst 0, 1) := by decide +kernel
theorem dL_refusesAny_594 : decode cL_refusesAny 594 = .ok (.invokestatic 99, 3) := by decide +kernel
theorem dL_refusesAny_597 : decode cL_refusesAny 597 = .ok (.bipush (-12), 2) := by decide +kernel
theorem dL_refusesAny_599 : decode cL_refusesAny 599 = .ok (.if_icmp .ne 7, 3) := by decide +kernel
theorem dL_refusesAny_602 : decode cL_refusesAny 602 = .ok (.iconst 1, 1) := by decide +kernel
theorem dL_refusesAny_603 : decode cL_refusesAny 603 = .ok (.goto 4, 3) := by decide +kernel
theorem dL_refusesAny_606 : decode cL_refusesAny 606 = .ok (.iconst 0, 1) := by decide +kernel
theorem dL_refusesAny_607 : decode cL_refusesAny 607 = .ok (.ireturn, 1) := by decide +kernel
theorem dL_isFull_0 : decode cL_isFull 0 = .ok (.aload_n 0, 1) := by decide +kernel
theorem dL_isFull_1 : decode cL_isFull 1 = .ok (.iconst 4, 1) := by decide +kernel
theorem dL_isFull_2 : decode cL_isFull 2 = .ok (.iconst 0, 1) := by decide +kernel
theorem dL_isFull_3 : decode cL_isFull 3 = .ok (.bipush 100, 2) := by decide +kernel
theorem dL_isFull_5 : decode cL_isFull 5 = .ok (.invokestatic 99, 3) := by decide +kernel
theorem dL_isFull_8 : decode cL_isFull 8 = .ok (.ifCond .lt 28, 3) := by decide +kernel
theorem dL_isFull_11 : decode cL_isFull 11 = .ok (.aload_n 0, 1) := by decide +kernel
theorem dL_isFull_12 : decode cL_isFull 12 = .ok (.iconst 4, 1) := by decide +kernel
theorem dL_isFull_13 : decode cL_isFull 13 = .ok (.iconst 1, 1) := by decide +kernel
theorem dL_isFull_14 : decode cL_isFull 14 = .ok (.bipush 40, 2) := by decide +kernel
theorem dL_isFull_16 : decode cL_isFull 16 = .ok (.invokestatic 99, 3) := by decide +kernel
theorem dL_isFull_19 : decode cL_isFull 19 = .ok (.ifCond .lt 17, 3) := by decide +kernel
theorem dL_isFull_22 : decode cL_isFull 22 = .ok (.aload_n 0, 1) := by decide +kernel
theorem dL_isFull_23 : decode cL_isFull 23 = .ok (.iconst 4, 1) := by decide +kernel
theorem dL_isFull_24 : decode cL_isFull 24 = .ok (.iconst 2, 1) := by decide +kernel
theorem dL_isFull_25 : decode cL_isFull 25 = .ok (.iconst 1, 1) := by decide +kernel
theorem dL_isFull_26 : decode cL_isFull 26 = .ok (.invokestatic 99, 3) := by decide +kernel
theorem dL_isFull_29 : decode cL_isFull 29 = .ok (.ifCond .lt 7, 3) := by decide +kernel
theorem dL_isFull_32 : decode cL_isFull 32 = .ok (.iconst 1, 1) := by decide +kernel
theorem dL_isFull_33 : decode cL_isFull 33 = .ok (.goto 4, 3) := by decide +kernel
theorem dL_isFull_36 : decode cL_isFull 36 = .ok (.iconst 0, 1) := by decide +kernel
theorem dL_isFull_37 : decode cL_isFull 37 = .ok (.istore_n 2, 1) := by decide +kernel
theorem dL_isFull_38 : decode cL_isFull 38 = .ok (.bipush 64, 2) := by decide +kernel
theorem dL_isFull_40 : decode cL_isFull 40 = .ok (.istore_n 3, 1) := by decide +kernel
theorem dL_isFull_41 : decode cL_isFull 41 = .ok (.iload_n 3, 1) := by decide +kernel
theorem dL_isFull_42 : decode cL_isFull 42 = .ok (.ifCond .le 58, 3) := by decide +kernel
theorem dL_isFull_45 : decode cL_isFull 45 = .ok (.iload_n 3, 1) := by decide +kernel
theorem dL_isFull_46 : decode cL_isFull 46 = .ok (.iconst 1, 1) := by decide +kernel
theorem dL_isFull_47 : decode cL_isFull 47 = .ok (.isub, 1) := by decide +kernel
theorem dL_isFull_48 : decode cL_isFull 48 = .ok (.istore 4, 2) := by decide +kernel
theorem dL_isFull_50 : decode cL_isFull 50 = .ok (.iload 4, 2) := by decide +kernel
theorem dL_isFull_52 : decode cL_isFull 52 = .ok (.bipush 120, 2) := by decide +kernel
theorem dL_isFull_54 : decode cL_isFull 54 = .ok (.if_icmp .ge 39, 3) := by decide +kernel
theorem dL_isFull_57 : decode cL_isFull 57 = .ok (.iload_n 2, 1) := by decide +kernel
theorem dL_isFull_58 : decode cL_isFull 58 = .ok (.ifCond .eq 35, 3) := by decide +kernel
theorem dL_isFull_61 : decode cL_isFull 61 = .ok (.aload_n 0, 1) := by decide +kernel
theorem dL_isFull_62 : decode cL_isFull 62 = .ok (.iconst 0, 1) := by decide +kernel
theorem dL_isFull_63 : decode cL_isFull 63 = .ok (.iload 4, 2) := by decide +kernel
theorem dL_isFull_65 : decode cL_isFull 65 = .ok (.invokestatic 116, 3) := by decide +kernel
theorem dL_isFull_68 : decode cL_isFull 68 = .ok (.iconst 0, 1) := by decide +kernel
theorem dL_isFull_69 : decode cL_isFull 69 = .ok (.invokestatic 99, 3) := by decide +kernel
theorem dL_isFull_72 : decode cL_isFull 72 = .ok (.iconst 1, 1) := by decide +kernel
theorem dL_isFull_73 : decode cL_isFull 73 = .ok (.if_icmp .ne 7, 3) := by decide +kernel
theorem dL_isFull_76 : decode cL_isFull 76 = .ok (.iconst 1, 1) := by decide +kernel
theorem dL_isFull_77 : decode cL_isFull 77 = .ok (.goto 4, 3) := by decide +kernel
theorem dL_isFull_80 : decode cL_isFull 80 = .ok (.iconst 0, 1) := by decide +kernel
theorem dL_isFull_81 : decode cL_isFull 81 = .ok (.istore_n 2, 1) := by decide +kernel
theorem dL_isFull_82 : decode cL_isFull 82 = .ok (.iload 4, 2) := by decide +kernel
theorem dL_isFull_84 : decode cL_isFull 84 = .ok (.iconst 2, 1) := by decide +kernel
theorem dL_isFull_85 : decode cL_isFull 85 = .ok (.iload_n 3, 1) := by decide +kernel
theorem dL_isFull_86 : decode cL_isFull 86 = .ok (.imul, 1) := by decide +kernel
theorem dL_isFull_87 : decode cL_isFull 87 = .ok (.iadd, 1) := by decide +kernel
theorem dL_isFull_88 : decode cL_isFull 88 = .ok (.istore 4, 2) := by decide +kernel
theorem dL_isFull_90 : decode cL_isFull 90 = .ok (.goto (-40), 3) := by decide +kernel
theorem dL_isFull_93 : decode cL_isFull 93 = .ok (.iload_n 3, 1) := by decide +kernel
theorem dL_isFull_94 : decode cL_isFull 94 = .ok (.iconst 2, 1) := by decide +kernel
theorem dL_isFull_95 : decode cL_isFull 95 = .ok (.idiv, 1) := by decide +kernel
theorem dL_isFull_96 : decode cL_isFull 96 = .ok (.istore_n 3, 1) := by decide +kernel
theorem dL_isFull_97 : decode cL_isFull 97 = .ok (.goto (-56), 3) := by decide +kernel
theorem dL_isFull_100 : decode cL_isFull 100 = .ok (.iconst 4, 1) := by decide +kernel
theorem dL_isFull_101 : decode cL_isFull 101 = .ok (.iload_n 1, 1) := by decide +kernel
theorem dL_isFull_102 : decode cL_isFull 102 = .ok (.bipush 120, 2) := by decide +kernel
theorem dL_isFull_104 : decode cL_isFull 104 = .ok (.irem, 1) := by decide +kernel
theorem dL_isFull_105 : decode cL_isFull 105 = .ok (.imul, 1) := by decide +kernel
theorem dL_isFull_106 : decode cL_isFull 106 = .ok (.iconst 3, 1) := by decide +kernel
theorem dL_isFull_107 : decode cL_isFull 107 = .ok (.iadd, 1) := by decide +kernel
theorem dL_isFull_108 : decode cL_isFull 108 = .ok (.istore_n 3, 1) := by decide +kernel
theorem dL_isFull_109 : decode cL_isFull 109 = .ok (.aload_n 0, 1) := by decide +kernel
theorem dL_isFull_110 : decode cL_isFull 110 = .ok (.invokestatic 108, 3) := by decide +kernel
theorem dL_isFull_113 : decode cL_isFull 113 = .ok (.lstore 4, 2) := by decide +kernel
theorem dL_isFull_115 : decode cL_isFull 115 = .ok (.iload_n 2, 1) := by decide +kernel
theorem dL_isFull_116 : decode cL_isFull 116 = .ok (.ifCond .eq 93, 3) := by decide +kernel
theorem dL_isFull_119 : decode cL_isFull 119 = .ok (.aload_n 0, 1) := by decide +kernel
theorem dL_isFull_120 : decode cL_isFull 120 = .ok (.iconst 0, 1) := by decide +kernel
theorem dL_isFull_121 : decode cL_isFull 121 = .ok (.iconst 0, 1) := by decide +kernel
theorem dL_isFull_122 : decode cL_isFull 122 = .ok (.invokevirtual 70, 3) := by decide +kernel
theorem dL_isFull_125 : decode cL_isFull 125 = .ok (.bipush 120, 2) := by decide +kernel
theorem dL_isFull_127 : decode cL_isFull 127 = .ok (.if_icmp .ne 82, 3) := by decide +kernel
theorem dL_isFull_130 : decode cL_isFull 130 = .ok (.aload_n 0, 1) := by decide +kernel
theorem dL_isFull_131 : decode cL_isFull 131 = .ok (.iconst 0, 1) := by decide +kernel
theorem dL_isFull_132 : decode cL_isFull 132 = .ok (.iconst 3, 1) := by decide +kernel
theorem dL_isFull_133 : decode cL_isFull 133 = .ok (.invokevirtual 70, 3) := by decide +kernel
theorem dL_isFull_136 : decode cL_isFull 136 = .ok (.bipush 7, 2) := by decide +kernel
theorem dL_isFull_138 : decode cL_isFull 138 = .ok (.if_icmp .ne 71, 3) := by decide +kernel
theorem dL_isFull_141 : decode cL_isFull 141 = .ok (.aload_n 0, 1) := by decide +kernel
theorem dL_isFull_142 : decode cL_isFull 142 = .ok (.iconst 0, 1) := by decide +kernel
theorem dL_isFull_143 : decode cL_isFull 143 = .ok (.invokevirtual 74, 3) := by decide +kernel
theorem dL_isFull_146 : decode cL_isFull 146 = .ok (.ifCond .ne 63, 3) := by decide +kernel
theorem dL_isFull_149 : decode cL_isFull 149 = .ok (.aload_n 0, 1) := by decide +kernel
theorem dL_isFull_150 : decode cL_isFull 150 = .ok (.iconst 4, 1) := by decide +kernel
theorem dL_isFull_151 : decode cL_isFull 151 = .ok (.invokevirtual 80, 3) := by decide +kernel
theorem dL_isFull_154 : decode cL_isFull 154 = .ok (.ifCond .ne 55, 3) := by decide +kernel
theorem dL_isFull_157 : decode cL_isFull 157 = .ok (.aload_n 0, 1) := by decide +kernel
theorem dL_isFull_158 : decode cL_isFull 158 = .ok (.iconst 0, 1) := by decide +kernel
theorem dL_isFull_159 : decode cL_isFull 159 = .ok (.iload_n 3, 1) := by decide +kernel
theorem dL_isFull_160 : decode cL_isFull 160 = .ok (.iconst 0, 1) := by decide +kernel
theorem dL_isFull_161 : decode cL_isFull 161 = .ok (.invokestatic 99, 3) := by decide +kernel
theorem dL_isFull_164 : decode cL_isFull 164 = .ok (.bipush (-12), 2) := by decide +kernel
theorem dL_isFull_166 : decode cL_isFull 166 = .ok (.if_icmp .ne 43, 3) := by decide +kernel
theorem dL_isFull_169 : decode cL_isFull 169 = .ok (.aload_n 0, 1) := by decide +kernel
theorem dL_isFull_170 : decode cL_isFull 170 = .ok (.invokestatic 108, 3) := by decide +kernel
theorem dL_isFull_173 : decode cL_isFull 173 = .ok (.lload 4, 2) := by decide +kernel
theorem dL_isFull_175 : decode cL_isFull 175 = .ok (.lcmp, 1) := by decide +kernel
theorem dL_isFull_176 : decode cL_isFull 176 = .ok (.ifCond .ne 33, 3) := by decide +kernel
theorem dL_isFull_179 : decode cL_isFull 179 = .ok (.aload_n 0, 1) := by decide +kernel
theorem dL_isFull_180 : decode cL_isFull 180 = .ok (.iconst 1, 1) := by decide +kernel
theorem dL_isFull_181 : decode cL_isFull 181 = .ok (.iload_n 3, 1) := by decide +kernel
theorem dL_isFull_182 : decode cL_isFull 182 = .ok (.iconst 0, 1) := by decide +kernel
theorem dL_isFull_183 : decode cL_isFull 183 = .ok (.invokestatic 99, 3) := by decide +kernel
theorem dL_isFull_186 : decode cL_isFull 186 = .ok (.ifCond .ne 23, 3) := by decide +kernel
theorem dL_isFull_189 : decode cL_isFull 189 = .ok (.aload_n 0, 1) := by decide +kernel
theorem dL_isFull_190 : decode cL_isFull 190 = .ok (.iconst 0, 1) := by decide +kernel
theorem dL_isFull_191 : decode cL_isFull 191 = .ok (.iload_n 1, 1) := by decide +kernel
theorem dL_isFull_192 : decode cL_isFull 192 = .ok (.bipush 120, 2) := by decide +kernel
theorem dL_isFull_194 : decode cL_isFull 194 = .ok (.irem, 1) := by decide +kernel
theorem dL_isFull_195 : decode cL_isFull 195 = .ok (.invokestatic 116, 3) := by decide +kernel
theorem dL_isFull_198 : decode cL_isFull 198 = .ok (.iconst 0, 1) := by decide +kernel
theorem dL_isFull_199 : decode cL_isFull 199 = .ok (.invokestatic 99, 3) := by decide +kernel
theorem dL_isFull_202 : decode cL_isFull 202 = .ok (.ifCond .ne 7, 3) := by decide +kernel
theorem dL_isFull_205 : decode cL_isFull 205 = .ok (.iconst 1, 1) := by decide +kernel
theorem dL_isFull_206 : decode cL_isFull 206 = .ok (.goto 4, 3) := by decide +kernel
theorem dL_isFull_209 : decode cL_isFull 209 = .ok (.iconst 0, 1) := by decide +kernel
theorem dL_isFull_210 : decode cL_isFull 210 = .ok (.istore_n 2, 1) := by decide +kernel
theorem dL_isFull_211 : decode cL_isFull 211 = .ok (.iload_n 2, 1) := by decide +kernel
theorem dL_isFull_212 : decode cL_isFull 212 = .ok (.ifCond .eq 95, 3) := by decide +kernel
theorem dL_isFull_215 : decode cL_isFull 215 = .ok (.aload_n 0, 1) := by decide +kernel
theorem dL_isFull_216 : decode cL_isFull 216 = .ok (.iconst 5, 1) := by decide +kernel
theorem dL_isFull_217 : decode cL_isFull 217 = .ok (.bipush 46, 2) := by decide +kernel
theorem dL_isFull_219 : decode cL_isFull 219 = .ok (.iconst 0, 1) := by decide +kernel
theorem dL_isFull_220 : decode cL_isFull 220 = .ok (.invokestatic 99, 3) := by decide +kernel
theorem dL_isFull_223 : decode cL_isFull 223 = .ok (.iconst 1, 1) := by decide +kernel
theorem dL_isFull_224 : decode cL_isFull 224 = .ok (.if_icmp .ne 83, 3) := by decide +kernel
theorem dL_isFull_227 : decode cL_isFull 227 = .ok (.aload_n 0, 1) := by decide +kernel
theorem dL_isFull_228 : decode cL_isFull 228 = .ok (.iconst 5, 1) := by decide +kernel
theorem dL_isFull_229 : decode cL_isFull 229 = .ok (.bipush 59, 2) := by decide +kernel
theorem dL_isFull_231 : decode cL_isFull 231 = .ok (.iconst 0, 1) := by decide +kernel
theorem dL_isFull_232 : decode cL_isFull 232 = .ok (.invokestatic 99, 3) := by decide +kernel
theorem dL_isFull_235 : decode cL_isFull 235 = .ok (.iconst 2, 1) := by decide +kernel
theorem dL_isFull_236 : decode cL_isFull 236 = .ok (.if_icmp .ne 71, 3) := by decide +kernel
theorem dL_isFull_239 : decode cL_isFull 239 = .ok (.aload_n 0, 1) := by decide +kernel
theorem dL_isFull_240 : decode cL_isFull 240 = .ok (.iconst 5, 1) := by decide +kernel
theorem dL_isFull_241 : decode cL_isFull 241 = .ok (.bipush 43, 2) := by decide +kernel
theorem dL_isFull_243 : decode cL_isFull 243 = .ok (.iconst 0, 1) := by decide +kernel
theorem dL_isFull_244 : decode cL_isFull 244 = .ok (.invokestatic 99, 3) := by decide +kernel
theorem dL_isFull_247 : decode cL_isFull 247 = .ok (.iconst 3, 1) := by decide +kernel
theorem dL_isFull_248 : decode cL_isFull 248 = .ok (.if_icmp .ne 59, 3) := by decide +kernel
theorem dL_isFull_251 : decode cL_isFull 251 = .ok (.aload_n 0, 1) := by decide +kernel
theorem dL_isFull_252 : decode cL_isFull 252 = .ok (.iconst 5, 1) := by decide +kernel
theorem dL_isFull_253 : decode cL_isFull 253 = .ok (.bipush 51, 2) := by decide +kernel
theorem dL_isFull_255 : decode cL_isFull 255 = .ok (.iconst 0, 1) := by decide +kernel
theorem dL_isFull_256 : decode cL_isFull 256 = .ok (.invokestatic 99, 3) := by decide +kernel
theorem dL_isFull_259 : decode cL_isFull 259 = .ok (.iconst 4, 1) := by decide +kernel
theorem dL_isFull_260 : decode cL_isFull 260 = .ok (.if_icmp .ne 47, 3) := by decide +kernel
theorem dL_isFull_263 : decode cL_isFull 263 = .ok (.aload_n 0, 1) := by decide +kernel
theorem dL_isFull_264 : decode cL_isFull 264 = .ok (.invokevirtual 119, 3) := by decide +kernel
theorem dL_isFull_267 : decode cL_isFull 267 = .ok (.iconst 4, 1) := by decide +kernel
theorem dL_isFull_268 : decode cL_isFull 268 = .ok (.if_icmp .ne 39, 3) := by decide +kernel
theorem dL_isFull_271 : decode cL_isFull 271 = .ok (.aload_n 0, 1) := by decide +kernel
theorem dL_isFull_272 : decode cL_isFull 272 = .ok (.bipush 6, 2) := by decide +kernel
theorem dL_isFull_274 : decode cL_isFull 274 = .ok (.iconst 0, 1) := by decide +kernel
theorem dL_isFull_275 : decode cL_isFull 275 = .ok (.iconst 0, 1) := by decide +kernel
theorem dL_isFull_276 : decode cL_isFull 276 = .ok (.invokestatic 99, 3) := by decide +kernel
theorem dL_isFull_279 : decode cL_isFull 279 = .ok (.iconst 1, 1) := by decide +kernel
theorem dL_isFull_280 : decode cL_isFull 280 = .ok (.if_icmp .ne 27, 3) := by decide +kernel
theorem dL_isFull_283 : decode cL_isFull 283 = .ok (.aload_n 0, 1) := by decide +kernel
theorem dL_isFull_284 : decode cL_isFull 284 = .ok (.bipush 8, 2) := by decide +kernel
theorem dL_isFull_286 : decode cL_isFull 286 = .ok (.invokevirtual 80, 3) := by decide +kernel
theorem dL_isFull_289 : decode cL_isFull 289 = .ok (.ifCond .ne 18, 3) := by decide +kernel
theorem dL_isFull_292 : decode cL_isFull 292 = .ok (.aload_n 0, 1) := by decide +kernel
theorem dL_isFull_293 : decode cL_isFull 293 = .ok (.iconst 0, 1) := by decide +kernel
theorem dL_isFull_294 : decode cL_isFull 294 = .ok (.iconst 0, 1) := by decide +kernel
theorem dL_isFull_295 : decode cL_isFull 295 = .ok (.invokevirtual 70, 3) := by decide +kernel
theorem dL_isFull_298 : decode cL_isFull 298 = .ok (.bipush 120, 2) := by decide +kernel
theorem dL_isFull_300 : decode cL_isFull 300 = .ok (.if_icmp .ne 7, 3) := by decide +kernel
theorem dL_isFull_303 : decode cL_isFull 303 = .ok (.iconst 1, 1) := by decide +kernel
theorem dL_isFull_304 : decode cL_isFull 304 = .ok (.goto 4, 3) := by decide +kernel
theorem dL_isFull_307 : decode cL_isFull 307 = .ok (.iconst 0, 1) := by decide +kernel
theorem dL_isFull_308 : decode cL_isFull 308 = .ok (.istore_n 2, 1) := by decide +kernel
theorem dL_isFull_309 : decode cL_isFull 309 = .ok (.iload_n 2, 1) := by decide +kernel
theorem dL_isFull_310 : decode cL_isFull 310 = .ok (.ifCond .eq 14, 3) := by decide +kernel
theorem dL_isFull_313 : decode cL_isFull 313 = .ok (.aload_n 0, 1) := by decide +kernel
theorem dL_isFull_314 : decode cL_isFull 314 = .ok (.invokestatic 122, 3) := by decide +kernel
theorem dL_isFull_317 : decode cL_isFull 317 = .ok (.ifCond .eq 7, 3) := by decide +kernel
theorem dL_isFull_320 : decode cL_isFull 320 = .ok (.iconst 1, 1) := by decide +kernel
theorem dL_isFull_321 : decode cL_isFull 321 = .ok (.goto 4, 3) := by decide +kernel
theorem dL_isFull_324 : decode cL_isFull 324 = .ok (.iconst 0, 1) := by decide +kernel
theorem dL_isFull_325 : decode cL_isFull 325 = .ok (.ireturn, 1) := by decide +kernel
theorem dL_isQueued_0 : decode cL_isQueued 0 = .ok (.aload_n 0, 1) := by decide +kernel
theorem dL_isQueued_1 : decode cL_isQueued 1 = .ok (.iconst 2, 1) := by decide +kernel
theorem dL_isQueued_2 : decode cL_isQueued 2 = .ok (.iconst 0, 1) := by decide +kernel
theorem dL_isQueued_3 : decode cL_isQueued 3 = .ok (.iconst 0, 1) := by decide +kernel
theorem dL_isQueued_4 : decode cL_isQueued 4 = .ok (.invokestatic 99, 3) := by decide +kernel
theorem dL_isQueued_7 : decode cL_isQueued 7 = .ok (.bipush 120, 2) := by decide +kernel
theorem dL_isQueued_9 : decode cL_isQueued 9 = .ok (.if_icmp .ne 28, 3) := by decide +kernel
theorem dL_isQueued_12 : decode cL_isQueued 12 = .ok (.aload_n 0, 1) := by decide +kernel
theorem dL_isQueued_13 : decode cL_isQueued 13 = .ok (.iconst 2, 1) := by decide +kernel
theorem dL_isQueued_14 : decode cL_isQueued 14 = .ok (.iconst 0, 1) := by decide +kernel
theorem dL_isQueued_15 : decode cL_isQueued 15 = .ok (.iconst 0, 1) := by decide +kernel
theorem dL_isQueued_16 : decode cL_isQueued 16 = .ok (.invokestatic 99, 3) := by decide +kernel
theorem dL_isQueued_19 : decode cL_isQueued 19 = .ok (.bipush (-12), 2) := by decide +kernel
theorem dL_isQueued_21 : decode cL_isQueued 21 = .ok (.if_icmp .ne 16, 3) := by decide +kernel
theorem dL_isQueued_24 : decode cL_isQueued 24 = .ok (.aload_n 0, 1) := by decide +kernel
theorem dL_isQueued_25 : decode cL_isQueued 25 = .ok (.iconst 4, 1) := by decide +kernel
theorem dL_isQueued_26 : decode cL_isQueued 26 = .ok (.invokevirtual 80, 3) := by decide +kernel
theorem dL_isQueued_29 : decode cL_isQueued 29 = .ok (.iconst 1, 1) := by decide +kernel
theorem dL_isQueued_30 : decode cL_isQueued 30 = .ok (.if_icmp .ne 7, 3) := by decide +kernel
theorem dL_isQueued_33 : decode cL_isQueued 33 = .ok (.iconst 1, 1) := by decide +kernel
theorem dL_isQueued_34 : decode cL_isQueued 34 = .ok (.goto 4, 3) := by decide +kernel
theorem dL_isQueued_37 : decode cL_isQueued 37 = .ok (.iconst 0, 1) := by decide +kernel
theorem dL_isQueued_38 : decode cL_isQueued 38 = .ok (.istore_n 1, 1) := by decide +kernel
theorem dL_isQueued_39 : decode cL_isQueued 39 = .ok (.iconst 0, 1) := by decide +kernel
theorem dL_isQueued_40 : decode cL_isQueued 40 = .ok (.istore_n 2, 1) := by decide +kernel
theorem dL_isQueued_41 : decode cL_isQueued 41 = .ok (.iload_n 2, 1) := by decide +kernel
theorem dL_isQueued_42 : decode cL_isQueued 42 = .ok (.bipush 30, 2) := by decide +kernel
theorem dL_isQueued_44 : decode cL_isQueued 44 = .ok (.if_icmp .ge 92, 3) := by decide +kernel
theorem dL_isQueued_47 : decode cL_isQueued 47 = .ok (.iload_n 1, 1) := by decide +kernel
theorem dL_isQueued_48 : decode cL_isQueued 48 = .ok (.ifCond .eq 88, 3) := by decide +kernel
theorem dL_isQueued_51 : decode cL_isQueued 51 = .ok (.aload_n 0, 1) := by decide +kernel
theorem dL_isQueued_52 : decode cL_isQueued 52 = .ok (.iconst 1, 1) := by decide +kernel
theorem dL_isQueued_53 : decode cL_isQueued 53 = .ok (.iload_n 2, 1) := by decide +kernel
theorem dL_isQueued_54 : decode cL_isQueued 54 = .ok (.invokestatic 116, 3) := by decide +kernel
theorem dL_isQueued_57 : decode cL_isQueued 57 = .ok (.iconst 0, 1) := by decide +kernel
theorem dL_isQueued_58 : decode cL_isQueued 58 = .ok (.invokestatic 99, 3) := by decide +kernel
theorem dL_isQueued_61 : decode cL_isQueued 61 = .ok (.iconst 1, 1) := by decide +kernel
theorem dL_isQueued_62 : decode cL_isQueued 62 = .ok (.if_icmp .ne 66, 3) := by decide +kernel
theorem dL_isQueued_65 : decode cL_isQueued 65 = .ok (.aload_n 0, 1) := by decide +kernel
theorem dL_isQueued_66 : decode cL_isQueued 66 = .ok (.iconst 2, 1) := by decide +kernel
theorem dL_isQueued_67 : decode cL_isQueued 67 = .ok (.invokevirtual 74, 3) := by decide +kernel
theorem dL_isQueued_70 : decode cL_isQueued 70 = .ok (.iload_n 2, 1) := by decide +kernel
theorem dL_isQueued_71 : decode cL_isQueued 71 = .ok (.iconst 1, 1) := by decide +kernel
theorem dL_isQueued_72 : decode cL_isQueued 72 = .ok (.iadd, 1) := by decide +kernel
theorem dL_isQueued_73 : decode cL_isQueued 73 = .ok (.if_icmp .ne 55, 3) := by decide +kernel
theorem dL_isQueued_76 : decode cL_isQueued 76 = .ok (.aload_n 0, 1) := by decide +kernel
theorem dL_isQueued_77 : decode cL_isQueued 77 = .ok (.iconst 3, 1) := by decide +kernel
theorem dL_isQueued_78 : decode cL_isQueued 78 = .ok (.invokevirtual 74, 3) := by decide +kernel
theorem dL_isQueued_81 : decode cL_isQueued 81 = .ok (.iload_n 2, 1) := by decide +kernel
theorem dL_isQueued_82 : decode cL_isQueued 82 = .ok (.iconst 1, 1) := by decide +kernel
theorem dL_isQueued_83 : decode cL_isQueued 83 = .ok (.iadd, 1) := by decide +kernel
theorem dL_isQueued_84 : decode cL_isQueued 84 = .ok (.if_icmp .ne 44, 3) := by decide +kernel
theorem dL_isQueued_87 : decode cL_isQueued 87 = .ok (.aload_n 0, 1) := by decide +kernel
theorem dL_isQueued_88 : decode cL_isQueued 88 = .ok (.iload_n 2, 1) := by decide +kernel
theorem dL_isQueued_89 : decode cL_isQueued 89 = .ok (.invokevirtual 77, 3) := by decide +kernel
theorem dL_isQueued_92 : decode cL_isQueued 92 = .ok (.sipush 500, 3) := by decide +kernel
theorem dL_isQueued_95 : decode cL_isQueued 95 = .ok (.iload_n 2, 1) := by decide +kernel
theorem dL_isQueued_96 : decode cL_isQueued 96 = .ok (.invokestatic 116, 3) := by decide +kernel
theorem dL_isQueued_99 : decode cL_isQueued 99 = .ok (.iadd, 1) := by decide +kernel
theorem dL_isQueued_100 : decode cL_isQueued 100 = .ok (.if_icmp .ne 28, 3) := by decide +kernel
theorem dL_isQueued_103 : decode cL_isQueued 103 = .ok (.aload_n 0, 1) := by decide +kernel
theorem dL_isQueued_104 : decode cL_isQueued 104 = .ok (.iconst 1, 1) := by decide +kernel
theorem dL_isQueued_105 : decode cL_isQueued 105 = .ok (.iconst 0, 1) := by decide +kernel
theorem dL_isQueued_106 : decode cL_isQueued 106 = .ok (.invokevirtual 70, 3) := by decide +kernel
theorem dL_isQueued_109 : decode cL_isQueued 109 = .ok (.iload_n 2, 1) := by decide +kernel
theorem dL_isQueued_110 : decode cL_isQueued 110 = .ok (.iconst 1, 1) := by decide +kernel
theorem dL_isQueued_111 : decode cL_isQueued 111 = .ok (.iadd, 1) := by decide +kernel
theorem dL_isQueued_112 : decode cL_isQueued 112 = .ok (.if_icmp .ne 16, 3) := by decide +kernel
theorem dL_isQueued_115 : decode cL_isQueued 115 = .ok (.aload_n 0, 1) := by decide +kernel
theorem dL_isQueued_116 : decode cL_isQueued 116 = .ok (.bipush 6, 2) := by decide +kernel
theorem dL_isQueued_118 : decode cL_isQueued 118 = .ok (.invokevirtual 80, 3) := by decide +kernel
theorem dL_isQueued_121 : decode cL_isQueued 121 = .ok (.ifCond .ne 7, 3) := by decide +kernel
theorem dL_isQueued_124 : decode cL_isQueued 124 = .ok (.iconst 1, 1) := by decide +kernel
theorem dL_isQueued_125 : decode cL_isQueued 125 = .ok (.goto 4, 3) := by decide +kernel
theorem dL_isQueued_128 : decode cL_isQueued 128 = .ok (.iconst 0, 1) := by decide +kernel
theorem dL_isQueued_129 : decode cL_isQueued 129 = .ok (.istore_n 1, 1) := by decide +kernel
theorem dL_isQueued_130 : decode cL_isQueued 130 = .ok (.iinc 2 1, 3) := by decide +kernel
theorem dL_isQueued_133 : decode cL_isQueued 133 = .ok (.goto (-92), 3) := by decide +kernel
theorem dL_isQueued_136 : decode cL_isQueued 136 = .ok (.iload_n 1, 1) := by decide +kernel
theorem dL_isQueued_137 : decode cL_isQueued 137 = .ok (.ifCond .eq 93, 3) := by decide +kernel
theorem dL_isQueued_140 : decode cL_isQueued 140 = .ok (.aload_n 0, 1) := by decide +kernel
theorem dL_isQueued_141 : decode cL_isQueued 141 = .ok (.iconst 1, 1) := by decide +kernel
theorem dL_isQueued_142 : decode cL_isQueued 142 = .ok (.bipush 7, 2) := by decide +kernel
theorem dL_isQueued_144 : decode cL_isQueued 144 = .ok (.invokestatic 116, 3) := by decide +kernel
theorem dL_isQueued_147 : decode cL_isQueued 147 = .ok (.iconst 0, 1) := by decide +kernel
theorem dL_isQueued_148 : decode cL_isQueued 148 = .ok (.invokestatic 99, 3) := by decide +kernel
theorem dL_isQueued_151 : decode cL_isQueued 151 = .ok (.ifCond .ne 79, 3) := by decide +kernel
theorem dL_isQueued_154 : decode cL_isQueued 154 = .ok (.aload_n 0, 1) := by decide +kernel
theorem dL_isQueued_155 : decode cL_isQueued 155 = .ok (.iconst 3, 1) := by decide +kernel
theorem dL_isQueued_156 : decode cL_isQueued 156 = .ok (.invokevirtual 74, 3) := by decide +kernel
theorem dL_isQueued_159 : decode cL_isQueued 159 = .ok (.bipush 30, 2) := by decide +kernel
theorem dL_isQueued_161 : decode cL_isQueued 161 = .ok (.if_icmp .ne 69, 3) := by decide +kernel
theorem dL_isQueued_164 : decode cL_isQueued 164 = .ok (.aload_n 0, 1) := by decide +kernel
theorem dL_isQueued_165 : decode cL_isQueued 165 = .ok (.iconst 2, 1) := by decide +kernel
theorem dL_isQueued_166 : decode cL_isQueued 166 = .ok (.invokevirtual 74, 3) := by decide +kernel
theorem dL_isQueued_169 : decode cL_isQueued 169 = .ok (.bipush 31, 2) := by decide +kernel
theorem dL_isQueued_171 : decode cL_isQueued 171 = .ok (.if_icmp .ne 59, 3) := by decide +kernel
theorem dL_isQueued_174 : decode cL_isQueued 174 = .ok (.aload_n 0, 1) := by decide +kernel
theorem dL_isQueued_175 : decode cL_isQueued 175 = .ok (.iconst 1, 1) := by decide +kernel
theorem dL_isQueued_176 : decode cL_isQueued 176 = .ok (.invokevirtual 86, 3) := by decide +kernel
theorem dL_isQueued_179 : decode cL_isQueued 179 = .ok (.bipush 119, 2) := by decide +kernel
theorem dL_isQueued_181 : decode cL_isQueued 181 = .ok (.if_icmp .ne 49, 3) := by decide +kernel
theorem dL_isQueued_184 : decode cL_isQueued 184 = .ok (.aload_n 0, 1) := by decide +kernel
theorem dL_isQueued_185 : decode cL_isQueued 185 = .ok (.bipush 8, 2) := by decide +kernel
theorem dL_isQueued_187 : decode cL_isQueued 187 = .ok (.invokevirtual 86, 3) := by decide +kernel
theorem dL_isQueued_190 : decode cL_isQueued 190 = .ok (.bipush 15, 2) := by decide +kernel
theorem dL_isQueued_192 : decode cL_isQueued 192 = .ok (.if_icmp .ne 38, 3) := by decide +kernel
theorem dL_isQueued_195 : decode cL_isQueued 195 = .ok (.aload_n 0, 1) := by decide +kernel
theorem dL_isQueued_196 : decode cL_isQueued 196 = .ok (.bipush 15, 2) := by decide +kernel
theorem dL_isQueued_198 : decode cL_isQueued 198 = .ok (.invokevirtual 92, 3) := by decide +kernel
theorem dL_isQueued_201 : decode cL_isQueued 201 = .ok (.bipush 8, 2) := by decide +kernel
theorem dL_isQueued_203 : decode cL_isQueued 203 = .ok (.if_icmp .ne 27, 3) := by decide +kernel
theorem dL_isQueued_206 : decode cL_isQueued 206 = .ok (.aload_n 0, 1) := by decide +kernel
theorem dL_isQueued_207 : decode cL_isQueued 207 = .ok (.bipush 14, 2) := by decide +kernel
theorem dL_isQueued_209 : decode cL_isQueued 209 = .ok (.invokevirtual 92, 3) := by decide +kernel
theorem dL_isQueued_212 : decode cL_isQueued 212 = .ok (.iconst (-1), 1) := by decide +kernel
theorem dL_isQueued_213 : decode cL_isQueued 213 = .ok (.if_icmp .ne 17, 3) := by decide +kernel
theorem dL_isQueued_216 : decode cL_isQueued 216 = .ok (.aload_n 0, 1) := by decide +kernel
theorem dL_isQueued_217 : decode cL_isQueued 217 = .ok (.bipush 119, 2) := by decide +kernel
theorem dL_isQueued_219 : decode cL_isQueued 219 = .ok (.invokevirtual 92, 3) := by decide +kernel
theorem dL_isQueued_222 : decode cL_isQueued 222 = .ok (.iconst 1, 1) := by decide +kernel
theorem dL_isQueued_223 : decode cL_isQueued 223 = .ok (.if_icmp .ne 7, 3) := by decide +kernel
theorem dL_isQueued_226 : decode cL_isQueued 226 = .ok (.iconst 1, 1) := by decide +kernel
theorem dL_isQueued_227 : decode cL_isQueued 227 = .ok (.goto 4, 3) := by decide +kernel
theorem dL_isQueued_230 : decode cL_isQueued 230 = .ok (.iconst 0, 1) := by decide +kernel
theorem dL_isQueued_231 : decode cL_isQueued 231 = .ok (.istore_n 1, 1) := by decide +kernel
theorem dL_isQueued_232 : decode cL_isQueued 232 = .ok (.iload_n 1, 1) := by decide +kernel
theorem dL_isQueued_233 : decode cL_isQueued 233 = .ok (.ifCond .eq 101, 3) := by decide +kernel
theorem dL_isQueued_236 : decode cL_isQueued 236 = .ok (.aload_n 0, 1) := by decide +kernel
theorem dL_isQueued_237 : decode cL_isQueued 237 = .ok (.iconst 0, 1) := by decide +kernel
theorem dL_isQueued_238 : decode cL_isQueued 238 = .ok (.bipush 7, 2) := by decide +kernel
theorem dL_isQueued_240 : decode cL_isQueued 240 = .ok (.invokestatic 116, 3) := by decide +kernel
theorem dL_isQueued_243 : decode cL_isQueued 243 = .ok (.iconst 0, 1) := by decide +kernel
theorem dL_isQueued_244 : decode cL_isQueued 244 = .ok (.invokestatic 99, 3) := by decide +kernel
theorem dL_isQueued_247 : decode cL_isQueued 247 = .ok (.iconst 1, 1) := by decide +kernel
theorem dL_isQueued_248 : decode cL_isQueued 248 = .ok (.if_icmp .ne 86, 3) := by decide +kernel
theorem dL_isQueued_251 : decode cL_isQueued 251 = .ok (.aload_n 0, 1) := by decide +kernel
theorem dL_isQueued_252 : decode cL_isQueued 252 = .ok (.bipush 6, 2) := by decide +kernel
theorem dL_isQueued_254 : decode cL_isQueued 254 = .ok (.invokevirtual 80, 3) := by decide +kernel
theorem dL_isQueued_257 : decode cL_isQueued 257 = .ok (.iconst 1, 1) := by decide +kernel
theorem dL_isQueued_258 : decode cL_isQueued 258 = .ok (.if_icmp .ne 76, 3) := by decide +kernel
theorem dL_isQueued_261 : decode cL_isQueued 261 = .ok (.aload_n 0, 1) := by decide +kernel
theorem dL_isQueued_262 : decode cL_isQueued 262 = .ok (.iconst 0, 1) := by decide +kernel
theorem dL_isQueued_263 : decode cL_isQueued 263 = .ok (.invokevirtual 74, 3) := by decide +kernel
theorem dL_isQueued_266 : decode cL_isQueued 266 = .ok (.ifCond .ne 68, 3) := by decide +kernel
theorem dL_isQueued_269 : decode cL_isQueued 269 = .ok (.aload_n 0, 1) := by decide +kernel
theorem dL_isQueued_270 : decode cL_isQueued 270 = .ok (.iconst 4, 1) := by decide +kernel
theorem dL_isQueued_271 : decode cL_isQueued 271 = .ok (.invokevirtual 74, 3) := by decide +kernel
theorem dL_isQueued_274 : decode cL_isQueued 274 = .ok (.iconst (-1), 1) := by decide +kernel
theorem dL_isQueued_275 : decode cL_isQueued 275 = .ok (.if_icmp .ne 59, 3) := by decide +kernel
theorem dL_isQueued_278 : decode cL_isQueued 278 = .ok (.aload_n 0, 1) := by decide +kernel
theorem dL_isQueued_279 : decode cL_isQueued 279 = .ok (.iconst 0, 1) := by decide +kernel
theorem dL_isQueued_280 : decode cL_isQueued 280 = .ok (.invokevirtual 77, 3) := by decide +kernel
theorem dL_isQueued_283 : decode cL_isQueued 283 = .ok (.iconst (-1), 1) := by decide +kernel
theorem dL_isQueued_284 : decode cL_isQueued 284 = .ok (.if_icmp .ne 50, 3) := by decide +kernel
theorem dL_isQueued_287 : decode cL_isQueued 287 = .ok (.aload_n 0, 1) := by decide +kernel
theorem dL_isQueued_288 : decode cL_isQueued 288 = .ok (.iconst 1, 1) := by decide +kernel
theorem dL_isQueued_289 : decode cL_isQueued 289 = .ok (.iconst 0, 1) := by decide +kernel
theorem dL_isQueued_290 : decode cL_isQueued 290 = .ok (.invokevirtual 70, 3) := by decide +kernel
theorem dL_isQueued_293 : decode cL_isQueued 293 = .ok (.ifCond .ne 41, 3) := by decide +kernel
theorem dL_isQueued_296 : decode cL_isQueued 296 = .ok (.aload_n 0, 1) := by decide +kernel
theorem dL_isQueued_297 : decode cL_isQueued 297 = .ok (.iconst 0, 1) := by decide +kernel
theorem dL_isQueued_298 : decode cL_isQueued 298 = .ok (.iconst 0, 1) := by decide +kernel
theorem dL_isQueued_299 : decode cL_isQueued 299 = .ok (.invokevirtual 70, 3) := by decide +kernel
theorem dL_isQueued_302 : decode cL_isQueued 302 = .ok (.bipush 120, 2) := by decide +kernel
theorem dL_isQueued_304 : decode cL_isQueued 304 = .ok (.if_icmp .ne 30, 3) := by decide +kernel
theorem dL_isQueued_307 : decode cL_isQueued 307 = .ok (.aload_n 0, 1) := by decide +kernel
theorem dL_isQueued_308 : decode cL_isQueued 308 = .ok (.iconst 0, 1) := by decide +kernel
theorem dL_isQueued_309 : decode cL_isQueued 309 = .ok (.iconst 2, 1) := by decide +kernel
theorem dL_isQueued_310 : decode cL_isQueued 310 = .ok (.invokevirtual 70, 3) := by decide +kernel
theorem dL_isQueued_313 : decode cL_isQueued 313 = .ok (.bipush 29, 2) := by decide +kernel
theorem dL_isQueued_315 : decode cL_isQueued 315 = .ok (.if_icmp .ne 19, 3) := by decide +kernel
theorem dL_isQueued_318 : decode cL_isQueued 318 = .ok (.aload_n 0, 1) := by decide +kernel
theorem dL_isQueued_319 : decode cL_isQueued 319 = .ok (.iconst 3, 1) := by decide +kernel
theorem dL_isQueued_320 : decode cL_isQueued 320 = .ok (.iconst 0, 1) := by decide +kernel
theorem dL_isQueued_321 : decode cL_isQueued 321 = .ok (.iconst 0, 1) := by decide +kernel
theorem dL_isQueued_322 : decode cL_isQueued 322 = .ok (.invokestatic 99, 3) := by decide +kernel
theorem dL_isQueued_325 : decode cL_isQueued 325 = .ok (.bipush (-12), 2) := by decide +kernel
theorem dL_isQueued_327 : decode cL_isQueued 327 = .ok (.if_icmp .ne 7, 3) := by decide +kernel
theorem dL_isQueued_330 : decode cL_isQueued 330 = .ok (.iconst 1, 1) := by decide +kernel
theorem dL_isQueued_331 : decode cL_isQueued 331 = .ok (.goto 4, 3) := by decide +kernel
theorem dL_isQueued_334 : decode cL_isQueued 334 = .ok (.iconst 0, 1) := by decide +kernel
theorem dL_isQueued_335 : decode cL_isQueued 335 = .ok (.istore_n 1, 1) := by decide +kernel
theorem dL_isQueued_336 : decode cL_isQueued 336 = .ok (.iload_n 1, 1) := by decide +kernel
theorem dL_isQueued_337 : decode cL_isQueued 337 = .ok (.ifCond .eq 42, 3) := by decide +kernel
theorem dL_isQueued_340 : decode cL_isQueued 340 = .ok (.aload_n 0, 1) := by decide +kernel
theorem dL_isQueued_341 : decode cL_isQueued 341 = .ok (.iconst 2, 1) := by decide +kernel
theorem dL_isQueued_342 : decode cL_isQueued 342 = .ok (.iconst 0, 1) := by decide +kernel
theorem dL_isQueued_343 : decode cL_isQueued 343 = .ok (.iconst 0, 1) := by decide +kernel
theorem dL_isQueued_344 : decode cL_isQueued 344 = .ok (.invokestatic 99, 3) := by decide +kernel
theorem dL_isQueued_347 : decode cL_isQueued 347 = .ok (.bipush 91, 2) := by decide +kernel
theorem dL_isQueued_349 : decode cL_isQueued 349 = .ok (.if_icmp .ne 30, 3) := by decide +kernel
theorem dL_isQueued_352 : decode cL_isQueued 352 = .ok (.aload_n 0, 1) := by decide +kernel
theorem dL_isQueued_353 : decode cL_isQueued 353 = .ok (.bipush 8, 2) := by decide +kernel
theorem dL_isQueued_355 : decode cL_isQueued 355 = .ok (.invokevirtual 86, 3) := by decide +kernel
theorem dL_isQueued_358 : decode cL_isQueued 358 = .ok (.bipush 12, 2) := by decide +kernel
theorem dL_isQueued_360 : decode cL_isQueued 360 = .ok (.if_icmp .ne 19, 3) := by decide +kernel
theorem dL_isQueued_363 : decode cL_isQueued 363 = .ok (.aload_n 0, 1) := by decide +kernel
theorem dL_isQueued_364 : decode cL_isQueued 364 = .ok (.iconst 4, 1) := by decide +kernel
theorem dL_isQueued_365 : decode cL_isQueued 365 = .ok (.iconst 2, 1) := by decide +kernel
theorem dL_isQueued_366 : decode cL_isQueued 366 = .ok (.bipush 8, 2) := by decide +kernel
theorem dL_isQueued_368 : decode cL_isQueued 368 = .ok (.invokestatic 99, 3) := by decide +kernel
theorem dL_isQueued_371 : decode cL_isQueued 371 = .ok (.iconst 1, 1) := by decide +kernel
theorem dL_isQueued_372 : decode cL_isQueued 372 = .ok (.if_icmp .ne 7, 3) := by decide +kernel
theorem dL_isQueued_375 : decode cL_isQueued 375 = .ok (.iconst 1, 1) := by decide +kernel
theorem dL_isQueued_376 : decode cL_isQueued 376 = .ok (.goto 4, 3) := by decide +kernel
theorem dL_isQueued_379 : decode cL_isQueued 379 = .ok (.iconst 0, 1) := by decide +kernel
theorem dL_isQueued_380 : decode cL_isQueued 380 = .ok (.istore_n 1, 1) := by decide +kernel
theorem dL_isQueued_381 : decode cL_isQueued 381 = .ok (.iconst 0, 1) := by decide +kernel
theorem dL_isQueued_382 : decode cL_isQueued 382 = .ok (.istore_n 2, 1) := by decide +kernel
theorem dL_isQueued_383 : decode cL_isQueued 383 = .ok (.iload_n 2, 1) := by decide +kernel
theorem dL_isQueued_384 : decode cL_isQueued 384 = .ok (.bipush 12, 2) := by decide +kernel
theorem dL_isQueued_386 : decode cL_isQueued 386 = .ok (.if_icmp .ge 46, 3) := by decide +kernel
theorem dL_isQueued_389 : decode cL_isQueued 389 = .ok (.iload_n 1, 1) := by decide +kernel
theorem dL_isQueued_390 : decode cL_isQueued 390 = .ok (.ifCond .eq 42, 3) := by decide +kernel
theorem dL_isQueued_393 : decode cL_isQueued 393 = .ok (.aload_n 0, 1) := by decide +kernel
theorem dL_isQueued_394 : decode cL_isQueued 394 = .ok (.iconst 5, 1) := by decide +kernel
theorem dL_isQueued_395 : decode cL_isQueued 395 = .ok (.invokevirtual 80, 3) := by decide +kernel
theorem dL_isQueued_398 : decode cL_isQueued 398 = .ok (.ifCond .ne 26, 3) := by decide +kernel
theorem dL_isQueued_401 : decode cL_isQueued 401 = .ok (.aload_n 0, 1) := by decide +kernel
theorem dL_isQueued_402 : decode cL_isQueued 402 = .ok (.invokevirtual 126, 3) := by decide +kernel
theorem dL_isQueued_405 : decode cL_isQueued 405 = .ok (.iload_n 2, 1) := by decide +kernel
theorem dL_isQueued_406 : decode cL_isQueued 406 = .ok (.bipush 11, 2) := by decide +kernel
theorem dL_isQueued_408 : decode cL_isQueued 408 = .ok (.if_icmp .ge 8, 3) := by decide +kernel
theorem dL_isQueued_411 : decode cL_isQueued 411 = .ok (.bipush 8, 2) := by decide +kernel
theorem dL_isQueued_413 : decode cL_isQueued 413 = .ok (.goto 4, 3) := by decide +kernel
theorem dL_isQueued_416 : decode cL_isQueued 416 = .ok (.iconst 3, 1) := by decide +kernel
theorem dL_isQueued_417 : decode cL_isQueued 417 = .ok (.if_icmp .ne 7, 3) := by decide +kernel
theorem dL_isQueued_420 : decode cL_isQueued 420 = .ok (.iconst 1, 1) := by decide +kernel
theorem dL_isQueued_421 : decode cL_isQueued 421 = .ok (.goto 4, 3) := by decide +kernel
theorem dL_isQueued_424 : decode cL_isQueued 424 = .ok (.iconst 0, 1) := by decide +kernel
theorem dL_isQueued_425 : decode cL_isQueued 425 = .ok (.istore_n 1, 1) := by decide +kernel
theorem dL_isQueued_426 : decode cL_isQueued 426 = .ok (.iinc 2 1, 3) := by decide +kernel
theorem dL_isQueued_429 : decode cL_isQueued 429 = .ok (.goto (-46), 3) := by decide +kernel
theorem dL_isQueued_432 : decode cL_isQueued 432 = .ok (.iload_n 1, 1) := by decide +kernel
theorem dL_isQueued_433 : decode cL_isQueued 433 = .ok (.ifCond .eq 57, 3) := by decide +kernel
theorem dL_isQueued_436 : decode cL_isQueued 436 = .ok (.aload_n 0, 1) := by decide +kernel
theorem dL_isQueued_437 : decode cL_isQueued 437 = .ok (.iconst 5, 1) := by decide +kernel
theorem dL_isQueued_438 : decode cL_isQueued 438 = .ok (.invokevirtual 80, 3) := by decide +kernel
theorem dL_isQueued_441 : decode cL_isQueued 441 = .ok (.iconst 1, 1) := by decide +kernel
theorem dL_isQueued_442 : decode cL_isQueued 442 = .ok (.if_icmp .ne 48, 3) := by decide +kernel
theorem dL_isQueued_445 : decode cL_isQueued 445 = .ok (.aload_n 0, 1) := by decide +kernel
theorem dL_isQueued_446 : decode cL_isQueued 446 = .ok (.iconst 0, 1) := by decide +kernel
theorem dL_isQueued_447 : decode cL_isQueued 447 = .ok (.iconst 0, 1) := by decide +kernel
theorem dL_isQueued_448 : decode cL_isQueued 448 = .ok (.invokevirtual 70, 3) := by decide +kernel
theorem dL_isQueued_451 : decode cL_isQueued 451 = .ok (.bipush 91, 2) := by decide +kernel
theorem dL_isQueued_453 : decode cL_isQueued 453 = .ok (.if_icmp .ne 37, 3) := by decide +kernel
theorem dL_isQueued_456 : decode cL_isQueued 456 = .ok (.aload_n 0, 1) := by decide +kernel
theorem dL_isQueued_457 : decode cL_isQueued 457 = .ok (.iconst 0, 1) := by decide +kernel
theorem dL_isQueued_458 : decode cL_isQueued 458 = .ok (.iconst 3, 1) := by decide +kernel
theorem dL_isQueued_459 : decode cL_isQueued 459 = .ok (.invokevirtual 70, 3) := by decide +kernel
theorem dL_isQueued_462 : decode cL_isQueued 462 = .ok (.bipush 7, 2) := by decide +kernel
theorem dL_isQueued_464 : decode cL_isQueued 464 = .ok (.if_icmp .ne 26, 3) := by decide +kernel
theorem dL_isQueued_467 : decode cL_isQueued 467 = .ok (.aload_n 0, 1) := by decide +kernel
theorem dL_isQueued_468 : decode cL_isQueued 468 = .ok (.iconst 0, 1) := by decide +kernel
theorem dL_isQueued_469 : decode cL_isQueued 469 = .ok (.iconst 2, 1) := by decide +kernel
theorem dL_isQueued_470 : decode cL_isQueued 470 = .ok (.invokevirtual 70, 3) := by decide +kernel
theorem dL_isQueued_473 : decode cL_isQueued 473 = .ok (.ifCond .ne 17, 3) := by decide +kernel
theorem dL_isQueued_476 : decode cL_isQueued 476 = .ok (.aload_n 0, 1) := by decide +kernel
theorem dL_isQueued_477 : decode cL_isQueued 477 = .ok (.bipush 6, 2) := by decide +kernel
theorem dL_isQueued_479 : decode cL_isQueued 479 = .ok (.invokevirtual 80, 3) := by decide +kernel
theorem dL_isQueued_482 : decode cL_isQueued 482 = .ok (.iconst 1, 1) := by decide +kernel
theorem dL_isQueued_483 : decode cL_isQueued 483 = .ok (.if_icmp .ne 7, 3) := by decide +kernel
theorem dL_isQueued_486 : decode cL_isQueued 486 = .ok (.iconst 1, 1) := by decide +kernel
theorem dL_isQueued_487 : decode cL_isQueued 487 = .ok (.goto 4, 3) := by decide +kernel
theorem dL_isQueued_490 : decode cL_isQueued 490 = .ok (.iconst 0, 1) := by decide +kernel
theorem dL_isQueued_491 : decode cL_isQueued 491 = .ok (.ireturn, 1) := by decide +kernel
theorem dL_isSorted_0 : decode cL_isSorted 0 = .ok (.aload_n 0, 1) := by decide +kernel
theorem dL_isSorted_1 : decode cL_isSorted 1 = .ok (.iconst 0, 1) := by decide +kernel
theorem dL_isSorted_2 : decode cL_isSorted 2 = .ok (.iconst 1, 1) := by decide +kernel
theorem dL_isSorted_3 : decode cL_isSorted 3 = .ok (.invokevirtual 70, 3) := by decide +kernel
theorem dL_isSorted_6 : decode cL_isSorted 6 = .ok (.istore_n 1, 1) := by decide +kernel
theorem dL_isSorted_7 : decode cL_isSorted 7 = .ok (.iconst (-1), 1) := by decide +kernel
theorem dL_isSorted_8 : decode cL_isSorted 8 = .ok (.istore_n 2, 1) := by decide +kernel
theorem dL_isSorted_9 : decode cL_isSorted 9 = .ok (.aload_n 0, 1) := by decide +kernel
theorem dL_isSorted_10 : decode cL_isSorted 10 = .ok (.iload_n 1, 1) := by decide +kernel
theorem dL_isSorted_11 : decode cL_isSorted 11 = .ok (.invokevirtual 60, 3) := by decide +kernel
theorem dL_isSorted_14 : decode cL_isSorted 14 = .ok (.iconst (-1), 1) := by decide +kernel
theorem dL_isSorted_15 : decode cL_isSorted 15 = .ok (.if_icmp .ne 7, 3) := by decide +kernel
theorem dL_isSorted_18 : decode cL_isSorted 18 = .ok (.iconst 1, 1) := by decide +kernel
theorem dL_isSorted_19 : decode cL_isSorted 19 = .ok (.goto 4, 3) := by decide +kernel
theorem dL_isSorted_22 : decode cL_isSorted 22 = .ok (.iconst 0, 1) := by decide +kernel
theorem dL_isSorted_23 : decode cL_isSorted 23 = .ok (.istore_n 3, 1) := by decide +kernel
theorem dL_isSorted_24 : decode cL_isSorted 24 = .ok (.iconst 0, 1) := by decide +kernel
theorem dL_isSorted_25 : decode cL_isSorted 25 = .ok (.istore 4, 2) := by decide +kernel
theorem dL_isSorted_27 : decode cL_isSorted 27 = .ok (.iload 4, 2) := by decide +kernel
theorem dL_isSorted_29 : decode cL_isSorted 29 = .ok (.iload_n 1, 1) := by decide +kernel
theorem dL_isSorted_30 : decode cL_isSorted 30 = .ok (.if_icmp .ge 106, 3) := by decide +kernel
theorem dL_isSorted_33 : decode cL_isSorted 33 = .ok (.iload_n 3, 1) := by decide +kernel
theorem dL_isSorted_34 : decode cL_isSorted 34 = .ok (.ifCond .eq 102, 3) := by decide +kernel
theorem dL_isSorted_37 : decode cL_isSorted 37 = .ok (.aload_n 0, 1) := by decide +kernel
theorem dL_isSorted_38 : decode cL_isSorted 38 = .ok (.iload 4, 2) := by decide +kernel
theorem dL_isSorted_40 : decode cL_isSorted 40 = .ok (.invokevirtual 60, 3) := by decide +kernel
theorem dL_isSorted_43 : decode cL_isSorted 43 = .ok (.istore 5, 2) := by decide +kernel
theorem dL_isSorted_45 : decode cL_isSorted 45 = .ok (.iload 5, 2) := by decide +kernel
theorem dL_isSorted_47 : decode cL_isSorted 47 = .ok (.iload_n 2, 1) := by decide +kernel
theorem dL_isSorted_48 : decode cL_isSorted 48 = .ok (.if_icmp .le 77, 3) := by decide +kernel
theorem dL_isSorted_51 : decode cL_isSorted 51 = .ok (.aload_n 0, 1) := by decide +kernel
theorem dL_isSorted_52 : decode cL_isSorted 52 = .ok (.iload 5, 2) := by decide +kernel
theorem dL_isSorted_54 : decode cL_isSorted 54 = .ok (.invokevirtual 44, 3) := by decide +kernel
theorem dL_isSorted_57 : decode cL_isSorted 57 = .ok (.ifCond .eq 68, 3) := by decide +kernel
theorem dL_isSorted_60 : decode cL_isSorted 60 = .ok (.aload_n 0, 1) := by decide +kernel
theorem dL_isSorted_61 : decode cL_isSorted 61 = .ok (.iload 5, 2) := by decide +kernel
theorem dL_isSorted_63 : decode cL_isSorted 63 = .ok (.invokevirtual 57, 3) := by decide +kernel
theorem dL_isSorted_66 : decode cL_isSorted 66 = .ok (.iload 4, 2) := by decide +kernel
theorem dL_isSorted_68 : decode cL_isSorted 68 = .ok (.if_icmp .ne 57, 3) := by decide +kernel
theorem dL_isSorted_71 : decode cL_isSorted 71 = .ok (.aload_n 0, 1) := by decide +kernel
theorem dL_isSorted_72 : decode cL_isSorted 72 = .ok (.iload 5, 2) := by decide +kernel
theorem dL_isSorted_74 : decode cL_isSorted 74 = .ok (.iconst 0, 1) := by decide +kernel
theorem dL_isSorted_75 : decode cL_isSorted 75 = .ok (.invokevirtual 48, 3) := by decide +kernel
theorem dL_isSorted_78 : decode cL_isSorted 78 = .ok (.iload 5, 2) := by decide +kernel
theorem dL_isSorted_80 : decode cL_isSorted 80 = .ok (.if_icmp .ne 45, 3) := by decide +kernel
theorem dL_isSorted_83 : decode cL_isSorted 83 = .ok (.aload_n 0, 1) := by decide +kernel
theorem dL_isSorted_84 : decode cL_isSorted 84 = .ok (.iload 5, 2) := by decide +kernel
theorem dL_isSorted_86 : decode cL_isSorted 86 = .ok (.iconst 1, 1) := by decide +kernel
theorem dL_isSorted_87 : decode cL_isSorted 87 = .ok (.invokevirtual 48, 3) := by decide +kernel
theorem dL_isSorted_90 : decode cL_isSorted 90 = .ok (.iload 5, 2) := by decide +kernel
theorem dL_isSorted_92 : decode cL_isSorted 92 = .ok (.if_icmp .ne 33, 3) := by decide +kernel
theorem dL_isSorted_95 : decode cL_isSorted 95 = .ok (.aload_n 0, 1) := by decide +kernel
theorem dL_isSorted_96 : decode cL_isSorted 96 = .ok (.iload 5, 2) := by decide +kernel
theorem dL_isSorted_98 : decode cL_isSorted 98 = .ok (.iconst 2, 1) := by decide +kernel
theorem dL_isSorted_99 : decode cL_isSorted 99 = .ok (.invokevirtual 48, 3) := by decide +kernel
theorem dL_isSorted_102 : decode cL_isSorted 102 = .ok (.iload_n 2, 1) := by decide +kernel
theorem dL_isSorted_103 : decode cL_isSorted 103 = .ok (.if_icmp .ne 22, 3) := by decide +kernel
theorem dL_isSorted_106 : decode cL_isSorted 106 = .ok (.iload_n 2, 1) := by decide +kernel
theorem dL_isSorted_107 : decode cL_isSorted 107 = .ok (.ifCond .lt 14, 3) := by decide +kernel
theorem dL_isSorted_110 : decode cL_isSorted 110 = .ok (.aload_n 0, 1) := by decide +kernel
theorem dL_isSorted_111 : decode cL_isSorted 111 = .ok (.iload_n 2, 1) := by decide +kernel
theorem dL_isSorted_112 : decode cL_isSorted 112 = .ok (.iconst 3, 1) := by decide +kernel
theorem dL_isSorted_113 : decode cL_isSorted 113 = .ok (.invokevirtual 48, 3) := by decide +kernel
theorem dL_isSorted_116 : decode cL_isSorted 116 = .ok (.iload 5, 2) := by decide +kernel
theorem dL_isSorted_118 : decode cL_isSorted 118 = .ok (.if_icmp .ne 7, 3) := by decide +kernel
theorem dL_isSorted_121 : decode cL_isSorted 121 = .ok (.iconst 1, 1) := by decide +kernel
theorem dL_isSorted_122 : decode cL_isSorted 122 = .ok (.goto 4, 3) := by decide +kernel
theorem dL_isSorted_125 : decode cL_isSorted 125 = .ok (.iconst 0, 1) := by decide +kernel
theorem dL_isSorted_126 : decode cL_isSorted 126 = .ok (.istore_n 3, 1) := by decide +kernel
theorem dL_isSorted_127 : decode cL_isSorted 127 = .ok (.iload 5, 2) := by decide +kernel
theorem dL_isSorted_129 : decode cL_isSorted 129 = .ok (.istore_n 2, 1) := by decide +kernel
theorem dL_isSorted_130 : decode cL_isSorted 130 = .ok (.iinc 4 1, 3) := by decide +kernel
theorem dL_isSorted_133 : decode cL_isSorted 133 = .ok (.goto (-106), 3) := by decide +kernel
theorem dL_isSorted_136 : decode cL_isSorted 136 = .ok (.iconst 0, 1) := by decide +kernel
theorem dL_isSorted_137 : decode cL_isSorted 137 = .ok (.istore 4, 2) := by decide +kernel
theorem dL_isSorted_139 : decode cL_isSorted 139 = .ok (.iconst 0, 1) := by decide +kernel
theorem dL_isSorted_140 : decode cL_isSorted 140 = .ok (.istore 5, 2) := by decide +kernel
theorem dL_isSorted_142 : decode cL_isSorted 142 = .ok (.iload 5, 2) := by decide +kernel
theorem dL_isSorted_144 : decode cL_isSorted 144 = .ok (.aload_n 0, 1) := by decide +kernel
theorem dL_isSorted_145 : decode cL_isSorted 145 = .ok (.iconst 0, 1) := by decide +kernel
theorem dL_isSorted_146 : decode cL_isSorted 146 = .ok (.iconst 0, 1) := by decide +kernel
theorem dL_isSorted_147 : decode cL_isSorted 147 = .ok (.invokevirtual 70, 3) := by decide +kernel
theorem dL_isSorted_150 : decode cL_isSorted 150 = .ok (.if_icmp .ge 104, 3) := by decide +kernel
theorem dL_isSorted_153 : decode cL_isSorted 153 = .ok (.iload_n 3, 1) := by decide +kernel
theorem dL_isSorted_154 : decode cL_isSorted 154 = .ok (.ifCond .eq 100, 3) := by decide +kernel
theorem dL_isSorted_157 : decode cL_isSorted 157 = .ok (.aload_n 0, 1) := by decide +kernel
theorem dL_isSorted_158 : decode cL_isSorted 158 = .ok (.iconst 0, 1) := by decide +kernel
theorem dL_isSorted_159 : decode cL_isSorted 159 = .ok (.iload 5, 2) := by decide +kernel
theorem dL_isSorted_161 : decode cL_isSorted 161 = .ok (.iconst 3, 1) := by decide +kernel
theorem dL_isSorted_162 : decode cL_isSorted 162 = .ok (.invokevirtual 63, 3) := by decide +kernel
theorem dL_isSorted_165 : decode cL_isSorted 165 = .ok (.istore 6, 2) := by decide +kernel
theorem dL_isSorted_167 : decode cL_isSorted 167 = .ok (.iload 4, 2) := by decide +kernel
theorem dL_isSorted_169 : decode cL_isSorted 169 = .ok (.aload_n 0, 1) := by decide +kernel
theorem dL_isSorted_170 : decode cL_isSorted 170 = .ok (.iconst 0, 1) := by decide +kernel
theorem dL_isSorted_171 : decode cL_isSorted 171 = .ok (.iload 5, 2) := by decide +kernel
theorem dL_isSorted_173 : decode cL_isSorted 173 = .ok (.iconst 1, 1) := by decide +kernel
theorem dL_isSorted_174 : decode cL_isSorted 174 = .ok (.invokevirtual 63, 3) := by decide +kernel
theorem dL_isSorted_177 : decode cL_isSorted 177 = .ok (.iadd, 1) := by decide +kernel
theorem dL_isSorted_178 : decode cL_isSorted 178 = .ok (.istore 4, 2) := by decide +kernel
theorem dL_isSorted_180 : decode cL_isSorted 180 = .ok (.aload_n 0, 1) := by decide +kernel
theorem dL_isSorted_181 : decode cL_isSorted 181 = .ok (.iconst 0, 1) := by decide +kernel
theorem dL_isSorted_182 : decode cL_isSorted 182 = .ok (.iload 5, 2) := by decide +kernel
theorem dL_isSorted_184 : decode cL_isSorted 184 = .ok (.iconst 2, 1) := by decide +kernel
theorem dL_isSorted_185 : decode cL_isSorted 185 = .ok (.invokevirtual 63, 3) := by decide +kernel
theorem dL_isSorted_188 : decode cL_isSorted 188 = .ok (.ifCond .le 58, 3) := by decide +kernel
theorem dL_isSorted_191 : decode cL_isSorted 191 = .ok (.iload 6, 2) := by decide +kernel
theorem dL_isSorted_193 : decode cL_isSorted 193 = .ok (.ifCond .le 53, 3) := by decide +kernel
theorem dL_isSorted_196 : decode cL_isSorted 196 = .ok (.aload_n 0, 1) := by decide +kernel
theorem dL_isSorted_197 : decode cL_isSorted 197 = .ok (.iconst 0, 1) := by decide +kernel
theorem dL_isSorted_198 : decode cL_isSorted 198 = .ok (.iload 5, 2) := by decide +kernel
theorem dL_isSorted_200 : decode cL_isSorted 200 = .ok (.iconst 4, 1) := by decide +kernel
theorem dL_isSorted_201 : decode cL_isSorted 201 = .ok (.invokevirtual 63, 3) := by decide +kernel
theorem dL_isSorted_204 : decode cL_isSorted 204 = .ok (.iload 6, 2) := by decide +kernel
theorem dL_isSorted_206 : decode cL_isSorted 206 = .ok (.if_icmp .gt 40, 3) := by decide +kernel
theorem dL_isSorted_209 : decode cL_isSorted 209 = .ok (.aload_n 0, 1) := by decide +kernel
theorem dL_isSorted_210 : decode cL_isSorted 210 = .ok (.aload_n 0, 1) := by decide +kernel
theorem dL_isSorted_211 : decode cL_isSorted 211 = .ok (.iconst 0, 1) := by decide +kernel
theorem dL_isSorted_212 : decode cL_isSorted 212 = .ok (.iload 5, 2) := by decide +kernel
theorem dL_isSorted_214 : decode cL_isSorted 214 = .ok (.iconst 0, 1) := by decide +kernel
theorem dL_isSorted_215 : decode cL_isSorted 215 = .ok (.invokevirtual 63, 3) := by decide +kernel
theorem dL_isSorted_218 : decode cL_isSorted 218 = .ok (.aload_n 0, 1) := by decide +kernel
theorem dL_isSorted_219 : decode cL_isSorted 219 = .ok (.iconst 0, 1) := by decide +kernel
theorem dL_isSorted_220 : decode cL_isSorted 220 = .ok (.iload 5, 2) := by decide +kernel
theorem dL_isSorted_222 : decode cL_isSorted 222 = .ok (.iconst 2, 1) := by decide +kernel
theorem dL_isSorted_223 : decode cL_isSorted 223 = .ok (.invokevirtual 63, 3) := by decide +kernel
theorem dL_isSorted_226 : decode cL_isSorted 226 = .ok (.iconst 1, 1) := by decide +kernel
theorem dL_isSorted_227 : decode cL_isSorted 227 = .ok (.isub, 1) := by decide +kernel
theorem dL_isSorted_228 : decode cL_isSorted 228 = .ok (.invokevirtual 67, 3) := by decide +kernel
theorem dL_isSorted_231 : decode cL_isSorted 231 = .ok (.aload_n 0, 1) := by decide +kernel
theorem dL_isSorted_232 : decode cL_isSorted 232 = .ok (.iconst 0, 1) := by decide +kernel
theorem dL_isSorted_233 : decode cL_isSorted 233 = .ok (.iload 5, 2) := by decide +kernel
theorem dL_isSorted_235 : decode cL_isSorted 235 = .ok (.iconst 0, 1) := by decide +kernel
theorem dL_isSorted_236 : decode cL_isSorted 236 = .ok (.invokevirtual 63, 3) := by decide +kernel
theorem dL_isSorted_239 : decode cL_isSorted 239 = .ok (.if_icmp .ne 7, 3) := by decide +kernel
theorem dL_isSorted_242 : decode cL_isSorted 242 = .ok (.iconst 1, 1) := by decide +kernel
theorem dL_isSorted_243 : decode cL_isSorted 243 = .ok (.goto 4, 3) := by decide +kernel
theorem dL_isSorted_246 : decode cL_isSorted 246 = .ok (.iconst 0, 1) := by decide +kernel
theorem dL_isSorted_247 : decode cL_isSorted 247 = .ok (.istore_n 3, 1) := by decide +kernel
theorem dL_isSorted_248 : decode cL_isSorted 248 = .ok (.iinc 5 1, 3) := by decide +kernel
theorem dL_isSorted_251 : decode cL_isSorted 251 = .ok (.goto (-109), 3) := by decide +kernel
theorem dL_isSorted_254 : decode cL_isSorted 254 = .ok (.iload_n 3, 1) := by decide +kernel
theorem dL_isSorted_255 : decode cL_isSorted 255 = .ok (.ifCond .eq 47, 3) := by decide +kernel
theorem dL_isSorted_258 : decode cL_isSorted 258 = .ok (.iload 4, 2) := by decide +kernel
theorem dL_isSorted_260 : decode cL_isSorted 260 = .ok (.aload_n 0, 1) := by decide +kernel
theorem dL_isSorted_261 : decode cL_isSorted 261 = .ok (.iconst 0, 1) := by decide +kernel
theorem dL_isSorted_262 : decode cL_isSorted 262 = .ok (.iconst 2, 1) := by decide +kernel
theorem dL_isSorted_263 : decode cL_isSorted 263 = .ok (.invokevirtual 70, 3) := by decide +kernel
theorem dL_isSorted_266 : decode cL_isSorted 266 = .ok (.if_icmp .ne 36, 3) := by decide +kernel
theorem dL_isSorted_269 : decode cL_isSorted 269 = .ok (.aload_n 0, 1) := by decide +kernel
theorem dL_isSorted_270 : decode cL_isSorted 270 = .ok (.iconst 0, 1) := by decide +kernel
theorem dL_isSorted_271 : decode cL_isSorted 271 = .ok (.iconst 0, 1) := by decide +kernel
theorem dL_isSorted_272 : decode cL_isSorted 272 = .ok (.invokevirtual 70, 3) := by decide +kernel
theorem dL_isSorted_275 : decode cL_isSorted 275 = .ok (.iload_n 1, 1) := by decide +kernel
theorem dL_isSorted_276 : decode cL_isSorted 276 = .ok (.iload 4, 2) := by decide +kernel
theorem dL_isSorted_278 : decode cL_isSorted 278 = .ok (.iadd, 1) := by decide +kernel
theorem dL_isSorted_279 : decode cL_isSorted 279 = .ok (.if_icmp .ne 23, 3) := by decide +kernel
theorem dL_isSorted_282 : decode cL_isSorted 282 = .ok (.iload_n 1, 1) := by decide +kernel
theorem dL_isSorted_283 : decode cL_isSorted 283 = .ok (.ifCond .eq 15, 3) := by decide +kernel
theorem dL_isSorted_286 : decode cL_isSorted 286 = .ok (.aload_n 0, 1) := by decide +kernel
theorem dL_isSorted_287 : decode cL_isSorted 287 = .ok (.sipush 499, 3) := by decide +kernel
theorem dL_isSorted_290 : decode cL_isSorted 290 = .ok (.iconst 0, 1) := by decide +kernel
theorem dL_isSorted_291 : decode cL_isSorted 291 = .ok (.invokevirtual 48, 3) := by decide +kernel
theorem dL_isSorted_294 : decode cL_isSorted 294 = .ok (.iload_n 2, 1) := by decide +kernel
theorem dL_isSorted_295 : decode cL_isSorted 295 = .ok (.if_icmp .ne 7, 3) := by decide +kernel
theorem dL_isSorted_298 : decode cL_isSorted 298 = .ok (.iconst 1, 1) := by decide +kernel
theorem dL_isSorted_299 : decode cL_isSorted 299 = .ok (.goto 4, 3) := by decide +kernel
theorem dL_isSorted_302 : decode cL_isSorted 302 = .ok (.iconst 0, 1) := by decide +kernel
theorem dL_isSorted_303 : decode cL_isSorted 303 = .ok (.ireturn, 1) := by decide +kernel
theorem dL_act_0 : decode cL_act 0 = .ok (.iload_n 1, 1) := by decide +kernel
theorem dL_act_1 : decode cL_act 1 = .ok (.bipush 16, 2) := by decide +kernel
theorem dL_act_3 : decode cL_act 3 = .ok (.irem, 1) := by decide +kernel
theorem dL_act_4 : decode cL_act 4 = .ok (.istore_n 2, 1) := by decide +kernel
theorem dL_act_5 : decode cL_act 5 = .ok (.iload_n 1, 1) := by decide +kernel
theorem dL_act_6 : decode cL_act 6 = .ok (.bipush 16, 2) := by decide +kernel
theorem dL_act_8 : decode cL_act 8 = .ok (.idiv, 1) := by decide +kernel
theorem dL_act_9 : decode cL_act 9 = .ok (.istore_n 3, 1) := by decide +kernel
theorem dL_act_10 : decode cL_act 10 = .ok (.iload_n 3, 1) := by decide +kernel
theorem dL_act_11 : decode cL_act 11 = .ok (.iconst 3, 1) := by decide +kernel
theorem dL_act_12 : decode cL_act 12 = .ok (.irem, 1) := by decide +kernel
theorem dL_act_13 : decode cL_act 13 = .ok (.ifCond .ne 13, 3) := by decide +kernel
theorem dL_act_16 : decode cL_act 16 = .ok (.iload_n 3, 1) := by decide +kernel
theorem dL_act_17 : decode cL_act 17 = .ok (.iconst 3, 1) := by decide +kernel
theorem dL_act_18 : decode cL_act 18 = .ok (.idiv, 1) := by decide +kernel
theorem dL_act_19 : decode cL_act 19 = .ok (.sipush 500, 3) := by decide +kernel
theorem dL_act_22 : decode cL_act 22 = .ok (.irem, 1) := by decide +kernel
theorem dL_act_23 : decode cL_act 23 = .ok (.goto 11, 3) := by decide +kernel
theorem dL_act_26 : decode cL_act 26 = .ok (.iload_n 3, 1) := by decide +kernel
theorem dL_act_27 : decode cL_act 27 = .ok (.iconst 3, 1) := by decide +kernel
theorem dL_act_28 : decode cL_act 28 = .ok (.idiv, 1) := by decide +kernel
theorem dL_act_29 : decode cL_act 29 = .ok (.bipush 30, 2) := by decide +kernel
theorem dL_act_31 : decode cL_act 31 = .ok (.irem, 1) := by decide +kernel
theorem dL_act_32 : decode cL_act 32 = .ok (.iconst 5, 1) := by decide +kernel
theorem dL_act_33 : decode cL_act 33 = .ok (.imul, 1) := by decide +kernel
theorem dL_act_34 : decode cL_act 34 = .ok (.istore 4, 2) := by decide +kernel
theorem dL_act_36 : decode cL_act 36 = .ok (.iload_n 2, 1) := by decide +kernel
theorem dL_act_37 : decode cL_act 37 = .ok (.bipush 7, 2) := by decide +kernel
theorem dL_act_39 : decode cL_act 39 = .ok (.if_icmp .ge 49, 3) := by decide +kernel
theorem dL_act_42 : decode cL_act 42 = .ok (.aload_n 0, 1) := by decide +kernel
theorem dL_act_43 : decode cL_act 43 = .ok (.iload 4, 2) := by decide +kernel
theorem dL_act_45 : decode cL_act 45 = .ok (.invokevirtual 44, 3) := by decide +kernel
theorem dL_act_48 : decode cL_act 48 = .ok (.ifCond .eq 7, 3) := by decide +kernel
theorem dL_act_51 : decode cL_act 51 = .ok (.iconst 0, 1) := by decide +kernel
theorem dL_act_52 : decode cL_act 52 = .ok (.goto 4, 3) := by decide +kernel
theorem dL_act_55 : decode cL_act 55 = .ok (.iconst 1, 1) := by decide +kernel
theorem dL_act_56 : decode cL_act 56 = .ok (.istore 5, 2) := by decide +kernel
theorem dL_act_58 : decode cL_act 58 = .ok (.aload_n 0, 1) := by decide +kernel
theorem dL_act_59 : decode cL_act 59 = .ok (.iconst 0, 1) := by decide +kernel
theorem dL_act_60 : decode cL_act 60 = .ok (.iload 4, 2) := by decide +kernel
theorem dL_act_62 : decode cL_act 62 = .ok (.iconst 0, 1) := by decide +kernel
theorem dL_act_63 : decode cL_act 63 = .ok (.invokestatic 99, 3) := by decide +kernel
theorem dL_act_66 : decode cL_act 66 = .ok (.iload 5, 2) := by decide +kernel
theorem dL_act_68 : decode cL_act 68 = .ok (.if_icmp .ne 17, 3) := by decide +kernel
theorem dL_act_71 : decode cL_act 71 = .ok (.aload_n 0, 1) := by decide +kernel
theorem dL_act_72 : decode cL_act 72 = .ok (.iload 4, 2) := by decide +kernel
theorem dL_act_74 : decode cL_act 74 = .ok (.invokevirtual 44, 3) := by decide +kernel
theorem dL_act_77 : decode cL_act 77 = .ok (.ifCond .eq 8, 3) := by decide +kernel
theorem dL_act_80 : decode cL_act 80 = .ok (.iload 5, 2) := by decide +kernel
theorem dL_act_82 : decode cL_act 82 = .ok (.goto 5, 3) := by decide +kernel
theorem dL_act_85 : decode cL_act 85 = .ok (.bipush (-99), 2) := by decide +kernel
theorem dL_act_87 : decode cL_act 87 = .ok (.ireturn, 1) := by decide +kernel
theorem dL_act_88 : decode cL_act 88 = .ok (.iload_n 2, 1) := by decide +kernel
theorem dL_act_89 : decode cL_act 89 = .ok (.bipush 11, 2) := by decide +kernel
theorem dL_act_91 : decode cL_act 91 = .ok (.if_icmp .ge 49, 3) := by decide +kernel
theorem dL_act_94 : decode cL_act 94 = .ok (.aload_n 0, 1) := by decide +kernel
theorem dL_act_95 : decode cL_act 95 = .ok (.iload 4, 2) := by decide +kernel
theorem dL_act_97 : decode cL_act 97 = .ok (.invokevirtual 44, 3) := by decide +kernel
theorem dL_act_100 : decode cL_act 100 = .ok (.ifCond .eq 7, 3) := by decide +kernel
theorem dL_act_103 : decode cL_act 103 = .ok (.iconst 1, 1) := by decide +kernel
theorem dL_act_104 : decode cL_act 104 = .ok (.goto 4, 3) := by decide +kernel
theorem dL_act_107 : decode cL_act 107 = .ok (.iconst 0, 1) := by decide +kernel
theorem dL_act_108 : decode cL_act 108 = .ok (.istore 5, 2) := by decide +kernel
theorem dL_act_110 : decode cL_act 110 = .ok (.aload_n 0, 1) := by decide +kernel
theorem dL_act_111 : decode cL_act 111 = .ok (.iconst 1, 1) := by decide +kernel
theorem dL_act_112 : decode cL_act 112 = .ok (.iload 4, 2) := by decide +kernel
theorem dL_act_114 : decode cL_act 114 = .ok (.iconst 0, 1) := by decide +kernel
theorem dL_act_115 : decode cL_act 115 = .ok (.invokestatic 99, 3) := by decide +kernel
theorem dL_act_118 : decode cL_act 118 = .ok (.iload 5, 2) := by decide +kernel
theorem dL_act_120 : decode cL_act 120 = .ok (.if_icmp .ne 17, 3) := by decide +kernel
theorem dL_act_123 : decode cL_act 123 = .ok (.aload_n 0, 1) := by decide +kernel
theorem dL_act_124 : decode cL_act 124 = .ok (.iload 4, 2) := by decide +kernel
theorem dL_act_126 : decode cL_act 126 = .ok (.invokevirtual 44, 3) := by decide +kernel
theorem dL_act_129 : decode cL_act 129 = .ok (.ifCond .ne 8, 3) := by decide +kernel
theorem dL_act_132 : decode cL_act 132 = .ok (.iload 5, 2) := by decide +kernel
theorem dL_act_134 : decode cL_act 134 = .ok (.goto 5, 3) := by decide +kernel
theorem dL_act_137 : decode cL_act 137 = .ok (.bipush (-99), 2) := by decide +kernel
theorem dL_act_139 : decode cL_act 139 = .ok (.ireturn, 1) := by decide +kernel
theorem dL_act_140 : decode cL_act 140 = .ok (.iload_n 2, 1) := by decide +kernel
theorem dL_act_141 : decode cL_act 141 = .ok (.bipush 11, 2) := by decide +kernel
theorem dL_act_143 : decode cL_act 143 = .ok (.if_icmp .ne 76, 3) := by decide +kernel
theorem dL_act_146 : decode cL_act 146 = .ok (.aload_n 0, 1) := by decide +kernel
theorem dL_act_147 : decode cL_act 147 = .ok (.iconst 3, 1) := by decide +kernel
theorem dL_act_148 : decode cL_act 148 = .ok (.invokevirtual 80, 3) := by decide +kernel
theorem dL_act_151 : decode cL_act 151 = .ok (.istore 5, 2) := by decide +kernel
theorem dL_act_153 : decode cL_act 153 = .ok (.aload_n 0, 1) := by decide +kernel
theorem dL_act_154 : decode cL_act 154 = .ok (.iconst 2, 1) := by decide +kernel
theorem dL_act_155 : decode cL_act 155 = .ok (.invokevirtual 80, 3) := by decide +kernel
theorem dL_act_158 : decode cL_act 158 = .ok (.istore 6, 2) := by decide +kernel
theorem dL_act_160 : decode cL_act 160 = .ok (.aload_n 0, 1) := by decide +kernel
theorem dL_act_161 : decode cL_act 161 = .ok (.invokevirtual 126, 3) := by decide +kernel
theorem dL_act_164 : decode cL_act 164 = .ok (.istore 7, 2) := by decide +kernel
theorem dL_act_166 : decode cL_act 166 = .ok (.aload_n 0, 1) := by decide +kernel
theorem dL_act_167 : decode cL_act 167 = .ok (.iconst 0, 1) := by decide +kernel
theorem dL_act_168 : decode cL_act 168 = .ok (.invokevirtual 80, 3) := by decide +kernel
theorem dL_act_171 : decode cL_act 171 = .ok (.iload 7, 2) := by decide +kernel
theorem dL_act_173 : decode cL_act 173 = .ok (.if_icmp .ne 43, 3) := by decide +kernel
theorem dL_act_176 : decode cL_act 176 = .ok (.aload_n 0, 1) := by decide +kernel
theorem dL_act_177 : decode cL_act 177 = .ok (.iconst 3, 1) := by decide +kernel
theorem dL_act_178 : decode cL_act 178 = .ok (.invokevirtual 80, 3) := by decide +kernel
theorem dL_act_181 : decode cL_act 181 = .ok (.iload 5, 2) := by decide +kernel
theorem dL_act_183 : decode cL_act 183 = .ok (.iconst 1, 1) := by decide +kernel
theorem dL_act_184 : decode cL_act 184 = .ok (.iadd, 1) := by decide +kernel
theorem dL_act_185 : decode cL_act 185 = .ok (.if_icmp .ne 31, 3) := by decide +kernel
theorem dL_act_188 : decode cL_act 188 = .ok (.aload_n 0, 1) := by decide +kernel
theorem dL_act_189 : decode cL_act 189 = .ok (.iconst 2, 1) := by decide +kernel
theorem dL_act_190 : decode cL_act 190 = .ok (.invokevirtual 80, 3) := by decide +kernel
theorem dL_act_193 : decode cL_act 193 = .ok (.iload 6, 2) := by decide +kernel
theorem dL_act_195 : decode cL_act 195 = .ok (.iload 7, 2) := by decide +kernel
theorem dL_act_197 : decode cL_act 197 = .ok (.iadd, 1) := by decide +kernel
theorem dL_act_198 : decode cL_act 198 = .ok (.if_icmp .ne 18, 3) := by decide +kernel
theorem dL_act_201 : decode cL_act 201 = .ok (.aload_n 0, 1) := by decide +kernel
theorem dL_act_202 : decode cL_act 202 = .ok (.iconst 1, 1) := by decide +kernel
theorem dL_act_203 : decode cL_act 203 = .ok (.invokevirtual 80, 3) := by decide +kernel
theorem dL_act_206 : decode cL_act 206 = .ok (.iload 7, 2) := by decide +kernel
theorem dL_act_208 : decode cL_act 208 = .ok (.if_icmp .lt 8, 3) := by decide +kernel
theorem dL_act_211 : decode cL_act 211 = .ok (.iload 7, 2) := by decide +kernel
theorem dL_act_213 : decode cL_act 213 = .ok (.goto 5, 3) := by decide +kernel
theorem dL_act_216 : decode cL_act 216 = .ok (.bipush (-99), 2) := by decide +kernel
theorem dL_act_218 : decode cL_act 218 = .ok (.ireturn, 1) := by decide +kernel
theorem dL_act_219 : decode cL_act 219 = .ok (.iload_n 2, 1) := by decide +kernel
theorem dL_act_220 : decode cL_act 220 = .ok (.bipush 14, 2) := by decide +kernel
theorem dL_act_222 : decode cL_act 222 = .ok (.if_icmp .ge 81, 3) := by decide +kernel
theorem dL_act_225 : decode cL_act 225 = .ok (.aload_n 0, 1) := by decide +kernel
theorem dL_act_226 : decode cL_act 226 = .ok (.iconst 0, 1) := by decide +kernel
theorem dL_act_227 : decode cL_act 227 = .ok (.invokevirtual 74, 3) := by decide +kernel
theorem dL_act_230 : decode cL_act 230 = .ok (.ifCond .le 7, 3) := by decide +kernel
theorem dL_act_233 : decode cL_act 233 = .ok (.iconst 1, 1) := by decide +kernel
theorem dL_act_234 : decode cL_act 234 = .ok (.goto 4, 3) := by decide +kernel
theorem dL_act_237 : decode cL_act 237 = .ok (.iconst 0, 1) := by decide +kernel
theorem dL_act_238 : decode cL_act 238 = .ok (.istore 5, 2) := by decide +kernel
theorem dL_act_240 : decode cL_act 240 = .ok (.aload_n 0, 1) := by decide +kernel
theorem dL_act_241 : decode cL_act 241 = .ok (.iload_n 2, 1) := by decide +kernel
theorem dL_act_242 : decode cL_act 242 = .ok (.bipush 12, 2) := by decide +kernel
theorem dL_act_244 : decode cL_act 244 = .ok (.if_icmp .ne 7, 3) := by decide +kernel
theorem dL_act_247 : decode cL_act 247 = .ok (.iconst 2, 1) := by decide +kernel
theorem dL_act_248 : decode cL_act 248 = .ok (.goto 4, 3) := by decide +kernel
theorem dL_act_251 : decode cL_act 251 = .ok (.iconst 3, 1) := by decide +kernel
theorem dL_act_252 : decode cL_act 252 = .ok (.iconst 0, 1) := by decide +kernel
theorem dL_act_253 : decode cL_act 253 = .ok (.iconst 0, 1) := by decide +kernel
theorem dL_act_254 : decode cL_act 254 = .ok (.invokestatic 99, 3) := by decide +kernel
theorem dL_act_257 : decode cL_act 257 = .ok (.istore 6, 2) := by decide +kernel
theorem dL_act_259 : decode cL_act 259 = .ok (.iload 6, 2) := by decide +kernel
theorem dL_act_261 : decode cL_act 261 = .ok (.bipush (-12), 2) := by decide +kernel
theorem dL_act_263 : decode cL_act 263 = .ok (.if_icmp .ne 7, 3) := by decide +kernel
theorem dL_act_266 : decode cL_act 266 = .ok (.iconst 1, 1) := by decide +kernel
theorem dL_act_267 : decode cL_act 267 = .ok (.goto 4, 3) := by decide +kernel
theorem dL_act_270 : decode cL_act 270 = .ok (.iconst 0, 1) := by decide +kernel
theorem dL_act_271 : decode cL_act 271 = .ok (.iload_n 2, 1) := by decide +kernel
theorem dL_act_272 : decode cL_act 272 = .ok (.bipush 12, 2) := by decide +kernel
theorem dL_act_274 : decode cL_act 274 = .ok (.if_icmp .ne 8, 3) := by decide +kernel
theorem dL_act_277 : decode cL_act 277 = .ok (.iload 5, 2) := by decide +kernel
theorem dL_act_279 : decode cL_act 279 = .ok (.goto 13, 3) := by decide +kernel
theorem dL_act_282 : decode cL_act 282 = .ok (.iload 5, 2) := by decide +kernel
theorem dL_act_284 : decode cL_act 284 = .ok (.ifCond .ne 7, 3) := by decide +kernel
theorem dL_act_287 : decode cL_act 287 = .ok (.iconst 1, 1) := by decide +kernel
theorem dL_act_288 : decode cL_act 288 = .ok (.goto 4, 3) := by decide +kernel
theorem dL_act_291 : decode cL_act 291 = .ok (.iconst 0, 1) := by decide +kernel
theorem dL_act_292 : decode cL_act 292 = .ok (.if_icmp .ne 8, 3) := by decide +kernel
theorem dL_act_295 : decode cL_act 295 = .ok (.iload 6, 2) := by decide +kernel
theorem dL_act_297 : decode cL_act 297 = .ok (.goto 5, 3) := by decide +kernel
theorem dL_act_300 : decode cL_act 300 = .ok (.bipush (-99), 2) := by decide +kernel
theorem dL_act_302 : decode cL_act 302 = .ok (.ireturn, 1) := by decide +kernel
theorem dL_act_303 : decode cL_act 303 = .ok (.iload_n 3, 1) := by decide +kernel
theorem dL_act_304 : decode cL_act 304 = .ok (.iconst 3, 1) := by decide +kernel
theorem dL_act_305 : decode cL_act 305 = .ok (.irem, 1) := by decide +kernel
theorem dL_act_306 : decode cL_act 306 = .ok (.istore 5, 2) := by decide +kernel
theorem dL_act_308 : decode cL_act 308 = .ok (.aload_n 0, 1) := by decide +kernel
theorem dL_act_309 : decode cL_act 309 = .ok (.iconst 4, 1) := by decide +kernel
theorem dL_act_310 : decode cL_act 310 = .ok (.iload 5, 2) := by decide +kernel
theorem dL_act_312 : decode cL_act 312 = .ok (.iload 5, 2) := by decide +kernel
theorem dL_act_314 : decode cL_act 314 = .ok (.ifCond .ne 14, 3) := by decide +kernel
theorem dL_act_317 : decode cL_act 317 = .ok (.iconst 5, 1) := by decide +kernel
theorem dL_act_318 : decode cL_act 318 = .ok (.iload_n 3, 1) := by decide +kernel
theorem dL_act_319 : decode cL_act 319 = .ok (.iconst 3, 1) := by decide +kernel
theorem dL_act_320 : decode cL_act 320 = .ok (.idiv, 1) := by decide +kernel
theorem dL_act_321 : decode cL_act 321 = .ok (.bipush 100, 2) := by decide +kernel
theorem dL_act_323 : decode cL_act 323 = .ok (.irem, 1) := by decide +kernel
theorem dL_act_324 : decode cL_act 324 = .ok (.iadd, 1) := by decide +kernel
theorem dL_act_325 : decode cL_act 325 = .ok (.goto 26, 3) := by decide +kernel
theorem dL_act_328 : decode cL_act 328 = .ok (.iload 5, 2) := by decide +kernel
theorem dL_act_330 : decode cL_act 330 = .ok (.iconst 1, 1) := by decide +kernel
theorem dL_act_331 : decode cL_act 331 = .ok (.if_icmp .ne 14, 3) := by decide +kernel
theorem dL_act_334 : decode cL_act 334 = .ok (.iconst 1, 1) := by decide +kernel
theorem dL_act_335 : decode cL_act 335 = .ok (.iload_n 3, 1) := by decide +kernel
theorem dL_act_336 : decode cL_act 336 = .ok (.iconst 3, 1) := by decide +kernel
theorem dL_act_337 : decode cL_act 337 = .ok (.idiv, 1) := by decide +kernel
theorem dL_act_338 : decode cL_act 338 = .ok (.bipush 45, 2) := by decide +kernel
theorem dL_act_340 : decode cL_act 340 = .ok (.irem, 1) := by decide +kernel
theorem dL_act_341 : decode cL_act 341 = .ok (.iadd, 1) := by decide +kernel
theorem dL_act_342 : decode cL_act 342 = .ok (.goto 9, 3) := by decide +kernel
theorem dL_act_345 : decode cL_act 345 = .ok (.iload_n 3, 1) := by decide +kernel
theorem dL_act_346 : decode cL_act 346 = .ok (.iconst 3, 1) := by decide +kernel
theorem dL_act_347 : decode cL_act 347 = .ok (.idiv, 1) := by decide +kernel
theorem dL_act_348 : decode cL_act 348 = .ok (.bipush 11, 2) := by decide +kernel
theorem dL_act_350 : decode cL_act 350 = .ok (.irem, 1) := by decide +kernel
theorem dL_act_351 : decode cL_act 351 = .ok (.invokestatic 99, 3) := by decide +kernel
theorem dL_act_354 : decode cL_act 354 = .ok (.ireturn, 1) := by decide +kernel
theorem dL_law_0 : decode cL_law 0 = .ok (.new 10, 3) := by decide +kernel
theorem dL_law_3 : decode cL_law 3 = .ok (.dup, 1) := by decide +kernel
theorem dL_law_4 : decode cL_law 4 = .ok (.invokespecial 129, 3) := by decide +kernel
theorem dL_law_7 : decode cL_law 7 = .ok (.astore_n 1, 1) := by decide +kernel
theorem dL_law_8 : decode cL_law 8 = .ok (.aload_n 1, 1) := by decide +kernel
theorem dL_law_9 : decode cL_law 9 = .ok (.bipush 7, 2) := by decide +kernel
theorem dL_law_11 : decode cL_law 11 = .ok (.iconst 0, 1) := by decide +kernel
theorem dL_law_12 : decode cL_law 12 = .ok (.iconst 0, 1) := by decide +kernel
theorem dL_law_13 : decode cL_law 13 = .ok (.invokestatic 99, 3) := by decide +kernel
theorem dL_law_16 : decode cL_law 16 = .ok (.bipush (-12), 2) := by decide +kernel
theorem dL_law_18 : decode cL_law 18 = .ok (.if_icmp .ne 107, 3) := by decide +kernel
theorem dL_law_21 : decode cL_law 21 = .ok (.aload_n 1, 1) := by decide +kernel
theorem dL_law_22 : decode cL_law 22 = .ok (.bipush 9, 2) := by decide +kernel
theorem dL_law_24 : decode cL_law 24 = .ok (.iconst 0, 1) := by decide +kernel
theorem dL_law_25 : decode cL_law 25 = .ok (.iconst 0, 1) := by decide +kernel
theorem dL_law_26 : decode cL_law 26 = .ok (.invokestatic 99, 3) := by decide +kernel
theorem dL_law_29 : decode cL_law 29 = .ok (.bipush (-12), 2) := by decide +kernel
theorem dL_law_31 : decode cL_law 31 = .ok (.if_icmp .ne 94, 3) := by decide +kernel
theorem dL_law_34 : decode cL_law 34 = .ok (.aload_n 1, 1) := by decide +kernel
theorem dL_law_35 : decode cL_law 35 = .ok (.bipush 9, 2) := by decide +kernel
theorem dL_law_37 : decode cL_law 37 = .ok (.iconst 2, 1) := by decide +kernel
theorem dL_law_38 : decode cL_law 38 = .ok (.iconst 0, 1) := by decide +kernel
theorem dL_law_39 : decode cL_law 39 = .ok (.invokestatic 99, 3) := by decide +kernel
theorem dL_law_42 : decode cL_law 42 = .ok (.bipush (-11), 2) := by decide +kernel
theorem dL_law_44 : decode cL_law 44 = .ok (.if_icmp .ne 81, 3) := by decide +kernel
theorem dL_law_47 : decode cL_law 47 = .ok (.aload_n 1, 1) := by decide +kernel
theorem dL_law_48 : decode cL_law 48 = .ok (.bipush 8, 2) := by decide +kernel
theorem dL_law_50 : decode cL_law 50 = .ok (.iconst 1, 1) := by decide +kernel
theorem dL_law_51 : decode cL_law 51 = .ok (.iconst 0, 1) := by decide +kernel
theorem dL_law_52 : decode cL_law 52 = .ok (.invokestatic 99, 3) := by decide +kernel
theorem dL_law_55 : decode cL_law 55 = .ok (.ifCond .ne 70, 3) := by decide +kernel
theorem dL_law_58 : decode cL_law 58 = .ok (.aload_n 1, 1) := by decide +kernel
theorem dL_law_59 : decode cL_law 59 = .ok (.iconst 0, 1) := by decide +kernel
theorem dL_law_60 : decode cL_law 60 = .ok (.invokevirtual 83, 3) := by decide +kernel
theorem dL_law_63 : decode cL_law 63 = .ok (.bipush 50, 2) := by decide +kernel
theorem dL_law_65 : decode cL_law 65 = .ok (.if_icmp .ne 60, 3) := by decide +kernel
theorem dL_law_68 : decode cL_law 68 = .ok (.aload_n 1, 1) := by decide +kernel
theorem dL_law_69 : decode cL_law 69 = .ok (.iconst 1, 1) := by decide +kernel
theorem dL_law_70 : decode cL_law 70 = .ok (.invokevirtual 83, 3) := by decide +kernel
theorem dL_law_73 : decode cL_law 73 = .ok (.bipush 10, 2) := by decide +kernel
theorem dL_law_75 : decode cL_law 75 = .ok (.if_icmp .ne 50, 3) := by decide +kernel
theorem dL_law_78 : decode cL_law 78 = .ok (.aload_n 1, 1) := by decide +kernel
theorem dL_law_79 : decode cL_law 79 = .ok (.iconst 2, 1) := by decide +kernel
theorem dL_law_80 : decode cL_law 80 = .ok (.invokevirtual 83, 3) := by decide +kernel
theorem dL_law_83 : decode cL_law 83 = .ok (.iconst 2, 1) := by decide +kernel
theorem dL_law_84 : decode cL_law 84 = .ok (.if_icmp .ne 41, 3) := by decide +kernel
theorem dL_law_87 : decode cL_law 87 = .ok (.aload_n 1, 1) := by decide +kernel
theorem dL_law_88 : decode cL_law 88 = .ok (.iconst 0, 1) := by decide +kernel
theorem dL_law_89 : decode cL_law 89 = .ok (.invokestatic 130, 3) := by decide +kernel
theorem dL_law_92 : decode cL_law 92 = .ok (.ifCond .eq 33, 3) := by decide +kernel
theorem dL_law_95 : decode cL_law 95 = .ok (.aload_n 1, 1) := by decide +kernel
theorem dL_law_96 : decode cL_law 96 = .ok (.iconst 1, 1) := by decide +kernel
theorem dL_law_97 : decode cL_law 97 = .ok (.invokestatic 130, 3) := by decide +kernel
theorem dL_law_100 : decode cL_law 100 = .ok (.ifCond .eq 25, 3) := by decide +kernel
theorem dL_law_103 : decode cL_law 103 = .ok (.new 10, 3) := by decide +kernel
theorem dL_law_106 : decode cL_law 106 = .ok (.dup, 1) := by decide +kernel
theorem dL_law_107 : decode cL_law 107 = .ok (.invokespecial 129, 3) := by decide +kernel
theorem dL_law_110 : decode cL_law 110 = .ok (.aload_n 0, 1) := by decide +kernel
theorem dL_law_111 : decode cL_law 111 = .ok (.iconst 0, 1) := by decide +kernel
theorem dL_law_112 : decode cL_law 112 = .ok (.invokestatic 133, 3) := by decide +kernel
theorem dL_law_115 : decode cL_law 115 = .ok (.invokestatic 137, 3) := by decide +kernel
theorem dL_law_118 : decode cL_law 118 = .ok (.ifCond .eq 7, 3) := by decide +kernel
theorem dL_law_121 : decode cL_law 121 = .ok (.iconst 1, 1) := by decide +kernel
theorem dL_law_122 : decode cL_law 122 = .ok (.goto 4, 3) := by decide +kernel
theorem dL_law_125 : decode cL_law 125 = .ok (.iconst 0, 1) := by decide +kernel
theorem dL_law_126 : decode cL_law 126 = .ok (.istore_n 2, 1) := by decide +kernel
theorem dL_law_127 : decode cL_law 127 = .ok (.iconst 1, 1) := by decide +kernel
theorem dL_law_128 : decode cL_law 128 = .ok (.istore_n 3, 1) := by decide +kernel
theorem dL_law_129 : decode cL_law 129 = .ok (.iload_n 3, 1) := by decide +kernel
theorem dL_law_130 : decode cL_law 130 = .ok (.bipush 50, 2) := by decide +kernel
theorem dL_law_132 : decode cL_law 132 = .ok (.if_icmp .ge 239, 3) := by decide +kernel
theorem dL_law_135 : decode cL_law 135 = .ok (.iload_n 2, 1) := by decide +kernel
theorem dL_law_136 : decode cL_law 136 = .ok (.ifCond .eq 235, 3) := by decide +kernel
theorem dL_law_139 : decode cL_law 139 = .ok (.aload_n 0, 1) := by decide +kernel
theorem dL_law_140 : decode cL_law 140 = .ok (.iload_n 3, 1) := by decide +kernel
theorem dL_law_141 : decode cL_law 141 = .ok (.invokestatic 133, 3) := by decide +kernel
theorem dL_law_144 : decode cL_law 144 = .ok (.istore 4, 2) := by decide +kernel
theorem dL_law_146 : decode cL_law 146 = .ok (.aload_n 1, 1) := by decide +kernel
theorem dL_law_147 : decode cL_law 147 = .ok (.invokestatic 108, 3) := by decide +kernel
theorem dL_law_150 : decode cL_law 150 = .ok (.lstore 5, 2) := by decide +kernel
theorem dL_law_152 : decode cL_law 152 = .ok (.aload_n 1, 1) := by decide +kernel
theorem dL_law_153 : decode cL_law 153 = .ok (.bipush 7, 2) := by decide +kernel
theorem dL_law_155 : decode cL_law 155 = .ok (.invokevirtual 80, 3) := by decide +kernel
theorem dL_law_158 : decode cL_law 158 = .ok (.istore 7, 2) := by decide +kernel
theorem dL_law_160 : decode cL_law 160 = .ok (.aload_n 1, 1) := by decide +kernel
theorem dL_law_161 : decode cL_law 161 = .ok (.iload 4, 2) := by decide +kernel
theorem dL_law_163 : decode cL_law 163 = .ok (.invokestatic 140, 3) := by decide +kernel
theorem dL_law_166 : decode cL_law 166 = .ok (.istore 8, 2) := by decide +kernel
theorem dL_law_168 : decode cL_law 168 = .ok (.aload_n 1, 1) := by decide +kernel
theorem dL_law_169 : decode cL_law 169 = .ok (.bipush 7, 2) := by decide +kernel
theorem dL_law_171 : decode cL_law 171 = .ok (.invokevirtual 80, 3) := by decide +kernel
theorem dL_law_174 : decode cL_law 174 = .ok (.istore 9, 2) := by decide +kernel
theorem dL_law_176 : decode cL_law 176 = .ok (.iload 8, 2) := by decide +kernel
theorem dL_law_178 : decode cL_law 178 = .ok (.bipush (-99), 2) := by decide +kernel
theorem dL_law_180 : decode cL_law 180 = .ok (.if_icmp .le 82, 3) := by decide +kernel
theorem dL_law_183 : decode cL_law 183 = .ok (.iload 8, 2) := by decide +kernel
theorem dL_law_185 : decode cL_law 185 = .ok (.bipush (-10), 2) := by decide +kernel
theorem dL_law_187 : decode cL_law 187 = .ok (.if_icmp .gt 23, 3) := by decide +kernel
theorem dL_law_190 : decode cL_law 190 = .ok (.iload 9, 2) := by decide +kernel
theorem dL_law_192 : decode cL_law 192 = .ok (.iload 7, 2) := by decide +kernel
theorem dL_law_194 : decode cL_law 194 = .ok (.if_icmp .ne 68, 3) := by decide +kernel
theorem dL_law_197 : decode cL_law 197 = .ok (.aload_n 1, 1) := by decide +kernel
theorem dL_law_198 : decode cL_law 198 = .ok (.invokestatic 108, 3) := by decide +kernel
theorem dL_law_201 : decode cL_law 201 = .ok (.lload 5, 2) := by decide +kernel
theorem dL_law_203 : decode cL_law 203 = .ok (.lcmp, 1) := by decide +kernel
theorem dL_law_204 : decode cL_law 204 = .ok (.ifCond .ne 58, 3) := by decide +kernel
theorem dL_law_207 : decode cL_law 207 = .ok (.goto 24, 3) := by decide +kernel
theorem dL_law_210 : decode cL_law 210 = .ok (.iload 9, 2) := by decide +kernel
theorem dL_law_212 : decode cL_law 212 = .ok (.iload 7, 2) := by decide +kernel
theorem dL_law_214 : decode cL_law 214 = .ok (.bipush 6, 2) := by decide +kernel
theorem dL_law_216 : decode cL_law 216 = .ok (.if_icmp .ge 10, 3) := by decide +kernel
theorem dL_law_219 : decode cL_law 219 = .ok (.iload 7, 2) := by decide +kernel
theorem dL_law_221 : decode cL_law 221 = .ok (.iconst 1, 1) := by decide +kernel
theorem dL_law_222 : decode cL_law 222 = .ok (.iadd, 1) := by decide +kernel
theorem dL_law_223 : decode cL_law 223 = .ok (.goto 5, 3) := by decide +kernel
theorem dL_law_226 : decode cL_law 226 = .ok (.bipush 6, 2) := by decide +kernel
theorem dL_law_228 : decode cL_law 228 = .ok (.if_icmp .ne 34, 3) := by decide +kernel
theorem dL_law_231 : decode cL_law 231 = .ok (.aload_n 1, 1) := by decide +kernel
theorem dL_law_232 : decode cL_law 232 = .ok (.invokestatic 144, 3) := by decide +kernel
theorem dL_law_235 : decode cL_law 235 = .ok (.ifCond .eq 27, 3) := by decide +kernel
theorem dL_law_238 : decode cL_law 238 = .ok (.iload_n 3, 1) := by decide +kernel
theorem dL_law_239 : decode cL_law 239 = .ok (.bipush 6, 2) := by decide +kernel
theorem dL_law_241 : decode cL_law 241 = .ok (.irem, 1) := by decide +kernel
theorem dL_law_242 : decode cL_law 242 = .ok (.iconst 5, 1) := by decide +kernel
theorem dL_law_243 : decode cL_law 243 = .ok (.if_icmp .ne 15, 3) := by decide +kernel
theorem dL_law_246 : decode cL_law 246 = .ok (.aload_n 1, 1) := by decide +kernel
theorem dL_law_247 : decode cL_law 247 = .ok (.iload 4, 2) := by decide +kernel
theorem dL_law_249 : decode cL_law 249 = .ok (.bipush 6, 2) := by decide +kernel
theorem dL_law_251 : decode cL_law 251 = .ok (.idiv, 1) := by decide +kernel
theorem dL_law_252 : decode cL_law 252 = .ok (.invokestatic 130, 3) := by decide +kernel
theorem dL_law_255 : decode cL_law 255 = .ok (.ifCond .eq 7, 3) := by decide +kernel
theorem dL_law_258 : decode cL_law 258 = .ok (.iconst 1, 1) := by decide +kernel
theorem dL_law_259 : decode cL_law 259 = .ok (.goto 4, 3) := by decide +kernel
theorem dL_law_262 : decode cL_law 262 = .ok (.iconst 0, 1) := by decide +kernel
theorem dL_law_263 : decode cL_law 263 = .ok (.istore_n 2, 1) := by decide +kernel
theorem dL_law_264 : decode cL_law 264 = .ok (.iload_n 2, 1) := by decide +kernel
theorem dL_law_265 : decode cL_law 265 = .ok (.ifCond .eq 100, 3) := by decide +kernel
theorem dL_law_268 : decode cL_law 268 = .ok (.iload 8, 2) := by decide +kernel
theorem dL_law_270 : decode cL_law 270 = .ok (.bipush (-10), 2) := by decide +kernel
theorem dL_law_272 : decode cL_law 272 = .ok (.if_icmp .le 93, 3) := by decide +kernel
theorem dL_law_275 : decode cL_law 275 = .ok (.iload 4, 2) := by decide +kernel
theorem dL_law_277 : decode cL_law 277 = .ok (.bipush 17, 2) := by decide +kernel
theorem dL_law_279 : decode cL_law 279 = .ok (.idiv, 1) := by decide +kernel
theorem dL_law_280 : decode cL_law 280 = .ok (.iconst 3, 1) := by decide +kernel
theorem dL_law_281 : decode cL_law 281 = .ok (.irem, 1) := by decide +kernel
theorem dL_law_282 : decode cL_law 282 = .ok (.ifCond .ne 83, 3) := by decide +kernel
theorem dL_law_285 : decode cL_law 285 = .ok (.aload_n 1, 1) := by decide +kernel
theorem dL_law_286 : decode cL_law 286 = .ok (.invokestatic 108, 3) := by decide +kernel
theorem dL_law_289 : decode cL_law 289 = .ok (.lstore 10, 2) := by decide +kernel
theorem dL_law_291 : decode cL_law 291 = .ok (.aload_n 1, 1) := by decide +kernel
theorem dL_law_292 : decode cL_law 292 = .ok (.iconst 0, 1) := by decide +kernel
theorem dL_law_293 : decode cL_law 293 = .ok (.iconst 1, 1) := by decide +kernel
theorem dL_law_294 : decode cL_law 294 = .ok (.invokevirtual 70, 3) := by decide +kernel
theorem dL_law_297 : decode cL_law 297 = .ok (.istore 12, 2) := by decide +kernel
theorem dL_law_299 : decode cL_law 299 = .ok (.aload_n 1, 1) := by decide +kernel
theorem dL_law_300 : decode cL_law 300 = .ok (.iconst 0, 1) := by decide +kernel
theorem dL_law_301 : decode cL_law 301 = .ok (.invokevirtual 38, 3) := by decide +kernel
theorem dL_law_304 : decode cL_law 304 = .ok (.iload 12, 2) := by decide +kernel
theorem dL_law_306 : decode cL_law 306 = .ok (.if_icmp .ne 57, 3) := by decide +kernel
theorem dL_law_309 : decode cL_law 309 = .ok (.aload_n 1, 1) := by decide +kernel
theorem dL_law_310 : decode cL_law 310 = .ok (.invokevirtual 35, 3) := by decide +kernel
theorem dL_law_313 : decode cL_law 313 = .ok (.iload 7, 2) := by decide +kernel
theorem dL_law_315 : decode cL_law 315 = .ok (.bipush 6, 2) := by decide +kernel
theorem dL_law_317 : decode cL_law 317 = .ok (.if_icmp .ge 8, 3) := by decide +kernel
theorem dL_law_320 : decode cL_law 320 = .ok (.iload 7, 2) := by decide +kernel
theorem dL_law_322 : decode cL_law 322 = .ok (.goto 4, 3) := by decide +kernel
theorem dL_law_325 : decode cL_law 325 = .ok (.iconst 5, 1) := by decide +kernel
theorem dL_law_326 : decode cL_law 326 = .ok (.if_icmp .ne 37, 3) := by decide +kernel
theorem dL_law_329 : decode cL_law 329 = .ok (.aload_n 1, 1) := by decide +kernel
theorem dL_law_330 : decode cL_law 330 = .ok (.invokestatic 108, 3) := by decide +kernel
theorem dL_law_333 : decode cL_law 333 = .ok (.lload 5, 2) := by decide +kernel
theorem dL_law_335 : decode cL_law 335 = .ok (.lcmp, 1) := by decide +kernel
theorem dL_law_336 : decode cL_law 336 = .ok (.ifCond .ne 27, 3) := by decide +kernel
theorem dL_law_339 : decode cL_law 339 = .ok (.aload_n 1, 1) := by decide +kernel
theorem dL_law_340 : decode cL_law 340 = .ok (.iconst 0, 1) := by decide +kernel
theorem dL_law_341 : decode cL_law 341 = .ok (.invokevirtual 41, 3) := by decide +kernel
theorem dL_law_344 : decode cL_law 344 = .ok (.iload 12, 2) := by decide +kernel
theorem dL_law_346 : decode cL_law 346 = .ok (.if_icmp .ne 17, 3) := by decide +kernel
theorem dL_law_349 : decode cL_law 349 = .ok (.aload_n 1, 1) := by decide +kernel
theorem dL_law_350 : decode cL_law 350 = .ok (.invokestatic 108, 3) := by decide +kernel
theorem dL_law_353 : decode cL_law 353 = .ok (.lload 10, 2) := by decide +kernel
theorem dL_law_355 : decode cL_law 355 = .ok (.lcmp, 1) := by decide +kernel
theorem dL_law_356 : decode cL_law 356 = .ok (.ifCond .ne 7, 3) := by decide +kernel
theorem dL_law_359 : decode cL_law 359 = .ok (.iconst 1, 1) := by decide +kernel
theorem dL_law_360 : decode cL_law 360 = .ok (.goto 4, 3) := by decide +kernel
theorem dL_law_363 : decode cL_law 363 = .ok (.iconst 0, 1) := by decide +kernel
theorem dL_law_364 : decode cL_law 364 = .ok (.istore_n 2, 1) := by decide +kernel
theorem dL_law_365 : decode cL_law 365 = .ok (.iinc 3 1, 3) := by decide +kernel
theorem dL_law_368 : decode cL_law 368 = .ok (.goto (-239), 3) := by decide +kernel
theorem dL_law_371 : decode cL_law 371 = .ok (.iload_n 2, 1) := by decide +kernel
theorem dL_law_372 : decode cL_law 372 = .ok (.ifCond .eq 38, 3) := by decide +kernel
theorem dL_law_375 : decode cL_law 375 = .ok (.aload_n 1, 1) := by decide +kernel
theorem dL_law_376 : decode cL_law 376 = .ok (.iconst 1, 1) := by decide +kernel
theorem dL_law_377 : decode cL_law 377 = .ok (.invokevirtual 41, 3) := by decide +kernel
theorem dL_law_380 : decode cL_law 380 = .ok (.ifCond .ne 30, 3) := by decide +kernel
theorem dL_law_383 : decode cL_law 383 = .ok (.aload_n 1, 1) := by decide +kernel
theorem dL_law_384 : decode cL_law 384 = .ok (.iconst 0, 1) := by decide +kernel
theorem dL_law_385 : decode cL_law 385 = .ok (.iconst 0, 1) := by decide +kernel
theorem dL_law_386 : decode cL_law 386 = .ok (.invokevirtual 70, 3) := by decide +kernel
theorem dL_law_389 : decode cL_law 389 = .ok (.ifCond .ne 21, 3) := by decide +kernel
theorem dL_law_392 : decode cL_law 392 = .ok (.aload_n 1, 1) := by decide +kernel
theorem dL_law_393 : decode cL_law 393 = .ok (.invokevirtual 35, 3) := by decide +kernel
theorem dL_law_396 : decode cL_law 396 = .ok (.ifCond .lt 14, 3) := by decide +kernel
theorem dL_law_399 : decode cL_law 399 = .ok (.aload_n 1, 1) := by decide +kernel
theorem dL_law_400 : decode cL_law 400 = .ok (.invokestatic 144, 3) := by decide +kernel
theorem dL_law_403 : decode cL_law 403 = .ok (.ifCond .eq 7, 3) := by decide +kernel
theorem dL_law_406 : decode cL_law 406 = .ok (.iconst 1, 1) := by decide +kernel
theorem dL_law_407 : decode cL_law 407 = .ok (.goto 4, 3) := by decide +kernel
theorem dL_law_410 : decode cL_law 410 = .ok (.iconst 0, 1) := by decide +kernel
theorem dL_law_411 : decode cL_law 411 = .ok (.ireturn, 1) := by decide +kernel
