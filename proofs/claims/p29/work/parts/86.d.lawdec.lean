theorem dL_buries_287 : decode cL_buries 287 = .ok (.iload 8, 2) := by decide +kernel
theorem dL_buries_289 : decode cL_buries 289 = .ok (.goto 8, 3) := by decide +kernel
theorem dL_buries_292 : decode cL_buries 292 = .ok (.aload 9, 2) := by decide +kernel
theorem dL_buries_294 : decode cL_buries 294 = .ok (.iload 14, 2) := by decide +kernel
theorem dL_buries_296 : decode cL_buries 296 = .ok (.iaload, 1) := by decide +kernel
theorem dL_buries_297 : decode cL_buries 297 = .ok (.if_icmp .ne 7, 3) := by decide +kernel
theorem dL_buries_300 : decode cL_buries 300 = .ok (.iconst 1, 1) := by decide +kernel
theorem dL_buries_301 : decode cL_buries 301 = .ok (.goto 4, 3) := by decide +kernel
theorem dL_buries_304 : decode cL_buries 304 = .ok (.iconst 0, 1) := by decide +kernel
theorem dL_buries_305 : decode cL_buries 305 = .ok (.istore 13, 2) := by decide +kernel
theorem dL_buries_307 : decode cL_buries 307 = .ok (.iinc 14 1, 3) := by decide +kernel
theorem dL_buries_310 : decode cL_buries 310 = .ok (.goto (-82), 3) := by decide +kernel
theorem dL_buries_313 : decode cL_buries 313 = .ok (.aload 4, 2) := by decide +kernel
theorem dL_buries_315 : decode cL_buries 315 = .ok (.iload 7, 2) := by decide +kernel
theorem dL_buries_317 : decode cL_buries 317 = .ok (.invokestatic 82, 3) := by decide +kernel
theorem dL_buries_320 : decode cL_buries 320 = .ok (.iload 13, 2) := by decide +kernel
theorem dL_buries_322 : decode cL_buries 322 = .ok (.ireturn, 1) := by decide +kernel
theorem dL_reads_0 : decode cL_reads 0 = .ok (.iload_n 1, 1) := by decide +kernel
theorem dL_reads_1 : decode cL_reads 1 = .ok (.iconst 3, 1) := by decide +kernel
theorem dL_reads_2 : decode cL_reads 2 = .ok (.irem, 1) := by decide +kernel
theorem dL_reads_3 : decode cL_reads 3 = .ok (.istore 4, 2) := by decide +kernel
theorem dL_reads_5 : decode cL_reads 5 = .ok (.iload 4, 2) := by decide +kernel
theorem dL_reads_7 : decode cL_reads 7 = .ok (.iconst 1, 1) := by decide +kernel
theorem dL_reads_8 : decode cL_reads 8 = .ok (.iadd, 1) := by decide +kernel
theorem dL_reads_9 : decode cL_reads 9 = .ok (.iload_n 2, 1) := by decide +kernel
theorem dL_reads_10 : decode cL_reads 10 = .ok (.iconst 2, 1) := by decide +kernel
theorem dL_reads_11 : decode cL_reads 11 = .ok (.irem, 1) := by decide +kernel
theorem dL_reads_12 : decode cL_reads 12 = .ok (.iadd, 1) := by decide +kernel
theorem dL_reads_13 : decode cL_reads 13 = .ok (.iconst 3, 1) := by decide +kernel
theorem dL_reads_14 : decode cL_reads 14 = .ok (.irem, 1) := by decide +kernel
theorem dL_reads_15 : decode cL_reads 15 = .ok (.istore 5, 2) := by decide +kernel
theorem dL_reads_17 : decode cL_reads 17 = .ok (.aload_n 3, 1) := by decide +kernel
theorem dL_reads_18 : decode cL_reads 18 = .ok (.iconst 5, 1) := by decide +kernel
theorem dL_reads_19 : decode cL_reads 19 = .ok (.iaload, 1) := by decide +kernel
theorem dL_reads_20 : decode cL_reads 20 = .ok (.iload 4, 2) := by decide +kernel
theorem dL_reads_22 : decode cL_reads 22 = .ok (.ishr, 1) := by decide +kernel
theorem dL_reads_23 : decode cL_reads 23 = .ok (.iconst 1, 1) := by decide +kernel
theorem dL_reads_24 : decode cL_reads 24 = .ok (.iand, 1) := by decide +kernel
theorem dL_reads_25 : decode cL_reads 25 = .ok (.aload_n 3, 1) := by decide +kernel
theorem dL_reads_26 : decode cL_reads 26 = .ok (.iconst 5, 1) := by decide +kernel
theorem dL_reads_27 : decode cL_reads 27 = .ok (.iaload, 1) := by decide +kernel
theorem dL_reads_28 : decode cL_reads 28 = .ok (.iload 5, 2) := by decide +kernel
theorem dL_reads_30 : decode cL_reads 30 = .ok (.ishr, 1) := by decide +kernel
theorem dL_reads_31 : decode cL_reads 31 = .ok (.iconst 1, 1) := by decide +kernel
theorem dL_reads_32 : decode cL_reads 32 = .ok (.iand, 1) := by decide +kernel
theorem dL_reads_33 : decode cL_reads 33 = .ok (.iadd, 1) := by decide +kernel
theorem dL_reads_34 : decode cL_reads 34 = .ok (.iconst 2, 1) := by decide +kernel
theorem dL_reads_35 : decode cL_reads 35 = .ok (.if_icmp .ge 5, 3) := by decide +kernel
theorem dL_reads_38 : decode cL_reads 38 = .ok (.iconst 1, 1) := by decide +kernel
theorem dL_reads_39 : decode cL_reads 39 = .ok (.ireturn, 1) := by decide +kernel
theorem dL_reads_40 : decode cL_reads 40 = .ok (.iload_n 1, 1) := by decide +kernel
theorem dL_reads_41 : decode cL_reads 41 = .ok (.iconst 3, 1) := by decide +kernel
theorem dL_reads_42 : decode cL_reads 42 = .ok (.idiv, 1) := by decide +kernel
theorem dL_reads_43 : decode cL_reads 43 = .ok (.iconst 3, 1) := by decide +kernel
theorem dL_reads_44 : decode cL_reads 44 = .ok (.irem, 1) := by decide +kernel
theorem dL_reads_45 : decode cL_reads 45 = .ok (.ifCond .ne 270, 3) := by decide +kernel
theorem dL_reads_48 : decode cL_reads 48 = .ok (.aload_n 0, 1) := by decide +kernel
theorem dL_reads_49 : decode cL_reads 49 = .ok (.iload 4, 2) := by decide +kernel
theorem dL_reads_51 : decode cL_reads 51 = .ok (.iload 5, 2) := by decide +kernel
theorem dL_reads_53 : decode cL_reads 53 = .ok (.invokevirtual 63, 3) := by decide +kernel
theorem dL_reads_56 : decode cL_reads 56 = .ok (.istore 6, 2) := by decide +kernel
theorem dL_reads_58 : decode cL_reads 58 = .ok (.aload_n 0, 1) := by decide +kernel
theorem dL_reads_59 : decode cL_reads 59 = .ok (.iload 4, 2) := by decide +kernel
theorem dL_reads_61 : decode cL_reads 61 = .ok (.iload 5, 2) := by decide +kernel
theorem dL_reads_63 : decode cL_reads 63 = .ok (.invokevirtual 56, 3) := by decide +kernel
theorem dL_reads_66 : decode cL_reads 66 = .ok (.istore 7, 2) := by decide +kernel
theorem dL_reads_68 : decode cL_reads 68 = .ok (.aload_n 0, 1) := by decide +kernel
theorem dL_reads_69 : decode cL_reads 69 = .ok (.iload 4, 2) := by decide +kernel
theorem dL_reads_71 : decode cL_reads 71 = .ok (.iload 5, 2) := by decide +kernel
theorem dL_reads_73 : decode cL_reads 73 = .ok (.invokevirtual 89, 3) := by decide +kernel
theorem dL_reads_76 : decode cL_reads 76 = .ok (.iload 6, 2) := by decide +kernel
theorem dL_reads_78 : decode cL_reads 78 = .ok (.bipush 7, 2) := by decide +kernel
theorem dL_reads_80 : decode cL_reads 80 = .ok (.iand, 1) := by decide +kernel
theorem dL_reads_81 : decode cL_reads 81 = .ok (.invokestatic 79, 3) := by decide +kernel
theorem dL_reads_84 : decode cL_reads 84 = .ok (.iload 6, 2) := by decide +kernel
theorem dL_reads_86 : decode cL_reads 86 = .ok (.iconst 3, 1) := by decide +kernel
theorem dL_reads_87 : decode cL_reads 87 = .ok (.ishr, 1) := by decide +kernel
theorem dL_reads_88 : decode cL_reads 88 = .ok (.bipush 7, 2) := by decide +kernel
theorem dL_reads_90 : decode cL_reads 90 = .ok (.iand, 1) := by decide +kernel
theorem dL_reads_91 : decode cL_reads 91 = .ok (.invokestatic 79, 3) := by decide +kernel
theorem dL_reads_94 : decode cL_reads 94 = .ok (.iadd, 1) := by decide +kernel
theorem dL_reads_95 : decode cL_reads 95 = .ok (.iload 6, 2) := by decide +kernel
theorem dL_reads_97 : decode cL_reads 97 = .ok (.bipush 6, 2) := by decide +kernel
theorem dL_reads_99 : decode cL_reads 99 = .ok (.ishr, 1) := by decide +kernel
theorem dL_reads_100 : decode cL_reads 100 = .ok (.bipush 7, 2) := by decide +kernel
theorem dL_reads_102 : decode cL_reads 102 = .ok (.iand, 1) := by decide +kernel
theorem dL_reads_103 : decode cL_reads 103 = .ok (.invokestatic 79, 3) := by decide +kernel
theorem dL_reads_106 : decode cL_reads 106 = .ok (.iadd, 1) := by decide +kernel
theorem dL_reads_107 : decode cL_reads 107 = .ok (.iload 6, 2) := by decide +kernel
theorem dL_reads_109 : decode cL_reads 109 = .ok (.bipush 9, 2) := by decide +kernel
theorem dL_reads_111 : decode cL_reads 111 = .ok (.ishr, 1) := by decide +kernel
theorem dL_reads_112 : decode cL_reads 112 = .ok (.bipush 7, 2) := by decide +kernel
theorem dL_reads_114 : decode cL_reads 114 = .ok (.iand, 1) := by decide +kernel
theorem dL_reads_115 : decode cL_reads 115 = .ok (.invokestatic 79, 3) := by decide +kernel
theorem dL_reads_118 : decode cL_reads 118 = .ok (.iadd, 1) := by decide +kernel
theorem dL_reads_119 : decode cL_reads 119 = .ok (.iload 6, 2) := by decide +kernel
theorem dL_reads_121 : decode cL_reads 121 = .ok (.bipush 12, 2) := by decide +kernel
theorem dL_reads_123 : decode cL_reads 123 = .ok (.ishr, 1) := by decide +kernel
theorem dL_reads_124 : decode cL_reads 124 = .ok (.bipush 7, 2) := by decide +kernel
theorem dL_reads_126 : decode cL_reads 126 = .ok (.iand, 1) := by decide +kernel
theorem dL_reads_127 : decode cL_reads 127 = .ok (.invokestatic 79, 3) := by decide +kernel
theorem dL_reads_130 : decode cL_reads 130 = .ok (.iadd, 1) := by decide +kernel
theorem dL_reads_131 : decode cL_reads 131 = .ok (.iload 6, 2) := by decide +kernel
theorem dL_reads_133 : decode cL_reads 133 = .ok (.bipush 15, 2) := by decide +kernel
theorem dL_reads_135 : decode cL_reads 135 = .ok (.ishr, 1) := by decide +kernel
theorem dL_reads_136 : decode cL_reads 136 = .ok (.iadd, 1) := by decide +kernel
theorem dL_reads_137 : decode cL_reads 137 = .ok (.if_icmp .ne 7, 3) := by decide +kernel
theorem dL_reads_140 : decode cL_reads 140 = .ok (.iconst 1, 1) := by decide +kernel
theorem dL_reads_141 : decode cL_reads 141 = .ok (.goto 4, 3) := by decide +kernel
theorem dL_reads_144 : decode cL_reads 144 = .ok (.iconst 0, 1) := by decide +kernel
theorem dL_reads_145 : decode cL_reads 145 = .ok (.istore 8, 2) := by decide +kernel
theorem dL_reads_147 : decode cL_reads 147 = .ok (.iconst 0, 1) := by decide +kernel
theorem dL_reads_148 : decode cL_reads 148 = .ok (.istore 9, 2) := by decide +kernel
theorem dL_reads_150 : decode cL_reads 150 = .ok (.iload 9, 2) := by decide +kernel
theorem dL_reads_152 : decode cL_reads 152 = .ok (.bipush 64, 2) := by decide +kernel
theorem dL_reads_154 : decode cL_reads 154 = .ok (.if_icmp .ge 126, 3) := by decide +kernel
theorem dL_reads_157 : decode cL_reads 157 = .ok (.iload 8, 2) := by decide +kernel
theorem dL_reads_159 : decode cL_reads 159 = .ok (.ifCond .eq 121, 3) := by decide +kernel
theorem dL_reads_162 : decode cL_reads 162 = .ok (.iload 6, 2) := by decide +kernel
theorem dL_reads_164 : decode cL_reads 164 = .ok (.iload 9, 2) := by decide +kernel
theorem dL_reads_166 : decode cL_reads 166 = .ok (.iconst 4, 1) := by decide +kernel
theorem dL_reads_167 : decode cL_reads 167 = .ok (.idiv, 1) := by decide +kernel
theorem dL_reads_168 : decode cL_reads 168 = .ok (.ishr, 1) := by decide +kernel
theorem dL_reads_169 : decode cL_reads 169 = .ok (.iconst 1, 1) := by decide +kernel
theorem dL_reads_170 : decode cL_reads 170 = .ok (.iand, 1) := by decide +kernel
theorem dL_reads_171 : decode cL_reads 171 = .ok (.ifCond .eq 96, 3) := by decide +kernel
theorem dL_reads_174 : decode cL_reads 174 = .ok (.aload_n 0, 1) := by decide +kernel
theorem dL_reads_175 : decode cL_reads 175 = .ok (.iload 4, 2) := by decide +kernel
theorem dL_reads_177 : decode cL_reads 177 = .ok (.iload 9, 2) := by decide +kernel
theorem dL_reads_179 : decode cL_reads 179 = .ok (.iconst 4, 1) := by decide +kernel
theorem dL_reads_180 : decode cL_reads 180 = .ok (.idiv, 1) := by decide +kernel
theorem dL_reads_181 : decode cL_reads 181 = .ok (.iload 9, 2) := by decide +kernel
theorem dL_reads_183 : decode cL_reads 183 = .ok (.iconst 4, 1) := by decide +kernel
theorem dL_reads_184 : decode cL_reads 184 = .ok (.irem, 1) := by decide +kernel
theorem dL_reads_185 : decode cL_reads 185 = .ok (.invokevirtual 36, 3) := by decide +kernel
theorem dL_reads_188 : decode cL_reads 188 = .ok (.aload_n 0, 1) := by decide +kernel
theorem dL_reads_189 : decode cL_reads 189 = .ok (.iload 5, 2) := by decide +kernel
theorem dL_reads_191 : decode cL_reads 191 = .ok (.iload 9, 2) := by decide +kernel
theorem dL_reads_193 : decode cL_reads 193 = .ok (.iconst 4, 1) := by decide +kernel
theorem dL_reads_194 : decode cL_reads 194 = .ok (.idiv, 1) := by decide +kernel
theorem dL_reads_195 : decode cL_reads 195 = .ok (.iload 9, 2) := by decide +kernel
theorem dL_reads_197 : decode cL_reads 197 = .ok (.iconst 4, 1) := by decide +kernel
theorem dL_reads_198 : decode cL_reads 198 = .ok (.irem, 1) := by decide +kernel
theorem dL_reads_199 : decode cL_reads 199 = .ok (.invokevirtual 36, 3) := by decide +kernel
theorem dL_reads_202 : decode cL_reads 202 = .ok (.if_icmp .ne 69, 3) := by decide +kernel
theorem dL_reads_205 : decode cL_reads 205 = .ok (.aload_n 0, 1) := by decide +kernel
theorem dL_reads_206 : decode cL_reads 206 = .ok (.iload 4, 2) := by decide +kernel
theorem dL_reads_208 : decode cL_reads 208 = .ok (.iload 9, 2) := by decide +kernel
theorem dL_reads_210 : decode cL_reads 210 = .ok (.iconst 4, 1) := by decide +kernel
theorem dL_reads_211 : decode cL_reads 211 = .ok (.idiv, 1) := by decide +kernel
theorem dL_reads_212 : decode cL_reads 212 = .ok (.iload 9, 2) := by decide +kernel
theorem dL_reads_214 : decode cL_reads 214 = .ok (.iconst 4, 1) := by decide +kernel
theorem dL_reads_215 : decode cL_reads 215 = .ok (.irem, 1) := by decide +kernel
theorem dL_reads_216 : decode cL_reads 216 = .ok (.invokevirtual 42, 3) := by decide +kernel
theorem dL_reads_219 : decode cL_reads 219 = .ok (.aload_n 0, 1) := by decide +kernel
theorem dL_reads_220 : decode cL_reads 220 = .ok (.iload 5, 2) := by decide +kernel
theorem dL_reads_222 : decode cL_reads 222 = .ok (.iload 9, 2) := by decide +kernel
theorem dL_reads_224 : decode cL_reads 224 = .ok (.iconst 4, 1) := by decide +kernel
theorem dL_reads_225 : decode cL_reads 225 = .ok (.idiv, 1) := by decide +kernel
theorem dL_reads_226 : decode cL_reads 226 = .ok (.iload 9, 2) := by decide +kernel
theorem dL_reads_228 : decode cL_reads 228 = .ok (.iconst 4, 1) := by decide +kernel
theorem dL_reads_229 : decode cL_reads 229 = .ok (.irem, 1) := by decide +kernel
theorem dL_reads_230 : decode cL_reads 230 = .ok (.invokevirtual 42, 3) := by decide +kernel
theorem dL_reads_233 : decode cL_reads 233 = .ok (.if_icmp .ne 38, 3) := by decide +kernel
theorem dL_reads_236 : decode cL_reads 236 = .ok (.aload_n 0, 1) := by decide +kernel
theorem dL_reads_237 : decode cL_reads 237 = .ok (.iload 4, 2) := by decide +kernel
theorem dL_reads_239 : decode cL_reads 239 = .ok (.iload 9, 2) := by decide +kernel
theorem dL_reads_241 : decode cL_reads 241 = .ok (.iconst 4, 1) := by decide +kernel
theorem dL_reads_242 : decode cL_reads 242 = .ok (.idiv, 1) := by decide +kernel
theorem dL_reads_243 : decode cL_reads 243 = .ok (.iload 9, 2) := by decide +kernel
theorem dL_reads_245 : decode cL_reads 245 = .ok (.iconst 4, 1) := by decide +kernel
theorem dL_reads_246 : decode cL_reads 246 = .ok (.irem, 1) := by decide +kernel
theorem dL_reads_247 : decode cL_reads 247 = .ok (.invokevirtual 39, 3) := by decide +kernel
theorem dL_reads_250 : decode cL_reads 250 = .ok (.aload_n 0, 1) := by decide +kernel
theorem dL_reads_251 : decode cL_reads 251 = .ok (.iload 5, 2) := by decide +kernel
theorem dL_reads_253 : decode cL_reads 253 = .ok (.iload 9, 2) := by decide +kernel
theorem dL_reads_255 : decode cL_reads 255 = .ok (.iconst 4, 1) := by decide +kernel
theorem dL_reads_256 : decode cL_reads 256 = .ok (.idiv, 1) := by decide +kernel
theorem dL_reads_257 : decode cL_reads 257 = .ok (.iload 9, 2) := by decide +kernel
theorem dL_reads_259 : decode cL_reads 259 = .ok (.iconst 4, 1) := by decide +kernel
theorem dL_reads_260 : decode cL_reads 260 = .ok (.irem, 1) := by decide +kernel
theorem dL_reads_261 : decode cL_reads 261 = .ok (.invokevirtual 39, 3) := by decide +kernel
theorem dL_reads_264 : decode cL_reads 264 = .ok (.if_icmp .ne 7, 3) := by decide +kernel
theorem dL_reads_267 : decode cL_reads 267 = .ok (.iconst 1, 1) := by decide +kernel
theorem dL_reads_268 : decode cL_reads 268 = .ok (.goto 4, 3) := by decide +kernel
theorem dL_reads_271 : decode cL_reads 271 = .ok (.iconst 0, 1) := by decide +kernel
theorem dL_reads_272 : decode cL_reads 272 = .ok (.istore 8, 2) := by decide +kernel
theorem dL_reads_274 : decode cL_reads 274 = .ok (.iinc 9 1, 3) := by decide +kernel
theorem dL_reads_277 : decode cL_reads 277 = .ok (.goto (-127), 3) := by decide +kernel
theorem dL_reads_280 : decode cL_reads 280 = .ok (.iload 8, 2) := by decide +kernel
theorem dL_reads_282 : decode cL_reads 282 = .ok (.ifCond .eq 31, 3) := by decide +kernel
theorem dL_reads_285 : decode cL_reads 285 = .ok (.iload 7, 2) := by decide +kernel
theorem dL_reads_287 : decode cL_reads 287 = .ok (.ifCond .eq 8, 3) := by decide +kernel
theorem dL_reads_290 : decode cL_reads 290 = .ok (.iload 6, 2) := by decide +kernel
theorem dL_reads_292 : decode cL_reads 292 = .ok (.ifCond .ne 21, 3) := by decide +kernel
theorem dL_reads_295 : decode cL_reads 295 = .ok (.aload_n 0, 1) := by decide +kernel
theorem dL_reads_296 : decode cL_reads 296 = .ok (.iload 4, 2) := by decide +kernel
theorem dL_reads_298 : decode cL_reads 298 = .ok (.iload 5, 2) := by decide +kernel
theorem dL_reads_300 : decode cL_reads 300 = .ok (.invokevirtual 63, 3) := by decide +kernel
theorem dL_reads_303 : decode cL_reads 303 = .ok (.iload 6, 2) := by decide +kernel
theorem dL_reads_305 : decode cL_reads 305 = .ok (.iand, 1) := by decide +kernel
theorem dL_reads_306 : decode cL_reads 306 = .ok (.ifCond .ne 7, 3) := by decide +kernel
theorem dL_reads_309 : decode cL_reads 309 = .ok (.iconst 1, 1) := by decide +kernel
theorem dL_reads_310 : decode cL_reads 310 = .ok (.goto 4, 3) := by decide +kernel
theorem dL_reads_313 : decode cL_reads 313 = .ok (.iconst 0, 1) := by decide +kernel
theorem dL_reads_314 : decode cL_reads 314 = .ok (.ireturn, 1) := by decide +kernel
theorem dL_reads_315 : decode cL_reads 315 = .ok (.iload_n 2, 1) := by decide +kernel
theorem dL_reads_316 : decode cL_reads 316 = .ok (.iconst 2, 1) := by decide +kernel
theorem dL_reads_317 : decode cL_reads 317 = .ok (.idiv, 1) := by decide +kernel
theorem dL_reads_318 : decode cL_reads 318 = .ok (.bipush 16, 2) := by decide +kernel
theorem dL_reads_320 : decode cL_reads 320 = .ok (.irem, 1) := by decide +kernel
theorem dL_reads_321 : decode cL_reads 321 = .ok (.istore 6, 2) := by decide +kernel
theorem dL_reads_323 : decode cL_reads 323 = .ok (.iload_n 2, 1) := by decide +kernel
theorem dL_reads_324 : decode cL_reads 324 = .ok (.bipush 32, 2) := by decide +kernel
theorem dL_reads_326 : decode cL_reads 326 = .ok (.idiv, 1) := by decide +kernel
theorem dL_reads_327 : decode cL_reads 327 = .ok (.iconst 4, 1) := by decide +kernel
theorem dL_reads_328 : decode cL_reads 328 = .ok (.irem, 1) := by decide +kernel
theorem dL_reads_329 : decode cL_reads 329 = .ok (.istore 7, 2) := by decide +kernel
theorem dL_reads_331 : decode cL_reads 331 = .ok (.aload_n 0, 1) := by decide +kernel
theorem dL_reads_332 : decode cL_reads 332 = .ok (.iload 4, 2) := by decide +kernel
theorem dL_reads_334 : decode cL_reads 334 = .ok (.iload 6, 2) := by decide +kernel
theorem dL_reads_336 : decode cL_reads 336 = .ok (.iload 7, 2) := by decide +kernel
theorem dL_reads_338 : decode cL_reads 338 = .ok (.invokevirtual 36, 3) := by decide +kernel
theorem dL_reads_341 : decode cL_reads 341 = .ok (.aload_n 0, 1) := by decide +kernel
theorem dL_reads_342 : decode cL_reads 342 = .ok (.iload 5, 2) := by decide +kernel
theorem dL_reads_344 : decode cL_reads 344 = .ok (.iload 6, 2) := by decide +kernel
theorem dL_reads_346 : decode cL_reads 346 = .ok (.iload 7, 2) := by decide +kernel
theorem dL_reads_348 : decode cL_reads 348 = .ok (.invokevirtual 36, 3) := by decide +kernel
theorem dL_reads_351 : decode cL_reads 351 = .ok (.if_icmp .le 16, 3) := by decide +kernel
theorem dL_reads_354 : decode cL_reads 354 = .ok (.aload_n 0, 1) := by decide +kernel
theorem dL_reads_355 : decode cL_reads 355 = .ok (.iload 4, 2) := by decide +kernel
theorem dL_reads_357 : decode cL_reads 357 = .ok (.iload 6, 2) := by decide +kernel
theorem dL_reads_359 : decode cL_reads 359 = .ok (.iload 7, 2) := by decide +kernel
theorem dL_reads_361 : decode cL_reads 361 = .ok (.invokevirtual 36, 3) := by decide +kernel
theorem dL_reads_364 : decode cL_reads 364 = .ok (.goto 13, 3) := by decide +kernel
theorem dL_reads_367 : decode cL_reads 367 = .ok (.aload_n 0, 1) := by decide +kernel
theorem dL_reads_368 : decode cL_reads 368 = .ok (.iload 5, 2) := by decide +kernel
theorem dL_reads_370 : decode cL_reads 370 = .ok (.iload 6, 2) := by decide +kernel
theorem dL_reads_372 : decode cL_reads 372 = .ok (.iload 7, 2) := by decide +kernel
theorem dL_reads_374 : decode cL_reads 374 = .ok (.invokevirtual 36, 3) := by decide +kernel
theorem dL_reads_377 : decode cL_reads 377 = .ok (.istore 8, 2) := by decide +kernel
theorem dL_reads_379 : decode cL_reads 379 = .ok (.aload_n 0, 1) := by decide +kernel
theorem dL_reads_380 : decode cL_reads 380 = .ok (.iload 4, 2) := by decide +kernel
theorem dL_reads_382 : decode cL_reads 382 = .ok (.iload 6, 2) := by decide +kernel
theorem dL_reads_384 : decode cL_reads 384 = .ok (.iload 7, 2) := by decide +kernel
theorem dL_reads_386 : decode cL_reads 386 = .ok (.invokevirtual 42, 3) := by decide +kernel
theorem dL_reads_389 : decode cL_reads 389 = .ok (.aload_n 0, 1) := by decide +kernel
theorem dL_reads_390 : decode cL_reads 390 = .ok (.iload 5, 2) := by decide +kernel
theorem dL_reads_392 : decode cL_reads 392 = .ok (.iload 6, 2) := by decide +kernel
theorem dL_reads_394 : decode cL_reads 394 = .ok (.iload 7, 2) := by decide +kernel
theorem dL_reads_396 : decode cL_reads 396 = .ok (.invokevirtual 42, 3) := by decide +kernel
theorem dL_reads_399 : decode cL_reads 399 = .ok (.if_icmp .le 16, 3) := by decide +kernel
theorem dL_reads_402 : decode cL_reads 402 = .ok (.aload_n 0, 1) := by decide +kernel
theorem dL_reads_403 : decode cL_reads 403 = .ok (.iload 4, 2) := by decide +kernel
theorem dL_reads_405 : decode cL_reads 405 = .ok (.iload 6, 2) := by decide +kernel
theorem dL_reads_407 : decode cL_reads 407 = .ok (.iload 7, 2) := by decide +kernel
theorem dL_reads_409 : decode cL_reads 409 = .ok (.invokevirtual 42, 3) := by decide +kernel
theorem dL_reads_412 : decode cL_reads 412 = .ok (.goto 13, 3) := by decide +kernel
theorem dL_reads_415 : decode cL_reads 415 = .ok (.aload_n 0, 1) := by decide +kernel
theorem dL_reads_416 : decode cL_reads 416 = .ok (.iload 5, 2) := by decide +kernel
theorem dL_reads_418 : decode cL_reads 418 = .ok (.iload 6, 2) := by decide +kernel
theorem dL_reads_420 : decode cL_reads 420 = .ok (.iload 7, 2) := by decide +kernel
theorem dL_reads_422 : decode cL_reads 422 = .ok (.invokevirtual 42, 3) := by decide +kernel
theorem dL_reads_425 : decode cL_reads 425 = .ok (.istore 9, 2) := by decide +kernel
theorem dL_reads_427 : decode cL_reads 427 = .ok (.aload_n 0, 1) := by decide +kernel
theorem dL_reads_428 : decode cL_reads 428 = .ok (.invokevirtual 92, 3) := by decide +kernel
theorem dL_reads_431 : decode cL_reads 431 = .ok (.istore 10, 2) := by decide +kernel
theorem dL_reads_433 : decode cL_reads 433 = .ok (.aload_n 0, 1) := by decide +kernel
theorem dL_reads_434 : decode cL_reads 434 = .ok (.iload 4, 2) := by decide +kernel
theorem dL_reads_436 : decode cL_reads 436 = .ok (.iload 5, 2) := by decide +kernel
theorem dL_reads_438 : decode cL_reads 438 = .ok (.invokevirtual 56, 3) := by decide +kernel
theorem dL_reads_441 : decode cL_reads 441 = .ok (.istore 11, 2) := by decide +kernel
theorem dL_reads_443 : decode cL_reads 443 = .ok (.aload_n 0, 1) := by decide +kernel
theorem dL_reads_444 : decode cL_reads 444 = .ok (.iload 4, 2) := by decide +kernel
theorem dL_reads_446 : decode cL_reads 446 = .ok (.iload 5, 2) := by decide +kernel
theorem dL_reads_448 : decode cL_reads 448 = .ok (.iload 6, 2) := by decide +kernel
theorem dL_reads_450 : decode cL_reads 450 = .ok (.iload 7, 2) := by decide +kernel
theorem dL_reads_452 : decode cL_reads 452 = .ok (.invokevirtual 96, 3) := by decide +kernel
theorem dL_reads_455 : decode cL_reads 455 = .ok (.istore 12, 2) := by decide +kernel
theorem dL_reads_457 : decode cL_reads 457 = .ok (.aload_n 0, 1) := by decide +kernel
theorem dL_reads_458 : decode cL_reads 458 = .ok (.invokevirtual 92, 3) := by decide +kernel
theorem dL_reads_461 : decode cL_reads 461 = .ok (.iload 10, 2) := by decide +kernel
theorem dL_reads_463 : decode cL_reads 463 = .ok (.isub, 1) := by decide +kernel
theorem dL_reads_464 : decode cL_reads 464 = .ok (.istore 13, 2) := by decide +kernel
theorem dL_reads_466 : decode cL_reads 466 = .ok (.iload 13, 2) := by decide +kernel
theorem dL_reads_468 : decode cL_reads 468 = .ok (.ifCond .eq 14, 3) := by decide +kernel
theorem dL_reads_471 : decode cL_reads 471 = .ok (.iload 13, 2) := by decide +kernel
theorem dL_reads_473 : decode cL_reads 473 = .ok (.iconst 1, 1) := by decide +kernel
theorem dL_reads_474 : decode cL_reads 474 = .ok (.if_icmp .ne 84, 3) := by decide +kernel
theorem dL_reads_477 : decode cL_reads 477 = .ok (.iload 11, 2) := by decide +kernel
theorem dL_reads_479 : decode cL_reads 479 = .ok (.ifCond .ne 79, 3) := by decide +kernel
theorem dL_reads_482 : decode cL_reads 482 = .ok (.aload_n 0, 1) := by decide +kernel
theorem dL_reads_483 : decode cL_reads 483 = .ok (.iload 4, 2) := by decide +kernel
theorem dL_reads_485 : decode cL_reads 485 = .ok (.iload 6, 2) := by decide +kernel
theorem dL_reads_487 : decode cL_reads 487 = .ok (.iload 7, 2) := by decide +kernel
theorem dL_reads_489 : decode cL_reads 489 = .ok (.invokevirtual 39, 3) := by decide +kernel
theorem dL_reads_492 : decode cL_reads 492 = .ok (.iload 12, 2) := by decide +kernel
theorem dL_reads_494 : decode cL_reads 494 = .ok (.if_icmp .ne 64, 3) := by decide +kernel
theorem dL_reads_497 : decode cL_reads 497 = .ok (.aload_n 0, 1) := by decide +kernel
theorem dL_reads_498 : decode cL_reads 498 = .ok (.iload 5, 2) := by decide +kernel
theorem dL_reads_500 : decode cL_reads 500 = .ok (.iload 6, 2) := by decide +kernel
theorem dL_reads_502 : decode cL_reads 502 = .ok (.iload 7, 2) := by decide +kernel
theorem dL_reads_504 : decode cL_reads 504 = .ok (.invokevirtual 39, 3) := by decide +kernel
theorem dL_reads_507 : decode cL_reads 507 = .ok (.iload 12, 2) := by decide +kernel
theorem dL_reads_509 : decode cL_reads 509 = .ok (.if_icmp .ne 49, 3) := by decide +kernel
theorem dL_reads_512 : decode cL_reads 512 = .ok (.aload_n 0, 1) := by decide +kernel
theorem dL_reads_513 : decode cL_reads 513 = .ok (.iload 4, 2) := by decide +kernel
theorem dL_reads_515 : decode cL_reads 515 = .ok (.iload 6, 2) := by decide +kernel
theorem dL_reads_517 : decode cL_reads 517 = .ok (.iload 7, 2) := by decide +kernel
theorem dL_reads_519 : decode cL_reads 519 = .ok (.invokevirtual 36, 3) := by decide +kernel
theorem dL_reads_522 : decode cL_reads 522 = .ok (.iload 8, 2) := by decide +kernel
theorem dL_reads_524 : decode cL_reads 524 = .ok (.if_icmp .ne 34, 3) := by decide +kernel
theorem dL_reads_527 : decode cL_reads 527 = .ok (.aload_n 0, 1) := by decide +kernel
theorem dL_reads_528 : decode cL_reads 528 = .ok (.iload 4, 2) := by decide +kernel
theorem dL_reads_530 : decode cL_reads 530 = .ok (.iload 6, 2) := by decide +kernel
theorem dL_reads_532 : decode cL_reads 532 = .ok (.iload 7, 2) := by decide +kernel
theorem dL_reads_534 : decode cL_reads 534 = .ok (.invokevirtual 42, 3) := by decide +kernel
theorem dL_reads_537 : decode cL_reads 537 = .ok (.iload 9, 2) := by decide +kernel
theorem dL_reads_539 : decode cL_reads 539 = .ok (.if_icmp .ne 19, 3) := by decide +kernel
theorem dL_reads_542 : decode cL_reads 542 = .ok (.iload 12, 2) := by decide +kernel
theorem dL_reads_544 : decode cL_reads 544 = .ok (.ifCond .lt 10, 3) := by decide +kernel
theorem dL_reads_547 : decode cL_reads 547 = .ok (.iload 8, 2) := by decide +kernel
theorem dL_reads_549 : decode cL_reads 549 = .ok (.iload 9, 2) := by decide +kernel
theorem dL_reads_551 : decode cL_reads 551 = .ok (.if_icmp .le 7, 3) := by decide +kernel
theorem dL_reads_554 : decode cL_reads 554 = .ok (.iconst 1, 1) := by decide +kernel
theorem dL_reads_555 : decode cL_reads 555 = .ok (.goto 4, 3) := by decide +kernel
theorem dL_reads_558 : decode cL_reads 558 = .ok (.iconst 0, 1) := by decide +kernel
theorem dL_reads_559 : decode cL_reads 559 = .ok (.istore 14, 2) := by decide +kernel
theorem dL_reads_561 : decode cL_reads 561 = .ok (.iload 14, 2) := by decide +kernel
theorem dL_reads_563 : decode cL_reads 563 = .ok (.ifCond .eq 36, 3) := by decide +kernel
theorem dL_reads_566 : decode cL_reads 566 = .ok (.aload_n 0, 1) := by decide +kernel
theorem dL_reads_567 : decode cL_reads 567 = .ok (.iload 5, 2) := by decide +kernel
theorem dL_reads_569 : decode cL_reads 569 = .ok (.iload 4, 2) := by decide +kernel
theorem dL_reads_571 : decode cL_reads 571 = .ok (.iload 6, 2) := by decide +kernel
theorem dL_reads_573 : decode cL_reads 573 = .ok (.iload 7, 2) := by decide +kernel
theorem dL_reads_575 : decode cL_reads 575 = .ok (.invokevirtual 96, 3) := by decide +kernel
theorem dL_reads_578 : decode cL_reads 578 = .ok (.iload 12, 2) := by decide +kernel
theorem dL_reads_580 : decode cL_reads 580 = .ok (.if_icmp .ne 19, 3) := by decide +kernel
theorem dL_reads_583 : decode cL_reads 583 = .ok (.aload_n 0, 1) := by decide +kernel
theorem dL_reads_584 : decode cL_reads 584 = .ok (.invokevirtual 92, 3) := by decide +kernel
theorem dL_reads_587 : decode cL_reads 587 = .ok (.iload 10, 2) := by decide +kernel
theorem dL_reads_589 : decode cL_reads 589 = .ok (.iload 13, 2) := by decide +kernel
theorem dL_reads_591 : decode cL_reads 591 = .ok (.iadd, 1) := by decide +kernel
theorem dL_reads_592 : decode cL_reads 592 = .ok (.if_icmp .ne 7, 3) := by decide +kernel
theorem dL_reads_595 : decode cL_reads 595 = .ok (.iconst 1, 1) := by decide +kernel
theorem dL_reads_596 : decode cL_reads 596 = .ok (.goto 4, 3) := by decide +kernel
theorem dL_reads_599 : decode cL_reads 599 = .ok (.iconst 0, 1) := by decide +kernel
theorem dL_reads_600 : decode cL_reads 600 = .ok (.ireturn, 1) := by decide +kernel
theorem dL_cleans_0 : decode cL_cleans 0 = .ok (.aload_n 2, 1) := by decide +kernel
theorem dL_cleans_1 : decode cL_cleans 1 = .ok (.iconst 5, 1) := by decide +kernel
theorem dL_cleans_2 : decode cL_cleans 2 = .ok (.iaload, 1) := by decide +kernel
theorem dL_cleans_3 : decode cL_cleans 3 = .ok (.iload_n 1, 1) := by decide +kernel
theorem dL_cleans_4 : decode cL_cleans 4 = .ok (.ishr, 1) := by decide +kernel
theorem dL_cleans_5 : decode cL_cleans 5 = .ok (.iconst 1, 1) := by decide +kernel
theorem dL_cleans_6 : decode cL_cleans 6 = .ok (.iand, 1) := by decide +kernel
theorem dL_cleans_7 : decode cL_cleans 7 = .ok (.ifCond .ne 5, 3) := by decide +kernel
theorem dL_cleans_10 : decode cL_cleans 10 = .ok (.iconst 1, 1) := by decide +kernel
theorem dL_cleans_11 : decode cL_cleans 11 = .ok (.ireturn, 1) := by decide +kernel
theorem dL_cleans_12 : decode cL_cleans 12 = .ok (.aload_n 0, 1) := by decide +kernel
theorem dL_cleans_13 : decode cL_cleans 13 = .ok (.iload_n 1, 1) := by decide +kernel
theorem dL_cleans_14 : decode cL_cleans 14 = .ok (.invokevirtual 53, 3) := by decide +kernel
theorem dL_cleans_17 : decode cL_cleans 17 = .ok (.istore_n 3, 1) := by decide +kernel
theorem dL_cleans_18 : decode cL_cleans 18 = .ok (.bipush 64, 2) := by decide +kernel
theorem dL_cleans_20 : decode cL_cleans 20 = .ok (.newarray .int, 2) := by decide +kernel
theorem dL_cleans_22 : decode cL_cleans 22 = .ok (.astore 4, 2) := by decide +kernel
theorem dL_cleans_24 : decode cL_cleans 24 = .ok (.bipush 64, 2) := by decide +kernel
theorem dL_cleans_26 : decode cL_cleans 26 = .ok (.newarray .int, 2) := by decide +kernel
theorem dL_cleans_28 : decode cL_cleans 28 = .ok (.astore 5, 2) := by decide +kernel
theorem dL_cleans_30 : decode cL_cleans 30 = .ok (.bipush 64, 2) := by decide +kernel
theorem dL_cleans_32 : decode cL_cleans 32 = .ok (.newarray .int, 2) := by decide +kernel
theorem dL_cleans_34 : decode cL_cleans 34 = .ok (.astore 6, 2) := by decide +kernel
theorem dL_cleans_36 : decode cL_cleans 36 = .ok (.iconst 0, 1) := by decide +kernel
theorem dL_cleans_37 : decode cL_cleans 37 = .ok (.istore 7, 2) := by decide +kernel
theorem dL_cleans_39 : decode cL_cleans 39 = .ok (.iload 7, 2) := by decide +kernel
theorem dL_cleans_41 : decode cL_cleans 41 = .ok (.bipush 64, 2) := by decide +kernel
theorem dL_cleans_43 : decode cL_cleans 43 = .ok (.if_icmp .ge 63, 3) := by decide +kernel
theorem dL_cleans_46 : decode cL_cleans 46 = .ok (.aload 4, 2) := by decide +kernel
theorem dL_cleans_48 : decode cL_cleans 48 = .ok (.iload 7, 2) := by decide +kernel
theorem dL_cleans_50 : decode cL_cleans 50 = .ok (.aload_n 0, 1) := by decide +kernel
theorem dL_cleans_51 : decode cL_cleans 51 = .ok (.iload_n 1, 1) := by decide +kernel
theorem dL_cleans_52 : decode cL_cleans 52 = .ok (.iload 7, 2) := by decide +kernel
theorem dL_cleans_54 : decode cL_cleans 54 = .ok (.iconst 4, 1) := by decide +kernel
theorem dL_cleans_55 : decode cL_cleans 55 = .ok (.idiv, 1) := by decide +kernel
theorem dL_cleans_56 : decode cL_cleans 56 = .ok (.iload 7, 2) := by decide +kernel
theorem dL_cleans_58 : decode cL_cleans 58 = .ok (.iconst 4, 1) := by decide +kernel
theorem dL_cleans_59 : decode cL_cleans 59 = .ok (.irem, 1) := by decide +kernel
theorem dL_cleans_60 : decode cL_cleans 60 = .ok (.invokevirtual 36, 3) := by decide +kernel
theorem dL_cleans_63 : decode cL_cleans 63 = .ok (.iastore, 1) := by decide +kernel
theorem dL_cleans_64 : decode cL_cleans 64 = .ok (.aload 5, 2) := by decide +kernel
theorem dL_cleans_66 : decode cL_cleans 66 = .ok (.iload 7, 2) := by decide +kernel
theorem dL_cleans_68 : decode cL_cleans 68 = .ok (.aload_n 0, 1) := by decide +kernel
theorem dL_cleans_69 : decode cL_cleans 69 = .ok (.iload_n 1, 1) := by decide +kernel
theorem dL_cleans_70 : decode cL_cleans 70 = .ok (.iload 7, 2) := by decide +kernel
theorem dL_cleans_72 : decode cL_cleans 72 = .ok (.iconst 4, 1) := by decide +kernel
theorem dL_cleans_73 : decode cL_cleans 73 = .ok (.idiv, 1) := by decide +kernel
theorem dL_cleans_74 : decode cL_cleans 74 = .ok (.iload 7, 2) := by decide +kernel
theorem dL_cleans_76 : decode cL_cleans 76 = .ok (.iconst 4, 1) := by decide +kernel
theorem dL_cleans_77 : decode cL_cleans 77 = .ok (.irem, 1) := by decide +kernel
theorem dL_cleans_78 : decode cL_cleans 78 = .ok (.invokevirtual 39, 3) := by decide +kernel
theorem dL_cleans_81 : decode cL_cleans 81 = .ok (.iastore, 1) := by decide +kernel
theorem dL_cleans_82 : decode cL_cleans 82 = .ok (.aload 6, 2) := by decide +kernel
theorem dL_cleans_84 : decode cL_cleans 84 = .ok (.iload 7, 2) := by decide +kernel
theorem dL_cleans_86 : decode cL_cleans 86 = .ok (.aload_n 0, 1) := by decide +kernel
theorem dL_cleans_87 : decode cL_cleans 87 = .ok (.iload_n 1, 1) := by decide +kernel
theorem dL_cleans_88 : decode cL_cleans 88 = .ok (.iload 7, 2) := by decide +kernel
theorem dL_cleans_90 : decode cL_cleans 90 = .ok (.iconst 4, 1) := by decide +kernel
theorem dL_cleans_91 : decode cL_cleans 91 = .ok (.idiv, 1) := by decide +kernel
theorem dL_cleans_92 : decode cL_cleans 92 = .ok (.iload 7, 2) := by decide +kernel
theorem dL_cleans_94 : decode cL_cleans 94 = .ok (.iconst 4, 1) := by decide +kernel
theorem dL_cleans_95 : decode cL_cleans 95 = .ok (.irem, 1) := by decide +kernel
theorem dL_cleans_96 : decode cL_cleans 96 = .ok (.invokevirtual 42, 3) := by decide +kernel
theorem dL_cleans_99 : decode cL_cleans 99 = .ok (.iastore, 1) := by decide +kernel
theorem dL_cleans_100 : decode cL_cleans 100 = .ok (.iinc 7 1, 3) := by decide +kernel
theorem dL_cleans_103 : decode cL_cleans 103 = .ok (.goto (-64), 3) := by decide +kernel
theorem dL_cleans_106 : decode cL_cleans 106 = .ok (.iconst 0, 1) := by decide +kernel
theorem dL_cleans_107 : decode cL_cleans 107 = .ok (.istore 7, 2) := by decide +kernel
theorem dL_cleans_109 : decode cL_cleans 109 = .ok (.iload 7, 2) := by decide +kernel
theorem dL_cleans_111 : decode cL_cleans 111 = .ok (.iconst 4, 1) := by decide +kernel
theorem dL_cleans_112 : decode cL_cleans 112 = .ok (.if_icmp .ge 19, 3) := by decide +kernel
theorem dL_cleans_115 : decode cL_cleans 115 = .ok (.iload_n 3, 1) := by decide +kernel
