theorem dL_cleans_116 : decode cL_cleans 116 = .ok (.aload_n 0, 1) := by decide +kernel
theorem dL_cleans_117 : decode cL_cleans 117 = .ok (.iload_n 1, 1) := by decide +kernel
theorem dL_cleans_118 : decode cL_cleans 118 = .ok (.iload 7, 2) := by decide +kernel
theorem dL_cleans_120 : decode cL_cleans 120 = .ok (.invokevirtual 49, 3) := by decide +kernel
theorem dL_cleans_123 : decode cL_cleans 123 = .ok (.iadd, 1) := by decide +kernel
theorem dL_cleans_124 : decode cL_cleans 124 = .ok (.istore_n 3, 1) := by decide +kernel
theorem dL_cleans_125 : decode cL_cleans 125 = .ok (.iinc 7 1, 3) := by decide +kernel
theorem dL_cleans_128 : decode cL_cleans 128 = .ok (.goto (-19), 3) := by decide +kernel
theorem dL_cleans_131 : decode cL_cleans 131 = .ok (.aload_n 0, 1) := by decide +kernel
theorem dL_cleans_132 : decode cL_cleans 132 = .ok (.iload_n 1, 1) := by decide +kernel
theorem dL_cleans_133 : decode cL_cleans 133 = .ok (.invokevirtual 99, 3) := by decide +kernel
theorem dL_cleans_136 : decode cL_cleans 136 = .ok (.istore 7, 2) := by decide +kernel
theorem dL_cleans_138 : decode cL_cleans 138 = .ok (.aload_n 0, 1) := by decide +kernel
theorem dL_cleans_139 : decode cL_cleans 139 = .ok (.iload_n 1, 1) := by decide +kernel
theorem dL_cleans_140 : decode cL_cleans 140 = .ok (.invokevirtual 53, 3) := by decide +kernel
theorem dL_cleans_143 : decode cL_cleans 143 = .ok (.istore 8, 2) := by decide +kernel
theorem dL_cleans_145 : decode cL_cleans 145 = .ok (.iconst 0, 1) := by decide +kernel
theorem dL_cleans_146 : decode cL_cleans 146 = .ok (.istore 9, 2) := by decide +kernel
theorem dL_cleans_148 : decode cL_cleans 148 = .ok (.iload 9, 2) := by decide +kernel
theorem dL_cleans_150 : decode cL_cleans 150 = .ok (.iconst 4, 1) := by decide +kernel
theorem dL_cleans_151 : decode cL_cleans 151 = .ok (.if_icmp .ge 21, 3) := by decide +kernel
theorem dL_cleans_154 : decode cL_cleans 154 = .ok (.iload 8, 2) := by decide +kernel
theorem dL_cleans_156 : decode cL_cleans 156 = .ok (.aload_n 0, 1) := by decide +kernel
theorem dL_cleans_157 : decode cL_cleans 157 = .ok (.iload_n 1, 1) := by decide +kernel
theorem dL_cleans_158 : decode cL_cleans 158 = .ok (.iload 9, 2) := by decide +kernel
theorem dL_cleans_160 : decode cL_cleans 160 = .ok (.invokevirtual 49, 3) := by decide +kernel
theorem dL_cleans_163 : decode cL_cleans 163 = .ok (.iadd, 1) := by decide +kernel
theorem dL_cleans_164 : decode cL_cleans 164 = .ok (.istore 8, 2) := by decide +kernel
theorem dL_cleans_166 : decode cL_cleans 166 = .ok (.iinc 9 1, 3) := by decide +kernel
theorem dL_cleans_169 : decode cL_cleans 169 = .ok (.goto (-21), 3) := by decide +kernel
theorem dL_cleans_172 : decode cL_cleans 172 = .ok (.iload 7, 2) := by decide +kernel
theorem dL_cleans_174 : decode cL_cleans 174 = .ok (.iload_n 3, 1) := by decide +kernel
theorem dL_cleans_175 : decode cL_cleans 175 = .ok (.iload 8, 2) := by decide +kernel
theorem dL_cleans_177 : decode cL_cleans 177 = .ok (.isub, 1) := by decide +kernel
theorem dL_cleans_178 : decode cL_cleans 178 = .ok (.if_icmp .ne 12, 3) := by decide +kernel
theorem dL_cleans_181 : decode cL_cleans 181 = .ok (.iload 7, 2) := by decide +kernel
theorem dL_cleans_183 : decode cL_cleans 183 = .ok (.ifCond .lt 7, 3) := by decide +kernel
theorem dL_cleans_186 : decode cL_cleans 186 = .ok (.iconst 1, 1) := by decide +kernel
theorem dL_cleans_187 : decode cL_cleans 187 = .ok (.goto 4, 3) := by decide +kernel
theorem dL_cleans_190 : decode cL_cleans 190 = .ok (.iconst 0, 1) := by decide +kernel
theorem dL_cleans_191 : decode cL_cleans 191 = .ok (.istore 9, 2) := by decide +kernel
theorem dL_cleans_193 : decode cL_cleans 193 = .ok (.iconst 0, 1) := by decide +kernel
theorem dL_cleans_194 : decode cL_cleans 194 = .ok (.istore 10, 2) := by decide +kernel
theorem dL_cleans_196 : decode cL_cleans 196 = .ok (.iload 10, 2) := by decide +kernel
theorem dL_cleans_198 : decode cL_cleans 198 = .ok (.bipush 64, 2) := by decide +kernel
theorem dL_cleans_200 : decode cL_cleans 200 = .ok (.if_icmp .ge 122, 3) := by decide +kernel
theorem dL_cleans_203 : decode cL_cleans 203 = .ok (.iload 9, 2) := by decide +kernel
theorem dL_cleans_205 : decode cL_cleans 205 = .ok (.ifCond .eq 117, 3) := by decide +kernel
theorem dL_cleans_208 : decode cL_cleans 208 = .ok (.aload_n 0, 1) := by decide +kernel
theorem dL_cleans_209 : decode cL_cleans 209 = .ok (.iload_n 1, 1) := by decide +kernel
theorem dL_cleans_210 : decode cL_cleans 210 = .ok (.iload 10, 2) := by decide +kernel
theorem dL_cleans_212 : decode cL_cleans 212 = .ok (.iconst 4, 1) := by decide +kernel
theorem dL_cleans_213 : decode cL_cleans 213 = .ok (.idiv, 1) := by decide +kernel
theorem dL_cleans_214 : decode cL_cleans 214 = .ok (.iload 10, 2) := by decide +kernel
theorem dL_cleans_216 : decode cL_cleans 216 = .ok (.iconst 4, 1) := by decide +kernel
theorem dL_cleans_217 : decode cL_cleans 217 = .ok (.irem, 1) := by decide +kernel
theorem dL_cleans_218 : decode cL_cleans 218 = .ok (.invokevirtual 36, 3) := by decide +kernel
theorem dL_cleans_221 : decode cL_cleans 221 = .ok (.istore 11, 2) := by decide +kernel
theorem dL_cleans_223 : decode cL_cleans 223 = .ok (.aload_n 0, 1) := by decide +kernel
theorem dL_cleans_224 : decode cL_cleans 224 = .ok (.iload_n 1, 1) := by decide +kernel
theorem dL_cleans_225 : decode cL_cleans 225 = .ok (.iload 10, 2) := by decide +kernel
theorem dL_cleans_227 : decode cL_cleans 227 = .ok (.iconst 4, 1) := by decide +kernel
theorem dL_cleans_228 : decode cL_cleans 228 = .ok (.idiv, 1) := by decide +kernel
theorem dL_cleans_229 : decode cL_cleans 229 = .ok (.iload 10, 2) := by decide +kernel
theorem dL_cleans_231 : decode cL_cleans 231 = .ok (.iconst 4, 1) := by decide +kernel
theorem dL_cleans_232 : decode cL_cleans 232 = .ok (.irem, 1) := by decide +kernel
theorem dL_cleans_233 : decode cL_cleans 233 = .ok (.invokevirtual 39, 3) := by decide +kernel
theorem dL_cleans_236 : decode cL_cleans 236 = .ok (.aload 5, 2) := by decide +kernel
theorem dL_cleans_238 : decode cL_cleans 238 = .ok (.iload 10, 2) := by decide +kernel
theorem dL_cleans_240 : decode cL_cleans 240 = .ok (.iaload, 1) := by decide +kernel
theorem dL_cleans_241 : decode cL_cleans 241 = .ok (.if_icmp .ne 72, 3) := by decide +kernel
theorem dL_cleans_244 : decode cL_cleans 244 = .ok (.aload_n 0, 1) := by decide +kernel
theorem dL_cleans_245 : decode cL_cleans 245 = .ok (.iload_n 1, 1) := by decide +kernel
theorem dL_cleans_246 : decode cL_cleans 246 = .ok (.iload 10, 2) := by decide +kernel
theorem dL_cleans_248 : decode cL_cleans 248 = .ok (.iconst 4, 1) := by decide +kernel
theorem dL_cleans_249 : decode cL_cleans 249 = .ok (.idiv, 1) := by decide +kernel
theorem dL_cleans_250 : decode cL_cleans 250 = .ok (.iload 10, 2) := by decide +kernel
theorem dL_cleans_252 : decode cL_cleans 252 = .ok (.iconst 4, 1) := by decide +kernel
theorem dL_cleans_253 : decode cL_cleans 253 = .ok (.irem, 1) := by decide +kernel
theorem dL_cleans_254 : decode cL_cleans 254 = .ok (.invokevirtual 42, 3) := by decide +kernel
theorem dL_cleans_257 : decode cL_cleans 257 = .ok (.aload 6, 2) := by decide +kernel
theorem dL_cleans_259 : decode cL_cleans 259 = .ok (.iload 10, 2) := by decide +kernel
theorem dL_cleans_261 : decode cL_cleans 261 = .ok (.iaload, 1) := by decide +kernel
theorem dL_cleans_262 : decode cL_cleans 262 = .ok (.if_icmp .gt 51, 3) := by decide +kernel
theorem dL_cleans_265 : decode cL_cleans 265 = .ok (.iload 11, 2) := by decide +kernel
theorem dL_cleans_267 : decode cL_cleans 267 = .ok (.iconst (-1), 1) := by decide +kernel
theorem dL_cleans_268 : decode cL_cleans 268 = .ok (.if_icmp .eq 23, 3) := by decide +kernel
theorem dL_cleans_271 : decode cL_cleans 271 = .ok (.iload 11, 2) := by decide +kernel
theorem dL_cleans_273 : decode cL_cleans 273 = .ok (.aload 4, 2) := by decide +kernel
theorem dL_cleans_275 : decode cL_cleans 275 = .ok (.iload 10, 2) := by decide +kernel
theorem dL_cleans_277 : decode cL_cleans 277 = .ok (.iaload, 1) := by decide +kernel
theorem dL_cleans_278 : decode cL_cleans 278 = .ok (.if_icmp .ne 35, 3) := by decide +kernel
theorem dL_cleans_281 : decode cL_cleans 281 = .ok (.iload 11, 2) := by decide +kernel
theorem dL_cleans_283 : decode cL_cleans 283 = .ok (.aload 6, 2) := by decide +kernel
theorem dL_cleans_285 : decode cL_cleans 285 = .ok (.iload 10, 2) := by decide +kernel
theorem dL_cleans_287 : decode cL_cleans 287 = .ok (.iaload, 1) := by decide +kernel
theorem dL_cleans_288 : decode cL_cleans 288 = .ok (.if_icmp .le 25, 3) := by decide +kernel
theorem dL_cleans_291 : decode cL_cleans 291 = .ok (.aload 5, 2) := by decide +kernel
theorem dL_cleans_293 : decode cL_cleans 293 = .ok (.iload 10, 2) := by decide +kernel
theorem dL_cleans_295 : decode cL_cleans 295 = .ok (.iaload, 1) := by decide +kernel
theorem dL_cleans_296 : decode cL_cleans 296 = .ok (.ifCond .lt 13, 3) := by decide +kernel
theorem dL_cleans_299 : decode cL_cleans 299 = .ok (.iload 11, 2) := by decide +kernel
theorem dL_cleans_301 : decode cL_cleans 301 = .ok (.aload 4, 2) := by decide +kernel
theorem dL_cleans_303 : decode cL_cleans 303 = .ok (.iload 10, 2) := by decide +kernel
theorem dL_cleans_305 : decode cL_cleans 305 = .ok (.iaload, 1) := by decide +kernel
theorem dL_cleans_306 : decode cL_cleans 306 = .ok (.if_icmp .ne 7, 3) := by decide +kernel
theorem dL_cleans_309 : decode cL_cleans 309 = .ok (.iconst 1, 1) := by decide +kernel
theorem dL_cleans_310 : decode cL_cleans 310 = .ok (.goto 4, 3) := by decide +kernel
theorem dL_cleans_313 : decode cL_cleans 313 = .ok (.iconst 0, 1) := by decide +kernel
theorem dL_cleans_314 : decode cL_cleans 314 = .ok (.istore 9, 2) := by decide +kernel
theorem dL_cleans_316 : decode cL_cleans 316 = .ok (.iinc 10 1, 3) := by decide +kernel
theorem dL_cleans_319 : decode cL_cleans 319 = .ok (.goto (-123), 3) := by decide +kernel
theorem dL_cleans_322 : decode cL_cleans 322 = .ok (.aload_n 2, 1) := by decide +kernel
theorem dL_cleans_323 : decode cL_cleans 323 = .ok (.bipush 7, 2) := by decide +kernel
theorem dL_cleans_325 : decode cL_cleans 325 = .ok (.iconst 0, 1) := by decide +kernel
theorem dL_cleans_326 : decode cL_cleans 326 = .ok (.iastore, 1) := by decide +kernel
theorem dL_cleans_327 : decode cL_cleans 327 = .ok (.iload 9, 2) := by decide +kernel
theorem dL_cleans_329 : decode cL_cleans 329 = .ok (.ireturn, 1) := by decide +kernel
theorem dL_step_0 : decode cL_step 0 = .ok (.iload_n 1, 1) := by decide +kernel
theorem dL_step_1 : decode cL_step 1 = .ok (.bipush 6, 2) := by decide +kernel
theorem dL_step_3 : decode cL_step 3 = .ok (.if_icmp .ge 12, 3) := by decide +kernel
theorem dL_step_6 : decode cL_step 6 = .ok (.aload_n 0, 1) := by decide +kernel
theorem dL_step_7 : decode cL_step 7 = .ok (.iload_n 2, 1) := by decide +kernel
theorem dL_step_8 : decode cL_step 8 = .ok (.iload_n 3, 1) := by decide +kernel
theorem dL_step_9 : decode cL_step 9 = .ok (.aload 4, 2) := by decide +kernel
theorem dL_step_11 : decode cL_step 11 = .ok (.invokestatic 102, 3) := by decide +kernel
theorem dL_step_14 : decode cL_step 14 = .ok (.ireturn, 1) := by decide +kernel
theorem dL_step_15 : decode cL_step 15 = .ok (.iload_n 1, 1) := by decide +kernel
theorem dL_step_16 : decode cL_step 16 = .ok (.bipush 10, 2) := by decide +kernel
theorem dL_step_18 : decode cL_step 18 = .ok (.if_icmp .ge 16, 3) := by decide +kernel
theorem dL_step_21 : decode cL_step 21 = .ok (.aload_n 0, 1) := by decide +kernel
theorem dL_step_22 : decode cL_step 22 = .ok (.iload_n 1, 1) := by decide +kernel
theorem dL_step_23 : decode cL_step 23 = .ok (.bipush 6, 2) := by decide +kernel
theorem dL_step_25 : decode cL_step 25 = .ok (.isub, 1) := by decide +kernel
theorem dL_step_26 : decode cL_step 26 = .ok (.iload_n 2, 1) := by decide +kernel
theorem dL_step_27 : decode cL_step 27 = .ok (.iload_n 3, 1) := by decide +kernel
theorem dL_step_28 : decode cL_step 28 = .ok (.aload 4, 2) := by decide +kernel
theorem dL_step_30 : decode cL_step 30 = .ok (.invokestatic 106, 3) := by decide +kernel
theorem dL_step_33 : decode cL_step 33 = .ok (.ireturn, 1) := by decide +kernel
theorem dL_step_34 : decode cL_step 34 = .ok (.iload_n 1, 1) := by decide +kernel
theorem dL_step_35 : decode cL_step 35 = .ok (.bipush 10, 2) := by decide +kernel
theorem dL_step_37 : decode cL_step 37 = .ok (.if_icmp .ne 102, 3) := by decide +kernel
theorem dL_step_40 : decode cL_step 40 = .ok (.iload_n 2, 1) := by decide +kernel
theorem dL_step_41 : decode cL_step 41 = .ok (.iconst 3, 1) := by decide +kernel
theorem dL_step_42 : decode cL_step 42 = .ok (.irem, 1) := by decide +kernel
theorem dL_step_43 : decode cL_step 43 = .ok (.istore 5, 2) := by decide +kernel
theorem dL_step_45 : decode cL_step 45 = .ok (.iload_n 3, 1) := by decide +kernel
theorem dL_step_46 : decode cL_step 46 = .ok (.iconst 3, 1) := by decide +kernel
theorem dL_step_47 : decode cL_step 47 = .ok (.irem, 1) := by decide +kernel
theorem dL_step_48 : decode cL_step 48 = .ok (.ifCond .le 7, 3) := by decide +kernel
theorem dL_step_51 : decode cL_step 51 = .ok (.iconst 1, 1) := by decide +kernel
theorem dL_step_52 : decode cL_step 52 = .ok (.goto 4, 3) := by decide +kernel
theorem dL_step_55 : decode cL_step 55 = .ok (.iconst 0, 1) := by decide +kernel
theorem dL_step_56 : decode cL_step 56 = .ok (.istore 6, 2) := by decide +kernel
theorem dL_step_58 : decode cL_step 58 = .ok (.iload 6, 2) := by decide +kernel
theorem dL_step_60 : decode cL_step 60 = .ok (.ifCond .eq 13, 3) := by decide +kernel
theorem dL_step_63 : decode cL_step 63 = .ok (.aload 4, 2) := by decide +kernel
theorem dL_step_65 : decode cL_step 65 = .ok (.iconst 2, 1) := by decide +kernel
theorem dL_step_66 : decode cL_step 66 = .ok (.iload 5, 2) := by decide +kernel
theorem dL_step_68 : decode cL_step 68 = .ok (.iadd, 1) := by decide +kernel
theorem dL_step_69 : decode cL_step 69 = .ok (.iaload, 1) := by decide +kernel
theorem dL_step_70 : decode cL_step 70 = .ok (.goto 4, 3) := by decide +kernel
theorem dL_step_73 : decode cL_step 73 = .ok (.iconst 0, 1) := by decide +kernel
theorem dL_step_74 : decode cL_step 74 = .ok (.istore 7, 2) := by decide +kernel
theorem dL_step_76 : decode cL_step 76 = .ok (.aload 4, 2) := by decide +kernel
theorem dL_step_78 : decode cL_step 78 = .ok (.iconst 2, 1) := by decide +kernel
theorem dL_step_79 : decode cL_step 79 = .ok (.iload 5, 2) := by decide +kernel
theorem dL_step_81 : decode cL_step 81 = .ok (.iadd, 1) := by decide +kernel
theorem dL_step_82 : decode cL_step 82 = .ok (.dup2, 1) := by decide +kernel
theorem dL_step_83 : decode cL_step 83 = .ok (.iaload, 1) := by decide +kernel
theorem dL_step_84 : decode cL_step 84 = .ok (.iload 7, 2) := by decide +kernel
theorem dL_step_86 : decode cL_step 86 = .ok (.isub, 1) := by decide +kernel
theorem dL_step_87 : decode cL_step 87 = .ok (.iastore, 1) := by decide +kernel
theorem dL_step_88 : decode cL_step 88 = .ok (.aload 4, 2) := by decide +kernel
theorem dL_step_90 : decode cL_step 90 = .ok (.iconst 5, 1) := by decide +kernel
theorem dL_step_91 : decode cL_step 91 = .ok (.iload 6, 2) := by decide +kernel
theorem dL_step_93 : decode cL_step 93 = .ok (.ifCond .eq 15, 3) := by decide +kernel
theorem dL_step_96 : decode cL_step 96 = .ok (.aload 4, 2) := by decide +kernel
theorem dL_step_98 : decode cL_step 98 = .ok (.iconst 5, 1) := by decide +kernel
theorem dL_step_99 : decode cL_step 99 = .ok (.iaload, 1) := by decide +kernel
theorem dL_step_100 : decode cL_step 100 = .ok (.iconst 1, 1) := by decide +kernel
theorem dL_step_101 : decode cL_step 101 = .ok (.iload 5, 2) := by decide +kernel
theorem dL_step_103 : decode cL_step 103 = .ok (.ishl, 1) := by decide +kernel
theorem dL_step_104 : decode cL_step 104 = .ok (.ior, 1) := by decide +kernel
theorem dL_step_105 : decode cL_step 105 = .ok (.goto 14, 3) := by decide +kernel
theorem dL_step_108 : decode cL_step 108 = .ok (.aload 4, 2) := by decide +kernel
theorem dL_step_110 : decode cL_step 110 = .ok (.iconst 5, 1) := by decide +kernel
theorem dL_step_111 : decode cL_step 111 = .ok (.iaload, 1) := by decide +kernel
theorem dL_step_112 : decode cL_step 112 = .ok (.iconst 1, 1) := by decide +kernel
theorem dL_step_113 : decode cL_step 113 = .ok (.iload 5, 2) := by decide +kernel
theorem dL_step_115 : decode cL_step 115 = .ok (.ishl, 1) := by decide +kernel
theorem dL_step_116 : decode cL_step 116 = .ok (.iconst (-1), 1) := by decide +kernel
theorem dL_step_117 : decode cL_step 117 = .ok (.ixor, 1) := by decide +kernel
theorem dL_step_118 : decode cL_step 118 = .ok (.iand, 1) := by decide +kernel
theorem dL_step_119 : decode cL_step 119 = .ok (.iastore, 1) := by decide +kernel
theorem dL_step_120 : decode cL_step 120 = .ok (.aload_n 0, 1) := by decide +kernel
theorem dL_step_121 : decode cL_step 121 = .ok (.iload 5, 2) := by decide +kernel
theorem dL_step_123 : decode cL_step 123 = .ok (.iload 6, 2) := by decide +kernel
theorem dL_step_125 : decode cL_step 125 = .ok (.invokevirtual 110, 3) := by decide +kernel
theorem dL_step_128 : decode cL_step 128 = .ok (.iload 7, 2) := by decide +kernel
theorem dL_step_130 : decode cL_step 130 = .ok (.if_icmp .ne 7, 3) := by decide +kernel
theorem dL_step_133 : decode cL_step 133 = .ok (.iconst 1, 1) := by decide +kernel
theorem dL_step_134 : decode cL_step 134 = .ok (.goto 4, 3) := by decide +kernel
theorem dL_step_137 : decode cL_step 137 = .ok (.iconst 0, 1) := by decide +kernel
theorem dL_step_138 : decode cL_step 138 = .ok (.ireturn, 1) := by decide +kernel
theorem dL_step_139 : decode cL_step 139 = .ok (.iload_n 1, 1) := by decide +kernel
theorem dL_step_140 : decode cL_step 140 = .ok (.bipush 11, 2) := by decide +kernel
theorem dL_step_142 : decode cL_step 142 = .ok (.if_icmp .ne 50, 3) := by decide +kernel
theorem dL_step_145 : decode cL_step 145 = .ok (.iconst 1, 1) := by decide +kernel
theorem dL_step_146 : decode cL_step 146 = .ok (.iload_n 2, 1) := by decide +kernel
theorem dL_step_147 : decode cL_step 147 = .ok (.iload_n 3, 1) := by decide +kernel
theorem dL_step_148 : decode cL_step 148 = .ok (.iconst 3, 1) := by decide +kernel
theorem dL_step_149 : decode cL_step 149 = .ok (.irem, 1) := by decide +kernel
theorem dL_step_150 : decode cL_step 150 = .ok (.ifCond .ne 8, 3) := by decide +kernel
theorem dL_step_153 : decode cL_step 153 = .ok (.bipush 100, 2) := by decide +kernel
theorem dL_step_155 : decode cL_step 155 = .ok (.goto 5, 3) := by decide +kernel
theorem dL_step_158 : decode cL_step 158 = .ok (.bipush 6, 2) := by decide +kernel
theorem dL_step_160 : decode cL_step 160 = .ok (.irem, 1) := by decide +kernel
theorem dL_step_161 : decode cL_step 161 = .ok (.iadd, 1) := by decide +kernel
theorem dL_step_162 : decode cL_step 162 = .ok (.istore 5, 2) := by decide +kernel
theorem dL_step_164 : decode cL_step 164 = .ok (.aload 4, 2) := by decide +kernel
theorem dL_step_166 : decode cL_step 166 = .ok (.iconst 0, 1) := by decide +kernel
theorem dL_step_167 : decode cL_step 167 = .ok (.dup2, 1) := by decide +kernel
theorem dL_step_168 : decode cL_step 168 = .ok (.iaload, 1) := by decide +kernel
theorem dL_step_169 : decode cL_step 169 = .ok (.iload 5, 2) := by decide +kernel
theorem dL_step_171 : decode cL_step 171 = .ok (.iadd, 1) := by decide +kernel
theorem dL_step_172 : decode cL_step 172 = .ok (.iastore, 1) := by decide +kernel
theorem dL_step_173 : decode cL_step 173 = .ok (.aload_n 0, 1) := by decide +kernel
theorem dL_step_174 : decode cL_step 174 = .ok (.iload 5, 2) := by decide +kernel
theorem dL_step_176 : decode cL_step 176 = .ok (.invokevirtual 114, 3) := by decide +kernel
theorem dL_step_179 : decode cL_step 179 = .ok (.aload 4, 2) := by decide +kernel
theorem dL_step_181 : decode cL_step 181 = .ok (.iconst 0, 1) := by decide +kernel
theorem dL_step_182 : decode cL_step 182 = .ok (.iaload, 1) := by decide +kernel
theorem dL_step_183 : decode cL_step 183 = .ok (.if_icmp .ne 7, 3) := by decide +kernel
theorem dL_step_186 : decode cL_step 186 = .ok (.iconst 1, 1) := by decide +kernel
theorem dL_step_187 : decode cL_step 187 = .ok (.goto 4, 3) := by decide +kernel
theorem dL_step_190 : decode cL_step 190 = .ok (.iconst 0, 1) := by decide +kernel
theorem dL_step_191 : decode cL_step 191 = .ok (.ireturn, 1) := by decide +kernel
theorem dL_step_192 : decode cL_step 192 = .ok (.iload_n 1, 1) := by decide +kernel
theorem dL_step_193 : decode cL_step 193 = .ok (.bipush 14, 2) := by decide +kernel
theorem dL_step_195 : decode cL_step 195 = .ok (.if_icmp .ge 12, 3) := by decide +kernel
theorem dL_step_198 : decode cL_step 198 = .ok (.aload_n 0, 1) := by decide +kernel
theorem dL_step_199 : decode cL_step 199 = .ok (.iload_n 2, 1) := by decide +kernel
theorem dL_step_200 : decode cL_step 200 = .ok (.iload_n 3, 1) := by decide +kernel
theorem dL_step_201 : decode cL_step 201 = .ok (.aload 4, 2) := by decide +kernel
theorem dL_step_203 : decode cL_step 203 = .ok (.invokestatic 117, 3) := by decide +kernel
theorem dL_step_206 : decode cL_step 206 = .ok (.ireturn, 1) := by decide +kernel
theorem dL_step_207 : decode cL_step 207 = .ok (.iload_n 1, 1) := by decide +kernel
theorem dL_step_208 : decode cL_step 208 = .ok (.bipush 14, 2) := by decide +kernel
theorem dL_step_210 : decode cL_step 210 = .ok (.if_icmp .ne 27, 3) := by decide +kernel
theorem dL_step_213 : decode cL_step 213 = .ok (.iload_n 3, 1) := by decide +kernel
theorem dL_step_214 : decode cL_step 214 = .ok (.iconst 3, 1) := by decide +kernel
theorem dL_step_215 : decode cL_step 215 = .ok (.irem, 1) := by decide +kernel
theorem dL_step_216 : decode cL_step 216 = .ok (.ifCond .gt 15, 3) := by decide +kernel
theorem dL_step_219 : decode cL_step 219 = .ok (.aload_n 0, 1) := by decide +kernel
theorem dL_step_220 : decode cL_step 220 = .ok (.iload_n 2, 1) := by decide +kernel
theorem dL_step_221 : decode cL_step 221 = .ok (.iconst 3, 1) := by decide +kernel
theorem dL_step_222 : decode cL_step 222 = .ok (.irem, 1) := by decide +kernel
theorem dL_step_223 : decode cL_step 223 = .ok (.aload 4, 2) := by decide +kernel
theorem dL_step_225 : decode cL_step 225 = .ok (.invokestatic 120, 3) := by decide +kernel
theorem dL_step_228 : decode cL_step 228 = .ok (.ifCond .eq 7, 3) := by decide +kernel
theorem dL_step_231 : decode cL_step 231 = .ok (.iconst 1, 1) := by decide +kernel
theorem dL_step_232 : decode cL_step 232 = .ok (.goto 4, 3) := by decide +kernel
theorem dL_step_235 : decode cL_step 235 = .ok (.iconst 0, 1) := by decide +kernel
theorem dL_step_236 : decode cL_step 236 = .ok (.ireturn, 1) := by decide +kernel
theorem dL_step_237 : decode cL_step 237 = .ok (.aload 4, 2) := by decide +kernel
theorem dL_step_239 : decode cL_step 239 = .ok (.iconst 1, 1) := by decide +kernel
theorem dL_step_240 : decode cL_step 240 = .ok (.iaload, 1) := by decide +kernel
theorem dL_step_241 : decode cL_step 241 = .ok (.istore 5, 2) := by decide +kernel
theorem dL_step_243 : decode cL_step 243 = .ok (.aload 4, 2) := by decide +kernel
theorem dL_step_245 : decode cL_step 245 = .ok (.iconst 1, 1) := by decide +kernel
theorem dL_step_246 : decode cL_step 246 = .ok (.iload_n 3, 1) := by decide +kernel
theorem dL_step_247 : decode cL_step 247 = .ok (.bipush 25, 2) := by decide +kernel
theorem dL_step_249 : decode cL_step 249 = .ok (.irem, 1) := by decide +kernel
theorem dL_step_250 : decode cL_step 250 = .ok (.iastore, 1) := by decide +kernel
theorem dL_step_251 : decode cL_step 251 = .ok (.aload_n 0, 1) := by decide +kernel
theorem dL_step_252 : decode cL_step 252 = .ok (.aload 4, 2) := by decide +kernel
theorem dL_step_254 : decode cL_step 254 = .ok (.iconst 1, 1) := by decide +kernel
theorem dL_step_255 : decode cL_step 255 = .ok (.iaload, 1) := by decide +kernel
theorem dL_step_256 : decode cL_step 256 = .ok (.invokevirtual 124, 3) := by decide +kernel
theorem dL_step_259 : decode cL_step 259 = .ok (.iload 5, 2) := by decide +kernel
theorem dL_step_261 : decode cL_step 261 = .ok (.if_icmp .ne 7, 3) := by decide +kernel
theorem dL_step_264 : decode cL_step 264 = .ok (.iconst 1, 1) := by decide +kernel
theorem dL_step_265 : decode cL_step 265 = .ok (.goto 4, 3) := by decide +kernel
theorem dL_step_268 : decode cL_step 268 = .ok (.iconst 0, 1) := by decide +kernel
theorem dL_step_269 : decode cL_step 269 = .ok (.ireturn, 1) := by decide +kernel
theorem dL_table_0 : decode cL_table 0 = .ok (.new 11, 3) := by decide +kernel
theorem dL_table_3 : decode cL_table 3 = .ok (.dup, 1) := by decide +kernel
theorem dL_table_4 : decode cL_table 4 = .ok (.invokespecial 127, 3) := by decide +kernel
theorem dL_table_7 : decode cL_table 7 = .ok (.astore_n 3, 1) := by decide +kernel
theorem dL_table_8 : decode cL_table 8 = .ok (.bipush 9, 2) := by decide +kernel
theorem dL_table_10 : decode cL_table 10 = .ok (.newarray .int, 2) := by decide +kernel
theorem dL_table_12 : decode cL_table 12 = .ok (.astore 4, 2) := by decide +kernel
theorem dL_table_14 : decode cL_table 14 = .ok (.aload 4, 2) := by decide +kernel
theorem dL_table_16 : decode cL_table 16 = .ok (.iconst 1, 1) := by decide +kernel
theorem dL_table_17 : decode cL_table 17 = .ok (.bipush 10, 2) := by decide +kernel
theorem dL_table_19 : decode cL_table 19 = .ok (.iastore, 1) := by decide +kernel
theorem dL_table_20 : decode cL_table 20 = .ok (.aload 4, 2) := by decide +kernel
theorem dL_table_22 : decode cL_table 22 = .ok (.iconst 5, 1) := by decide +kernel
theorem dL_table_23 : decode cL_table 23 = .ok (.bipush 7, 2) := by decide +kernel
theorem dL_table_25 : decode cL_table 25 = .ok (.iastore, 1) := by decide +kernel
theorem dL_table_26 : decode cL_table 26 = .ok (.aload 4, 2) := by decide +kernel
theorem dL_table_28 : decode cL_table 28 = .ok (.bipush 7, 2) := by decide +kernel
theorem dL_table_30 : decode cL_table 30 = .ok (.iload_n 2, 1) := by decide +kernel
theorem dL_table_31 : decode cL_table 31 = .ok (.ifCond .eq 7, 3) := by decide +kernel
theorem dL_table_34 : decode cL_table 34 = .ok (.iconst 1, 1) := by decide +kernel
theorem dL_table_35 : decode cL_table 35 = .ok (.goto 4, 3) := by decide +kernel
theorem dL_table_38 : decode cL_table 38 = .ok (.iconst 0, 1) := by decide +kernel
theorem dL_table_39 : decode cL_table 39 = .ok (.iastore, 1) := by decide +kernel
theorem dL_table_40 : decode cL_table 40 = .ok (.iconst 0, 1) := by decide +kernel
theorem dL_table_41 : decode cL_table 41 = .ok (.istore 5, 2) := by decide +kernel
theorem dL_table_43 : decode cL_table 43 = .ok (.iload 5, 2) := by decide +kernel
theorem dL_table_45 : decode cL_table 45 = .ok (.bipush 44, 2) := by decide +kernel
theorem dL_table_47 : decode cL_table 47 = .ok (.if_icmp .ge 157, 3) := by decide +kernel
theorem dL_table_50 : decode cL_table 50 = .ok (.aload_n 0, 1) := by decide +kernel
theorem dL_table_51 : decode cL_table 51 = .ok (.iload_n 1, 1) := by decide +kernel
theorem dL_table_52 : decode cL_table 52 = .ok (.iconst 3, 1) := by decide +kernel
theorem dL_table_53 : decode cL_table 53 = .ok (.iload 5, 2) := by decide +kernel
theorem dL_table_55 : decode cL_table 55 = .ok (.imul, 1) := by decide +kernel
theorem dL_table_56 : decode cL_table 56 = .ok (.iadd, 1) := by decide +kernel
theorem dL_table_57 : decode cL_table 57 = .ok (.iconst 1, 1) := by decide +kernel
theorem dL_table_58 : decode cL_table 58 = .ok (.iadd, 1) := by decide +kernel
theorem dL_table_59 : decode cL_table 59 = .ok (.ldc 128, 2) := by decide +kernel
theorem dL_table_61 : decode cL_table 61 = .ok (.invokestatic 129, 3) := by decide +kernel
theorem dL_table_64 : decode cL_table 64 = .ok (.istore 6, 2) := by decide +kernel
theorem dL_table_66 : decode cL_table 66 = .ok (.aload_n 0, 1) := by decide +kernel
theorem dL_table_67 : decode cL_table 67 = .ok (.iload_n 1, 1) := by decide +kernel
theorem dL_table_68 : decode cL_table 68 = .ok (.iconst 3, 1) := by decide +kernel
theorem dL_table_69 : decode cL_table 69 = .ok (.iload 5, 2) := by decide +kernel
theorem dL_table_71 : decode cL_table 71 = .ok (.imul, 1) := by decide +kernel
theorem dL_table_72 : decode cL_table 72 = .ok (.iadd, 1) := by decide +kernel
theorem dL_table_73 : decode cL_table 73 = .ok (.iconst 2, 1) := by decide +kernel
theorem dL_table_74 : decode cL_table 74 = .ok (.iadd, 1) := by decide +kernel
theorem dL_table_75 : decode cL_table 75 = .ok (.ldc 128, 2) := by decide +kernel
theorem dL_table_77 : decode cL_table 77 = .ok (.invokestatic 129, 3) := by decide +kernel
theorem dL_table_80 : decode cL_table 80 = .ok (.istore 7, 2) := by decide +kernel
theorem dL_table_82 : decode cL_table 82 = .ok (.iload 5, 2) := by decide +kernel
theorem dL_table_84 : decode cL_table 84 = .ok (.bipush 8, 2) := by decide +kernel
theorem dL_table_86 : decode cL_table 86 = .ok (.if_icmp .ge 7, 3) := by decide +kernel
theorem dL_table_89 : decode cL_table 89 = .ok (.iconst 0, 1) := by decide +kernel
theorem dL_table_90 : decode cL_table 90 = .ok (.goto 24, 3) := by decide +kernel
theorem dL_table_93 : decode cL_table 93 = .ok (.aload_n 0, 1) := by decide +kernel
theorem dL_table_94 : decode cL_table 94 = .ok (.iload_n 1, 1) := by decide +kernel
theorem dL_table_95 : decode cL_table 95 = .ok (.iconst 3, 1) := by decide +kernel
theorem dL_table_96 : decode cL_table 96 = .ok (.iload 5, 2) := by decide +kernel
theorem dL_table_98 : decode cL_table 98 = .ok (.imul, 1) := by decide +kernel
theorem dL_table_99 : decode cL_table 99 = .ok (.iadd, 1) := by decide +kernel
theorem dL_table_100 : decode cL_table 100 = .ok (.iload_n 2, 1) := by decide +kernel
theorem dL_table_101 : decode cL_table 101 = .ok (.ifCond .eq 8, 3) := by decide +kernel
theorem dL_table_104 : decode cL_table 104 = .ok (.bipush 14, 2) := by decide +kernel
theorem dL_table_106 : decode cL_table 106 = .ok (.goto 5, 3) := by decide +kernel
theorem dL_table_109 : decode cL_table 109 = .ok (.bipush 16, 2) := by decide +kernel
theorem dL_table_111 : decode cL_table 111 = .ok (.invokestatic 129, 3) := by decide +kernel
theorem dL_table_114 : decode cL_table 114 = .ok (.istore 8, 2) := by decide +kernel
theorem dL_table_116 : decode cL_table 116 = .ok (.aload_n 3, 1) := by decide +kernel
theorem dL_table_117 : decode cL_table 117 = .ok (.iload 8, 2) := by decide +kernel
theorem dL_table_119 : decode cL_table 119 = .ok (.iload 6, 2) := by decide +kernel
theorem dL_table_121 : decode cL_table 121 = .ok (.iload 7, 2) := by decide +kernel
theorem dL_table_123 : decode cL_table 123 = .ok (.aload 4, 2) := by decide +kernel
theorem dL_table_125 : decode cL_table 125 = .ok (.invokestatic 133, 3) := by decide +kernel
theorem dL_table_128 : decode cL_table 128 = .ok (.ifCond .eq 68, 3) := by decide +kernel
theorem dL_table_131 : decode cL_table 131 = .ok (.aload_n 3, 1) := by decide +kernel
theorem dL_table_132 : decode cL_table 132 = .ok (.invokevirtual 136, 3) := by decide +kernel
theorem dL_table_135 : decode cL_table 135 = .ok (.aload 4, 2) := by decide +kernel
theorem dL_table_137 : decode cL_table 137 = .ok (.iconst 0, 1) := by decide +kernel
theorem dL_table_138 : decode cL_table 138 = .ok (.iaload, 1) := by decide +kernel
theorem dL_table_139 : decode cL_table 139 = .ok (.if_icmp .ne 57, 3) := by decide +kernel
theorem dL_table_142 : decode cL_table 142 = .ok (.aload_n 3, 1) := by decide +kernel
theorem dL_table_143 : decode cL_table 143 = .ok (.iload 6, 2) := by decide +kernel
theorem dL_table_145 : decode cL_table 145 = .ok (.iconst 5, 1) := by decide +kernel
theorem dL_table_146 : decode cL_table 146 = .ok (.idiv, 1) := by decide +kernel
theorem dL_table_147 : decode cL_table 147 = .ok (.iconst 3, 1) := by decide +kernel
theorem dL_table_148 : decode cL_table 148 = .ok (.irem, 1) := by decide +kernel
theorem dL_table_149 : decode cL_table 149 = .ok (.aload 4, 2) := by decide +kernel
theorem dL_table_151 : decode cL_table 151 = .ok (.invokestatic 139, 3) := by decide +kernel
theorem dL_table_154 : decode cL_table 154 = .ok (.ifCond .eq 42, 3) := by decide +kernel
theorem dL_table_157 : decode cL_table 157 = .ok (.aload_n 3, 1) := by decide +kernel
theorem dL_table_158 : decode cL_table 158 = .ok (.iload 6, 2) := by decide +kernel
theorem dL_table_160 : decode cL_table 160 = .ok (.bipush 9, 2) := by decide +kernel
theorem dL_table_162 : decode cL_table 162 = .ok (.idiv, 1) := by decide +kernel
theorem dL_table_163 : decode cL_table 163 = .ok (.iconst 3, 1) := by decide +kernel
theorem dL_table_164 : decode cL_table 164 = .ok (.irem, 1) := by decide +kernel
theorem dL_table_165 : decode cL_table 165 = .ok (.iload 7, 2) := by decide +kernel
theorem dL_table_167 : decode cL_table 167 = .ok (.bipush 9, 2) := by decide +kernel
theorem dL_table_169 : decode cL_table 169 = .ok (.idiv, 1) := by decide +kernel
theorem dL_table_170 : decode cL_table 170 = .ok (.iconst 3, 1) := by decide +kernel
theorem dL_table_171 : decode cL_table 171 = .ok (.irem, 1) := by decide +kernel
theorem dL_table_172 : decode cL_table 172 = .ok (.invokestatic 142, 3) := by decide +kernel
theorem dL_table_175 : decode cL_table 175 = .ok (.ifCond .eq 21, 3) := by decide +kernel
theorem dL_table_178 : decode cL_table 178 = .ok (.aload 4, 2) := by decide +kernel
theorem dL_table_180 : decode cL_table 180 = .ok (.bipush 7, 2) := by decide +kernel
theorem dL_table_182 : decode cL_table 182 = .ok (.iaload, 1) := by decide +kernel
theorem dL_table_183 : decode cL_table 183 = .ok (.iconst 1, 1) := by decide +kernel
theorem dL_table_184 : decode cL_table 184 = .ok (.if_icmp .ne 14, 3) := by decide +kernel
theorem dL_table_187 : decode cL_table 187 = .ok (.aload_n 3, 1) := by decide +kernel
theorem dL_table_188 : decode cL_table 188 = .ok (.aload 4, 2) := by decide +kernel
theorem dL_table_190 : decode cL_table 190 = .ok (.invokestatic 146, 3) := by decide +kernel
theorem dL_table_193 : decode cL_table 193 = .ok (.ifCond .ne 5, 3) := by decide +kernel
theorem dL_table_196 : decode cL_table 196 = .ok (.iconst 0, 1) := by decide +kernel
theorem dL_table_197 : decode cL_table 197 = .ok (.ireturn, 1) := by decide +kernel
theorem dL_table_198 : decode cL_table 198 = .ok (.iinc 5 1, 3) := by decide +kernel
theorem dL_table_201 : decode cL_table 201 = .ok (.goto (-158), 3) := by decide +kernel
theorem dL_table_204 : decode cL_table 204 = .ok (.iconst 1, 1) := by decide +kernel
theorem dL_table_205 : decode cL_table 205 = .ok (.ireturn, 1) := by decide +kernel
theorem dL_law_0 : decode cL_law 0 = .ok (.aload_n 0, 1) := by decide +kernel
theorem dL_law_1 : decode cL_law 1 = .ok (.iconst 0, 1) := by decide +kernel
theorem dL_law_2 : decode cL_law 2 = .ok (.iconst 1, 1) := by decide +kernel
theorem dL_law_3 : decode cL_law 3 = .ok (.invokestatic 150, 3) := by decide +kernel
theorem dL_law_6 : decode cL_law 6 = .ok (.ifCond .eq 40, 3) := by decide +kernel
theorem dL_law_9 : decode cL_law 9 = .ok (.aload_n 0, 1) := by decide +kernel
theorem dL_law_10 : decode cL_law 10 = .ok (.sipush 135, 3) := by decide +kernel
theorem dL_law_13 : decode cL_law 13 = .ok (.iconst 0, 1) := by decide +kernel
theorem dL_law_14 : decode cL_law 14 = .ok (.invokestatic 150, 3) := by decide +kernel
theorem dL_law_17 : decode cL_law 17 = .ok (.ifCond .eq 29, 3) := by decide +kernel
theorem dL_law_20 : decode cL_law 20 = .ok (.aload_n 0, 1) := by decide +kernel
theorem dL_law_21 : decode cL_law 21 = .ok (.sipush 270, 3) := by decide +kernel
theorem dL_law_24 : decode cL_law 24 = .ok (.iconst 1, 1) := by decide +kernel
theorem dL_law_25 : decode cL_law 25 = .ok (.invokestatic 150, 3) := by decide +kernel
theorem dL_law_28 : decode cL_law 28 = .ok (.ifCond .eq 18, 3) := by decide +kernel
theorem dL_law_31 : decode cL_law 31 = .ok (.aload_n 0, 1) := by decide +kernel
