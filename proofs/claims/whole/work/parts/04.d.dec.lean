theorem dX8_read_162 : decode cX8_read 162 = .ok (.iload 8, 2) := by decide +kernel
theorem dX8_read_164 : decode cX8_read 164 = .ok (.invokevirtual 117, 3) := by decide +kernel
theorem dX8_read_167 : decode cX8_read 167 = .ok (.aload_n 0, 1) := by decide +kernel
theorem dX8_read_168 : decode cX8_read 168 = .ok (.iload_n 2, 1) := by decide +kernel
theorem dX8_read_169 : decode cX8_read 169 = .ok (.iload_n 1, 1) := by decide +kernel
theorem dX8_read_170 : decode cX8_read 170 = .ok (.iload 8, 2) := by decide +kernel
theorem dX8_read_172 : decode cX8_read 172 = .ok (.invokevirtual 117, 3) := by decide +kernel
theorem dX8_read_175 : decode cX8_read 175 = .ok (.iinc 8 1, 3) := by decide +kernel
theorem dX8_read_178 : decode cX8_read 178 = .ok (.goto (-61), 3) := by decide +kernel
theorem dX8_read_181 : decode cX8_read 181 = .ok (.aload_n 0, 1) := by decide +kernel
theorem dX8_read_182 : decode cX8_read 182 = .ok (.dup, 1) := by decide +kernel
theorem dX8_read_183 : decode cX8_read 183 = .ok (.getfield 120, 3) := by decide +kernel
theorem dX8_read_186 : decode cX8_read 186 = .ok (.iload 7, 2) := by decide +kernel
theorem dX8_read_188 : decode cX8_read 188 = .ok (.ifCond .eq 7, 3) := by decide +kernel
theorem dX8_read_191 : decode cX8_read 191 = .ok (.iconst 0, 1) := by decide +kernel
theorem dX8_read_192 : decode cX8_read 192 = .ok (.goto 4, 3) := by decide +kernel
theorem dX8_read_195 : decode cX8_read 195 = .ok (.iconst 1, 1) := by decide +kernel
theorem dX8_read_196 : decode cX8_read 196 = .ok (.iadd, 1) := by decide +kernel
theorem dX8_read_197 : decode cX8_read 197 = .ok (.putfield 120, 3) := by decide +kernel
theorem dX8_read_200 : decode cX8_read 200 = .ok (.aload_n 0, 1) := by decide +kernel
theorem dX8_read_201 : decode cX8_read 201 = .ok (.iload_n 1, 1) := by decide +kernel
theorem dX8_read_202 : decode cX8_read 202 = .ok (.iload_n 3, 1) := by decide +kernel
theorem dX8_read_203 : decode cX8_read 203 = .ok (.iload 4, 2) := by decide +kernel
theorem dX8_read_205 : decode cX8_read 205 = .ok (.invokevirtual 123, 3) := by decide +kernel
theorem dX8_read_208 : decode cX8_read 208 = .ok (.ireturn, 1) := by decide +kernel
set_option maxRecDepth 20000 in
theorem ggX8_sumOfRow_X8_touches : GoodIn wsX8_sumOfRow wsX8_touches := goodIn_r _ [13, 14, 15, 16, 12, 17, 18, 5, 6, 19, 20, 21, 22, 23, 24, 25, 26, 27, 28, 29, 30, 31, 32, 33, 34, 35, 36, 37, 38, 39, 40] (by decide +kernel) (by decide +kernel)
set_option maxRecDepth 20000 in
theorem gX8_sumOfRow_X8_touches : GoodIn wsX8_sumOfRow (wsV RX8 126 RX8 yX8_touches wsX8_touches) := goodIn_app (goodIn_of _ (by decide +kernel)) ggX8_sumOfRow_X8_touches
theorem dX8_sumOfRow_0 : decode cX8_sumOfRow 0 = .ok (.iconst 0, 1) := by decide +kernel
theorem dX8_sumOfRow_1 : decode cX8_sumOfRow 1 = .ok (.istore_n 3, 1) := by decide +kernel
theorem dX8_sumOfRow_2 : decode cX8_sumOfRow 2 = .ok (.iconst 0, 1) := by decide +kernel
theorem dX8_sumOfRow_3 : decode cX8_sumOfRow 3 = .ok (.istore 4, 2) := by decide +kernel
theorem dX8_sumOfRow_5 : decode cX8_sumOfRow 5 = .ok (.iload 4, 2) := by decide +kernel
theorem dX8_sumOfRow_7 : decode cX8_sumOfRow 7 = .ok (.iconst 4, 1) := by decide +kernel
theorem dX8_sumOfRow_8 : decode cX8_sumOfRow 8 = .ok (.if_icmp .ge 91, 3) := by decide +kernel
theorem dX8_sumOfRow_11 : decode cX8_sumOfRow 11 = .ok (.bipush 64, 2) := by decide +kernel
theorem dX8_sumOfRow_13 : decode cX8_sumOfRow 13 = .ok (.iload_n 1, 1) := by decide +kernel
theorem dX8_sumOfRow_14 : decode cX8_sumOfRow 14 = .ok (.imul, 1) := by decide +kernel
theorem dX8_sumOfRow_15 : decode cX8_sumOfRow 15 = .ok (.iconst 4, 1) := by decide +kernel
theorem dX8_sumOfRow_16 : decode cX8_sumOfRow 16 = .ok (.iload_n 2, 1) := by decide +kernel
theorem dX8_sumOfRow_17 : decode cX8_sumOfRow 17 = .ok (.imul, 1) := by decide +kernel
theorem dX8_sumOfRow_18 : decode cX8_sumOfRow 18 = .ok (.iadd, 1) := by decide +kernel
theorem dX8_sumOfRow_19 : decode cX8_sumOfRow 19 = .ok (.iload 4, 2) := by decide +kernel
theorem dX8_sumOfRow_21 : decode cX8_sumOfRow 21 = .ok (.iadd, 1) := by decide +kernel
theorem dX8_sumOfRow_22 : decode cX8_sumOfRow 22 = .ok (.istore 5, 2) := by decide +kernel
theorem dX8_sumOfRow_24 : decode cX8_sumOfRow 24 = .ok (.iload_n 3, 1) := by decide +kernel
theorem dX8_sumOfRow_25 : decode cX8_sumOfRow 25 = .ok (.aload_n 0, 1) := by decide +kernel
theorem dX8_sumOfRow_26 : decode cX8_sumOfRow 26 = .ok (.getfield 7, 3) := by decide +kernel
theorem dX8_sumOfRow_29 : decode cX8_sumOfRow 29 = .ok (.iload 5, 2) := by decide +kernel
theorem dX8_sumOfRow_31 : decode cX8_sumOfRow 31 = .ok (.iaload, 1) := by decide +kernel
theorem dX8_sumOfRow_32 : decode cX8_sumOfRow 32 = .ok (.iconst (-1), 1) := by decide +kernel
theorem dX8_sumOfRow_33 : decode cX8_sumOfRow 33 = .ok (.if_icmp .ne 7, 3) := by decide +kernel
theorem dX8_sumOfRow_36 : decode cX8_sumOfRow 36 = .ok (.iconst 0, 1) := by decide +kernel
theorem dX8_sumOfRow_37 : decode cX8_sumOfRow 37 = .ok (.goto 54, 3) := by decide +kernel
theorem dX8_sumOfRow_40 : decode cX8_sumOfRow 40 = .ok (.bipush 31, 2) := by decide +kernel
theorem dX8_sumOfRow_42 : decode cX8_sumOfRow 42 = .ok (.aload_n 0, 1) := by decide +kernel
theorem dX8_sumOfRow_43 : decode cX8_sumOfRow 43 = .ok (.getfield 7, 3) := by decide +kernel
theorem dX8_sumOfRow_46 : decode cX8_sumOfRow 46 = .ok (.iload 5, 2) := by decide +kernel
theorem dX8_sumOfRow_48 : decode cX8_sumOfRow 48 = .ok (.iaload, 1) := by decide +kernel
theorem dX8_sumOfRow_49 : decode cX8_sumOfRow 49 = .ok (.imul, 1) := by decide +kernel
theorem dX8_sumOfRow_50 : decode cX8_sumOfRow 50 = .ok (.bipush 7, 2) := by decide +kernel
theorem dX8_sumOfRow_52 : decode cX8_sumOfRow 52 = .ok (.aload_n 0, 1) := by decide +kernel
theorem dX8_sumOfRow_53 : decode cX8_sumOfRow 53 = .ok (.getfield 13, 3) := by decide +kernel
theorem dX8_sumOfRow_56 : decode cX8_sumOfRow 56 = .ok (.iload 5, 2) := by decide +kernel
theorem dX8_sumOfRow_58 : decode cX8_sumOfRow 58 = .ok (.iaload, 1) := by decide +kernel
theorem dX8_sumOfRow_59 : decode cX8_sumOfRow 59 = .ok (.imul, 1) := by decide +kernel
theorem dX8_sumOfRow_60 : decode cX8_sumOfRow 60 = .ok (.iadd, 1) := by decide +kernel
theorem dX8_sumOfRow_61 : decode cX8_sumOfRow 61 = .ok (.aload_n 0, 1) := by decide +kernel
theorem dX8_sumOfRow_62 : decode cX8_sumOfRow 62 = .ok (.getfield 16, 3) := by decide +kernel
theorem dX8_sumOfRow_65 : decode cX8_sumOfRow 65 = .ok (.iload 5, 2) := by decide +kernel
theorem dX8_sumOfRow_67 : decode cX8_sumOfRow 67 = .ok (.iaload, 1) := by decide +kernel
theorem dX8_sumOfRow_68 : decode cX8_sumOfRow 68 = .ok (.iconst (-1), 1) := by decide +kernel
theorem dX8_sumOfRow_69 : decode cX8_sumOfRow 69 = .ok (.if_icmp .ne 9, 3) := by decide +kernel
theorem dX8_sumOfRow_72 : decode cX8_sumOfRow 72 = .ok (.sipush 20000, 3) := by decide +kernel
theorem dX8_sumOfRow_75 : decode cX8_sumOfRow 75 = .ok (.goto 10, 3) := by decide +kernel
theorem dX8_sumOfRow_78 : decode cX8_sumOfRow 78 = .ok (.aload_n 0, 1) := by decide +kernel
theorem dX8_sumOfRow_79 : decode cX8_sumOfRow 79 = .ok (.getfield 16, 3) := by decide +kernel
theorem dX8_sumOfRow_82 : decode cX8_sumOfRow 82 = .ok (.iload 5, 2) := by decide +kernel
theorem dX8_sumOfRow_84 : decode cX8_sumOfRow 84 = .ok (.iaload, 1) := by decide +kernel
theorem dX8_sumOfRow_85 : decode cX8_sumOfRow 85 = .ok (.iadd, 1) := by decide +kernel
theorem dX8_sumOfRow_86 : decode cX8_sumOfRow 86 = .ok (.iload 4, 2) := by decide +kernel
theorem dX8_sumOfRow_88 : decode cX8_sumOfRow 88 = .ok (.iadd, 1) := by decide +kernel
theorem dX8_sumOfRow_89 : decode cX8_sumOfRow 89 = .ok (.iconst 1, 1) := by decide +kernel
theorem dX8_sumOfRow_90 : decode cX8_sumOfRow 90 = .ok (.iadd, 1) := by decide +kernel
theorem dX8_sumOfRow_91 : decode cX8_sumOfRow 91 = .ok (.iadd, 1) := by decide +kernel
theorem dX8_sumOfRow_92 : decode cX8_sumOfRow 92 = .ok (.istore_n 3, 1) := by decide +kernel
theorem dX8_sumOfRow_93 : decode cX8_sumOfRow 93 = .ok (.iinc 4 1, 3) := by decide +kernel
theorem dX8_sumOfRow_96 : decode cX8_sumOfRow 96 = .ok (.goto (-91), 3) := by decide +kernel
theorem dX8_sumOfRow_99 : decode cX8_sumOfRow 99 = .ok (.iconst 0, 1) := by decide +kernel
theorem dX8_sumOfRow_100 : decode cX8_sumOfRow 100 = .ok (.istore 4, 2) := by decide +kernel
theorem dX8_sumOfRow_102 : decode cX8_sumOfRow 102 = .ok (.iload 4, 2) := by decide +kernel
theorem dX8_sumOfRow_104 : decode cX8_sumOfRow 104 = .ok (.bipush 92, 2) := by decide +kernel
theorem dX8_sumOfRow_106 : decode cX8_sumOfRow 106 = .ok (.if_icmp .ge 142, 3) := by decide +kernel
theorem dX8_sumOfRow_109 : decode cX8_sumOfRow 109 = .ok (.bipush 92, 2) := by decide +kernel
theorem dX8_sumOfRow_111 : decode cX8_sumOfRow 111 = .ok (.iload_n 1, 1) := by decide +kernel
theorem dX8_sumOfRow_112 : decode cX8_sumOfRow 112 = .ok (.imul, 1) := by decide +kernel
theorem dX8_sumOfRow_113 : decode cX8_sumOfRow 113 = .ok (.iload 4, 2) := by decide +kernel
theorem dX8_sumOfRow_115 : decode cX8_sumOfRow 115 = .ok (.iadd, 1) := by decide +kernel
theorem dX8_sumOfRow_116 : decode cX8_sumOfRow 116 = .ok (.istore 5, 2) := by decide +kernel
theorem dX8_sumOfRow_118 : decode cX8_sumOfRow 118 = .ok (.aload_n 0, 1) := by decide +kernel
theorem dX8_sumOfRow_119 : decode cX8_sumOfRow 119 = .ok (.getfield 19, 3) := by decide +kernel
theorem dX8_sumOfRow_122 : decode cX8_sumOfRow 122 = .ok (.iload 5, 2) := by decide +kernel
theorem dX8_sumOfRow_124 : decode cX8_sumOfRow 124 = .ok (.iaload, 1) := by decide +kernel
theorem dX8_sumOfRow_125 : decode cX8_sumOfRow 125 = .ok (.iconst (-1), 1) := by decide +kernel
theorem dX8_sumOfRow_126 : decode cX8_sumOfRow 126 = .ok (.if_icmp .eq 116, 3) := by decide +kernel
theorem dX8_sumOfRow_129 : decode cX8_sumOfRow 129 = .ok (.aload_n 0, 1) := by decide +kernel
theorem dX8_sumOfRow_130 : decode cX8_sumOfRow 130 = .ok (.iload 4, 2) := by decide +kernel
theorem dX8_sumOfRow_132 : decode cX8_sumOfRow 132 = .ok (.iload_n 2, 1) := by decide +kernel
theorem dX8_sumOfRow_133 : decode cX8_sumOfRow 133 = .ok (.invokevirtual 126, 3) := by decide +kernel
theorem dX8_sumOfRow_136 : decode cX8_sumOfRow 136 = .ok (.ifCond .eq 106, 3) := by decide +kernel
theorem dX8_sumOfRow_139 : decode cX8_sumOfRow 139 = .ok (.iload 4, 2) := by decide +kernel
theorem dX8_sumOfRow_141 : decode cX8_sumOfRow 141 = .ok (.bipush 64, 2) := by decide +kernel
theorem dX8_sumOfRow_143 : decode cX8_sumOfRow 143 = .ok (.if_icmp .ge 12, 3) := by decide +kernel
theorem dX8_sumOfRow_146 : decode cX8_sumOfRow 146 = .ok (.iconst 3, 1) := by decide +kernel
theorem dX8_sumOfRow_147 : decode cX8_sumOfRow 147 = .ok (.iload 4, 2) := by decide +kernel
theorem dX8_sumOfRow_149 : decode cX8_sumOfRow 149 = .ok (.iconst 4, 1) := by decide +kernel
theorem dX8_sumOfRow_150 : decode cX8_sumOfRow 150 = .ok (.irem, 1) := by decide +kernel
theorem dX8_sumOfRow_151 : decode cX8_sumOfRow 151 = .ok (.iadd, 1) := by decide +kernel
theorem dX8_sumOfRow_152 : decode cX8_sumOfRow 152 = .ok (.goto 62, 3) := by decide +kernel
theorem dX8_sumOfRow_155 : decode cX8_sumOfRow 155 = .ok (.iload 4, 2) := by decide +kernel
theorem dX8_sumOfRow_157 : decode cX8_sumOfRow 157 = .ok (.bipush 68, 2) := by decide +kernel
theorem dX8_sumOfRow_159 : decode cX8_sumOfRow 159 = .ok (.if_icmp .ge 13, 3) := by decide +kernel
theorem dX8_sumOfRow_162 : decode cX8_sumOfRow 162 = .ok (.iconst 5, 1) := by decide +kernel
theorem dX8_sumOfRow_163 : decode cX8_sumOfRow 163 = .ok (.iload 4, 2) := by decide +kernel
theorem dX8_sumOfRow_165 : decode cX8_sumOfRow 165 = .ok (.iadd, 1) := by decide +kernel
theorem dX8_sumOfRow_166 : decode cX8_sumOfRow 166 = .ok (.bipush 64, 2) := by decide +kernel
theorem dX8_sumOfRow_168 : decode cX8_sumOfRow 168 = .ok (.isub, 1) := by decide +kernel
theorem dX8_sumOfRow_169 : decode cX8_sumOfRow 169 = .ok (.goto 45, 3) := by decide +kernel
theorem dX8_sumOfRow_172 : decode cX8_sumOfRow 172 = .ok (.iload 4, 2) := by decide +kernel
theorem dX8_sumOfRow_174 : decode cX8_sumOfRow 174 = .ok (.bipush 84, 2) := by decide +kernel
theorem dX8_sumOfRow_176 : decode cX8_sumOfRow 176 = .ok (.if_icmp .ge 8, 3) := by decide +kernel
theorem dX8_sumOfRow_179 : decode cX8_sumOfRow 179 = .ok (.bipush 7, 2) := by decide +kernel
theorem dX8_sumOfRow_181 : decode cX8_sumOfRow 181 = .ok (.goto 33, 3) := by decide +kernel
theorem dX8_sumOfRow_184 : decode cX8_sumOfRow 184 = .ok (.bipush 11, 2) := by decide +kernel
theorem dX8_sumOfRow_186 : decode cX8_sumOfRow 186 = .ok (.bipush 17, 2) := by decide +kernel
theorem dX8_sumOfRow_188 : decode cX8_sumOfRow 188 = .ok (.aload_n 0, 1) := by decide +kernel
theorem dX8_sumOfRow_189 : decode cX8_sumOfRow 189 = .ok (.getfield 25, 3) := by decide +kernel
theorem dX8_sumOfRow_192 : decode cX8_sumOfRow 192 = .ok (.iload 4, 2) := by decide +kernel
theorem dX8_sumOfRow_194 : decode cX8_sumOfRow 194 = .ok (.bipush 84, 2) := by decide +kernel
theorem dX8_sumOfRow_196 : decode cX8_sumOfRow 196 = .ok (.isub, 1) := by decide +kernel
theorem dX8_sumOfRow_197 : decode cX8_sumOfRow 197 = .ok (.iaload, 1) := by decide +kernel
theorem dX8_sumOfRow_198 : decode cX8_sumOfRow 198 = .ok (.imul, 1) := by decide +kernel
theorem dX8_sumOfRow_199 : decode cX8_sumOfRow 199 = .ok (.iadd, 1) := by decide +kernel
theorem dX8_sumOfRow_200 : decode cX8_sumOfRow 200 = .ok (.bipush 19, 2) := by decide +kernel
theorem dX8_sumOfRow_202 : decode cX8_sumOfRow 202 = .ok (.aload_n 0, 1) := by decide +kernel
theorem dX8_sumOfRow_203 : decode cX8_sumOfRow 203 = .ok (.getfield 28, 3) := by decide +kernel
theorem dX8_sumOfRow_206 : decode cX8_sumOfRow 206 = .ok (.iload 4, 2) := by decide +kernel
theorem dX8_sumOfRow_208 : decode cX8_sumOfRow 208 = .ok (.bipush 84, 2) := by decide +kernel
theorem dX8_sumOfRow_210 : decode cX8_sumOfRow 210 = .ok (.isub, 1) := by decide +kernel
theorem dX8_sumOfRow_211 : decode cX8_sumOfRow 211 = .ok (.iaload, 1) := by decide +kernel
theorem dX8_sumOfRow_212 : decode cX8_sumOfRow 212 = .ok (.imul, 1) := by decide +kernel
theorem dX8_sumOfRow_213 : decode cX8_sumOfRow 213 = .ok (.iadd, 1) := by decide +kernel
theorem dX8_sumOfRow_214 : decode cX8_sumOfRow 214 = .ok (.istore 6, 2) := by decide +kernel
theorem dX8_sumOfRow_216 : decode cX8_sumOfRow 216 = .ok (.iload_n 3, 1) := by decide +kernel
theorem dX8_sumOfRow_217 : decode cX8_sumOfRow 217 = .ok (.bipush 13, 2) := by decide +kernel
theorem dX8_sumOfRow_219 : decode cX8_sumOfRow 219 = .ok (.aload_n 0, 1) := by decide +kernel
theorem dX8_sumOfRow_220 : decode cX8_sumOfRow 220 = .ok (.getfield 19, 3) := by decide +kernel
theorem dX8_sumOfRow_223 : decode cX8_sumOfRow 223 = .ok (.iload 5, 2) := by decide +kernel
theorem dX8_sumOfRow_225 : decode cX8_sumOfRow 225 = .ok (.iaload, 1) := by decide +kernel
theorem dX8_sumOfRow_226 : decode cX8_sumOfRow 226 = .ok (.imul, 1) := by decide +kernel
theorem dX8_sumOfRow_227 : decode cX8_sumOfRow 227 = .ok (.iconst 5, 1) := by decide +kernel
theorem dX8_sumOfRow_228 : decode cX8_sumOfRow 228 = .ok (.aload_n 0, 1) := by decide +kernel
theorem dX8_sumOfRow_229 : decode cX8_sumOfRow 229 = .ok (.getfield 22, 3) := by decide +kernel
theorem dX8_sumOfRow_232 : decode cX8_sumOfRow 232 = .ok (.iload 5, 2) := by decide +kernel
theorem dX8_sumOfRow_234 : decode cX8_sumOfRow 234 = .ok (.iaload, 1) := by decide +kernel
theorem dX8_sumOfRow_235 : decode cX8_sumOfRow 235 = .ok (.imul, 1) := by decide +kernel
theorem dX8_sumOfRow_236 : decode cX8_sumOfRow 236 = .ok (.iadd, 1) := by decide +kernel
theorem dX8_sumOfRow_237 : decode cX8_sumOfRow 237 = .ok (.iload 6, 2) := by decide +kernel
theorem dX8_sumOfRow_239 : decode cX8_sumOfRow 239 = .ok (.iadd, 1) := by decide +kernel
theorem dX8_sumOfRow_240 : decode cX8_sumOfRow 240 = .ok (.iadd, 1) := by decide +kernel
theorem dX8_sumOfRow_241 : decode cX8_sumOfRow 241 = .ok (.istore_n 3, 1) := by decide +kernel
theorem dX8_sumOfRow_242 : decode cX8_sumOfRow 242 = .ok (.iinc 4 1, 3) := by decide +kernel
theorem dX8_sumOfRow_245 : decode cX8_sumOfRow 245 = .ok (.goto (-143), 3) := by decide +kernel
theorem dX8_sumOfRow_248 : decode cX8_sumOfRow 248 = .ok (.iload_n 3, 1) := by decide +kernel
theorem dX8_sumOfRow_249 : decode cX8_sumOfRow 249 = .ok (.ldc 129, 2) := by decide +kernel
theorem dX8_sumOfRow_251 : decode cX8_sumOfRow 251 = .ok (.irem, 1) := by decide +kernel
theorem dX8_sumOfRow_252 : decode cX8_sumOfRow 252 = .ok (.ireturn, 1) := by decide +kernel
set_option maxRecDepth 20000 in
theorem ggX8_sumOfNode_X8_sumOfRow : GoodIn wsX8_sumOfNode wsX8_sumOfRow := goodIn_r _ [6, 7, 8, 9, 10, 11, 12, 13, 1, 14, 15, 16, 5, 17, 18, 19, 20, 21, 22, 23, 24, 25, 26, 27, 28, 29, 30, 31, 32, 33, 34, 35, 36, 37, 38, 39, 40, 41, 42, 43, 44] (by decide +kernel) (by decide +kernel)
set_option maxRecDepth 20000 in
theorem gX8_sumOfNode_X8_sumOfRow : GoodIn wsX8_sumOfNode (wsV RX8 130 RX8 yX8_sumOfRow wsX8_sumOfRow) := goodIn_app (goodIn_of _ (by decide +kernel)) ggX8_sumOfNode_X8_sumOfRow
theorem dX8_sumOfNode_0 : decode cX8_sumOfNode 0 = .ok (.bipush 16, 2) := by decide +kernel
theorem dX8_sumOfNode_2 : decode cX8_sumOfNode 2 = .ok (.iload_n 2, 1) := by decide +kernel
theorem dX8_sumOfNode_3 : decode cX8_sumOfNode 3 = .ok (.ishr, 1) := by decide +kernel
theorem dX8_sumOfNode_4 : decode cX8_sumOfNode 4 = .ok (.istore 4, 2) := by decide +kernel
theorem dX8_sumOfNode_6 : decode cX8_sumOfNode 6 = .ok (.iconst 0, 1) := by decide +kernel
theorem dX8_sumOfNode_7 : decode cX8_sumOfNode 7 = .ok (.istore 5, 2) := by decide +kernel
theorem dX8_sumOfNode_9 : decode cX8_sumOfNode 9 = .ok (.iload 4, 2) := by decide +kernel
theorem dX8_sumOfNode_11 : decode cX8_sumOfNode 11 = .ok (.iload_n 3, 1) := by decide +kernel
theorem dX8_sumOfNode_12 : decode cX8_sumOfNode 12 = .ok (.imul, 1) := by decide +kernel
theorem dX8_sumOfNode_13 : decode cX8_sumOfNode 13 = .ok (.istore 6, 2) := by decide +kernel
theorem dX8_sumOfNode_15 : decode cX8_sumOfNode 15 = .ok (.iload 6, 2) := by decide +kernel
theorem dX8_sumOfNode_17 : decode cX8_sumOfNode 17 = .ok (.iload 4, 2) := by decide +kernel
theorem dX8_sumOfNode_19 : decode cX8_sumOfNode 19 = .ok (.iload_n 3, 1) := by decide +kernel
theorem dX8_sumOfNode_20 : decode cX8_sumOfNode 20 = .ok (.imul, 1) := by decide +kernel
theorem dX8_sumOfNode_21 : decode cX8_sumOfNode 21 = .ok (.iload 4, 2) := by decide +kernel
theorem dX8_sumOfNode_23 : decode cX8_sumOfNode 23 = .ok (.iadd, 1) := by decide +kernel
theorem dX8_sumOfNode_24 : decode cX8_sumOfNode 24 = .ok (.if_icmp .ge 21, 3) := by decide +kernel
theorem dX8_sumOfNode_27 : decode cX8_sumOfNode 27 = .ok (.iload 5, 2) := by decide +kernel
theorem dX8_sumOfNode_29 : decode cX8_sumOfNode 29 = .ok (.aload_n 0, 1) := by decide +kernel
theorem dX8_sumOfNode_30 : decode cX8_sumOfNode 30 = .ok (.iload_n 1, 1) := by decide +kernel
theorem dX8_sumOfNode_31 : decode cX8_sumOfNode 31 = .ok (.iload 6, 2) := by decide +kernel
theorem dX8_sumOfNode_33 : decode cX8_sumOfNode 33 = .ok (.invokevirtual 130, 3) := by decide +kernel
theorem dX8_sumOfNode_36 : decode cX8_sumOfNode 36 = .ok (.iadd, 1) := by decide +kernel
theorem dX8_sumOfNode_37 : decode cX8_sumOfNode 37 = .ok (.istore 5, 2) := by decide +kernel
theorem dX8_sumOfNode_39 : decode cX8_sumOfNode 39 = .ok (.iinc 6 1, 3) := by decide +kernel
theorem dX8_sumOfNode_42 : decode cX8_sumOfNode 42 = .ok (.goto (-27), 3) := by decide +kernel
theorem dX8_sumOfNode_45 : decode cX8_sumOfNode 45 = .ok (.iload 5, 2) := by decide +kernel
theorem dX8_sumOfNode_47 : decode cX8_sumOfNode 47 = .ok (.ldc 129, 2) := by decide +kernel
theorem dX8_sumOfNode_49 : decode cX8_sumOfNode 49 = .ok (.irem, 1) := by decide +kernel
theorem dX8_sumOfNode_50 : decode cX8_sumOfNode 50 = .ok (.ireturn, 1) := by decide +kernel
set_option maxRecDepth 20000 in
theorem ggX8_compares_X8_sumOfNode : GoodIn wsX8_compares wsX8_sumOfNode := goodIn_r _ [6, 7, 8, 9, 10, 5, 11, 12, 13, 14, 15, 16, 17, 18, 19, 20, 21, 22, 23, 24, 25, 26, 27, 28, 29, 30, 31, 32, 33, 34, 35, 36, 37, 38, 39, 40, 41, 42, 43, 44, 45, 46, 47, 48, 49] (by decide +kernel) (by decide +kernel)
set_option maxRecDepth 20000 in
theorem gX8_compares_X8_sumOfNode : GoodIn wsX8_compares (wsV RX8 137 RX8 yX8_sumOfNode wsX8_sumOfNode) := goodIn_app (goodIn_of _ (by decide +kernel)) ggX8_compares_X8_sumOfNode
theorem dX8_compares_0 : decode cX8_compares 0 = .ok (.iconst 1, 1) := by decide +kernel
theorem dX8_compares_1 : decode cX8_compares 1 = .ok (.istore_n 3, 1) := by decide +kernel
theorem dX8_compares_2 : decode cX8_compares 2 = .ok (.aload_n 0, 1) := by decide +kernel
theorem dX8_compares_3 : decode cX8_compares 3 = .ok (.iconst 0, 1) := by decide +kernel
theorem dX8_compares_4 : decode cX8_compares 4 = .ok (.putfield 134, 3) := by decide +kernel
theorem dX8_compares_7 : decode cX8_compares 7 = .ok (.iconst 0, 1) := by decide +kernel
theorem dX8_compares_8 : decode cX8_compares 8 = .ok (.istore 4, 2) := by decide +kernel
theorem dX8_compares_10 : decode cX8_compares 10 = .ok (.iload 4, 2) := by decide +kernel
theorem dX8_compares_12 : decode cX8_compares 12 = .ok (.iconst 5, 1) := by decide +kernel
theorem dX8_compares_13 : decode cX8_compares 13 = .ok (.if_icmp .ge 114, 3) := by decide +kernel
theorem dX8_compares_16 : decode cX8_compares 16 = .ok (.iconst 0, 1) := by decide +kernel
theorem dX8_compares_17 : decode cX8_compares 17 = .ok (.istore 5, 2) := by decide +kernel
theorem dX8_compares_19 : decode cX8_compares 19 = .ok (.iconst 0, 1) := by decide +kernel
theorem dX8_compares_20 : decode cX8_compares 20 = .ok (.istore 6, 2) := by decide +kernel
theorem dX8_compares_22 : decode cX8_compares 22 = .ok (.iload 6, 2) := by decide +kernel
theorem dX8_compares_24 : decode cX8_compares 24 = .ok (.iconst 1, 1) := by decide +kernel
theorem dX8_compares_25 : decode cX8_compares 25 = .ok (.iload 4, 2) := by decide +kernel
theorem dX8_compares_27 : decode cX8_compares 27 = .ok (.ishl, 1) := by decide +kernel
theorem dX8_compares_28 : decode cX8_compares 28 = .ok (.if_icmp .ge 90, 3) := by decide +kernel
theorem dX8_compares_31 : decode cX8_compares 31 = .ok (.iload_n 3, 1) := by decide +kernel
theorem dX8_compares_32 : decode cX8_compares 32 = .ok (.iload 6, 2) := by decide +kernel
theorem dX8_compares_34 : decode cX8_compares 34 = .ok (.ishr, 1) := by decide +kernel
theorem dX8_compares_35 : decode cX8_compares 35 = .ok (.iconst 1, 1) := by decide +kernel
theorem dX8_compares_36 : decode cX8_compares 36 = .ok (.iand, 1) := by decide +kernel
theorem dX8_compares_37 : decode cX8_compares 37 = .ok (.iconst 1, 1) := by decide +kernel
theorem dX8_compares_38 : decode cX8_compares 38 = .ok (.if_icmp .ne 74, 3) := by decide +kernel
theorem dX8_compares_41 : decode cX8_compares 41 = .ok (.aload_n 0, 1) := by decide +kernel
theorem dX8_compares_42 : decode cX8_compares 42 = .ok (.dup, 1) := by decide +kernel
theorem dX8_compares_43 : decode cX8_compares 43 = .ok (.getfield 134, 3) := by decide +kernel
theorem dX8_compares_46 : decode cX8_compares 46 = .ok (.iconst 1, 1) := by decide +kernel
theorem dX8_compares_47 : decode cX8_compares 47 = .ok (.iadd, 1) := by decide +kernel
theorem dX8_compares_48 : decode cX8_compares 48 = .ok (.putfield 134, 3) := by decide +kernel
theorem dX8_compares_51 : decode cX8_compares 51 = .ok (.aload_n 0, 1) := by decide +kernel
theorem dX8_compares_52 : decode cX8_compares 52 = .ok (.iload_n 1, 1) := by decide +kernel
theorem dX8_compares_53 : decode cX8_compares 53 = .ok (.iload 4, 2) := by decide +kernel
theorem dX8_compares_55 : decode cX8_compares 55 = .ok (.iload 6, 2) := by decide +kernel
theorem dX8_compares_57 : decode cX8_compares 57 = .ok (.invokevirtual 137, 3) := by decide +kernel
theorem dX8_compares_60 : decode cX8_compares 60 = .ok (.aload_n 0, 1) := by decide +kernel
theorem dX8_compares_61 : decode cX8_compares 61 = .ok (.iload_n 2, 1) := by decide +kernel
theorem dX8_compares_62 : decode cX8_compares 62 = .ok (.iload 4, 2) := by decide +kernel
theorem dX8_compares_64 : decode cX8_compares 64 = .ok (.iload 6, 2) := by decide +kernel
theorem dX8_compares_66 : decode cX8_compares 66 = .ok (.invokevirtual 137, 3) := by decide +kernel
theorem dX8_compares_69 : decode cX8_compares 69 = .ok (.if_icmp .eq 7, 3) := by decide +kernel
theorem dX8_compares_72 : decode cX8_compares 72 = .ok (.iconst 1, 1) := by decide +kernel
theorem dX8_compares_73 : decode cX8_compares 73 = .ok (.goto 4, 3) := by decide +kernel
theorem dX8_compares_76 : decode cX8_compares 76 = .ok (.iconst 0, 1) := by decide +kernel
theorem dX8_compares_77 : decode cX8_compares 77 = .ok (.istore 7, 2) := by decide +kernel
theorem dX8_compares_79 : decode cX8_compares 79 = .ok (.iload 5, 2) := by decide +kernel
theorem dX8_compares_81 : decode cX8_compares 81 = .ok (.iload 7, 2) := by decide +kernel
theorem dX8_compares_83 : decode cX8_compares 83 = .ok (.ifCond .ne 7, 3) := by decide +kernel
theorem dX8_compares_86 : decode cX8_compares 86 = .ok (.iconst 0, 1) := by decide +kernel
theorem dX8_compares_87 : decode cX8_compares 87 = .ok (.goto 22, 3) := by decide +kernel
theorem dX8_compares_90 : decode cX8_compares 90 = .ok (.iload 4, 2) := by decide +kernel
theorem dX8_compares_92 : decode cX8_compares 92 = .ok (.iconst 4, 1) := by decide +kernel
theorem dX8_compares_93 : decode cX8_compares 93 = .ok (.if_icmp .ne 10, 3) := by decide +kernel
theorem dX8_compares_96 : decode cX8_compares 96 = .ok (.iconst 1, 1) := by decide +kernel
theorem dX8_compares_97 : decode cX8_compares 97 = .ok (.iload 6, 2) := by decide +kernel
theorem dX8_compares_99 : decode cX8_compares 99 = .ok (.ishl, 1) := by decide +kernel
theorem dX8_compares_100 : decode cX8_compares 100 = .ok (.goto 9, 3) := by decide +kernel
theorem dX8_compares_103 : decode cX8_compares 103 = .ok (.iconst 3, 1) := by decide +kernel
theorem dX8_compares_104 : decode cX8_compares 104 = .ok (.iconst 2, 1) := by decide +kernel
theorem dX8_compares_105 : decode cX8_compares 105 = .ok (.iload 6, 2) := by decide +kernel
theorem dX8_compares_107 : decode cX8_compares 107 = .ok (.imul, 1) := by decide +kernel
theorem dX8_compares_108 : decode cX8_compares 108 = .ok (.ishl, 1) := by decide +kernel
theorem dX8_compares_109 : decode cX8_compares 109 = .ok (.ior, 1) := by decide +kernel
theorem dX8_compares_110 : decode cX8_compares 110 = .ok (.istore 5, 2) := by decide +kernel
theorem dX8_compares_112 : decode cX8_compares 112 = .ok (.iinc 6 1, 3) := by decide +kernel
theorem dX8_compares_115 : decode cX8_compares 115 = .ok (.goto (-93), 3) := by decide +kernel
theorem dX8_compares_118 : decode cX8_compares 118 = .ok (.iload 5, 2) := by decide +kernel
theorem dX8_compares_120 : decode cX8_compares 120 = .ok (.istore_n 3, 1) := by decide +kernel
theorem dX8_compares_121 : decode cX8_compares 121 = .ok (.iinc 4 1, 3) := by decide +kernel
theorem dX8_compares_124 : decode cX8_compares 124 = .ok (.goto (-114), 3) := by decide +kernel
theorem dX8_compares_127 : decode cX8_compares 127 = .ok (.iload_n 3, 1) := by decide +kernel
theorem dX8_compares_128 : decode cX8_compares 128 = .ok (.ireturn, 1) := by decide +kernel
set_option maxRecDepth 20000 in
theorem ggX8_makeAlike_X8_isCopy : GoodIn wsX8_makeAlike wsX8_isCopy := goodIn_r _ [5, 6, 7, 4, 8] (by decide +kernel) (by decide +kernel)
set_option maxRecDepth 20000 in
theorem gX8_makeAlike_X8_isCopy : GoodIn wsX8_makeAlike (va_wsS RX8 97 yX8_isCopy wsX8_isCopy) := goodIn_app (goodIn_of _ (by decide +kernel)) ggX8_makeAlike_X8_isCopy
set_option maxRecDepth 20000 in
theorem ggX8_makeAlike_X8_can : GoodIn wsX8_makeAlike wsX8_can := goodIn_r _ [12, 13, 63, 64, 65, 66, 67, 68, 69, 70, 71, 72, 73, 74, 75, 76, 77, 78, 79, 80, 81] (by decide +kernel) (by decide +kernel)
set_option maxRecDepth 20000 in
theorem gX8_makeAlike_X8_can : GoodIn wsX8_makeAlike (wsV RX8 79 RX8 yX8_can wsX8_can) := goodIn_app (goodIn_of _ (by decide +kernel)) ggX8_makeAlike_X8_can
set_option maxRecDepth 20000 in
theorem ggX8_makeAlike_X8_compares : GoodIn wsX8_makeAlike wsX8_compares := goodIn_r _ [17, 18, 19, 20, 21, 4, 22, 23, 24, 25, 26, 27, 28, 29, 30, 31, 32, 33, 34, 35, 36, 37, 38, 39, 40, 41, 42, 43, 6, 7, 8, 63, 64, 65, 66, 67, 68, 69, 70, 71, 72, 73, 74, 75, 76, 77, 78, 79, 80, 81] (by decide +kernel) (by decide +kernel)
set_option maxRecDepth 20000 in
theorem gX8_makeAlike_X8_compares : GoodIn wsX8_makeAlike (wsV RX8 140 RX8 yX8_compares wsX8_compares) := goodIn_app (goodIn_of _ (by decide +kernel)) ggX8_makeAlike_X8_compares
set_option maxRecDepth 20000 in
theorem ggX8_makeAlike_X8_gives : GoodIn wsX8_makeAlike wsX8_gives := goodIn_r _ [47, 28, 29, 30, 48, 49, 50, 4, 51, 52, 53, 54, 63, 64, 65, 66, 67, 68, 69, 70, 71, 72, 73, 74, 75, 76, 77, 78, 79, 80, 81] (by decide +kernel) (by decide +kernel)
set_option maxRecDepth 20000 in
theorem gX8_makeAlike_X8_gives : GoodIn wsX8_makeAlike (wsV RX8 110 RX8 yX8_gives wsX8_gives) := goodIn_app (goodIn_of _ (by decide +kernel)) ggX8_makeAlike_X8_gives
set_option maxRecDepth 20000 in
theorem ggX8_makeAlike_X8_touches : GoodIn wsX8_makeAlike wsX8_touches := goodIn_r _ [38, 39, 40, 41, 4, 42, 43, 32, 33, 6, 7, 8, 63, 64, 65, 66, 67, 68, 69, 70, 71, 72, 73, 74, 75, 76, 77, 78, 79, 80, 81] (by decide +kernel) (by decide +kernel)
set_option maxRecDepth 20000 in
theorem gX8_makeAlike_X8_touches : GoodIn wsX8_makeAlike (wsV RX8 126 RX8 yX8_touches wsX8_touches) := goodIn_app (goodIn_of _ (by decide +kernel)) ggX8_makeAlike_X8_touches
set_option maxRecDepth 20000 in
theorem ggX8_makeAlike_X8_givesTomb : GoodIn wsX8_makeAlike wsX8_givesTomb := goodIn_r _ [58, 31, 34, 59, 60, 61, 4, 62, 63, 64, 65, 66, 67, 68, 69, 70, 71, 72, 73, 74, 75, 76, 77, 78, 79, 80, 81] (by decide +kernel) (by decide +kernel)
set_option maxRecDepth 20000 in
theorem gX8_makeAlike_X8_givesTomb : GoodIn wsX8_makeAlike (wsV RX8 117 RX8 yX8_givesTomb wsX8_givesTomb) := goodIn_app (goodIn_of _ (by decide +kernel)) ggX8_makeAlike_X8_givesTomb
theorem dX8_makeAlike_0 : decode cX8_makeAlike 0 = .ok (.aload_n 0, 1) := by decide +kernel
theorem dX8_makeAlike_1 : decode cX8_makeAlike 1 = .ok (.iload_n 1, 1) := by decide +kernel
theorem dX8_makeAlike_2 : decode cX8_makeAlike 2 = .ok (.invokestatic 97, 3) := by decide +kernel
theorem dX8_makeAlike_5 : decode cX8_makeAlike 5 = .ok (.ifCond .eq 10, 3) := by decide +kernel
theorem dX8_makeAlike_8 : decode cX8_makeAlike 8 = .ok (.iload_n 2, 1) := by decide +kernel
theorem dX8_makeAlike_9 : decode cX8_makeAlike 9 = .ok (.invokestatic 97, 3) := by decide +kernel
theorem dX8_makeAlike_12 : decode cX8_makeAlike 12 = .ok (.ifCond .ne 7, 3) := by decide +kernel
theorem dX8_makeAlike_15 : decode cX8_makeAlike 15 = .ok (.iconst 1, 1) := by decide +kernel
theorem dX8_makeAlike_16 : decode cX8_makeAlike 16 = .ok (.goto 35, 3) := by decide +kernel
theorem dX8_makeAlike_19 : decode cX8_makeAlike 19 = .ok (.iload_n 1, 1) := by decide +kernel
theorem dX8_makeAlike_20 : decode cX8_makeAlike 20 = .ok (.iload_n 2, 1) := by decide +kernel
theorem dX8_makeAlike_21 : decode cX8_makeAlike 21 = .ok (.if_icmp .ne 7, 3) := by decide +kernel
theorem dX8_makeAlike_24 : decode cX8_makeAlike 24 = .ok (.iconst 2, 1) := by decide +kernel
theorem dX8_makeAlike_25 : decode cX8_makeAlike 25 = .ok (.goto 26, 3) := by decide +kernel
theorem dX8_makeAlike_28 : decode cX8_makeAlike 28 = .ok (.aload_n 0, 1) := by decide +kernel
theorem dX8_makeAlike_29 : decode cX8_makeAlike 29 = .ok (.getfield 31, 3) := by decide +kernel
theorem dX8_makeAlike_32 : decode cX8_makeAlike 32 = .ok (.iload_n 1, 1) := by decide +kernel
theorem dX8_makeAlike_33 : decode cX8_makeAlike 33 = .ok (.baload, 1) := by decide +kernel
theorem dX8_makeAlike_34 : decode cX8_makeAlike 34 = .ok (.ifCond .eq 16, 3) := by decide +kernel
theorem dX8_makeAlike_37 : decode cX8_makeAlike 37 = .ok (.aload_n 0, 1) := by decide +kernel
theorem dX8_makeAlike_38 : decode cX8_makeAlike 38 = .ok (.getfield 31, 3) := by decide +kernel
theorem dX8_makeAlike_41 : decode cX8_makeAlike 41 = .ok (.iload_n 2, 1) := by decide +kernel
theorem dX8_makeAlike_42 : decode cX8_makeAlike 42 = .ok (.baload, 1) := by decide +kernel
theorem dX8_makeAlike_43 : decode cX8_makeAlike 43 = .ok (.ifCond .eq 7, 3) := by decide +kernel
theorem dX8_makeAlike_46 : decode cX8_makeAlike 46 = .ok (.iconst 0, 1) := by decide +kernel
theorem dX8_makeAlike_47 : decode cX8_makeAlike 47 = .ok (.goto 4, 3) := by decide +kernel
theorem dX8_makeAlike_50 : decode cX8_makeAlike 50 = .ok (.iconst 3, 1) := by decide +kernel
theorem dX8_makeAlike_51 : decode cX8_makeAlike 51 = .ok (.invokevirtual 79, 3) := by decide +kernel
theorem dX8_makeAlike_54 : decode cX8_makeAlike 54 = .ok (.ifCond .ne 5, 3) := by decide +kernel
theorem dX8_makeAlike_57 : decode cX8_makeAlike 57 = .ok (.iconst 0, 1) := by decide +kernel
theorem dX8_makeAlike_58 : decode cX8_makeAlike 58 = .ok (.ireturn, 1) := by decide +kernel
theorem dX8_makeAlike_59 : decode cX8_makeAlike 59 = .ok (.aload_n 0, 1) := by decide +kernel
theorem dX8_makeAlike_60 : decode cX8_makeAlike 60 = .ok (.iload_n 1, 1) := by decide +kernel
theorem dX8_makeAlike_61 : decode cX8_makeAlike 61 = .ok (.iload_n 2, 1) := by decide +kernel
theorem dX8_makeAlike_62 : decode cX8_makeAlike 62 = .ok (.invokevirtual 140, 3) := by decide +kernel
theorem dX8_makeAlike_65 : decode cX8_makeAlike 65 = .ok (.istore_n 3, 1) := by decide +kernel
theorem dX8_makeAlike_66 : decode cX8_makeAlike 66 = .ok (.iconst 0, 1) := by decide +kernel
theorem dX8_makeAlike_67 : decode cX8_makeAlike 67 = .ok (.istore 4, 2) := by decide +kernel
theorem dX8_makeAlike_69 : decode cX8_makeAlike 69 = .ok (.iconst 0, 1) := by decide +kernel
theorem dX8_makeAlike_70 : decode cX8_makeAlike 70 = .ok (.istore 5, 2) := by decide +kernel
theorem dX8_makeAlike_72 : decode cX8_makeAlike 72 = .ok (.iload 5, 2) := by decide +kernel
theorem dX8_makeAlike_74 : decode cX8_makeAlike 74 = .ok (.bipush 16, 2) := by decide +kernel
theorem dX8_makeAlike_76 : decode cX8_makeAlike 76 = .ok (.if_icmp .ge 106, 3) := by decide +kernel
theorem dX8_makeAlike_79 : decode cX8_makeAlike 79 = .ok (.iload_n 3, 1) := by decide +kernel
theorem dX8_makeAlike_80 : decode cX8_makeAlike 80 = .ok (.iload 5, 2) := by decide +kernel
theorem dX8_makeAlike_82 : decode cX8_makeAlike 82 = .ok (.ishr, 1) := by decide +kernel
theorem dX8_makeAlike_83 : decode cX8_makeAlike 83 = .ok (.iconst 1, 1) := by decide +kernel
theorem dX8_makeAlike_84 : decode cX8_makeAlike 84 = .ok (.iand, 1) := by decide +kernel
theorem dX8_makeAlike_85 : decode cX8_makeAlike 85 = .ok (.iconst 1, 1) := by decide +kernel
theorem dX8_makeAlike_86 : decode cX8_makeAlike 86 = .ok (.if_icmp .ne 90, 3) := by decide +kernel
theorem dX8_makeAlike_89 : decode cX8_makeAlike 89 = .ok (.iinc 4 1, 3) := by decide +kernel
theorem dX8_makeAlike_92 : decode cX8_makeAlike 92 = .ok (.iconst 0, 1) := by decide +kernel
theorem dX8_makeAlike_93 : decode cX8_makeAlike 93 = .ok (.istore 6, 2) := by decide +kernel
theorem dX8_makeAlike_95 : decode cX8_makeAlike 95 = .ok (.iload 6, 2) := by decide +kernel
theorem dX8_makeAlike_97 : decode cX8_makeAlike 97 = .ok (.iconst 4, 1) := by decide +kernel
theorem dX8_makeAlike_98 : decode cX8_makeAlike 98 = .ok (.if_icmp .ge 35, 3) := by decide +kernel
theorem dX8_makeAlike_101 : decode cX8_makeAlike 101 = .ok (.aload_n 0, 1) := by decide +kernel
theorem dX8_makeAlike_102 : decode cX8_makeAlike 102 = .ok (.iload_n 1, 1) := by decide +kernel
theorem dX8_makeAlike_103 : decode cX8_makeAlike 103 = .ok (.iload_n 2, 1) := by decide +kernel
theorem dX8_makeAlike_104 : decode cX8_makeAlike 104 = .ok (.iconst 4, 1) := by decide +kernel
theorem dX8_makeAlike_105 : decode cX8_makeAlike 105 = .ok (.iload 5, 2) := by decide +kernel
theorem dX8_makeAlike_107 : decode cX8_makeAlike 107 = .ok (.imul, 1) := by decide +kernel
theorem dX8_makeAlike_108 : decode cX8_makeAlike 108 = .ok (.iload 6, 2) := by decide +kernel
theorem dX8_makeAlike_110 : decode cX8_makeAlike 110 = .ok (.iadd, 1) := by decide +kernel
theorem dX8_makeAlike_111 : decode cX8_makeAlike 111 = .ok (.invokevirtual 110, 3) := by decide +kernel
theorem dX8_makeAlike_114 : decode cX8_makeAlike 114 = .ok (.aload_n 0, 1) := by decide +kernel
theorem dX8_makeAlike_115 : decode cX8_makeAlike 115 = .ok (.iload_n 2, 1) := by decide +kernel
theorem dX8_makeAlike_116 : decode cX8_makeAlike 116 = .ok (.iload_n 1, 1) := by decide +kernel
theorem dX8_makeAlike_117 : decode cX8_makeAlike 117 = .ok (.iconst 4, 1) := by decide +kernel
theorem dX8_makeAlike_118 : decode cX8_makeAlike 118 = .ok (.iload 5, 2) := by decide +kernel
theorem dX8_makeAlike_120 : decode cX8_makeAlike 120 = .ok (.imul, 1) := by decide +kernel
theorem dX8_makeAlike_121 : decode cX8_makeAlike 121 = .ok (.iload 6, 2) := by decide +kernel
theorem dX8_makeAlike_123 : decode cX8_makeAlike 123 = .ok (.iadd, 1) := by decide +kernel
theorem dX8_makeAlike_124 : decode cX8_makeAlike 124 = .ok (.invokevirtual 110, 3) := by decide +kernel
theorem dX8_makeAlike_127 : decode cX8_makeAlike 127 = .ok (.iinc 6 1, 3) := by decide +kernel
theorem dX8_makeAlike_130 : decode cX8_makeAlike 130 = .ok (.goto (-35), 3) := by decide +kernel
theorem dX8_makeAlike_133 : decode cX8_makeAlike 133 = .ok (.iconst 0, 1) := by decide +kernel
theorem dX8_makeAlike_134 : decode cX8_makeAlike 134 = .ok (.istore 6, 2) := by decide +kernel
theorem dX8_makeAlike_136 : decode cX8_makeAlike 136 = .ok (.iload 6, 2) := by decide +kernel
theorem dX8_makeAlike_138 : decode cX8_makeAlike 138 = .ok (.bipush 92, 2) := by decide +kernel
theorem dX8_makeAlike_140 : decode cX8_makeAlike 140 = .ok (.if_icmp .ge 36, 3) := by decide +kernel
theorem dX8_makeAlike_143 : decode cX8_makeAlike 143 = .ok (.aload_n 0, 1) := by decide +kernel
theorem dX8_makeAlike_144 : decode cX8_makeAlike 144 = .ok (.iload 6, 2) := by decide +kernel
theorem dX8_makeAlike_146 : decode cX8_makeAlike 146 = .ok (.iload 5, 2) := by decide +kernel
theorem dX8_makeAlike_148 : decode cX8_makeAlike 148 = .ok (.invokevirtual 126, 3) := by decide +kernel
theorem dX8_makeAlike_151 : decode cX8_makeAlike 151 = .ok (.ifCond .eq 19, 3) := by decide +kernel
theorem dX8_makeAlike_154 : decode cX8_makeAlike 154 = .ok (.aload_n 0, 1) := by decide +kernel
theorem dX8_makeAlike_155 : decode cX8_makeAlike 155 = .ok (.iload_n 1, 1) := by decide +kernel
theorem dX8_makeAlike_156 : decode cX8_makeAlike 156 = .ok (.iload_n 2, 1) := by decide +kernel
theorem dX8_makeAlike_157 : decode cX8_makeAlike 157 = .ok (.iload 6, 2) := by decide +kernel
theorem dX8_makeAlike_159 : decode cX8_makeAlike 159 = .ok (.invokevirtual 117, 3) := by decide +kernel
theorem dX8_makeAlike_162 : decode cX8_makeAlike 162 = .ok (.aload_n 0, 1) := by decide +kernel
theorem dX8_makeAlike_163 : decode cX8_makeAlike 163 = .ok (.iload_n 2, 1) := by decide +kernel
theorem dX8_makeAlike_164 : decode cX8_makeAlike 164 = .ok (.iload_n 1, 1) := by decide +kernel
theorem dX8_makeAlike_165 : decode cX8_makeAlike 165 = .ok (.iload 6, 2) := by decide +kernel
theorem dX8_makeAlike_167 : decode cX8_makeAlike 167 = .ok (.invokevirtual 117, 3) := by decide +kernel
theorem dX8_makeAlike_170 : decode cX8_makeAlike 170 = .ok (.iinc 6 1, 3) := by decide +kernel
theorem dX8_makeAlike_173 : decode cX8_makeAlike 173 = .ok (.goto (-37), 3) := by decide +kernel
theorem dX8_makeAlike_176 : decode cX8_makeAlike 176 = .ok (.iinc 5 1, 3) := by decide +kernel
theorem dX8_makeAlike_179 : decode cX8_makeAlike 179 = .ok (.goto (-107), 3) := by decide +kernel
theorem dX8_makeAlike_182 : decode cX8_makeAlike 182 = .ok (.iload 4, 2) := by decide +kernel
theorem dX8_makeAlike_184 : decode cX8_makeAlike 184 = .ok (.ireturn, 1) := by decide +kernel
set_option maxRecDepth 20000 in
theorem ggX8_clean_X8_isCopy : GoodIn wsX8_clean wsX8_isCopy := goodIn_r _ [11, 12, 13, 10, 14] (by decide +kernel) (by decide +kernel)
set_option maxRecDepth 20000 in
theorem gX8_clean_X8_isCopy : GoodIn wsX8_clean (va_wsS RX8 97 yX8_isCopy wsX8_isCopy) := goodIn_app (goodIn_of _ (by decide +kernel)) ggX8_clean_X8_isCopy
set_option maxRecDepth 20000 in
theorem ggX8_clean_X8_can : GoodIn wsX8_clean wsX8_can := goodIn_r _ [18, 19, 31, 32, 33, 34, 35, 36, 37, 38, 39, 40, 41, 42, 43, 44, 45, 46, 47, 48, 49] (by decide +kernel) (by decide +kernel)
set_option maxRecDepth 20000 in
theorem gX8_clean_X8_can : GoodIn wsX8_clean (wsV RX8 79 RX8 yX8_can wsX8_can) := goodIn_app (goodIn_of _ (by decide +kernel)) ggX8_clean_X8_can
set_option maxRecDepth 20000 in
theorem ggX8_clean_X8_buried : GoodIn wsX8_clean wsX8_buried := goodIn_r _ [23, 3, 24, 25, 26, 10, 27, 28, 29, 30, 12, 13, 14, 31, 32, 33, 34, 35, 36, 37, 38, 39, 40, 41, 42, 43, 44, 45, 46, 47, 48, 49] (by decide +kernel) (by decide +kernel)
set_option maxRecDepth 20000 in
theorem gX8_clean_X8_buried : GoodIn wsX8_clean (wsV RX8 103 RX8 yX8_buried wsX8_buried) := goodIn_app (goodIn_of _ (by decide +kernel)) ggX8_clean_X8_buried
theorem dX8_clean_0 : decode cX8_clean 0 = .ok (.aload_n 0, 1) := by decide +kernel
theorem dX8_clean_1 : decode cX8_clean 1 = .ok (.iload_n 1, 1) := by decide +kernel
theorem dX8_clean_2 : decode cX8_clean 2 = .ok (.invokestatic 97, 3) := by decide +kernel
theorem dX8_clean_5 : decode cX8_clean 5 = .ok (.ifCond .ne 7, 3) := by decide +kernel
theorem dX8_clean_8 : decode cX8_clean 8 = .ok (.iconst 1, 1) := by decide +kernel
theorem dX8_clean_9 : decode cX8_clean 9 = .ok (.goto 17, 3) := by decide +kernel
theorem dX8_clean_12 : decode cX8_clean 12 = .ok (.aload_n 0, 1) := by decide +kernel
theorem dX8_clean_13 : decode cX8_clean 13 = .ok (.getfield 31, 3) := by decide +kernel
theorem dX8_clean_16 : decode cX8_clean 16 = .ok (.iload_n 1, 1) := by decide +kernel
theorem dX8_clean_17 : decode cX8_clean 17 = .ok (.baload, 1) := by decide +kernel
theorem dX8_clean_18 : decode cX8_clean 18 = .ok (.ifCond .eq 7, 3) := by decide +kernel
theorem dX8_clean_21 : decode cX8_clean 21 = .ok (.iconst 0, 1) := by decide +kernel
theorem dX8_clean_22 : decode cX8_clean 22 = .ok (.goto 4, 3) := by decide +kernel
theorem dX8_clean_25 : decode cX8_clean 25 = .ok (.iconst 2, 1) := by decide +kernel
theorem dX8_clean_26 : decode cX8_clean 26 = .ok (.invokevirtual 79, 3) := by decide +kernel
theorem dX8_clean_29 : decode cX8_clean 29 = .ok (.ifCond .ne 5, 3) := by decide +kernel
theorem dX8_clean_32 : decode cX8_clean 32 = .ok (.iconst 0, 1) := by decide +kernel
theorem dX8_clean_33 : decode cX8_clean 33 = .ok (.ireturn, 1) := by decide +kernel
theorem dX8_clean_34 : decode cX8_clean 34 = .ok (.iconst 0, 1) := by decide +kernel
theorem dX8_clean_35 : decode cX8_clean 35 = .ok (.istore_n 2, 1) := by decide +kernel
theorem dX8_clean_36 : decode cX8_clean 36 = .ok (.iconst 0, 1) := by decide +kernel
theorem dX8_clean_37 : decode cX8_clean 37 = .ok (.istore_n 3, 1) := by decide +kernel
theorem dX8_clean_38 : decode cX8_clean 38 = .ok (.iload_n 3, 1) := by decide +kernel
theorem dX8_clean_39 : decode cX8_clean 39 = .ok (.bipush 64, 2) := by decide +kernel
theorem dX8_clean_41 : decode cX8_clean 41 = .ok (.if_icmp .ge 60, 3) := by decide +kernel
theorem dX8_clean_44 : decode cX8_clean 44 = .ok (.bipush 64, 2) := by decide +kernel
theorem dX8_clean_46 : decode cX8_clean 46 = .ok (.iload_n 1, 1) := by decide +kernel
theorem dX8_clean_47 : decode cX8_clean 47 = .ok (.imul, 1) := by decide +kernel
theorem dX8_clean_48 : decode cX8_clean 48 = .ok (.iload_n 3, 1) := by decide +kernel
theorem dX8_clean_49 : decode cX8_clean 49 = .ok (.iadd, 1) := by decide +kernel
theorem dX8_clean_50 : decode cX8_clean 50 = .ok (.istore 4, 2) := by decide +kernel
theorem dX8_clean_52 : decode cX8_clean 52 = .ok (.aload_n 0, 1) := by decide +kernel
theorem dX8_clean_53 : decode cX8_clean 53 = .ok (.getfield 7, 3) := by decide +kernel
theorem dX8_clean_56 : decode cX8_clean 56 = .ok (.iload 4, 2) := by decide +kernel
theorem dX8_clean_58 : decode cX8_clean 58 = .ok (.iaload, 1) := by decide +kernel
theorem dX8_clean_59 : decode cX8_clean 59 = .ok (.iconst (-1), 1) := by decide +kernel
theorem dX8_clean_60 : decode cX8_clean 60 = .ok (.if_icmp .eq 35, 3) := by decide +kernel
theorem dX8_clean_63 : decode cX8_clean 63 = .ok (.aload_n 0, 1) := by decide +kernel
theorem dX8_clean_64 : decode cX8_clean 64 = .ok (.getfield 7, 3) := by decide +kernel
theorem dX8_clean_67 : decode cX8_clean 67 = .ok (.iload 4, 2) := by decide +kernel
theorem dX8_clean_69 : decode cX8_clean 69 = .ok (.iaload, 1) := by decide +kernel
theorem dX8_clean_70 : decode cX8_clean 70 = .ok (.aload_n 0, 1) := by decide +kernel
theorem dX8_clean_71 : decode cX8_clean 71 = .ok (.iload_n 1, 1) := by decide +kernel
theorem dX8_clean_72 : decode cX8_clean 72 = .ok (.iload_n 3, 1) := by decide +kernel
theorem dX8_clean_73 : decode cX8_clean 73 = .ok (.iconst 4, 1) := by decide +kernel
theorem dX8_clean_74 : decode cX8_clean 74 = .ok (.idiv, 1) := by decide +kernel
theorem dX8_clean_75 : decode cX8_clean 75 = .ok (.iload_n 3, 1) := by decide +kernel
theorem dX8_clean_76 : decode cX8_clean 76 = .ok (.iconst 4, 1) := by decide +kernel
theorem dX8_clean_77 : decode cX8_clean 77 = .ok (.irem, 1) := by decide +kernel
theorem dX8_clean_78 : decode cX8_clean 78 = .ok (.invokevirtual 103, 3) := by decide +kernel
theorem dX8_clean_81 : decode cX8_clean 81 = .ok (.if_icmp .gt 14, 3) := by decide +kernel
theorem dX8_clean_84 : decode cX8_clean 84 = .ok (.aload_n 0, 1) := by decide +kernel
theorem dX8_clean_85 : decode cX8_clean 85 = .ok (.getfield 7, 3) := by decide +kernel
theorem dX8_clean_88 : decode cX8_clean 88 = .ok (.iload 4, 2) := by decide +kernel
theorem dX8_clean_90 : decode cX8_clean 90 = .ok (.iconst (-1), 1) := by decide +kernel
theorem dX8_clean_91 : decode cX8_clean 91 = .ok (.iastore, 1) := by decide +kernel
theorem dX8_clean_92 : decode cX8_clean 92 = .ok (.iinc 2 1, 3) := by decide +kernel
theorem dX8_clean_95 : decode cX8_clean 95 = .ok (.iinc 3 1, 3) := by decide +kernel
theorem dX8_clean_98 : decode cX8_clean 98 = .ok (.goto (-60), 3) := by decide +kernel
theorem dX8_clean_101 : decode cX8_clean 101 = .ok (.bipush 92, 2) := by decide +kernel
theorem dX8_clean_103 : decode cX8_clean 103 = .ok (.iload_n 1, 1) := by decide +kernel
theorem dX8_clean_104 : decode cX8_clean 104 = .ok (.imul, 1) := by decide +kernel
theorem dX8_clean_105 : decode cX8_clean 105 = .ok (.istore_n 3, 1) := by decide +kernel
theorem dX8_clean_106 : decode cX8_clean 106 = .ok (.iload_n 3, 1) := by decide +kernel
theorem dX8_clean_107 : decode cX8_clean 107 = .ok (.bipush 92, 2) := by decide +kernel
theorem dX8_clean_109 : decode cX8_clean 109 = .ok (.iload_n 1, 1) := by decide +kernel
theorem dX8_clean_110 : decode cX8_clean 110 = .ok (.imul, 1) := by decide +kernel
theorem dX8_clean_111 : decode cX8_clean 111 = .ok (.bipush 92, 2) := by decide +kernel
theorem dX8_clean_113 : decode cX8_clean 113 = .ok (.iadd, 1) := by decide +kernel
theorem dX8_clean_114 : decode cX8_clean 114 = .ok (.if_icmp .ge 47, 3) := by decide +kernel
theorem dX8_clean_117 : decode cX8_clean 117 = .ok (.aload_n 0, 1) := by decide +kernel
theorem dX8_clean_118 : decode cX8_clean 118 = .ok (.getfield 19, 3) := by decide +kernel
theorem dX8_clean_121 : decode cX8_clean 121 = .ok (.iload_n 3, 1) := by decide +kernel
theorem dX8_clean_122 : decode cX8_clean 122 = .ok (.iaload, 1) := by decide +kernel
theorem dX8_clean_123 : decode cX8_clean 123 = .ok (.iconst (-1), 1) := by decide +kernel
theorem dX8_clean_124 : decode cX8_clean 124 = .ok (.if_icmp .eq 31, 3) := by decide +kernel
theorem dX8_clean_127 : decode cX8_clean 127 = .ok (.aload_n 0, 1) := by decide +kernel
theorem dX8_clean_128 : decode cX8_clean 128 = .ok (.getfield 83, 3) := by decide +kernel
theorem dX8_clean_131 : decode cX8_clean 131 = .ok (.aload_n 0, 1) := by decide +kernel
theorem dX8_clean_132 : decode cX8_clean 132 = .ok (.getfield 22, 3) := by decide +kernel
theorem dX8_clean_135 : decode cX8_clean 135 = .ok (.iload_n 3, 1) := by decide +kernel
theorem dX8_clean_136 : decode cX8_clean 136 = .ok (.iaload, 1) := by decide +kernel
theorem dX8_clean_137 : decode cX8_clean 137 = .ok (.isub, 1) := by decide +kernel
theorem dX8_clean_138 : decode cX8_clean 138 = .ok (.aload_n 0, 1) := by decide +kernel
theorem dX8_clean_139 : decode cX8_clean 139 = .ok (.getfield 50, 3) := by decide +kernel
theorem dX8_clean_142 : decode cX8_clean 142 = .ok (.if_icmp .lt 13, 3) := by decide +kernel
theorem dX8_clean_145 : decode cX8_clean 145 = .ok (.aload_n 0, 1) := by decide +kernel
theorem dX8_clean_146 : decode cX8_clean 146 = .ok (.getfield 19, 3) := by decide +kernel
theorem dX8_clean_149 : decode cX8_clean 149 = .ok (.iload_n 3, 1) := by decide +kernel
theorem dX8_clean_150 : decode cX8_clean 150 = .ok (.iconst (-1), 1) := by decide +kernel
theorem dX8_clean_151 : decode cX8_clean 151 = .ok (.iastore, 1) := by decide +kernel
theorem dX8_clean_152 : decode cX8_clean 152 = .ok (.iinc 2 1, 3) := by decide +kernel
theorem dX8_clean_155 : decode cX8_clean 155 = .ok (.iinc 3 1, 3) := by decide +kernel
theorem dX8_clean_158 : decode cX8_clean 158 = .ok (.goto (-52), 3) := by decide +kernel
theorem dX8_clean_161 : decode cX8_clean 161 = .ok (.bipush 64, 2) := by decide +kernel
theorem dX8_clean_163 : decode cX8_clean 163 = .ok (.iload_n 1, 1) := by decide +kernel
theorem dX8_clean_164 : decode cX8_clean 164 = .ok (.imul, 1) := by decide +kernel
theorem dX8_clean_165 : decode cX8_clean 165 = .ok (.istore_n 3, 1) := by decide +kernel
theorem dX8_clean_166 : decode cX8_clean 166 = .ok (.iload_n 3, 1) := by decide +kernel
theorem dX8_clean_167 : decode cX8_clean 167 = .ok (.bipush 64, 2) := by decide +kernel
theorem dX8_clean_169 : decode cX8_clean 169 = .ok (.iload_n 1, 1) := by decide +kernel
theorem dX8_clean_170 : decode cX8_clean 170 = .ok (.imul, 1) := by decide +kernel
theorem dX8_clean_171 : decode cX8_clean 171 = .ok (.bipush 64, 2) := by decide +kernel
theorem dX8_clean_173 : decode cX8_clean 173 = .ok (.iadd, 1) := by decide +kernel
theorem dX8_clean_174 : decode cX8_clean 174 = .ok (.if_icmp .ge 57, 3) := by decide +kernel
theorem dX8_clean_177 : decode cX8_clean 177 = .ok (.aload_n 0, 1) := by decide +kernel
theorem dX8_clean_178 : decode cX8_clean 178 = .ok (.getfield 7, 3) := by decide +kernel
theorem dX8_clean_181 : decode cX8_clean 181 = .ok (.iload_n 3, 1) := by decide +kernel
theorem dX8_clean_182 : decode cX8_clean 182 = .ok (.iaload, 1) := by decide +kernel
theorem dX8_clean_183 : decode cX8_clean 183 = .ok (.iconst (-1), 1) := by decide +kernel
theorem dX8_clean_184 : decode cX8_clean 184 = .ok (.if_icmp .eq 41, 3) := by decide +kernel
theorem dX8_clean_187 : decode cX8_clean 187 = .ok (.aload_n 0, 1) := by decide +kernel
theorem dX8_clean_188 : decode cX8_clean 188 = .ok (.getfield 16, 3) := by decide +kernel
theorem dX8_clean_191 : decode cX8_clean 191 = .ok (.iload_n 3, 1) := by decide +kernel
theorem dX8_clean_192 : decode cX8_clean 192 = .ok (.iaload, 1) := by decide +kernel
theorem dX8_clean_193 : decode cX8_clean 193 = .ok (.iconst (-1), 1) := by decide +kernel
theorem dX8_clean_194 : decode cX8_clean 194 = .ok (.if_icmp .eq 31, 3) := by decide +kernel
theorem dX8_clean_197 : decode cX8_clean 197 = .ok (.aload_n 0, 1) := by decide +kernel
theorem dX8_clean_198 : decode cX8_clean 198 = .ok (.getfield 83, 3) := by decide +kernel
theorem dX8_clean_201 : decode cX8_clean 201 = .ok (.aload_n 0, 1) := by decide +kernel
theorem dX8_clean_202 : decode cX8_clean 202 = .ok (.getfield 16, 3) := by decide +kernel
theorem dX8_clean_205 : decode cX8_clean 205 = .ok (.iload_n 3, 1) := by decide +kernel
theorem dX8_clean_206 : decode cX8_clean 206 = .ok (.iaload, 1) := by decide +kernel
theorem dX8_clean_207 : decode cX8_clean 207 = .ok (.isub, 1) := by decide +kernel
theorem dX8_clean_208 : decode cX8_clean 208 = .ok (.aload_n 0, 1) := by decide +kernel
theorem dX8_clean_209 : decode cX8_clean 209 = .ok (.getfield 50, 3) := by decide +kernel
theorem dX8_clean_212 : decode cX8_clean 212 = .ok (.if_icmp .lt 13, 3) := by decide +kernel
theorem dX8_clean_215 : decode cX8_clean 215 = .ok (.aload_n 0, 1) := by decide +kernel
theorem dX8_clean_216 : decode cX8_clean 216 = .ok (.getfield 7, 3) := by decide +kernel
theorem dX8_clean_219 : decode cX8_clean 219 = .ok (.iload_n 3, 1) := by decide +kernel
theorem dX8_clean_220 : decode cX8_clean 220 = .ok (.iconst (-1), 1) := by decide +kernel
theorem dX8_clean_221 : decode cX8_clean 221 = .ok (.iastore, 1) := by decide +kernel
theorem dX8_clean_222 : decode cX8_clean 222 = .ok (.iinc 2 1, 3) := by decide +kernel
theorem dX8_clean_225 : decode cX8_clean 225 = .ok (.iinc 3 1, 3) := by decide +kernel
theorem dX8_clean_228 : decode cX8_clean 228 = .ok (.goto (-62), 3) := by decide +kernel
theorem dX8_clean_231 : decode cX8_clean 231 = .ok (.iload_n 2, 1) := by decide +kernel
theorem dX8_clean_232 : decode cX8_clean 232 = .ok (.ireturn, 1) := by decide +kernel
theorem dX8_time_0 : decode cX8_time 0 = .ok (.aload_n 0, 1) := by decide +kernel
theorem dX8_time_1 : decode cX8_time 1 = .ok (.iconst 0, 1) := by decide +kernel
theorem dX8_time_2 : decode cX8_time 2 = .ok (.putfield 54, 3) := by decide +kernel
theorem dX8_time_5 : decode cX8_time 5 = .ok (.aload_n 0, 1) := by decide +kernel
theorem dX8_time_6 : decode cX8_time 6 = .ok (.getfield 83, 3) := by decide +kernel
theorem dX8_time_9 : decode cX8_time 9 = .ok (.ireturn, 1) := by decide +kernel
set_option maxRecDepth 20000 in
theorem ggX8_isAsked_X8_isCopy : GoodIn wsX8_isAsked wsX8_isCopy := goodIn_r _ [4, 5, 6, 3, 7] (by decide +kernel) (by decide +kernel)
set_option maxRecDepth 20000 in
theorem gX8_isAsked_X8_isCopy : GoodIn wsX8_isAsked (va_wsS RX8 97 yX8_isCopy wsX8_isCopy) := goodIn_app (goodIn_of _ (by decide +kernel)) ggX8_isAsked_X8_isCopy
set_option maxRecDepth 20000 in
theorem ggX8_isAsked_X8_can : GoodIn wsX8_isAsked wsX8_can := goodIn_r _ [11, 12, 13, 14, 15, 16, 17, 18, 19, 20, 21, 22, 23, 24, 25, 26, 27, 28, 29, 30, 31] (by decide +kernel) (by decide +kernel)
set_option maxRecDepth 20000 in
theorem gX8_isAsked_X8_can : GoodIn wsX8_isAsked (wsV RX8 79 RX8 yX8_can wsX8_can) := goodIn_app (goodIn_of _ (by decide +kernel)) ggX8_isAsked_X8_can
theorem dX8_isAsked_0 : decode cX8_isAsked 0 = .ok (.aload_n 0, 1) := by decide +kernel
theorem dX8_isAsked_1 : decode cX8_isAsked 1 = .ok (.iload_n 1, 1) := by decide +kernel
theorem dX8_isAsked_2 : decode cX8_isAsked 2 = .ok (.invokestatic 97, 3) := by decide +kernel
theorem dX8_isAsked_5 : decode cX8_isAsked 5 = .ok (.ifCond .eq 7, 3) := by decide +kernel
theorem dX8_isAsked_8 : decode cX8_isAsked 8 = .ok (.iconst 0, 1) := by decide +kernel
theorem dX8_isAsked_9 : decode cX8_isAsked 9 = .ok (.goto 4, 3) := by decide +kernel
theorem dX8_isAsked_12 : decode cX8_isAsked 12 = .ok (.iconst 1, 1) := by decide +kernel
theorem dX8_isAsked_13 : decode cX8_isAsked 13 = .ok (.invokevirtual 79, 3) := by decide +kernel
theorem dX8_isAsked_16 : decode cX8_isAsked 16 = .ok (.ireturn, 1) := by decide +kernel
set_option maxRecDepth 20000 in
theorem ggX8_areAsked_X8_isCopy : GoodIn wsX8_areAsked wsX8_isCopy := goodIn_r _ [4, 5, 6, 3, 7] (by decide +kernel) (by decide +kernel)
set_option maxRecDepth 20000 in
theorem gX8_areAsked_X8_isCopy : GoodIn wsX8_areAsked (va_wsS RX8 97 yX8_isCopy wsX8_isCopy) := goodIn_app (goodIn_of _ (by decide +kernel)) ggX8_areAsked_X8_isCopy
set_option maxRecDepth 20000 in
theorem ggX8_areAsked_X8_isCell : GoodIn wsX8_areAsked wsX8_isCell := goodIn_r _ [10, 5, 6, 3, 7] (by decide +kernel) (by decide +kernel)
set_option maxRecDepth 20000 in
theorem gX8_areAsked_X8_isCell : GoodIn wsX8_areAsked (va_wsS RX8 76 yX8_isCell wsX8_isCell) := goodIn_app (goodIn_of _ (by decide +kernel)) ggX8_areAsked_X8_isCell
set_option maxRecDepth 20000 in
theorem ggX8_areAsked_X8_can : GoodIn wsX8_areAsked wsX8_can := goodIn_r _ [14, 15, 16, 17, 18, 19, 20, 21, 22, 23, 24, 25, 26, 27, 28, 29, 30, 31, 32, 33, 34] (by decide +kernel) (by decide +kernel)
set_option maxRecDepth 20000 in
theorem gX8_areAsked_X8_can : GoodIn wsX8_areAsked (wsV RX8 79 RX8 yX8_can wsX8_can) := goodIn_app (goodIn_of _ (by decide +kernel)) ggX8_areAsked_X8_can
theorem dX8_areAsked_0 : decode cX8_areAsked 0 = .ok (.aload_n 0, 1) := by decide +kernel
theorem dX8_areAsked_1 : decode cX8_areAsked 1 = .ok (.iload_n 1, 1) := by decide +kernel
theorem dX8_areAsked_2 : decode cX8_areAsked 2 = .ok (.invokestatic 97, 3) := by decide +kernel
theorem dX8_areAsked_5 : decode cX8_areAsked 5 = .ok (.ifCond .eq 15, 3) := by decide +kernel
theorem dX8_areAsked_8 : decode cX8_areAsked 8 = .ok (.iload_n 2, 1) := by decide +kernel
theorem dX8_areAsked_9 : decode cX8_areAsked 9 = .ok (.iload_n 3, 1) := by decide +kernel
theorem dX8_areAsked_10 : decode cX8_areAsked 10 = .ok (.invokestatic 76, 3) := by decide +kernel
theorem dX8_areAsked_13 : decode cX8_areAsked 13 = .ok (.ifCond .eq 7, 3) := by decide +kernel
theorem dX8_areAsked_16 : decode cX8_areAsked 16 = .ok (.iconst 0, 1) := by decide +kernel
theorem dX8_areAsked_17 : decode cX8_areAsked 17 = .ok (.goto 4, 3) := by decide +kernel
theorem dX8_areAsked_20 : decode cX8_areAsked 20 = .ok (.iconst 1, 1) := by decide +kernel
theorem dX8_areAsked_21 : decode cX8_areAsked 21 = .ok (.invokevirtual 79, 3) := by decide +kernel
theorem dX8_areAsked_24 : decode cX8_areAsked 24 = .ok (.ireturn, 1) := by decide +kernel
set_option maxRecDepth 20000 in
theorem ggX8_isUp_X8_isAsked : GoodIn wsX8_isUp wsX8_isAsked := goodIn_r _ [6, 7, 8, 5, 9, 10, 11, 12, 13, 14, 15, 16, 17, 18, 19, 20, 21, 22, 23, 24, 25, 26, 27, 28, 29, 30, 31, 32, 33, 34, 35, 36] (by decide +kernel) (by decide +kernel)
set_option maxRecDepth 20000 in
theorem gX8_isUp_X8_isAsked : GoodIn wsX8_isUp (wsV RX8 143 RX8 yX8_isAsked wsX8_isAsked) := goodIn_app (goodIn_of _ (by decide +kernel)) ggX8_isUp_X8_isAsked
theorem dX8_isUp_0 : decode cX8_isUp 0 = .ok (.aload_n 0, 1) := by decide +kernel
theorem dX8_isUp_1 : decode cX8_isUp 1 = .ok (.iload_n 1, 1) := by decide +kernel
theorem dX8_isUp_2 : decode cX8_isUp 2 = .ok (.invokevirtual 143, 3) := by decide +kernel
theorem dX8_isUp_5 : decode cX8_isUp 5 = .ok (.ifCond .eq 16, 3) := by decide +kernel
theorem dX8_isUp_8 : decode cX8_isUp 8 = .ok (.aload_n 0, 1) := by decide +kernel
theorem dX8_isUp_9 : decode cX8_isUp 9 = .ok (.getfield 31, 3) := by decide +kernel
theorem dX8_isUp_12 : decode cX8_isUp 12 = .ok (.iload_n 1, 1) := by decide +kernel
theorem dX8_isUp_13 : decode cX8_isUp 13 = .ok (.baload, 1) := by decide +kernel
theorem dX8_isUp_14 : decode cX8_isUp 14 = .ok (.ifCond .eq 7, 3) := by decide +kernel
theorem dX8_isUp_17 : decode cX8_isUp 17 = .ok (.iconst 1, 1) := by decide +kernel
theorem dX8_isUp_18 : decode cX8_isUp 18 = .ok (.goto 4, 3) := by decide +kernel
theorem dX8_isUp_21 : decode cX8_isUp 21 = .ok (.iconst 0, 1) := by decide +kernel
theorem dX8_isUp_22 : decode cX8_isUp 22 = .ok (.ireturn, 1) := by decide +kernel
set_option maxRecDepth 20000 in
theorem ggX8_hints_X8_isAsked : GoodIn wsX8_hints wsX8_isAsked := goodIn_r _ [6, 7, 8, 5, 9, 10, 11, 12, 13, 14, 15, 16, 17, 18, 19, 20, 21, 22, 23, 24, 25, 26, 27, 28, 29, 30, 31, 32, 33, 34, 35, 36] (by decide +kernel) (by decide +kernel)
set_option maxRecDepth 20000 in
theorem gX8_hints_X8_isAsked : GoodIn wsX8_hints (wsV RX8 143 RX8 yX8_isAsked wsX8_isAsked) := goodIn_app (goodIn_of _ (by decide +kernel)) ggX8_hints_X8_isAsked
theorem dX8_hints_0 : decode cX8_hints 0 = .ok (.aload_n 0, 1) := by decide +kernel
theorem dX8_hints_1 : decode cX8_hints 1 = .ok (.iload_n 1, 1) := by decide +kernel
theorem dX8_hints_2 : decode cX8_hints 2 = .ok (.invokevirtual 143, 3) := by decide +kernel
theorem dX8_hints_5 : decode cX8_hints 5 = .ok (.ifCond .eq 12, 3) := by decide +kernel
theorem dX8_hints_8 : decode cX8_hints 8 = .ok (.aload_n 0, 1) := by decide +kernel
theorem dX8_hints_9 : decode cX8_hints 9 = .ok (.getfield 35, 3) := by decide +kernel
theorem dX8_hints_12 : decode cX8_hints 12 = .ok (.iload_n 1, 1) := by decide +kernel
theorem dX8_hints_13 : decode cX8_hints 13 = .ok (.iaload, 1) := by decide +kernel
theorem dX8_hints_14 : decode cX8_hints 14 = .ok (.goto 4, 3) := by decide +kernel
theorem dX8_hints_17 : decode cX8_hints 17 = .ok (.iconst 0, 1) := by decide +kernel
theorem dX8_hints_18 : decode cX8_hints 18 = .ok (.ireturn, 1) := by decide +kernel
theorem dX8_repairs_0 : decode cX8_repairs 0 = .ok (.aload_n 0, 1) := by decide +kernel
theorem dX8_repairs_1 : decode cX8_repairs 1 = .ok (.iconst 0, 1) := by decide +kernel
theorem dX8_repairs_2 : decode cX8_repairs 2 = .ok (.putfield 54, 3) := by decide +kernel
theorem dX8_repairs_5 : decode cX8_repairs 5 = .ok (.aload_n 0, 1) := by decide +kernel
theorem dX8_repairs_6 : decode cX8_repairs 6 = .ok (.getfield 120, 3) := by decide +kernel
theorem dX8_repairs_9 : decode cX8_repairs 9 = .ok (.ireturn, 1) := by decide +kernel
set_option maxRecDepth 20000 in
theorem ggX8_valueAt_X8_areAsked : GoodIn wsX8_valueAt wsX8_areAsked := goodIn_r _ [5, 6, 7, 4, 8, 9, 10, 11, 12, 13, 14, 15, 16, 17, 18, 19, 40, 41, 42, 43, 44, 45, 46, 47, 48, 49, 50, 51, 52, 53, 54, 55, 56, 57, 58] (by decide +kernel) (by decide +kernel)
set_option maxRecDepth 20000 in
theorem gX8_valueAt_X8_areAsked : GoodIn wsX8_valueAt (wsV RX8 146 RX8 yX8_areAsked wsX8_areAsked) := goodIn_app (goodIn_of _ (by decide +kernel)) ggX8_valueAt_X8_areAsked
set_option maxRecDepth 20000 in
theorem ggX8_valueAt_X8_seen : GoodIn wsX8_valueAt wsX8_seen := goodIn_r _ [23, 24, 25, 26, 27, 28, 29, 30, 4, 31, 32, 33, 34, 35, 36, 37, 38, 39, 9, 10, 11, 40, 41, 42, 43, 44, 45, 46, 47, 48, 49, 50, 51, 52, 53, 54, 55, 56, 57, 58] (by decide +kernel) (by decide +kernel)
set_option maxRecDepth 20000 in
theorem gX8_valueAt_X8_seen : GoodIn wsX8_valueAt (wsV RX8 123 RX8 yX8_seen wsX8_seen) := goodIn_app (goodIn_of _ (by decide +kernel)) ggX8_valueAt_X8_seen
theorem dX8_valueAt_0 : decode cX8_valueAt 0 = .ok (.aload_n 0, 1) := by decide +kernel
theorem dX8_valueAt_1 : decode cX8_valueAt 1 = .ok (.iload_n 1, 1) := by decide +kernel
theorem dX8_valueAt_2 : decode cX8_valueAt 2 = .ok (.iload_n 2, 1) := by decide +kernel
theorem dX8_valueAt_3 : decode cX8_valueAt 3 = .ok (.iload_n 3, 1) := by decide +kernel
theorem dX8_valueAt_4 : decode cX8_valueAt 4 = .ok (.invokevirtual 146, 3) := by decide +kernel
theorem dX8_valueAt_7 : decode cX8_valueAt 7 = .ok (.ifCond .eq 13, 3) := by decide +kernel
theorem dX8_valueAt_10 : decode cX8_valueAt 10 = .ok (.aload_n 0, 1) := by decide +kernel
theorem dX8_valueAt_11 : decode cX8_valueAt 11 = .ok (.iload_n 1, 1) := by decide +kernel
theorem dX8_valueAt_12 : decode cX8_valueAt 12 = .ok (.iload_n 2, 1) := by decide +kernel
theorem dX8_valueAt_13 : decode cX8_valueAt 13 = .ok (.iload_n 3, 1) := by decide +kernel
theorem dX8_valueAt_14 : decode cX8_valueAt 14 = .ok (.invokevirtual 123, 3) := by decide +kernel
theorem dX8_valueAt_17 : decode cX8_valueAt 17 = .ok (.goto 4, 3) := by decide +kernel
theorem dX8_valueAt_20 : decode cX8_valueAt 20 = .ok (.iconst 0, 1) := by decide +kernel
theorem dX8_valueAt_21 : decode cX8_valueAt 21 = .ok (.ireturn, 1) := by decide +kernel
set_option maxRecDepth 20000 in
theorem ggX8_stampAt_X8_areAsked : GoodIn wsX8_stampAt wsX8_areAsked := goodIn_r _ [6, 7, 8, 5, 9, 10, 11, 12, 13, 14, 15, 16, 17, 18, 19, 20, 21, 22, 23, 24, 25, 26, 27, 28, 29, 30, 31, 32, 33, 34, 35, 36, 37, 38, 39] (by decide +kernel) (by decide +kernel)
set_option maxRecDepth 20000 in
theorem gX8_stampAt_X8_areAsked : GoodIn wsX8_stampAt (wsV RX8 146 RX8 yX8_areAsked wsX8_areAsked) := goodIn_app (goodIn_of _ (by decide +kernel)) ggX8_stampAt_X8_areAsked
theorem dX8_stampAt_0 : decode cX8_stampAt 0 = .ok (.aload_n 0, 1) := by decide +kernel
theorem dX8_stampAt_1 : decode cX8_stampAt 1 = .ok (.iload_n 1, 1) := by decide +kernel
theorem dX8_stampAt_2 : decode cX8_stampAt 2 = .ok (.iload_n 2, 1) := by decide +kernel
theorem dX8_stampAt_3 : decode cX8_stampAt 3 = .ok (.iload_n 3, 1) := by decide +kernel
theorem dX8_stampAt_4 : decode cX8_stampAt 4 = .ok (.invokevirtual 146, 3) := by decide +kernel
theorem dX8_stampAt_7 : decode cX8_stampAt 7 = .ok (.ifCond .eq 21, 3) := by decide +kernel
theorem dX8_stampAt_10 : decode cX8_stampAt 10 = .ok (.aload_n 0, 1) := by decide +kernel
theorem dX8_stampAt_11 : decode cX8_stampAt 11 = .ok (.getfield 7, 3) := by decide +kernel
theorem dX8_stampAt_14 : decode cX8_stampAt 14 = .ok (.bipush 64, 2) := by decide +kernel
theorem dX8_stampAt_16 : decode cX8_stampAt 16 = .ok (.iload_n 1, 1) := by decide +kernel
theorem dX8_stampAt_17 : decode cX8_stampAt 17 = .ok (.imul, 1) := by decide +kernel
theorem dX8_stampAt_18 : decode cX8_stampAt 18 = .ok (.iconst 4, 1) := by decide +kernel
theorem dX8_stampAt_19 : decode cX8_stampAt 19 = .ok (.iload_n 2, 1) := by decide +kernel
theorem dX8_stampAt_20 : decode cX8_stampAt 20 = .ok (.imul, 1) := by decide +kernel
theorem dX8_stampAt_21 : decode cX8_stampAt 21 = .ok (.iadd, 1) := by decide +kernel
theorem dX8_stampAt_22 : decode cX8_stampAt 22 = .ok (.iload_n 3, 1) := by decide +kernel
theorem dX8_stampAt_23 : decode cX8_stampAt 23 = .ok (.iadd, 1) := by decide +kernel
theorem dX8_stampAt_24 : decode cX8_stampAt 24 = .ok (.iaload, 1) := by decide +kernel
theorem dX8_stampAt_25 : decode cX8_stampAt 25 = .ok (.goto 4, 3) := by decide +kernel
theorem dX8_stampAt_28 : decode cX8_stampAt 28 = .ok (.iconst 0, 1) := by decide +kernel
theorem dX8_stampAt_29 : decode cX8_stampAt 29 = .ok (.ireturn, 1) := by decide +kernel
set_option maxRecDepth 20000 in
theorem ggX8_buriedBy_X8_areAsked : GoodIn wsX8_buriedBy wsX8_areAsked := goodIn_r _ [5, 6, 7, 4, 8, 9, 10, 11, 12, 13, 14, 15, 16, 17, 18, 19, 32, 33, 34, 35, 36, 37, 38, 39, 40, 41, 42, 43, 44, 45, 46, 47, 48, 49, 50] (by decide +kernel) (by decide +kernel)
set_option maxRecDepth 20000 in
theorem gX8_buriedBy_X8_areAsked : GoodIn wsX8_buriedBy (wsV RX8 146 RX8 yX8_areAsked wsX8_areAsked) := goodIn_app (goodIn_of _ (by decide +kernel)) ggX8_buriedBy_X8_areAsked
set_option maxRecDepth 20000 in
theorem ggX8_buriedBy_X8_buried : GoodIn wsX8_buriedBy wsX8_buried := goodIn_r _ [23, 24, 25, 26, 27, 4, 28, 29, 30, 31, 9, 10, 11, 32, 33, 34, 35, 36, 37, 38, 39, 40, 41, 42, 43, 44, 45, 46, 47, 48, 49, 50] (by decide +kernel) (by decide +kernel)
set_option maxRecDepth 20000 in
theorem gX8_buriedBy_X8_buried : GoodIn wsX8_buriedBy (wsV RX8 103 RX8 yX8_buried wsX8_buried) := goodIn_app (goodIn_of _ (by decide +kernel)) ggX8_buriedBy_X8_buried
theorem dX8_buriedBy_0 : decode cX8_buriedBy 0 = .ok (.aload_n 0, 1) := by decide +kernel
theorem dX8_buriedBy_1 : decode cX8_buriedBy 1 = .ok (.iload_n 1, 1) := by decide +kernel
theorem dX8_buriedBy_2 : decode cX8_buriedBy 2 = .ok (.iload_n 2, 1) := by decide +kernel
theorem dX8_buriedBy_3 : decode cX8_buriedBy 3 = .ok (.iload_n 3, 1) := by decide +kernel
theorem dX8_buriedBy_4 : decode cX8_buriedBy 4 = .ok (.invokevirtual 146, 3) := by decide +kernel
theorem dX8_buriedBy_7 : decode cX8_buriedBy 7 = .ok (.ifCond .eq 13, 3) := by decide +kernel
theorem dX8_buriedBy_10 : decode cX8_buriedBy 10 = .ok (.aload_n 0, 1) := by decide +kernel
theorem dX8_buriedBy_11 : decode cX8_buriedBy 11 = .ok (.iload_n 1, 1) := by decide +kernel
theorem dX8_buriedBy_12 : decode cX8_buriedBy 12 = .ok (.iload_n 2, 1) := by decide +kernel
theorem dX8_buriedBy_13 : decode cX8_buriedBy 13 = .ok (.iload_n 3, 1) := by decide +kernel
theorem dX8_buriedBy_14 : decode cX8_buriedBy 14 = .ok (.invokevirtual 103, 3) := by decide +kernel
theorem dX8_buriedBy_17 : decode cX8_buriedBy 17 = .ok (.goto 4, 3) := by decide +kernel
theorem dX8_buriedBy_20 : decode cX8_buriedBy 20 = .ok (.iconst 0, 1) := by decide +kernel
theorem dX8_buriedBy_21 : decode cX8_buriedBy 21 = .ok (.ireturn, 1) := by decide +kernel
theorem dX8_kindOf_0 : decode cX8_kindOf 0 = .ok (.iload_n 0, 1) := by decide +kernel
theorem dX8_kindOf_1 : decode cX8_kindOf 1 = .ok (.bipush 64, 2) := by decide +kernel
theorem dX8_kindOf_3 : decode cX8_kindOf 3 = .ok (.if_icmp .ge 7, 3) := by decide +kernel
theorem dX8_kindOf_6 : decode cX8_kindOf 6 = .ok (.iconst 0, 1) := by decide +kernel
theorem dX8_kindOf_7 : decode cX8_kindOf 7 = .ok (.goto 24, 3) := by decide +kernel
theorem dX8_kindOf_10 : decode cX8_kindOf 10 = .ok (.iload_n 0, 1) := by decide +kernel
theorem dX8_kindOf_11 : decode cX8_kindOf 11 = .ok (.bipush 68, 2) := by decide +kernel
theorem dX8_kindOf_13 : decode cX8_kindOf 13 = .ok (.if_icmp .ge 7, 3) := by decide +kernel
theorem dX8_kindOf_16 : decode cX8_kindOf 16 = .ok (.iconst 1, 1) := by decide +kernel
theorem dX8_kindOf_17 : decode cX8_kindOf 17 = .ok (.goto 14, 3) := by decide +kernel
theorem dX8_kindOf_20 : decode cX8_kindOf 20 = .ok (.iload_n 0, 1) := by decide +kernel
theorem dX8_kindOf_21 : decode cX8_kindOf 21 = .ok (.bipush 84, 2) := by decide +kernel
theorem dX8_kindOf_23 : decode cX8_kindOf 23 = .ok (.if_icmp .ge 7, 3) := by decide +kernel
theorem dX8_kindOf_26 : decode cX8_kindOf 26 = .ok (.iconst 2, 1) := by decide +kernel
theorem dX8_kindOf_27 : decode cX8_kindOf 27 = .ok (.goto 4, 3) := by decide +kernel
theorem dX8_kindOf_30 : decode cX8_kindOf 30 = .ok (.iconst 3, 1) := by decide +kernel
theorem dX8_kindOf_31 : decode cX8_kindOf 31 = .ok (.ireturn, 1) := by decide +kernel
set_option maxRecDepth 20000 in
theorem ggX8_tombstones_X8_isCopy : GoodIn wsX8_tombstones wsX8_isCopy := goodIn_r _ [5, 6, 7, 4, 8] (by decide +kernel) (by decide +kernel)
set_option maxRecDepth 20000 in
theorem gX8_tombstones_X8_isCopy : GoodIn wsX8_tombstones (va_wsS RX8 97 yX8_isCopy wsX8_isCopy) := goodIn_app (goodIn_of _ (by decide +kernel)) ggX8_tombstones_X8_isCopy
set_option maxRecDepth 20000 in
theorem ggX8_tombstones_X8_isIn : GoodIn wsX8_tombstones wsX8_isIn := goodIn_r _ [8] (by decide +kernel) (by decide +kernel)
set_option maxRecDepth 20000 in
theorem gX8_tombstones_X8_isIn : GoodIn wsX8_tombstones (va_wsS RX8 57 yX8_isIn wsX8_isIn) := goodIn_app (goodIn_of _ (by decide +kernel)) ggX8_tombstones_X8_isIn
set_option maxRecDepth 20000 in
theorem ggX8_tombstones_X8_can : GoodIn wsX8_tombstones wsX8_can := goodIn_r _ [12, 13, 17, 18, 19, 20, 21, 22, 23, 24, 25, 26, 27, 28, 29, 30, 31, 32, 33, 34, 35] (by decide +kernel) (by decide +kernel)
set_option maxRecDepth 20000 in
theorem gX8_tombstones_X8_can : GoodIn wsX8_tombstones (wsV RX8 79 RX8 yX8_can wsX8_can) := goodIn_app (goodIn_of _ (by decide +kernel)) ggX8_tombstones_X8_can
set_option maxRecDepth 20000 in
theorem ggX8_tombstones_X8_kindOf : GoodIn wsX8_tombstones wsX8_kindOf := goodIn_r _ [16] (by decide +kernel) (by decide +kernel)
set_option maxRecDepth 20000 in
theorem gX8_tombstones_X8_kindOf : GoodIn wsX8_tombstones (va_wsS RX8 149 yX8_kindOf wsX8_kindOf) := goodIn_app (goodIn_of _ (by decide +kernel)) ggX8_tombstones_X8_kindOf
theorem dX8_tombstones_0 : decode cX8_tombstones 0 = .ok (.aload_n 0, 1) := by decide +kernel
theorem dX8_tombstones_1 : decode cX8_tombstones 1 = .ok (.iload_n 1, 1) := by decide +kernel
theorem dX8_tombstones_2 : decode cX8_tombstones 2 = .ok (.invokestatic 97, 3) := by decide +kernel
theorem dX8_tombstones_5 : decode cX8_tombstones 5 = .ok (.ifCond .ne 7, 3) := by decide +kernel
theorem dX8_tombstones_8 : decode cX8_tombstones 8 = .ok (.iconst 1, 1) := by decide +kernel
theorem dX8_tombstones_9 : decode cX8_tombstones 9 = .ok (.goto 17, 3) := by decide +kernel
theorem dX8_tombstones_12 : decode cX8_tombstones 12 = .ok (.iload_n 2, 1) := by decide +kernel
theorem dX8_tombstones_13 : decode cX8_tombstones 13 = .ok (.iconst 0, 1) := by decide +kernel
theorem dX8_tombstones_14 : decode cX8_tombstones 14 = .ok (.iconst 3, 1) := by decide +kernel
theorem dX8_tombstones_15 : decode cX8_tombstones 15 = .ok (.invokestatic 57, 3) := by decide +kernel
theorem dX8_tombstones_18 : decode cX8_tombstones 18 = .ok (.ifCond .eq 7, 3) := by decide +kernel
theorem dX8_tombstones_21 : decode cX8_tombstones 21 = .ok (.iconst 0, 1) := by decide +kernel
theorem dX8_tombstones_22 : decode cX8_tombstones 22 = .ok (.goto 4, 3) := by decide +kernel
theorem dX8_tombstones_25 : decode cX8_tombstones 25 = .ok (.iconst 2, 1) := by decide +kernel
theorem dX8_tombstones_26 : decode cX8_tombstones 26 = .ok (.invokevirtual 79, 3) := by decide +kernel
theorem dX8_tombstones_29 : decode cX8_tombstones 29 = .ok (.ifCond .ne 5, 3) := by decide +kernel
theorem dX8_tombstones_32 : decode cX8_tombstones 32 = .ok (.iconst 0, 1) := by decide +kernel
theorem dX8_tombstones_33 : decode cX8_tombstones 33 = .ok (.ireturn, 1) := by decide +kernel
theorem dX8_tombstones_34 : decode cX8_tombstones 34 = .ok (.iconst 0, 1) := by decide +kernel
theorem dX8_tombstones_35 : decode cX8_tombstones 35 = .ok (.istore_n 3, 1) := by decide +kernel
theorem dX8_tombstones_36 : decode cX8_tombstones 36 = .ok (.iconst 0, 1) := by decide +kernel
theorem dX8_tombstones_37 : decode cX8_tombstones 37 = .ok (.istore 4, 2) := by decide +kernel
theorem dX8_tombstones_39 : decode cX8_tombstones 39 = .ok (.iload 4, 2) := by decide +kernel
theorem dX8_tombstones_41 : decode cX8_tombstones 41 = .ok (.bipush 92, 2) := by decide +kernel
theorem dX8_tombstones_43 : decode cX8_tombstones 43 = .ok (.if_icmp .ge 42, 3) := by decide +kernel
theorem dX8_tombstones_46 : decode cX8_tombstones 46 = .ok (.iload_n 3, 1) := by decide +kernel
theorem dX8_tombstones_47 : decode cX8_tombstones 47 = .ok (.aload_n 0, 1) := by decide +kernel
theorem dX8_tombstones_48 : decode cX8_tombstones 48 = .ok (.getfield 19, 3) := by decide +kernel
theorem dX8_tombstones_51 : decode cX8_tombstones 51 = .ok (.bipush 92, 2) := by decide +kernel
theorem dX8_tombstones_53 : decode cX8_tombstones 53 = .ok (.iload_n 1, 1) := by decide +kernel
theorem dX8_tombstones_54 : decode cX8_tombstones 54 = .ok (.imul, 1) := by decide +kernel
theorem dX8_tombstones_55 : decode cX8_tombstones 55 = .ok (.iload 4, 2) := by decide +kernel
theorem dX8_tombstones_57 : decode cX8_tombstones 57 = .ok (.iadd, 1) := by decide +kernel
theorem dX8_tombstones_58 : decode cX8_tombstones 58 = .ok (.iaload, 1) := by decide +kernel
theorem dX8_tombstones_59 : decode cX8_tombstones 59 = .ok (.iconst (-1), 1) := by decide +kernel
theorem dX8_tombstones_60 : decode cX8_tombstones 60 = .ok (.if_icmp .eq 16, 3) := by decide +kernel
theorem dX8_tombstones_63 : decode cX8_tombstones 63 = .ok (.iload 4, 2) := by decide +kernel
theorem dX8_tombstones_65 : decode cX8_tombstones 65 = .ok (.invokestatic 149, 3) := by decide +kernel
theorem dX8_tombstones_68 : decode cX8_tombstones 68 = .ok (.iload_n 2, 1) := by decide +kernel
theorem dX8_tombstones_69 : decode cX8_tombstones 69 = .ok (.if_icmp .ne 7, 3) := by decide +kernel
theorem dX8_tombstones_72 : decode cX8_tombstones 72 = .ok (.iconst 1, 1) := by decide +kernel
theorem dX8_tombstones_73 : decode cX8_tombstones 73 = .ok (.goto 4, 3) := by decide +kernel
theorem dX8_tombstones_76 : decode cX8_tombstones 76 = .ok (.iconst 0, 1) := by decide +kernel
theorem dX8_tombstones_77 : decode cX8_tombstones 77 = .ok (.iadd, 1) := by decide +kernel
theorem dX8_tombstones_78 : decode cX8_tombstones 78 = .ok (.istore_n 3, 1) := by decide +kernel
theorem dX8_tombstones_79 : decode cX8_tombstones 79 = .ok (.iinc 4 1, 3) := by decide +kernel
theorem dX8_tombstones_82 : decode cX8_tombstones 82 = .ok (.goto (-43), 3) := by decide +kernel
theorem dX8_tombstones_85 : decode cX8_tombstones 85 = .ok (.iload_n 3, 1) := by decide +kernel
theorem dX8_tombstones_86 : decode cX8_tombstones 86 = .ok (.ireturn, 1) := by decide +kernel
set_option maxRecDepth 20000 in
theorem ggX8_entries_X8_isAsked : GoodIn wsX8_entries wsX8_isAsked := goodIn_r _ [6, 7, 8, 5, 9, 10, 11, 12, 13, 14, 15, 16, 17, 18, 19, 20, 21, 22, 23, 24, 25, 26, 27, 28, 29, 30, 31, 32, 33, 34, 35, 36] (by decide +kernel) (by decide +kernel)
set_option maxRecDepth 20000 in
theorem gX8_entries_X8_isAsked : GoodIn wsX8_entries (wsV RX8 143 RX8 yX8_isAsked wsX8_isAsked) := goodIn_app (goodIn_of _ (by decide +kernel)) ggX8_entries_X8_isAsked
theorem dX8_entries_0 : decode cX8_entries 0 = .ok (.aload_n 0, 1) := by decide +kernel
theorem dX8_entries_1 : decode cX8_entries 1 = .ok (.iload_n 1, 1) := by decide +kernel
theorem dX8_entries_2 : decode cX8_entries 2 = .ok (.invokevirtual 143, 3) := by decide +kernel
theorem dX8_entries_5 : decode cX8_entries 5 = .ok (.ifCond .ne 5, 3) := by decide +kernel
theorem dX8_entries_8 : decode cX8_entries 8 = .ok (.iconst 0, 1) := by decide +kernel
theorem dX8_entries_9 : decode cX8_entries 9 = .ok (.ireturn, 1) := by decide +kernel
theorem dX8_entries_10 : decode cX8_entries 10 = .ok (.iconst 0, 1) := by decide +kernel
theorem dX8_entries_11 : decode cX8_entries 11 = .ok (.istore_n 2, 1) := by decide +kernel
theorem dX8_entries_12 : decode cX8_entries 12 = .ok (.bipush 64, 2) := by decide +kernel
theorem dX8_entries_14 : decode cX8_entries 14 = .ok (.iload_n 1, 1) := by decide +kernel
theorem dX8_entries_15 : decode cX8_entries 15 = .ok (.imul, 1) := by decide +kernel
theorem dX8_entries_16 : decode cX8_entries 16 = .ok (.istore_n 3, 1) := by decide +kernel
theorem dX8_entries_17 : decode cX8_entries 17 = .ok (.iload_n 3, 1) := by decide +kernel
theorem dX8_entries_18 : decode cX8_entries 18 = .ok (.bipush 64, 2) := by decide +kernel
theorem dX8_entries_20 : decode cX8_entries 20 = .ok (.iload_n 1, 1) := by decide +kernel
theorem dX8_entries_21 : decode cX8_entries 21 = .ok (.imul, 1) := by decide +kernel
theorem dX8_entries_22 : decode cX8_entries 22 = .ok (.bipush 64, 2) := by decide +kernel
theorem dX8_entries_24 : decode cX8_entries 24 = .ok (.iadd, 1) := by decide +kernel
theorem dX8_entries_25 : decode cX8_entries 25 = .ok (.if_icmp .ge 27, 3) := by decide +kernel
theorem dX8_entries_28 : decode cX8_entries 28 = .ok (.iload_n 2, 1) := by decide +kernel
theorem dX8_entries_29 : decode cX8_entries 29 = .ok (.aload_n 0, 1) := by decide +kernel
theorem dX8_entries_30 : decode cX8_entries 30 = .ok (.getfield 7, 3) := by decide +kernel
theorem dX8_entries_33 : decode cX8_entries 33 = .ok (.iload_n 3, 1) := by decide +kernel
theorem dX8_entries_34 : decode cX8_entries 34 = .ok (.iaload, 1) := by decide +kernel
theorem dX8_entries_35 : decode cX8_entries 35 = .ok (.iconst (-1), 1) := by decide +kernel
theorem dX8_entries_36 : decode cX8_entries 36 = .ok (.if_icmp .ne 7, 3) := by decide +kernel
theorem dX8_entries_39 : decode cX8_entries 39 = .ok (.iconst 0, 1) := by decide +kernel
theorem dX8_entries_40 : decode cX8_entries 40 = .ok (.goto 4, 3) := by decide +kernel
theorem dX8_entries_43 : decode cX8_entries 43 = .ok (.iconst 1, 1) := by decide +kernel
theorem dX8_entries_44 : decode cX8_entries 44 = .ok (.iadd, 1) := by decide +kernel
theorem dX8_entries_45 : decode cX8_entries 45 = .ok (.istore_n 2, 1) := by decide +kernel
theorem dX8_entries_46 : decode cX8_entries 46 = .ok (.iinc 3 1, 3) := by decide +kernel
theorem dX8_entries_49 : decode cX8_entries 49 = .ok (.goto (-32), 3) := by decide +kernel
theorem dX8_entries_52 : decode cX8_entries 52 = .ok (.iload_n 2, 1) := by decide +kernel
theorem dX8_entries_53 : decode cX8_entries 53 = .ok (.ireturn, 1) := by decide +kernel
set_option maxRecDepth 20000 in
theorem ggX8_ideal_X8_isCell : GoodIn wsX8_ideal wsX8_isCell := goodIn_r _ [4, 5, 6, 3, 7] (by decide +kernel) (by decide +kernel)
set_option maxRecDepth 20000 in
theorem gX8_ideal_X8_isCell : GoodIn wsX8_ideal (va_wsS RX8 76 yX8_isCell wsX8_isCell) := goodIn_app (goodIn_of _ (by decide +kernel)) ggX8_ideal_X8_isCell
set_option maxRecDepth 20000 in
theorem ggX8_ideal_X8_can : GoodIn wsX8_ideal wsX8_can := goodIn_r _ [11, 12, 33, 34, 35, 36, 37, 38, 39, 40, 41, 42, 43, 44, 45, 46, 47, 48, 49, 50, 51] (by decide +kernel) (by decide +kernel)
set_option maxRecDepth 20000 in
theorem gX8_ideal_X8_can : GoodIn wsX8_ideal (wsV RX8 79 RX8 yX8_can wsX8_can) := goodIn_app (goodIn_of _ (by decide +kernel)) ggX8_ideal_X8_can
set_option maxRecDepth 20000 in
theorem ggX8_ideal_X8_seen : GoodIn wsX8_ideal wsX8_seen := goodIn_r _ [16, 17, 18, 19, 20, 21, 22, 23, 3, 24, 25, 26, 27, 28, 29, 30, 31, 32, 5, 6, 7, 33, 34, 35, 36, 37, 38, 39, 40, 41, 42, 43, 44, 45, 46, 47, 48, 49, 50, 51] (by decide +kernel) (by decide +kernel)
set_option maxRecDepth 20000 in
theorem gX8_ideal_X8_seen : GoodIn wsX8_ideal (wsV RX8 123 RX8 yX8_seen wsX8_seen) := goodIn_app (goodIn_of _ (by decide +kernel)) ggX8_ideal_X8_seen
theorem dX8_ideal_0 : decode cX8_ideal 0 = .ok (.aload_n 0, 1) := by decide +kernel
theorem dX8_ideal_1 : decode cX8_ideal 1 = .ok (.iload_n 1, 1) := by decide +kernel
theorem dX8_ideal_2 : decode cX8_ideal 2 = .ok (.iload_n 2, 1) := by decide +kernel
theorem dX8_ideal_3 : decode cX8_ideal 3 = .ok (.invokestatic 76, 3) := by decide +kernel
theorem dX8_ideal_6 : decode cX8_ideal 6 = .ok (.ifCond .eq 7, 3) := by decide +kernel
theorem dX8_ideal_9 : decode cX8_ideal 9 = .ok (.iconst 0, 1) := by decide +kernel
theorem dX8_ideal_10 : decode cX8_ideal 10 = .ok (.goto 4, 3) := by decide +kernel
theorem dX8_ideal_13 : decode cX8_ideal 13 = .ok (.iconst 1, 1) := by decide +kernel
theorem dX8_ideal_14 : decode cX8_ideal 14 = .ok (.invokevirtual 79, 3) := by decide +kernel
theorem dX8_ideal_17 : decode cX8_ideal 17 = .ok (.ifCond .eq 13, 3) := by decide +kernel
theorem dX8_ideal_20 : decode cX8_ideal 20 = .ok (.aload_n 0, 1) := by decide +kernel
theorem dX8_ideal_21 : decode cX8_ideal 21 = .ok (.iconst 3, 1) := by decide +kernel
theorem dX8_ideal_22 : decode cX8_ideal 22 = .ok (.iload_n 1, 1) := by decide +kernel
theorem dX8_ideal_23 : decode cX8_ideal 23 = .ok (.iload_n 2, 1) := by decide +kernel
theorem dX8_ideal_24 : decode cX8_ideal 24 = .ok (.invokevirtual 123, 3) := by decide +kernel
theorem dX8_ideal_27 : decode cX8_ideal 27 = .ok (.goto 4, 3) := by decide +kernel
theorem dX8_ideal_30 : decode cX8_ideal 30 = .ok (.iconst 0, 1) := by decide +kernel
theorem dX8_ideal_31 : decode cX8_ideal 31 = .ok (.ireturn, 1) := by decide +kernel
set_option maxRecDepth 20000 in
theorem ggX8_sumOf_X8_isCopy : GoodIn wsX8_sumOf wsX8_isCopy := goodIn_r _ [4, 5, 6, 3, 7] (by decide +kernel) (by decide +kernel)
set_option maxRecDepth 20000 in
theorem gX8_sumOf_X8_isCopy : GoodIn wsX8_sumOf (va_wsS RX8 97 yX8_isCopy wsX8_isCopy) := goodIn_app (goodIn_of _ (by decide +kernel)) ggX8_sumOf_X8_isCopy
set_option maxRecDepth 20000 in
theorem ggX8_sumOf_X8_isIn : GoodIn wsX8_sumOf wsX8_isIn := goodIn_r _ [7] (by decide +kernel) (by decide +kernel)
set_option maxRecDepth 20000 in
theorem gX8_sumOf_X8_isIn : GoodIn wsX8_sumOf (va_wsS RX8 57 yX8_isIn wsX8_isIn) := goodIn_app (goodIn_of _ (by decide +kernel)) ggX8_sumOf_X8_isIn
set_option maxRecDepth 20000 in
theorem ggX8_sumOf_X8_can : GoodIn wsX8_sumOf wsX8_can := goodIn_r _ [11, 12, 38, 39, 40, 41, 42, 43, 44, 45, 46, 47, 48, 49, 50, 51, 52, 53, 54, 55, 56] (by decide +kernel) (by decide +kernel)
set_option maxRecDepth 20000 in
theorem gX8_sumOf_X8_can : GoodIn wsX8_sumOf (wsV RX8 79 RX8 yX8_can wsX8_can) := goodIn_app (goodIn_of _ (by decide +kernel)) ggX8_sumOf_X8_can
set_option maxRecDepth 20000 in
theorem ggX8_sumOf_X8_sumOfNode : GoodIn wsX8_sumOf wsX8_sumOfNode := goodIn_r _ [16, 17, 18, 19, 20, 3, 21, 22, 23, 24, 25, 26, 27, 28, 29, 30, 31, 32, 33, 34, 35, 36, 37, 5, 6, 7, 38, 39, 40, 41, 42, 43, 44, 45, 46, 47, 48, 49, 50, 51, 52, 53, 54, 55, 56] (by decide +kernel) (by decide +kernel)
set_option maxRecDepth 20000 in
theorem gX8_sumOf_X8_sumOfNode : GoodIn wsX8_sumOf (wsV RX8 137 RX8 yX8_sumOfNode wsX8_sumOfNode) := goodIn_app (goodIn_of _ (by decide +kernel)) ggX8_sumOf_X8_sumOfNode
theorem dX8_sumOf_0 : decode cX8_sumOf 0 = .ok (.iload_n 1, 1) := by decide +kernel
theorem dX8_sumOf_1 : decode cX8_sumOf 1 = .ok (.invokestatic 97, 3) := by decide +kernel
theorem dX8_sumOf_4 : decode cX8_sumOf 4 = .ok (.ifCond .eq 29, 3) := by decide +kernel
theorem dX8_sumOf_7 : decode cX8_sumOf 7 = .ok (.iload_n 2, 1) := by decide +kernel
theorem dX8_sumOf_8 : decode cX8_sumOf 8 = .ok (.iconst 0, 1) := by decide +kernel
theorem dX8_sumOf_9 : decode cX8_sumOf 9 = .ok (.iconst 4, 1) := by decide +kernel
theorem dX8_sumOf_10 : decode cX8_sumOf 10 = .ok (.invokestatic 57, 3) := by decide +kernel
theorem dX8_sumOf_13 : decode cX8_sumOf 13 = .ok (.ifCond .eq 20, 3) := by decide +kernel
theorem dX8_sumOf_16 : decode cX8_sumOf 16 = .ok (.iload_n 3, 1) := by decide +kernel
theorem dX8_sumOf_17 : decode cX8_sumOf 17 = .ok (.iconst 0, 1) := by decide +kernel
theorem dX8_sumOf_18 : decode cX8_sumOf 18 = .ok (.iconst 1, 1) := by decide +kernel
theorem dX8_sumOf_19 : decode cX8_sumOf 19 = .ok (.iload_n 2, 1) := by decide +kernel
theorem dX8_sumOf_20 : decode cX8_sumOf 20 = .ok (.ishl, 1) := by decide +kernel
theorem dX8_sumOf_21 : decode cX8_sumOf 21 = .ok (.iconst 1, 1) := by decide +kernel
theorem dX8_sumOf_22 : decode cX8_sumOf 22 = .ok (.isub, 1) := by decide +kernel
theorem dX8_sumOf_23 : decode cX8_sumOf 23 = .ok (.invokestatic 57, 3) := by decide +kernel
theorem dX8_sumOf_26 : decode cX8_sumOf 26 = .ok (.ifCond .eq 7, 3) := by decide +kernel
theorem dX8_sumOf_29 : decode cX8_sumOf 29 = .ok (.iconst 1, 1) := by decide +kernel
theorem dX8_sumOf_30 : decode cX8_sumOf 30 = .ok (.goto 4, 3) := by decide +kernel
theorem dX8_sumOf_33 : decode cX8_sumOf 33 = .ok (.iconst 0, 1) := by decide +kernel
theorem dX8_sumOf_34 : decode cX8_sumOf 34 = .ok (.istore 4, 2) := by decide +kernel
theorem dX8_sumOf_36 : decode cX8_sumOf 36 = .ok (.aload_n 0, 1) := by decide +kernel
theorem dX8_sumOf_37 : decode cX8_sumOf 37 = .ok (.iload 4, 2) := by decide +kernel
theorem dX8_sumOf_39 : decode cX8_sumOf 39 = .ok (.ifCond .eq 7, 3) := by decide +kernel
theorem dX8_sumOf_42 : decode cX8_sumOf 42 = .ok (.iconst 0, 1) := by decide +kernel
theorem dX8_sumOf_43 : decode cX8_sumOf 43 = .ok (.goto 4, 3) := by decide +kernel
theorem dX8_sumOf_46 : decode cX8_sumOf 46 = .ok (.iconst 1, 1) := by decide +kernel
theorem dX8_sumOf_47 : decode cX8_sumOf 47 = .ok (.invokevirtual 79, 3) := by decide +kernel
theorem dX8_sumOf_50 : decode cX8_sumOf 50 = .ok (.ifCond .eq 13, 3) := by decide +kernel
theorem dX8_sumOf_53 : decode cX8_sumOf 53 = .ok (.aload_n 0, 1) := by decide +kernel
theorem dX8_sumOf_54 : decode cX8_sumOf 54 = .ok (.iload_n 1, 1) := by decide +kernel
theorem dX8_sumOf_55 : decode cX8_sumOf 55 = .ok (.iload_n 2, 1) := by decide +kernel
theorem dX8_sumOf_56 : decode cX8_sumOf 56 = .ok (.iload_n 3, 1) := by decide +kernel
theorem dX8_sumOf_57 : decode cX8_sumOf 57 = .ok (.invokevirtual 137, 3) := by decide +kernel
theorem dX8_sumOf_60 : decode cX8_sumOf 60 = .ok (.goto 4, 3) := by decide +kernel
theorem dX8_sumOf_63 : decode cX8_sumOf 63 = .ok (.iconst 0, 1) := by decide +kernel
theorem dX8_sumOf_64 : decode cX8_sumOf 64 = .ok (.ireturn, 1) := by decide +kernel
set_option maxRecDepth 20000 in
theorem ggX8_compared_X8_isCopy : GoodIn wsX8_compared wsX8_isCopy := goodIn_r _ [5, 6, 7, 4, 8] (by decide +kernel) (by decide +kernel)
set_option maxRecDepth 20000 in
theorem gX8_compared_X8_isCopy : GoodIn wsX8_compared (va_wsS RX8 97 yX8_isCopy wsX8_isCopy) := goodIn_app (goodIn_of _ (by decide +kernel)) ggX8_compared_X8_isCopy
set_option maxRecDepth 20000 in
theorem ggX8_compared_X8_can : GoodIn wsX8_compared wsX8_can := goodIn_r _ [12, 13, 43, 44, 45, 46, 47, 48, 49, 50, 51, 52, 53, 54, 55, 56, 57, 58, 59, 60, 61] (by decide +kernel) (by decide +kernel)
set_option maxRecDepth 20000 in
theorem gX8_compared_X8_can : GoodIn wsX8_compared (wsV RX8 79 RX8 yX8_can wsX8_can) := goodIn_app (goodIn_of _ (by decide +kernel)) ggX8_compared_X8_can
set_option maxRecDepth 20000 in
theorem ggX8_compared_X8_compares : GoodIn wsX8_compared wsX8_compares := goodIn_r _ [17, 1, 18, 19, 20, 4, 21, 22, 23, 24, 25, 26, 27, 28, 29, 30, 31, 32, 33, 34, 35, 36, 37, 38, 39, 40, 41, 42, 6, 7, 8, 43, 44, 45, 46, 47, 48, 49, 50, 51, 52, 53, 54, 55, 56, 57, 58, 59, 60, 61] (by decide +kernel) (by decide +kernel)
set_option maxRecDepth 20000 in
theorem gX8_compared_X8_compares : GoodIn wsX8_compared (wsV RX8 140 RX8 yX8_compares wsX8_compares) := goodIn_app (goodIn_of _ (by decide +kernel)) ggX8_compared_X8_compares
theorem dX8_compared_0 : decode cX8_compared 0 = .ok (.aload_n 0, 1) := by decide +kernel
theorem dX8_compared_1 : decode cX8_compared 1 = .ok (.iload_n 1, 1) := by decide +kernel
theorem dX8_compared_2 : decode cX8_compared 2 = .ok (.invokestatic 97, 3) := by decide +kernel
theorem dX8_compared_5 : decode cX8_compared 5 = .ok (.ifCond .eq 14, 3) := by decide +kernel
theorem dX8_compared_8 : decode cX8_compared 8 = .ok (.iload_n 2, 1) := by decide +kernel
theorem dX8_compared_9 : decode cX8_compared 9 = .ok (.invokestatic 97, 3) := by decide +kernel
theorem dX8_compared_12 : decode cX8_compared 12 = .ok (.ifCond .eq 7, 3) := by decide +kernel
theorem dX8_compared_15 : decode cX8_compared 15 = .ok (.iconst 0, 1) := by decide +kernel
theorem dX8_compared_16 : decode cX8_compared 16 = .ok (.goto 4, 3) := by decide +kernel
theorem dX8_compared_19 : decode cX8_compared 19 = .ok (.iconst 1, 1) := by decide +kernel
theorem dX8_compared_20 : decode cX8_compared 20 = .ok (.invokevirtual 79, 3) := by decide +kernel
theorem dX8_compared_23 : decode cX8_compared 23 = .ok (.ifCond .ne 5, 3) := by decide +kernel
theorem dX8_compared_26 : decode cX8_compared 26 = .ok (.iconst 0, 1) := by decide +kernel
theorem dX8_compared_27 : decode cX8_compared 27 = .ok (.ireturn, 1) := by decide +kernel
theorem dX8_compared_28 : decode cX8_compared 28 = .ok (.aload_n 0, 1) := by decide +kernel
theorem dX8_compared_29 : decode cX8_compared 29 = .ok (.iload_n 1, 1) := by decide +kernel
theorem dX8_compared_30 : decode cX8_compared 30 = .ok (.iload_n 2, 1) := by decide +kernel
theorem dX8_compared_31 : decode cX8_compared 31 = .ok (.invokevirtual 140, 3) := by decide +kernel
theorem dX8_compared_34 : decode cX8_compared 34 = .ok (.pop, 1) := by decide +kernel
theorem dX8_compared_35 : decode cX8_compared 35 = .ok (.aload_n 0, 1) := by decide +kernel
theorem dX8_compared_36 : decode cX8_compared 36 = .ok (.getfield 134, 3) := by decide +kernel
theorem dX8_compared_39 : decode cX8_compared 39 = .ok (.ireturn, 1) := by decide +kernel
set_option maxRecDepth 20000 in
theorem ggX8_unlike_X8_isCopy : GoodIn wsX8_unlike wsX8_isCopy := goodIn_r _ [4, 5, 6, 3, 7] (by decide +kernel) (by decide +kernel)
set_option maxRecDepth 20000 in
theorem gX8_unlike_X8_isCopy : GoodIn wsX8_unlike (va_wsS RX8 97 yX8_isCopy wsX8_isCopy) := goodIn_app (goodIn_of _ (by decide +kernel)) ggX8_unlike_X8_isCopy
set_option maxRecDepth 20000 in
theorem ggX8_unlike_X8_can : GoodIn wsX8_unlike wsX8_can := goodIn_r _ [11, 12, 43, 44, 45, 46, 47, 48, 49, 50, 51, 52, 53, 54, 55, 56, 57, 58, 59, 60, 61] (by decide +kernel) (by decide +kernel)
set_option maxRecDepth 20000 in
theorem gX8_unlike_X8_can : GoodIn wsX8_unlike (wsV RX8 79 RX8 yX8_can wsX8_can) := goodIn_app (goodIn_of _ (by decide +kernel)) ggX8_unlike_X8_can
set_option maxRecDepth 20000 in
theorem ggX8_unlike_X8_compares : GoodIn wsX8_unlike wsX8_compares := goodIn_r _ [16, 17, 18, 19, 20, 3, 21, 22, 23, 24, 25, 26, 27, 28, 29, 30, 31, 32, 33, 34, 35, 36, 37, 38, 39, 40, 41, 42, 5, 6, 7, 43, 44, 45, 46, 47, 48, 49, 50, 51, 52, 53, 54, 55, 56, 57, 58, 59, 60, 61] (by decide +kernel) (by decide +kernel)
set_option maxRecDepth 20000 in
theorem gX8_unlike_X8_compares : GoodIn wsX8_unlike (wsV RX8 140 RX8 yX8_compares wsX8_compares) := goodIn_app (goodIn_of _ (by decide +kernel)) ggX8_unlike_X8_compares
theorem dX8_unlike_0 : decode cX8_unlike 0 = .ok (.aload_n 0, 1) := by decide +kernel
theorem dX8_unlike_1 : decode cX8_unlike 1 = .ok (.iload_n 1, 1) := by decide +kernel
theorem dX8_unlike_2 : decode cX8_unlike 2 = .ok (.invokestatic 97, 3) := by decide +kernel
theorem dX8_unlike_5 : decode cX8_unlike 5 = .ok (.ifCond .eq 14, 3) := by decide +kernel
theorem dX8_unlike_8 : decode cX8_unlike 8 = .ok (.iload_n 2, 1) := by decide +kernel
theorem dX8_unlike_9 : decode cX8_unlike 9 = .ok (.invokestatic 97, 3) := by decide +kernel
theorem dX8_unlike_12 : decode cX8_unlike 12 = .ok (.ifCond .eq 7, 3) := by decide +kernel
theorem dX8_unlike_15 : decode cX8_unlike 15 = .ok (.iconst 0, 1) := by decide +kernel
theorem dX8_unlike_16 : decode cX8_unlike 16 = .ok (.goto 4, 3) := by decide +kernel
theorem dX8_unlike_19 : decode cX8_unlike 19 = .ok (.iconst 1, 1) := by decide +kernel
theorem dX8_unlike_20 : decode cX8_unlike 20 = .ok (.invokevirtual 79, 3) := by decide +kernel
theorem dX8_unlike_23 : decode cX8_unlike 23 = .ok (.ifCond .eq 12, 3) := by decide +kernel
theorem dX8_unlike_26 : decode cX8_unlike 26 = .ok (.aload_n 0, 1) := by decide +kernel
theorem dX8_unlike_27 : decode cX8_unlike 27 = .ok (.iload_n 1, 1) := by decide +kernel
theorem dX8_unlike_28 : decode cX8_unlike 28 = .ok (.iload_n 2, 1) := by decide +kernel
theorem dX8_unlike_29 : decode cX8_unlike 29 = .ok (.invokevirtual 140, 3) := by decide +kernel
theorem dX8_unlike_32 : decode cX8_unlike 32 = .ok (.goto 4, 3) := by decide +kernel
theorem dX8_unlike_35 : decode cX8_unlike 35 = .ok (.iconst 0, 1) := by decide +kernel
theorem dX8_unlike_36 : decode cX8_unlike 36 = .ok (.ireturn, 1) := by decide +kernel
set_option maxRecDepth 20000 in
theorem ggX8_areAlike_X8_isCopy : GoodIn wsX8_areAlike wsX8_isCopy := goodIn_r _ [4, 5, 6, 3, 7] (by decide +kernel) (by decide +kernel)
set_option maxRecDepth 20000 in
theorem gX8_areAlike_X8_isCopy : GoodIn wsX8_areAlike (va_wsS RX8 97 yX8_isCopy wsX8_isCopy) := goodIn_app (goodIn_of _ (by decide +kernel)) ggX8_areAlike_X8_isCopy
set_option maxRecDepth 20000 in
theorem ggX8_areAlike_X8_can : GoodIn wsX8_areAlike wsX8_can := goodIn_r _ [11, 12, 26, 27, 28, 29, 30, 31, 32, 33, 34, 35, 36, 37, 38, 39, 40, 41, 42, 43, 44] (by decide +kernel) (by decide +kernel)
set_option maxRecDepth 20000 in
theorem gX8_areAlike_X8_can : GoodIn wsX8_areAlike (wsV RX8 79 RX8 yX8_can wsX8_can) := goodIn_app (goodIn_of _ (by decide +kernel)) ggX8_areAlike_X8_can
set_option maxRecDepth 20000 in
theorem ggX8_areAlike_X8_areSameEntries : GoodIn wsX8_areAlike wsX8_areSameEntries := goodIn_r _ [16, 17, 18, 19, 26, 27, 28, 29, 30, 31, 32, 33, 34, 35, 36, 37, 38, 39, 40, 41, 42, 43, 44] (by decide +kernel) (by decide +kernel)
set_option maxRecDepth 20000 in
theorem gX8_areAlike_X8_areSameEntries : GoodIn wsX8_areAlike (wsV RX8 107 RX8 yX8_areSameEntries wsX8_areSameEntries) := goodIn_app (goodIn_of _ (by decide +kernel)) ggX8_areAlike_X8_areSameEntries
set_option maxRecDepth 20000 in
theorem ggX8_areAlike_X8_areSameTombs : GoodIn wsX8_areAlike wsX8_areSameTombs := goodIn_r _ [23, 24, 25, 26, 27, 28, 29, 30, 31, 32, 33, 34, 35, 36, 37, 38, 39, 40, 41, 42, 43, 44] (by decide +kernel) (by decide +kernel)
set_option maxRecDepth 20000 in
theorem gX8_areAlike_X8_areSameTombs : GoodIn wsX8_areAlike (wsV RX8 114 RX8 yX8_areSameTombs wsX8_areSameTombs) := goodIn_app (goodIn_of _ (by decide +kernel)) ggX8_areAlike_X8_areSameTombs
theorem dX8_areAlike_0 : decode cX8_areAlike 0 = .ok (.aload_n 0, 1) := by decide +kernel
theorem dX8_areAlike_1 : decode cX8_areAlike 1 = .ok (.iload_n 1, 1) := by decide +kernel
theorem dX8_areAlike_2 : decode cX8_areAlike 2 = .ok (.invokestatic 97, 3) := by decide +kernel
theorem dX8_areAlike_5 : decode cX8_areAlike 5 = .ok (.ifCond .eq 14, 3) := by decide +kernel
theorem dX8_areAlike_8 : decode cX8_areAlike 8 = .ok (.iload_n 2, 1) := by decide +kernel
theorem dX8_areAlike_9 : decode cX8_areAlike 9 = .ok (.invokestatic 97, 3) := by decide +kernel
theorem dX8_areAlike_12 : decode cX8_areAlike 12 = .ok (.ifCond .eq 7, 3) := by decide +kernel
theorem dX8_areAlike_15 : decode cX8_areAlike 15 = .ok (.iconst 0, 1) := by decide +kernel
theorem dX8_areAlike_16 : decode cX8_areAlike 16 = .ok (.goto 4, 3) := by decide +kernel
theorem dX8_areAlike_19 : decode cX8_areAlike 19 = .ok (.iconst 1, 1) := by decide +kernel
theorem dX8_areAlike_20 : decode cX8_areAlike 20 = .ok (.invokevirtual 79, 3) := by decide +kernel
theorem dX8_areAlike_23 : decode cX8_areAlike 23 = .ok (.ifCond .ne 5, 3) := by decide +kernel
theorem dX8_areAlike_26 : decode cX8_areAlike 26 = .ok (.iconst 0, 1) := by decide +kernel
theorem dX8_areAlike_27 : decode cX8_areAlike 27 = .ok (.ireturn, 1) := by decide +kernel
theorem dX8_areAlike_28 : decode cX8_areAlike 28 = .ok (.iconst 1, 1) := by decide +kernel
theorem dX8_areAlike_29 : decode cX8_areAlike 29 = .ok (.istore_n 3, 1) := by decide +kernel
theorem dX8_areAlike_30 : decode cX8_areAlike 30 = .ok (.iconst 0, 1) := by decide +kernel
theorem dX8_areAlike_31 : decode cX8_areAlike 31 = .ok (.istore 4, 2) := by decide +kernel
theorem dX8_areAlike_33 : decode cX8_areAlike 33 = .ok (.iload 4, 2) := by decide +kernel
theorem dX8_areAlike_35 : decode cX8_areAlike 35 = .ok (.bipush 64, 2) := by decide +kernel
theorem dX8_areAlike_37 : decode cX8_areAlike 37 = .ok (.if_icmp .ge 30, 3) := by decide +kernel
theorem dX8_areAlike_40 : decode cX8_areAlike 40 = .ok (.iload_n 3, 1) := by decide +kernel
theorem dX8_areAlike_41 : decode cX8_areAlike 41 = .ok (.ifCond .eq 18, 3) := by decide +kernel
theorem dX8_areAlike_44 : decode cX8_areAlike 44 = .ok (.aload_n 0, 1) := by decide +kernel
theorem dX8_areAlike_45 : decode cX8_areAlike 45 = .ok (.iload_n 1, 1) := by decide +kernel
theorem dX8_areAlike_46 : decode cX8_areAlike 46 = .ok (.iload_n 2, 1) := by decide +kernel
theorem dX8_areAlike_47 : decode cX8_areAlike 47 = .ok (.iload 4, 2) := by decide +kernel
theorem dX8_areAlike_49 : decode cX8_areAlike 49 = .ok (.invokevirtual 107, 3) := by decide +kernel
theorem dX8_areAlike_52 : decode cX8_areAlike 52 = .ok (.ifCond .eq 7, 3) := by decide +kernel
theorem dX8_areAlike_55 : decode cX8_areAlike 55 = .ok (.iconst 1, 1) := by decide +kernel
theorem dX8_areAlike_56 : decode cX8_areAlike 56 = .ok (.goto 4, 3) := by decide +kernel
theorem dX8_areAlike_59 : decode cX8_areAlike 59 = .ok (.iconst 0, 1) := by decide +kernel
theorem dX8_areAlike_60 : decode cX8_areAlike 60 = .ok (.istore_n 3, 1) := by decide +kernel
theorem dX8_areAlike_61 : decode cX8_areAlike 61 = .ok (.iinc 4 1, 3) := by decide +kernel
theorem dX8_areAlike_64 : decode cX8_areAlike 64 = .ok (.goto (-31), 3) := by decide +kernel
theorem dX8_areAlike_67 : decode cX8_areAlike 67 = .ok (.iconst 0, 1) := by decide +kernel
theorem dX8_areAlike_68 : decode cX8_areAlike 68 = .ok (.istore 4, 2) := by decide +kernel
theorem dX8_areAlike_70 : decode cX8_areAlike 70 = .ok (.iload 4, 2) := by decide +kernel
theorem dX8_areAlike_72 : decode cX8_areAlike 72 = .ok (.bipush 92, 2) := by decide +kernel
theorem dX8_areAlike_74 : decode cX8_areAlike 74 = .ok (.if_icmp .ge 30, 3) := by decide +kernel
theorem dX8_areAlike_77 : decode cX8_areAlike 77 = .ok (.iload_n 3, 1) := by decide +kernel
theorem dX8_areAlike_78 : decode cX8_areAlike 78 = .ok (.ifCond .eq 18, 3) := by decide +kernel
theorem dX8_areAlike_81 : decode cX8_areAlike 81 = .ok (.aload_n 0, 1) := by decide +kernel
theorem dX8_areAlike_82 : decode cX8_areAlike 82 = .ok (.iload_n 1, 1) := by decide +kernel
theorem dX8_areAlike_83 : decode cX8_areAlike 83 = .ok (.iload_n 2, 1) := by decide +kernel
theorem dX8_areAlike_84 : decode cX8_areAlike 84 = .ok (.iload 4, 2) := by decide +kernel
theorem dX8_areAlike_86 : decode cX8_areAlike 86 = .ok (.invokevirtual 114, 3) := by decide +kernel
theorem dX8_areAlike_89 : decode cX8_areAlike 89 = .ok (.ifCond .eq 7, 3) := by decide +kernel
theorem dX8_areAlike_92 : decode cX8_areAlike 92 = .ok (.iconst 1, 1) := by decide +kernel
theorem dX8_areAlike_93 : decode cX8_areAlike 93 = .ok (.goto 4, 3) := by decide +kernel
theorem dX8_areAlike_96 : decode cX8_areAlike 96 = .ok (.iconst 0, 1) := by decide +kernel
theorem dX8_areAlike_97 : decode cX8_areAlike 97 = .ok (.istore_n 3, 1) := by decide +kernel
theorem dX8_areAlike_98 : decode cX8_areAlike 98 = .ok (.iinc 4 1, 3) := by decide +kernel
theorem dX8_areAlike_101 : decode cX8_areAlike 101 = .ok (.goto (-31), 3) := by decide +kernel
theorem dX8_areAlike_104 : decode cX8_areAlike 104 = .ok (.iload_n 3, 1) := by decide +kernel
theorem dX8_areAlike_105 : decode cX8_areAlike 105 = .ok (.ireturn, 1) := by decide +kernel
theorem dJ6_bitCount_0f7a4_0 : decode cJ6_bitCount_0f7a4 0 = .ok (.iload_n 0, 1) := by decide +kernel
theorem dJ6_bitCount_0f7a4_1 : decode cJ6_bitCount_0f7a4 1 = .ok (.iload_n 0, 1) := by decide +kernel
theorem dJ6_bitCount_0f7a4_2 : decode cJ6_bitCount_0f7a4 2 = .ok (.iconst 1, 1) := by decide +kernel
theorem dJ6_bitCount_0f7a4_3 : decode cJ6_bitCount_0f7a4 3 = .ok (.iushr, 1) := by decide +kernel
theorem dJ6_bitCount_0f7a4_4 : decode cJ6_bitCount_0f7a4 4 = .ok (.ldc_w 265, 3) := by decide +kernel
theorem dJ6_bitCount_0f7a4_7 : decode cJ6_bitCount_0f7a4 7 = .ok (.iand, 1) := by decide +kernel
theorem dJ6_bitCount_0f7a4_8 : decode cJ6_bitCount_0f7a4 8 = .ok (.isub, 1) := by decide +kernel
theorem dJ6_bitCount_0f7a4_9 : decode cJ6_bitCount_0f7a4 9 = .ok (.istore_n 0, 1) := by decide +kernel
theorem dJ6_bitCount_0f7a4_10 : decode cJ6_bitCount_0f7a4 10 = .ok (.iload_n 0, 1) := by decide +kernel
theorem dJ6_bitCount_0f7a4_11 : decode cJ6_bitCount_0f7a4 11 = .ok (.ldc_w 266, 3) := by decide +kernel
theorem dJ6_bitCount_0f7a4_14 : decode cJ6_bitCount_0f7a4 14 = .ok (.iand, 1) := by decide +kernel
theorem dJ6_bitCount_0f7a4_15 : decode cJ6_bitCount_0f7a4 15 = .ok (.iload_n 0, 1) := by decide +kernel
theorem dJ6_bitCount_0f7a4_16 : decode cJ6_bitCount_0f7a4 16 = .ok (.iconst 2, 1) := by decide +kernel
theorem dJ6_bitCount_0f7a4_17 : decode cJ6_bitCount_0f7a4 17 = .ok (.iushr, 1) := by decide +kernel
theorem dJ6_bitCount_0f7a4_18 : decode cJ6_bitCount_0f7a4 18 = .ok (.ldc_w 266, 3) := by decide +kernel
theorem dJ6_bitCount_0f7a4_21 : decode cJ6_bitCount_0f7a4 21 = .ok (.iand, 1) := by decide +kernel
theorem dJ6_bitCount_0f7a4_22 : decode cJ6_bitCount_0f7a4 22 = .ok (.iadd, 1) := by decide +kernel
theorem dJ6_bitCount_0f7a4_23 : decode cJ6_bitCount_0f7a4 23 = .ok (.istore_n 0, 1) := by decide +kernel
theorem dJ6_bitCount_0f7a4_24 : decode cJ6_bitCount_0f7a4 24 = .ok (.iload_n 0, 1) := by decide +kernel
theorem dJ6_bitCount_0f7a4_25 : decode cJ6_bitCount_0f7a4 25 = .ok (.iload_n 0, 1) := by decide +kernel
theorem dJ6_bitCount_0f7a4_26 : decode cJ6_bitCount_0f7a4 26 = .ok (.iconst 4, 1) := by decide +kernel
theorem dJ6_bitCount_0f7a4_27 : decode cJ6_bitCount_0f7a4 27 = .ok (.iushr, 1) := by decide +kernel
theorem dJ6_bitCount_0f7a4_28 : decode cJ6_bitCount_0f7a4 28 = .ok (.iadd, 1) := by decide +kernel
theorem dJ6_bitCount_0f7a4_29 : decode cJ6_bitCount_0f7a4 29 = .ok (.ldc_w 267, 3) := by decide +kernel
theorem dJ6_bitCount_0f7a4_32 : decode cJ6_bitCount_0f7a4 32 = .ok (.iand, 1) := by decide +kernel
theorem dJ6_bitCount_0f7a4_33 : decode cJ6_bitCount_0f7a4 33 = .ok (.istore_n 0, 1) := by decide +kernel
theorem dJ6_bitCount_0f7a4_34 : decode cJ6_bitCount_0f7a4 34 = .ok (.iload_n 0, 1) := by decide +kernel
theorem dJ6_bitCount_0f7a4_35 : decode cJ6_bitCount_0f7a4 35 = .ok (.iload_n 0, 1) := by decide +kernel
theorem dJ6_bitCount_0f7a4_36 : decode cJ6_bitCount_0f7a4 36 = .ok (.bipush 8, 2) := by decide +kernel
theorem dJ6_bitCount_0f7a4_38 : decode cJ6_bitCount_0f7a4 38 = .ok (.iushr, 1) := by decide +kernel
theorem dJ6_bitCount_0f7a4_39 : decode cJ6_bitCount_0f7a4 39 = .ok (.iadd, 1) := by decide +kernel
theorem dJ6_bitCount_0f7a4_40 : decode cJ6_bitCount_0f7a4 40 = .ok (.istore_n 0, 1) := by decide +kernel
theorem dJ6_bitCount_0f7a4_41 : decode cJ6_bitCount_0f7a4 41 = .ok (.iload_n 0, 1) := by decide +kernel
theorem dJ6_bitCount_0f7a4_42 : decode cJ6_bitCount_0f7a4 42 = .ok (.iload_n 0, 1) := by decide +kernel
theorem dJ6_bitCount_0f7a4_43 : decode cJ6_bitCount_0f7a4 43 = .ok (.bipush 16, 2) := by decide +kernel
theorem dJ6_bitCount_0f7a4_45 : decode cJ6_bitCount_0f7a4 45 = .ok (.iushr, 1) := by decide +kernel
theorem dJ6_bitCount_0f7a4_46 : decode cJ6_bitCount_0f7a4 46 = .ok (.iadd, 1) := by decide +kernel
theorem dJ6_bitCount_0f7a4_47 : decode cJ6_bitCount_0f7a4 47 = .ok (.istore_n 0, 1) := by decide +kernel
theorem dJ6_bitCount_0f7a4_48 : decode cJ6_bitCount_0f7a4 48 = .ok (.iload_n 0, 1) := by decide +kernel
theorem dJ6_bitCount_0f7a4_49 : decode cJ6_bitCount_0f7a4 49 = .ok (.bipush 63, 2) := by decide +kernel
theorem dJ6_bitCount_0f7a4_51 : decode cJ6_bitCount_0f7a4 51 = .ok (.iand, 1) := by decide +kernel
theorem dJ6_bitCount_0f7a4_52 : decode cJ6_bitCount_0f7a4 52 = .ok (.ireturn, 1) := by decide +kernel
theorem dJ9_max_7cf53_0 : decode cJ9_max_7cf53 0 = .ok (.iload_n 0, 1) := by decide +kernel
theorem dJ9_max_7cf53_1 : decode cJ9_max_7cf53 1 = .ok (.iload_n 1, 1) := by decide +kernel
theorem dJ9_max_7cf53_2 : decode cJ9_max_7cf53 2 = .ok (.if_icmp .lt 7, 3) := by decide +kernel
theorem dJ9_max_7cf53_5 : decode cJ9_max_7cf53 5 = .ok (.iload_n 0, 1) := by decide +kernel
theorem dJ9_max_7cf53_6 : decode cJ9_max_7cf53 6 = .ok (.goto 4, 3) := by decide +kernel
theorem dJ9_max_7cf53_9 : decode cJ9_max_7cf53 9 = .ok (.iload_n 1, 1) := by decide +kernel
theorem dJ9_max_7cf53_10 : decode cJ9_max_7cf53 10 = .ok (.ireturn, 1) := by decide +kernel
theorem dJ9_min_7cf53_0 : decode cJ9_min_7cf53 0 = .ok (.iload_n 0, 1) := by decide +kernel
theorem dJ9_min_7cf53_1 : decode cJ9_min_7cf53 1 = .ok (.iload_n 1, 1) := by decide +kernel
theorem dJ9_min_7cf53_2 : decode cJ9_min_7cf53 2 = .ok (.if_icmp .gt 7, 3) := by decide +kernel
theorem dJ9_min_7cf53_5 : decode cJ9_min_7cf53 5 = .ok (.iload_n 0, 1) := by decide +kernel
theorem dJ9_min_7cf53_6 : decode cJ9_min_7cf53 6 = .ok (.goto 4, 3) := by decide +kernel
theorem dJ9_min_7cf53_9 : decode cJ9_min_7cf53 9 = .ok (.iload_n 1, 1) := by decide +kernel
theorem dJ9_min_7cf53_10 : decode cJ9_min_7cf53 10 = .ok (.ireturn, 1) := by decide +kernel
theorem dJxa1e45_init_da8c8_0 : decode cJxa1e45_init_da8c8 0 = .ok (.aload_n 0, 1) := by decide +kernel
theorem dJxa1e45_init_da8c8_1 : decode cJxa1e45_init_da8c8 1 = .ok (.invokespecial 1, 3) := by decide +kernel
theorem dJxa1e45_init_da8c8_4 : decode cJxa1e45_init_da8c8 4 = .ok (.return_, 1) := by decide +kernel
set_option maxRecDepth 20000 in
theorem ggJxc12de_init_da8c8_Jxa1e45_init_da8c8 : GoodIn wsJxc12de_init_da8c8 wsJxa1e45_init_da8c8 := goodIn_r _ [5, 6, 7, 8] (by decide +kernel) (by decide +kernel)
set_option maxRecDepth 20000 in
theorem gJxc12de_init_da8c8_Jxa1e45_init_da8c8 : GoodIn wsJxc12de_init_da8c8 (wsJxa1e45_init_da8c8) := ggJxc12de_init_da8c8_Jxa1e45_init_da8c8
theorem dJxc12de_init_da8c8_0 : decode cJxc12de_init_da8c8 0 = .ok (.aload_n 0, 1) := by decide +kernel
theorem dJxc12de_init_da8c8_1 : decode cJxc12de_init_da8c8 1 = .ok (.invokespecial 1, 3) := by decide +kernel
theorem dJxc12de_init_da8c8_4 : decode cJxc12de_init_da8c8 4 = .ok (.aload_n 0, 1) := by decide +kernel
theorem dJxc12de_init_da8c8_5 : decode cJxc12de_init_da8c8 5 = .ok (.iconst 0, 1) := by decide +kernel
theorem dJxc12de_init_da8c8_6 : decode cJxc12de_init_da8c8 6 = .ok (.putfield 7, 3) := by decide +kernel
theorem dJxc12de_init_da8c8_9 : decode cJxc12de_init_da8c8 9 = .ok (.return_, 1) := by decide +kernel
set_option maxRecDepth 20000 in
theorem ggJx4a65c_init_da8c8_Jxc12de_init_da8c8 : GoodIn wsJx4a65c_init_da8c8 wsJxc12de_init_da8c8 := goodIn_r _ [6, 7, 8, 9, 10, 11, 12, 13, 14, 15, 16, 17] (by decide +kernel) (by decide +kernel)
set_option maxRecDepth 20000 in
theorem gJx4a65c_init_da8c8_Jxc12de_init_da8c8 : GoodIn wsJx4a65c_init_da8c8 (wsJxc12de_init_da8c8) := ggJx4a65c_init_da8c8_Jxc12de_init_da8c8
theorem dJx4a65c_init_da8c8_0 : decode cJx4a65c_init_da8c8 0 = .ok (.aload_n 0, 1) := by decide +kernel
theorem dJx4a65c_init_da8c8_1 : decode cJx4a65c_init_da8c8 1 = .ok (.invokespecial 1, 3) := by decide +kernel
theorem dJx4a65c_init_da8c8_4 : decode cJx4a65c_init_da8c8 4 = .ok (.aload_n 0, 1) := by decide +kernel
theorem dJx4a65c_init_da8c8_5 : decode cJx4a65c_init_da8c8 5 = .ok (.getstatic 39, 3) := by decide +kernel
theorem dJx4a65c_init_da8c8_8 : decode cJx4a65c_init_da8c8 8 = .ok (.putfield 9, 3) := by decide +kernel
theorem dJx4a65c_init_da8c8_11 : decode cJx4a65c_init_da8c8 11 = .ok (.return_, 1) := by decide +kernel
set_option maxRecDepth 20000 in
theorem ggJx4a65c_grow_92f84_J8_newLength_cabcc : GoodIn wsJx4a65c_grow_92f84 wsJ8_newLength_cabcc := goodIn_r _ [11, 12, 4, 5, 6, 13, 14, 15, 10, 16] (by decide +kernel) (by decide +kernel)
set_option maxRecDepth 20000 in
theorem gJx4a65c_grow_92f84_J8_newLength_cabcc : GoodIn wsJx4a65c_grow_92f84 (va_wsS RJx4a65c 73 yJ8_newLength_cabcc wsJ8_newLength_cabcc) := goodIn_app (goodIn_of _ (by decide +kernel)) ggJx4a65c_grow_92f84_J8_newLength_cabcc
set_option maxRecDepth 20000 in
theorem ggJx4a65c_grow_92f84_J7_copyOf_1904c : GoodIn wsJx4a65c_grow_92f84 wsJ7_copyOf_1904c := goodIn_r _ [20, 21, 22, 23, 24, 25, 26, 19, 27, 28, 29, 30, 31, 5, 32, 33, 34, 35, 36] (by decide +kernel) (by decide +kernel)
set_option maxRecDepth 20000 in
theorem gJx4a65c_grow_92f84_J7_copyOf_1904c : GoodIn wsJx4a65c_grow_92f84 (va_wsS RJx4a65c 66 yJ7_copyOf_1904c wsJ7_copyOf_1904c) := goodIn_app (goodIn_of _ (by decide +kernel)) ggJx4a65c_grow_92f84_J7_copyOf_1904c
theorem dJx4a65c_grow_92f84_0 : decode cJx4a65c_grow_92f84 0 = .ok (.aload_n 0, 1) := by decide +kernel
theorem dJx4a65c_grow_92f84_1 : decode cJx4a65c_grow_92f84 1 = .ok (.getfield 9, 3) := by decide +kernel
theorem dJx4a65c_grow_92f84_4 : decode cJx4a65c_grow_92f84 4 = .ok (.arraylength, 1) := by decide +kernel
theorem dJx4a65c_grow_92f84_5 : decode cJx4a65c_grow_92f84 5 = .ok (.istore_n 2, 1) := by decide +kernel
theorem dJx4a65c_grow_92f84_6 : decode cJx4a65c_grow_92f84 6 = .ok (.iload_n 2, 1) := by decide +kernel
theorem dJx4a65c_grow_92f84_7 : decode cJx4a65c_grow_92f84 7 = .ok (.ifCond .gt 13, 3) := by decide +kernel
theorem dJx4a65c_grow_92f84_10 : decode cJx4a65c_grow_92f84 10 = .ok (.aload_n 0, 1) := by decide +kernel
theorem dJx4a65c_grow_92f84_11 : decode cJx4a65c_grow_92f84 11 = .ok (.getfield 9, 3) := by decide +kernel
theorem dJx4a65c_grow_92f84_14 : decode cJx4a65c_grow_92f84 14 = .ok (.getstatic 39, 3) := by decide +kernel
theorem dJx4a65c_grow_92f84_17 : decode cJx4a65c_grow_92f84 17 = .ok (.if_acmp .eq 28, 3) := by decide +kernel
theorem dJx4a65c_grow_92f84_20 : decode cJx4a65c_grow_92f84 20 = .ok (.iload_n 2, 1) := by decide +kernel
theorem dJx4a65c_grow_92f84_21 : decode cJx4a65c_grow_92f84 21 = .ok (.iload_n 1, 1) := by decide +kernel
theorem dJx4a65c_grow_92f84_22 : decode cJx4a65c_grow_92f84 22 = .ok (.iload_n 2, 1) := by decide +kernel
theorem dJx4a65c_grow_92f84_23 : decode cJx4a65c_grow_92f84 23 = .ok (.isub, 1) := by decide +kernel
theorem dJx4a65c_grow_92f84_24 : decode cJx4a65c_grow_92f84 24 = .ok (.iload_n 2, 1) := by decide +kernel
theorem dJx4a65c_grow_92f84_25 : decode cJx4a65c_grow_92f84 25 = .ok (.iconst 1, 1) := by decide +kernel
theorem dJx4a65c_grow_92f84_26 : decode cJx4a65c_grow_92f84 26 = .ok (.ishr, 1) := by decide +kernel
theorem dJx4a65c_grow_92f84_27 : decode cJx4a65c_grow_92f84 27 = .ok (.invokestatic 73, 3) := by decide +kernel
theorem dJx4a65c_grow_92f84_30 : decode cJx4a65c_grow_92f84 30 = .ok (.istore_n 3, 1) := by decide +kernel
theorem dJx4a65c_grow_92f84_31 : decode cJx4a65c_grow_92f84 31 = .ok (.aload_n 0, 1) := by decide +kernel
theorem dJx4a65c_grow_92f84_32 : decode cJx4a65c_grow_92f84 32 = .ok (.aload_n 0, 1) := by decide +kernel
theorem dJx4a65c_grow_92f84_33 : decode cJx4a65c_grow_92f84 33 = .ok (.getfield 9, 3) := by decide +kernel
theorem dJx4a65c_grow_92f84_36 : decode cJx4a65c_grow_92f84 36 = .ok (.iload_n 3, 1) := by decide +kernel
theorem dJx4a65c_grow_92f84_37 : decode cJx4a65c_grow_92f84 37 = .ok (.invokestatic 66, 3) := by decide +kernel
theorem dJx4a65c_grow_92f84_40 : decode cJx4a65c_grow_92f84 40 = .ok (.dup_x1, 1) := by decide +kernel
theorem dJx4a65c_grow_92f84_41 : decode cJx4a65c_grow_92f84 41 = .ok (.putfield 9, 3) := by decide +kernel
theorem dJx4a65c_grow_92f84_44 : decode cJx4a65c_grow_92f84 44 = .ok (.areturn, 1) := by decide +kernel
theorem dJx4a65c_grow_92f84_45 : decode cJx4a65c_grow_92f84 45 = .ok (.aload_n 0, 1) := by decide +kernel
theorem dJx4a65c_grow_92f84_46 : decode cJx4a65c_grow_92f84 46 = .ok (.bipush 10, 2) := by decide +kernel
theorem dJx4a65c_grow_92f84_48 : decode cJx4a65c_grow_92f84 48 = .ok (.iload_n 1, 1) := by decide +kernel
theorem dJx4a65c_grow_92f84_49 : decode cJx4a65c_grow_92f84 49 = .ok (.invokestatic 79, 3) := by decide +kernel
theorem dJx4a65c_grow_92f84_52 : decode cJx4a65c_grow_92f84 52 = .ok (.anewarray 7, 3) := by decide +kernel
theorem dJx4a65c_grow_92f84_55 : decode cJx4a65c_grow_92f84 55 = .ok (.dup_x1, 1) := by decide +kernel
theorem dJx4a65c_grow_92f84_56 : decode cJx4a65c_grow_92f84 56 = .ok (.putfield 9, 3) := by decide +kernel
theorem dJx4a65c_grow_92f84_59 : decode cJx4a65c_grow_92f84 59 = .ok (.areturn, 1) := by decide +kernel
set_option maxRecDepth 20000 in
theorem ggJx4a65c_grow_d5877_Jx4a65c_grow_92f84 : GoodIn wsJx4a65c_grow_d5877 wsJx4a65c_grow_92f84 := goodIn_r _ [6, 7, 8, 9, 10, 11, 12, 13, 14, 15, 16, 17, 18, 19, 20, 21, 22, 23, 24, 25, 26, 27, 28, 29, 30, 31, 32, 33, 34, 35, 36, 37, 38, 39, 40, 41, 42, 43, 44, 45] (by decide +kernel) (by decide +kernel)
set_option maxRecDepth 20000 in
theorem gJx4a65c_grow_d5877_Jx4a65c_grow_92f84 : GoodIn wsJx4a65c_grow_d5877 (wsV RJx4a65c 69 RJx4a65c yJx4a65c_grow_92f84 wsJx4a65c_grow_92f84) := goodIn_app (goodIn_of _ (by decide +kernel)) ggJx4a65c_grow_d5877_Jx4a65c_grow_92f84
theorem dJx4a65c_grow_d5877_0 : decode cJx4a65c_grow_d5877 0 = .ok (.aload_n 0, 1) := by decide +kernel
theorem dJx4a65c_grow_d5877_1 : decode cJx4a65c_grow_d5877 1 = .ok (.aload_n 0, 1) := by decide +kernel
theorem dJx4a65c_grow_d5877_2 : decode cJx4a65c_grow_d5877 2 = .ok (.getfield 48, 3) := by decide +kernel
theorem dJx4a65c_grow_d5877_5 : decode cJx4a65c_grow_d5877 5 = .ok (.iconst 1, 1) := by decide +kernel
theorem dJx4a65c_grow_d5877_6 : decode cJx4a65c_grow_d5877 6 = .ok (.iadd, 1) := by decide +kernel
theorem dJx4a65c_grow_d5877_7 : decode cJx4a65c_grow_d5877 7 = .ok (.invokevirtual 69, 3) := by decide +kernel
theorem dJx4a65c_grow_d5877_10 : decode cJx4a65c_grow_d5877 10 = .ok (.areturn, 1) := by decide +kernel
theorem dJx4a65c_size_8abf5_0 : decode cJx4a65c_size_8abf5 0 = .ok (.aload_n 0, 1) := by decide +kernel
theorem dJx4a65c_size_8abf5_1 : decode cJx4a65c_size_8abf5 1 = .ok (.getfield 48, 3) := by decide +kernel
theorem dJx4a65c_size_8abf5_4 : decode cJx4a65c_size_8abf5 4 = .ok (.ireturn, 1) := by decide +kernel
theorem dJx4a65c_elementData_915e3_0 : decode cJx4a65c_elementData_915e3 0 = .ok (.aload_n 0, 1) := by decide +kernel
theorem dJx4a65c_elementData_915e3_1 : decode cJx4a65c_elementData_915e3 1 = .ok (.getfield 9, 3) := by decide +kernel
theorem dJx4a65c_elementData_915e3_4 : decode cJx4a65c_elementData_915e3 4 = .ok (.iload_n 1, 1) := by decide +kernel
theorem dJx4a65c_elementData_915e3_5 : decode cJx4a65c_elementData_915e3 5 = .ok (.aaload, 1) := by decide +kernel
theorem dJx4a65c_elementData_915e3_6 : decode cJx4a65c_elementData_915e3 6 = .ok (.areturn, 1) := by decide +kernel
set_option maxRecDepth 20000 in
theorem ggJx4a65c_get_915e3_J15_checkIndex_7cf53 : GoodIn wsJx4a65c_get_915e3 wsJ15_checkIndex_7cf53 := goodIn_r _ [5, 6, 7, 8, 9] (by decide +kernel) (by decide +kernel)
set_option maxRecDepth 20000 in
theorem gJx4a65c_get_915e3_J15_checkIndex_7cf53 : GoodIn wsJx4a65c_get_915e3 (va_wsS RJx4a65c 118 yJ15_checkIndex_7cf53 wsJ15_checkIndex_7cf53) := goodIn_app (goodIn_of _ (by decide +kernel)) ggJx4a65c_get_915e3_J15_checkIndex_7cf53
set_option maxRecDepth 20000 in
theorem ggJx4a65c_get_915e3_Jx4a65c_elementData_915e3 : GoodIn wsJx4a65c_get_915e3 wsJx4a65c_elementData_915e3 := goodIn_r _ [14, 15, 16, 17, 18] (by decide +kernel) (by decide +kernel)
set_option maxRecDepth 20000 in
theorem gJx4a65c_get_915e3_Jx4a65c_elementData_915e3 : GoodIn wsJx4a65c_get_915e3 (wsV RJx4a65c 123 RJx4a65c yJx4a65c_elementData_915e3 wsJx4a65c_elementData_915e3) := goodIn_app (goodIn_of _ (by decide +kernel)) ggJx4a65c_get_915e3_Jx4a65c_elementData_915e3
theorem dJx4a65c_get_915e3_0 : decode cJx4a65c_get_915e3 0 = .ok (.iload_n 1, 1) := by decide +kernel
theorem dJx4a65c_get_915e3_1 : decode cJx4a65c_get_915e3 1 = .ok (.aload_n 0, 1) := by decide +kernel
theorem dJx4a65c_get_915e3_2 : decode cJx4a65c_get_915e3 2 = .ok (.getfield 48, 3) := by decide +kernel
theorem dJx4a65c_get_915e3_5 : decode cJx4a65c_get_915e3 5 = .ok (.invokestatic 118, 3) := by decide +kernel
theorem dJx4a65c_get_915e3_8 : decode cJx4a65c_get_915e3 8 = .ok (.pop, 1) := by decide +kernel
theorem dJx4a65c_get_915e3_9 : decode cJx4a65c_get_915e3 9 = .ok (.aload_n 0, 1) := by decide +kernel
theorem dJx4a65c_get_915e3_10 : decode cJx4a65c_get_915e3 10 = .ok (.iload_n 1, 1) := by decide +kernel
theorem dJx4a65c_get_915e3_11 : decode cJx4a65c_get_915e3 11 = .ok (.invokevirtual 123, 3) := by decide +kernel
theorem dJx4a65c_get_915e3_14 : decode cJx4a65c_get_915e3 14 = .ok (.areturn, 1) := by decide +kernel
set_option maxRecDepth 20000 in
theorem ggJx4a65c_add_72be8_Jx4a65c_grow_d5877 : GoodIn wsJx4a65c_add_72be8 wsJx4a65c_grow_d5877 := goodIn_r _ [6, 1, 7, 8, 9, 5, 10, 11, 12, 13, 14, 15, 16, 17, 18, 19, 20, 21, 22, 23, 24, 25, 26, 27, 28, 29, 30, 31, 32, 33, 34, 35, 36, 37, 38, 39, 40, 41, 42, 43, 44, 45, 46, 47, 48, 49] (by decide +kernel) (by decide +kernel)
set_option maxRecDepth 20000 in
theorem gJx4a65c_add_72be8_Jx4a65c_grow_d5877 : GoodIn wsJx4a65c_add_72be8 (wsV RJx4a65c 129 RJx4a65c yJx4a65c_grow_d5877 wsJx4a65c_grow_d5877) := goodIn_app (goodIn_of _ (by decide +kernel)) ggJx4a65c_add_72be8_Jx4a65c_grow_d5877
theorem dJx4a65c_add_72be8_0 : decode cJx4a65c_add_72be8 0 = .ok (.iload_n 3, 1) := by decide +kernel
theorem dJx4a65c_add_72be8_1 : decode cJx4a65c_add_72be8 1 = .ok (.aload_n 2, 1) := by decide +kernel
theorem dJx4a65c_add_72be8_2 : decode cJx4a65c_add_72be8 2 = .ok (.arraylength, 1) := by decide +kernel
theorem dJx4a65c_add_72be8_3 : decode cJx4a65c_add_72be8 3 = .ok (.if_icmp .ne 8, 3) := by decide +kernel
theorem dJx4a65c_add_72be8_6 : decode cJx4a65c_add_72be8 6 = .ok (.aload_n 0, 1) := by decide +kernel
theorem dJx4a65c_add_72be8_7 : decode cJx4a65c_add_72be8 7 = .ok (.invokevirtual 129, 3) := by decide +kernel
theorem dJx4a65c_add_72be8_10 : decode cJx4a65c_add_72be8 10 = .ok (.astore_n 2, 1) := by decide +kernel
theorem dJx4a65c_add_72be8_11 : decode cJx4a65c_add_72be8 11 = .ok (.aload_n 2, 1) := by decide +kernel
theorem dJx4a65c_add_72be8_12 : decode cJx4a65c_add_72be8 12 = .ok (.iload_n 3, 1) := by decide +kernel
theorem dJx4a65c_add_72be8_13 : decode cJx4a65c_add_72be8 13 = .ok (.aload_n 1, 1) := by decide +kernel
theorem dJx4a65c_add_72be8_14 : decode cJx4a65c_add_72be8 14 = .ok (.aastore, 1) := by decide +kernel
theorem dJx4a65c_add_72be8_15 : decode cJx4a65c_add_72be8 15 = .ok (.aload_n 0, 1) := by decide +kernel
theorem dJx4a65c_add_72be8_16 : decode cJx4a65c_add_72be8 16 = .ok (.iload_n 3, 1) := by decide +kernel
theorem dJx4a65c_add_72be8_17 : decode cJx4a65c_add_72be8 17 = .ok (.iconst 1, 1) := by decide +kernel
theorem dJx4a65c_add_72be8_18 : decode cJx4a65c_add_72be8 18 = .ok (.iadd, 1) := by decide +kernel
theorem dJx4a65c_add_72be8_19 : decode cJx4a65c_add_72be8 19 = .ok (.putfield 48, 3) := by decide +kernel
theorem dJx4a65c_add_72be8_22 : decode cJx4a65c_add_72be8 22 = .ok (.return_, 1) := by decide +kernel
set_option maxRecDepth 20000 in
theorem ggJx4a65c_add_9ea2d_Jx4a65c_add_72be8 : GoodIn wsJx4a65c_add_9ea2d wsJx4a65c_add_72be8 := goodIn_r _ [9, 4, 10, 11, 12, 8, 13, 14, 15, 16, 17, 3, 18, 19, 20, 21, 22, 23, 24, 25, 26, 27, 28, 29, 30, 31, 32, 33, 34, 35, 36, 37, 38, 39, 40, 41, 42, 43, 44, 45, 46, 47, 48, 49, 50, 51, 52, 53, 54, 55] (by decide +kernel) (by decide +kernel)
set_option maxRecDepth 20000 in
theorem gJx4a65c_add_9ea2d_Jx4a65c_add_72be8 : GoodIn wsJx4a65c_add_9ea2d (wsV RJx4a65c 131 RJx4a65c yJx4a65c_add_72be8 wsJx4a65c_add_72be8) := goodIn_app (goodIn_of _ (by decide +kernel)) ggJx4a65c_add_9ea2d_Jx4a65c_add_72be8
theorem dJx4a65c_add_9ea2d_0 : decode cJx4a65c_add_9ea2d 0 = .ok (.aload_n 0, 1) := by decide +kernel
theorem dJx4a65c_add_9ea2d_1 : decode cJx4a65c_add_9ea2d 1 = .ok (.dup, 1) := by decide +kernel
theorem dJx4a65c_add_9ea2d_2 : decode cJx4a65c_add_9ea2d 2 = .ok (.getfield 63, 3) := by decide +kernel
theorem dJx4a65c_add_9ea2d_5 : decode cJx4a65c_add_9ea2d 5 = .ok (.iconst 1, 1) := by decide +kernel
theorem dJx4a65c_add_9ea2d_6 : decode cJx4a65c_add_9ea2d 6 = .ok (.iadd, 1) := by decide +kernel
theorem dJx4a65c_add_9ea2d_7 : decode cJx4a65c_add_9ea2d 7 = .ok (.putfield 63, 3) := by decide +kernel
