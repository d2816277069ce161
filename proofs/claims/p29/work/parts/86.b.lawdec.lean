theorem dL_draw_0 : decode cL_draw 0 = .ok (.iload_n 1, 1) := by decide +kernel
theorem dL_draw_1 : decode cL_draw 1 = .ok (.aload_n 0, 1) := by decide +kernel
theorem dL_draw_2 : decode cL_draw 2 = .ok (.arraylength, 1) := by decide +kernel
theorem dL_draw_3 : decode cL_draw 3 = .ok (.if_icmp .ge 9, 3) := by decide +kernel
theorem dL_draw_6 : decode cL_draw 6 = .ok (.aload_n 0, 1) := by decide +kernel
theorem dL_draw_7 : decode cL_draw 7 = .ok (.iload_n 1, 1) := by decide +kernel
theorem dL_draw_8 : decode cL_draw 8 = .ok (.iaload, 1) := by decide +kernel
theorem dL_draw_9 : decode cL_draw 9 = .ok (.goto 13, 3) := by decide +kernel
theorem dL_draw_12 : decode cL_draw 12 = .ok (.ldc 7, 2) := by decide +kernel
theorem dL_draw_14 : decode cL_draw 14 = .ok (.iload_n 1, 1) := by decide +kernel
theorem dL_draw_15 : decode cL_draw 15 = .ok (.bipush 79, 2) := by decide +kernel
theorem dL_draw_17 : decode cL_draw 17 = .ok (.iadd, 1) := by decide +kernel
theorem dL_draw_18 : decode cL_draw 18 = .ok (.imul, 1) := by decide +kernel
theorem dL_draw_19 : decode cL_draw 19 = .ok (.ldc 8, 2) := by decide +kernel
theorem dL_draw_21 : decode cL_draw 21 = .ok (.iadd, 1) := by decide +kernel
theorem dL_draw_22 : decode cL_draw 22 = .ok (.istore_n 3, 1) := by decide +kernel
theorem dL_draw_23 : decode cL_draw 23 = .ok (.iload_n 3, 1) := by decide +kernel
theorem dL_draw_24 : decode cL_draw 24 = .ok (.ldc 9, 2) := by decide +kernel
theorem dL_draw_26 : decode cL_draw 26 = .ok (.iand, 1) := by decide +kernel
theorem dL_draw_27 : decode cL_draw 27 = .ok (.iload_n 2, 1) := by decide +kernel
theorem dL_draw_28 : decode cL_draw 28 = .ok (.irem, 1) := by decide +kernel
theorem dL_draw_29 : decode cL_draw 29 = .ok (.ireturn, 1) := by decide +kernel
theorem dL_deletes_0 : decode cL_deletes 0 = .ok (.iload_n 1, 1) := by decide +kernel
theorem dL_deletes_1 : decode cL_deletes 1 = .ok (.ifCond .ne 18, 3) := by decide +kernel
theorem dL_deletes_4 : decode cL_deletes 4 = .ok (.aload_n 0, 1) := by decide +kernel
theorem dL_deletes_5 : decode cL_deletes 5 = .ok (.iload_n 2, 1) := by decide +kernel
theorem dL_deletes_6 : decode cL_deletes 6 = .ok (.iload_n 3, 1) := by decide +kernel
theorem dL_deletes_7 : decode cL_deletes 7 = .ok (.iload 4, 2) := by decide +kernel
theorem dL_deletes_9 : decode cL_deletes 9 = .ok (.iconst 4, 1) := by decide +kernel
theorem dL_deletes_10 : decode cL_deletes 10 = .ok (.irem, 1) := by decide +kernel
theorem dL_deletes_11 : decode cL_deletes 11 = .ok (.iload 5, 2) := by decide +kernel
theorem dL_deletes_13 : decode cL_deletes 13 = .ok (.invokevirtual 10, 3) := by decide +kernel
theorem dL_deletes_16 : decode cL_deletes 16 = .ok (.goto 48, 3) := by decide +kernel
theorem dL_deletes_19 : decode cL_deletes 19 = .ok (.iload_n 1, 1) := by decide +kernel
theorem dL_deletes_20 : decode cL_deletes 20 = .ok (.iconst 1, 1) := by decide +kernel
theorem dL_deletes_21 : decode cL_deletes 21 = .ok (.if_icmp .ne 17, 3) := by decide +kernel
theorem dL_deletes_24 : decode cL_deletes 24 = .ok (.aload_n 0, 1) := by decide +kernel
theorem dL_deletes_25 : decode cL_deletes 25 = .ok (.iload_n 2, 1) := by decide +kernel
theorem dL_deletes_26 : decode cL_deletes 26 = .ok (.iload 4, 2) := by decide +kernel
theorem dL_deletes_28 : decode cL_deletes 28 = .ok (.iconst 4, 1) := by decide +kernel
theorem dL_deletes_29 : decode cL_deletes 29 = .ok (.irem, 1) := by decide +kernel
theorem dL_deletes_30 : decode cL_deletes 30 = .ok (.iload 5, 2) := by decide +kernel
theorem dL_deletes_32 : decode cL_deletes 32 = .ok (.invokevirtual 16, 3) := by decide +kernel
theorem dL_deletes_35 : decode cL_deletes 35 = .ok (.goto 29, 3) := by decide +kernel
theorem dL_deletes_38 : decode cL_deletes 38 = .ok (.iload_n 1, 1) := by decide +kernel
theorem dL_deletes_39 : decode cL_deletes 39 = .ok (.iconst 2, 1) := by decide +kernel
theorem dL_deletes_40 : decode cL_deletes 40 = .ok (.if_icmp .ne 14, 3) := by decide +kernel
theorem dL_deletes_43 : decode cL_deletes 43 = .ok (.aload_n 0, 1) := by decide +kernel
theorem dL_deletes_44 : decode cL_deletes 44 = .ok (.iload_n 2, 1) := by decide +kernel
theorem dL_deletes_45 : decode cL_deletes 45 = .ok (.iload_n 3, 1) := by decide +kernel
theorem dL_deletes_46 : decode cL_deletes 46 = .ok (.iload 5, 2) := by decide +kernel
theorem dL_deletes_48 : decode cL_deletes 48 = .ok (.invokevirtual 20, 3) := by decide +kernel
theorem dL_deletes_51 : decode cL_deletes 51 = .ok (.goto 13, 3) := by decide +kernel
theorem dL_deletes_54 : decode cL_deletes 54 = .ok (.aload_n 0, 1) := by decide +kernel
theorem dL_deletes_55 : decode cL_deletes 55 = .ok (.iload_n 2, 1) := by decide +kernel
theorem dL_deletes_56 : decode cL_deletes 56 = .ok (.iload_n 3, 1) := by decide +kernel
theorem dL_deletes_57 : decode cL_deletes 57 = .ok (.iload 4, 2) := by decide +kernel
theorem dL_deletes_59 : decode cL_deletes 59 = .ok (.iload 5, 2) := by decide +kernel
theorem dL_deletes_61 : decode cL_deletes 61 = .ok (.invokevirtual 23, 3) := by decide +kernel
theorem dL_deletes_64 : decode cL_deletes 64 = .ok (.ireturn, 1) := by decide +kernel
theorem dL_deletes_65 : decode cL_deletes 65 = .ok (.astore 6, 2) := by decide +kernel
theorem dL_deletes_67 : decode cL_deletes 67 = .ok (.bipush (-8), 2) := by decide +kernel
theorem dL_deletes_69 : decode cL_deletes 69 = .ok (.ireturn, 1) := by decide +kernel
theorem dL_many_0 : decode cL_many 0 = .ok (.iload_n 0, 1) := by decide +kernel
theorem dL_many_1 : decode cL_many 1 = .ok (.iconst 1, 1) := by decide +kernel
theorem dL_many_2 : decode cL_many 2 = .ok (.iand, 1) := by decide +kernel
theorem dL_many_3 : decode cL_many 3 = .ok (.iload_n 0, 1) := by decide +kernel
theorem dL_many_4 : decode cL_many 4 = .ok (.iconst 1, 1) := by decide +kernel
theorem dL_many_5 : decode cL_many 5 = .ok (.ishr, 1) := by decide +kernel
theorem dL_many_6 : decode cL_many 6 = .ok (.iconst 1, 1) := by decide +kernel
theorem dL_many_7 : decode cL_many 7 = .ok (.iand, 1) := by decide +kernel
theorem dL_many_8 : decode cL_many 8 = .ok (.iadd, 1) := by decide +kernel
theorem dL_many_9 : decode cL_many 9 = .ok (.iload_n 0, 1) := by decide +kernel
theorem dL_many_10 : decode cL_many 10 = .ok (.iconst 2, 1) := by decide +kernel
theorem dL_many_11 : decode cL_many 11 = .ok (.ishr, 1) := by decide +kernel
theorem dL_many_12 : decode cL_many 12 = .ok (.iconst 1, 1) := by decide +kernel
theorem dL_many_13 : decode cL_many 13 = .ok (.iand, 1) := by decide +kernel
theorem dL_many_14 : decode cL_many 14 = .ok (.iadd, 1) := by decide +kernel
theorem dL_many_15 : decode cL_many 15 = .ok (.ireturn, 1) := by decide +kernel
theorem dL_isCopy_0 : decode cL_isCopy 0 = .ok (.iconst 0, 1) := by decide +kernel
theorem dL_isCopy_1 : decode cL_isCopy 1 = .ok (.istore_n 3, 1) := by decide +kernel
theorem dL_isCopy_2 : decode cL_isCopy 2 = .ok (.aload_n 0, 1) := by decide +kernel
theorem dL_isCopy_3 : decode cL_isCopy 3 = .ok (.iload_n 1, 1) := by decide +kernel
theorem dL_isCopy_4 : decode cL_isCopy 4 = .ok (.invokevirtual 28, 3) := by decide +kernel
theorem dL_isCopy_7 : decode cL_isCopy 7 = .ok (.aload_n 2, 1) := by decide +kernel
theorem dL_isCopy_8 : decode cL_isCopy 8 = .ok (.iconst 5, 1) := by decide +kernel
theorem dL_isCopy_9 : decode cL_isCopy 9 = .ok (.iaload, 1) := by decide +kernel
theorem dL_isCopy_10 : decode cL_isCopy 10 = .ok (.iload_n 1, 1) := by decide +kernel
theorem dL_isCopy_11 : decode cL_isCopy 11 = .ok (.ishr, 1) := by decide +kernel
theorem dL_isCopy_12 : decode cL_isCopy 12 = .ok (.iconst 1, 1) := by decide +kernel
theorem dL_isCopy_13 : decode cL_isCopy 13 = .ok (.iand, 1) := by decide +kernel
theorem dL_isCopy_14 : decode cL_isCopy 14 = .ok (.iconst 1, 1) := by decide +kernel
theorem dL_isCopy_15 : decode cL_isCopy 15 = .ok (.if_icmp .ne 7, 3) := by decide +kernel
theorem dL_isCopy_18 : decode cL_isCopy 18 = .ok (.iconst 1, 1) := by decide +kernel
theorem dL_isCopy_19 : decode cL_isCopy 19 = .ok (.goto 4, 3) := by decide +kernel
theorem dL_isCopy_22 : decode cL_isCopy 22 = .ok (.iconst 0, 1) := by decide +kernel
theorem dL_isCopy_23 : decode cL_isCopy 23 = .ok (.if_icmp .ne 20, 3) := by decide +kernel
theorem dL_isCopy_26 : decode cL_isCopy 26 = .ok (.aload_n 0, 1) := by decide +kernel
theorem dL_isCopy_27 : decode cL_isCopy 27 = .ok (.iload_n 1, 1) := by decide +kernel
theorem dL_isCopy_28 : decode cL_isCopy 28 = .ok (.invokevirtual 32, 3) := by decide +kernel
theorem dL_isCopy_31 : decode cL_isCopy 31 = .ok (.aload_n 2, 1) := by decide +kernel
theorem dL_isCopy_32 : decode cL_isCopy 32 = .ok (.iconst 2, 1) := by decide +kernel
theorem dL_isCopy_33 : decode cL_isCopy 33 = .ok (.iload_n 1, 1) := by decide +kernel
theorem dL_isCopy_34 : decode cL_isCopy 34 = .ok (.iadd, 1) := by decide +kernel
theorem dL_isCopy_35 : decode cL_isCopy 35 = .ok (.iaload, 1) := by decide +kernel
theorem dL_isCopy_36 : decode cL_isCopy 36 = .ok (.if_icmp .ne 7, 3) := by decide +kernel
theorem dL_isCopy_39 : decode cL_isCopy 39 = .ok (.iconst 1, 1) := by decide +kernel
theorem dL_isCopy_40 : decode cL_isCopy 40 = .ok (.goto 4, 3) := by decide +kernel
theorem dL_isCopy_43 : decode cL_isCopy 43 = .ok (.iconst 0, 1) := by decide +kernel
theorem dL_isCopy_44 : decode cL_isCopy 44 = .ok (.istore 4, 2) := by decide +kernel
theorem dL_isCopy_46 : decode cL_isCopy 46 = .ok (.iconst 0, 1) := by decide +kernel
theorem dL_isCopy_47 : decode cL_isCopy 47 = .ok (.istore 5, 2) := by decide +kernel
theorem dL_isCopy_49 : decode cL_isCopy 49 = .ok (.iload 5, 2) := by decide +kernel
theorem dL_isCopy_51 : decode cL_isCopy 51 = .ok (.bipush 64, 2) := by decide +kernel
theorem dL_isCopy_53 : decode cL_isCopy 53 = .ok (.if_icmp .ge 133, 3) := by decide +kernel
theorem dL_isCopy_56 : decode cL_isCopy 56 = .ok (.iload 4, 2) := by decide +kernel
theorem dL_isCopy_58 : decode cL_isCopy 58 = .ok (.ifCond .eq 128, 3) := by decide +kernel
theorem dL_isCopy_61 : decode cL_isCopy 61 = .ok (.aload_n 0, 1) := by decide +kernel
theorem dL_isCopy_62 : decode cL_isCopy 62 = .ok (.iload_n 1, 1) := by decide +kernel
theorem dL_isCopy_63 : decode cL_isCopy 63 = .ok (.iload 5, 2) := by decide +kernel
theorem dL_isCopy_65 : decode cL_isCopy 65 = .ok (.iconst 4, 1) := by decide +kernel
theorem dL_isCopy_66 : decode cL_isCopy 66 = .ok (.idiv, 1) := by decide +kernel
theorem dL_isCopy_67 : decode cL_isCopy 67 = .ok (.iload 5, 2) := by decide +kernel
theorem dL_isCopy_69 : decode cL_isCopy 69 = .ok (.iconst 4, 1) := by decide +kernel
theorem dL_isCopy_70 : decode cL_isCopy 70 = .ok (.irem, 1) := by decide +kernel
theorem dL_isCopy_71 : decode cL_isCopy 71 = .ok (.invokevirtual 36, 3) := by decide +kernel
theorem dL_isCopy_74 : decode cL_isCopy 74 = .ok (.istore 6, 2) := by decide +kernel
theorem dL_isCopy_76 : decode cL_isCopy 76 = .ok (.aload_n 0, 1) := by decide +kernel
theorem dL_isCopy_77 : decode cL_isCopy 77 = .ok (.iload_n 1, 1) := by decide +kernel
theorem dL_isCopy_78 : decode cL_isCopy 78 = .ok (.iload 5, 2) := by decide +kernel
theorem dL_isCopy_80 : decode cL_isCopy 80 = .ok (.iconst 4, 1) := by decide +kernel
theorem dL_isCopy_81 : decode cL_isCopy 81 = .ok (.idiv, 1) := by decide +kernel
theorem dL_isCopy_82 : decode cL_isCopy 82 = .ok (.iload 5, 2) := by decide +kernel
theorem dL_isCopy_84 : decode cL_isCopy 84 = .ok (.iconst 4, 1) := by decide +kernel
theorem dL_isCopy_85 : decode cL_isCopy 85 = .ok (.irem, 1) := by decide +kernel
theorem dL_isCopy_86 : decode cL_isCopy 86 = .ok (.invokevirtual 39, 3) := by decide +kernel
theorem dL_isCopy_89 : decode cL_isCopy 89 = .ok (.istore 7, 2) := by decide +kernel
theorem dL_isCopy_91 : decode cL_isCopy 91 = .ok (.aload_n 0, 1) := by decide +kernel
theorem dL_isCopy_92 : decode cL_isCopy 92 = .ok (.iload_n 1, 1) := by decide +kernel
theorem dL_isCopy_93 : decode cL_isCopy 93 = .ok (.iload 5, 2) := by decide +kernel
theorem dL_isCopy_95 : decode cL_isCopy 95 = .ok (.iconst 4, 1) := by decide +kernel
theorem dL_isCopy_96 : decode cL_isCopy 96 = .ok (.idiv, 1) := by decide +kernel
theorem dL_isCopy_97 : decode cL_isCopy 97 = .ok (.iload 5, 2) := by decide +kernel
theorem dL_isCopy_99 : decode cL_isCopy 99 = .ok (.iconst 4, 1) := by decide +kernel
theorem dL_isCopy_100 : decode cL_isCopy 100 = .ok (.irem, 1) := by decide +kernel
theorem dL_isCopy_101 : decode cL_isCopy 101 = .ok (.invokevirtual 42, 3) := by decide +kernel
theorem dL_isCopy_104 : decode cL_isCopy 104 = .ok (.istore 8, 2) := by decide +kernel
theorem dL_isCopy_106 : decode cL_isCopy 106 = .ok (.iload_n 3, 1) := by decide +kernel
theorem dL_isCopy_107 : decode cL_isCopy 107 = .ok (.iload 6, 2) := by decide +kernel
theorem dL_isCopy_109 : decode cL_isCopy 109 = .ok (.ifCond .ge 7, 3) := by decide +kernel
theorem dL_isCopy_112 : decode cL_isCopy 112 = .ok (.iconst 0, 1) := by decide +kernel
theorem dL_isCopy_113 : decode cL_isCopy 113 = .ok (.goto 4, 3) := by decide +kernel
theorem dL_isCopy_116 : decode cL_isCopy 116 = .ok (.iconst 1, 1) := by decide +kernel
theorem dL_isCopy_117 : decode cL_isCopy 117 = .ok (.iadd, 1) := by decide +kernel
theorem dL_isCopy_118 : decode cL_isCopy 118 = .ok (.istore_n 3, 1) := by decide +kernel
theorem dL_isCopy_119 : decode cL_isCopy 119 = .ok (.iload 6, 2) := by decide +kernel
theorem dL_isCopy_121 : decode cL_isCopy 121 = .ok (.iconst (-1), 1) := by decide +kernel
theorem dL_isCopy_122 : decode cL_isCopy 122 = .ok (.if_icmp .lt 55, 3) := by decide +kernel
theorem dL_isCopy_125 : decode cL_isCopy 125 = .ok (.iload 6, 2) := by decide +kernel
theorem dL_isCopy_127 : decode cL_isCopy 127 = .ok (.sipush 999, 3) := by decide +kernel
theorem dL_isCopy_130 : decode cL_isCopy 130 = .ok (.if_icmp .gt 47, 3) := by decide +kernel
theorem dL_isCopy_133 : decode cL_isCopy 133 = .ok (.iload 8, 2) := by decide +kernel
theorem dL_isCopy_135 : decode cL_isCopy 135 = .ok (.iconst (-1), 1) := by decide +kernel
theorem dL_isCopy_136 : decode cL_isCopy 136 = .ok (.if_icmp .lt 41, 3) := by decide +kernel
theorem dL_isCopy_139 : decode cL_isCopy 139 = .ok (.iload 8, 2) := by decide +kernel
theorem dL_isCopy_141 : decode cL_isCopy 141 = .ok (.sipush 999, 3) := by decide +kernel
theorem dL_isCopy_144 : decode cL_isCopy 144 = .ok (.if_icmp .gt 33, 3) := by decide +kernel
theorem dL_isCopy_147 : decode cL_isCopy 147 = .ok (.iload 7, 2) := by decide +kernel
theorem dL_isCopy_149 : decode cL_isCopy 149 = .ok (.iconst (-1), 1) := by decide +kernel
theorem dL_isCopy_150 : decode cL_isCopy 150 = .ok (.if_icmp .lt 27, 3) := by decide +kernel
theorem dL_isCopy_153 : decode cL_isCopy 153 = .ok (.iload 7, 2) := by decide +kernel
theorem dL_isCopy_155 : decode cL_isCopy 155 = .ok (.sipush 999, 3) := by decide +kernel
theorem dL_isCopy_158 : decode cL_isCopy 158 = .ok (.if_icmp .gt 19, 3) := by decide +kernel
theorem dL_isCopy_161 : decode cL_isCopy 161 = .ok (.iload 7, 2) := by decide +kernel
theorem dL_isCopy_163 : decode cL_isCopy 163 = .ok (.ifCond .lt 10, 3) := by decide +kernel
theorem dL_isCopy_166 : decode cL_isCopy 166 = .ok (.iload 6, 2) := by decide +kernel
theorem dL_isCopy_168 : decode cL_isCopy 168 = .ok (.iload 8, 2) := by decide +kernel
theorem dL_isCopy_170 : decode cL_isCopy 170 = .ok (.if_icmp .le 7, 3) := by decide +kernel
theorem dL_isCopy_173 : decode cL_isCopy 173 = .ok (.iconst 1, 1) := by decide +kernel
theorem dL_isCopy_174 : decode cL_isCopy 174 = .ok (.goto 4, 3) := by decide +kernel
theorem dL_isCopy_177 : decode cL_isCopy 177 = .ok (.iconst 0, 1) := by decide +kernel
theorem dL_isCopy_178 : decode cL_isCopy 178 = .ok (.istore 4, 2) := by decide +kernel
theorem dL_isCopy_180 : decode cL_isCopy 180 = .ok (.iinc 5 1, 3) := by decide +kernel
theorem dL_isCopy_183 : decode cL_isCopy 183 = .ok (.goto (-134), 3) := by decide +kernel
theorem dL_isCopy_186 : decode cL_isCopy 186 = .ok (.iconst 0, 1) := by decide +kernel
theorem dL_isCopy_187 : decode cL_isCopy 187 = .ok (.istore 5, 2) := by decide +kernel
theorem dL_isCopy_189 : decode cL_isCopy 189 = .ok (.iload 5, 2) := by decide +kernel
theorem dL_isCopy_191 : decode cL_isCopy 191 = .ok (.iconst 4, 1) := by decide +kernel
theorem dL_isCopy_192 : decode cL_isCopy 192 = .ok (.if_icmp .ge 88, 3) := by decide +kernel
theorem dL_isCopy_195 : decode cL_isCopy 195 = .ok (.iload 4, 2) := by decide +kernel
theorem dL_isCopy_197 : decode cL_isCopy 197 = .ok (.ifCond .eq 83, 3) := by decide +kernel
theorem dL_isCopy_200 : decode cL_isCopy 200 = .ok (.iconst 0, 1) := by decide +kernel
theorem dL_isCopy_201 : decode cL_isCopy 201 = .ok (.istore 6, 2) := by decide +kernel
theorem dL_isCopy_203 : decode cL_isCopy 203 = .ok (.iload 6, 2) := by decide +kernel
theorem dL_isCopy_205 : decode cL_isCopy 205 = .ok (.iconst 1, 1) := by decide +kernel
theorem dL_isCopy_206 : decode cL_isCopy 206 = .ok (.iload 5, 2) := by decide +kernel
theorem dL_isCopy_208 : decode cL_isCopy 208 = .ok (.ishl, 1) := by decide +kernel
theorem dL_isCopy_209 : decode cL_isCopy 209 = .ok (.if_icmp .ge 65, 3) := by decide +kernel
theorem dL_isCopy_212 : decode cL_isCopy 212 = .ok (.iload 4, 2) := by decide +kernel
theorem dL_isCopy_214 : decode cL_isCopy 214 = .ok (.ifCond .eq 60, 3) := by decide +kernel
theorem dL_isCopy_217 : decode cL_isCopy 217 = .ok (.aload_n 0, 1) := by decide +kernel
theorem dL_isCopy_218 : decode cL_isCopy 218 = .ok (.iload_n 1, 1) := by decide +kernel
theorem dL_isCopy_219 : decode cL_isCopy 219 = .ok (.iload 5, 2) := by decide +kernel
theorem dL_isCopy_221 : decode cL_isCopy 221 = .ok (.iload 6, 2) := by decide +kernel
theorem dL_isCopy_223 : decode cL_isCopy 223 = .ok (.invokevirtual 45, 3) := by decide +kernel
theorem dL_isCopy_226 : decode cL_isCopy 226 = .ok (.aload_n 0, 1) := by decide +kernel
theorem dL_isCopy_227 : decode cL_isCopy 227 = .ok (.iload_n 1, 1) := by decide +kernel
theorem dL_isCopy_228 : decode cL_isCopy 228 = .ok (.iload 5, 2) := by decide +kernel
theorem dL_isCopy_230 : decode cL_isCopy 230 = .ok (.iconst 1, 1) := by decide +kernel
theorem dL_isCopy_231 : decode cL_isCopy 231 = .ok (.iadd, 1) := by decide +kernel
theorem dL_isCopy_232 : decode cL_isCopy 232 = .ok (.iconst 2, 1) := by decide +kernel
theorem dL_isCopy_233 : decode cL_isCopy 233 = .ok (.iload 6, 2) := by decide +kernel
theorem dL_isCopy_235 : decode cL_isCopy 235 = .ok (.imul, 1) := by decide +kernel
theorem dL_isCopy_236 : decode cL_isCopy 236 = .ok (.invokevirtual 45, 3) := by decide +kernel
theorem dL_isCopy_239 : decode cL_isCopy 239 = .ok (.aload_n 0, 1) := by decide +kernel
theorem dL_isCopy_240 : decode cL_isCopy 240 = .ok (.iload_n 1, 1) := by decide +kernel
theorem dL_isCopy_241 : decode cL_isCopy 241 = .ok (.iload 5, 2) := by decide +kernel
theorem dL_isCopy_243 : decode cL_isCopy 243 = .ok (.iconst 1, 1) := by decide +kernel
theorem dL_isCopy_244 : decode cL_isCopy 244 = .ok (.iadd, 1) := by decide +kernel
theorem dL_isCopy_245 : decode cL_isCopy 245 = .ok (.iconst 2, 1) := by decide +kernel
theorem dL_isCopy_246 : decode cL_isCopy 246 = .ok (.iload 6, 2) := by decide +kernel
theorem dL_isCopy_248 : decode cL_isCopy 248 = .ok (.imul, 1) := by decide +kernel
theorem dL_isCopy_249 : decode cL_isCopy 249 = .ok (.iconst 1, 1) := by decide +kernel
theorem dL_isCopy_250 : decode cL_isCopy 250 = .ok (.iadd, 1) := by decide +kernel
theorem dL_isCopy_251 : decode cL_isCopy 251 = .ok (.invokevirtual 45, 3) := by decide +kernel
theorem dL_isCopy_254 : decode cL_isCopy 254 = .ok (.iadd, 1) := by decide +kernel
theorem dL_isCopy_255 : decode cL_isCopy 255 = .ok (.ldc 48, 2) := by decide +kernel
theorem dL_isCopy_257 : decode cL_isCopy 257 = .ok (.irem, 1) := by decide +kernel
theorem dL_isCopy_258 : decode cL_isCopy 258 = .ok (.if_icmp .ne 7, 3) := by decide +kernel
theorem dL_isCopy_261 : decode cL_isCopy 261 = .ok (.iconst 1, 1) := by decide +kernel
theorem dL_isCopy_262 : decode cL_isCopy 262 = .ok (.goto 4, 3) := by decide +kernel
theorem dL_isCopy_265 : decode cL_isCopy 265 = .ok (.iconst 0, 1) := by decide +kernel
theorem dL_isCopy_266 : decode cL_isCopy 266 = .ok (.istore 4, 2) := by decide +kernel
theorem dL_isCopy_268 : decode cL_isCopy 268 = .ok (.iinc 6 1, 3) := by decide +kernel
theorem dL_isCopy_271 : decode cL_isCopy 271 = .ok (.goto (-68), 3) := by decide +kernel
theorem dL_isCopy_274 : decode cL_isCopy 274 = .ok (.iinc 5 1, 3) := by decide +kernel
theorem dL_isCopy_277 : decode cL_isCopy 277 = .ok (.goto (-88), 3) := by decide +kernel
theorem dL_isCopy_280 : decode cL_isCopy 280 = .ok (.iconst 0, 1) := by decide +kernel
theorem dL_isCopy_281 : decode cL_isCopy 281 = .ok (.istore 5, 2) := by decide +kernel
theorem dL_isCopy_283 : decode cL_isCopy 283 = .ok (.iconst 0, 1) := by decide +kernel
theorem dL_isCopy_284 : decode cL_isCopy 284 = .ok (.istore 6, 2) := by decide +kernel
theorem dL_isCopy_286 : decode cL_isCopy 286 = .ok (.iload 6, 2) := by decide +kernel
theorem dL_isCopy_288 : decode cL_isCopy 288 = .ok (.iconst 4, 1) := by decide +kernel
theorem dL_isCopy_289 : decode cL_isCopy 289 = .ok (.if_icmp .ge 21, 3) := by decide +kernel
theorem dL_isCopy_292 : decode cL_isCopy 292 = .ok (.iload 5, 2) := by decide +kernel
theorem dL_isCopy_294 : decode cL_isCopy 294 = .ok (.aload_n 0, 1) := by decide +kernel
theorem dL_isCopy_295 : decode cL_isCopy 295 = .ok (.iload_n 1, 1) := by decide +kernel
theorem dL_isCopy_296 : decode cL_isCopy 296 = .ok (.iload 6, 2) := by decide +kernel
theorem dL_isCopy_298 : decode cL_isCopy 298 = .ok (.invokevirtual 49, 3) := by decide +kernel
theorem dL_isCopy_301 : decode cL_isCopy 301 = .ok (.iadd, 1) := by decide +kernel
theorem dL_isCopy_302 : decode cL_isCopy 302 = .ok (.istore 5, 2) := by decide +kernel
theorem dL_isCopy_304 : decode cL_isCopy 304 = .ok (.iinc 6 1, 3) := by decide +kernel
theorem dL_isCopy_307 : decode cL_isCopy 307 = .ok (.goto (-21), 3) := by decide +kernel
theorem dL_isCopy_310 : decode cL_isCopy 310 = .ok (.iload 4, 2) := by decide +kernel
theorem dL_isCopy_312 : decode cL_isCopy 312 = .ok (.ifCond .eq 51, 3) := by decide +kernel
theorem dL_isCopy_315 : decode cL_isCopy 315 = .ok (.aload_n 0, 1) := by decide +kernel
theorem dL_isCopy_316 : decode cL_isCopy 316 = .ok (.iload_n 1, 1) := by decide +kernel
theorem dL_isCopy_317 : decode cL_isCopy 317 = .ok (.invokevirtual 53, 3) := by decide +kernel
theorem dL_isCopy_320 : decode cL_isCopy 320 = .ok (.iload_n 3, 1) := by decide +kernel
theorem dL_isCopy_321 : decode cL_isCopy 321 = .ok (.if_icmp .ne 42, 3) := by decide +kernel
theorem dL_isCopy_324 : decode cL_isCopy 324 = .ok (.iload 5, 2) := by decide +kernel
theorem dL_isCopy_326 : decode cL_isCopy 326 = .ok (.ifCond .lt 37, 3) := by decide +kernel
theorem dL_isCopy_329 : decode cL_isCopy 329 = .ok (.iload 5, 2) := by decide +kernel
theorem dL_isCopy_331 : decode cL_isCopy 331 = .ok (.bipush 92, 2) := by decide +kernel
theorem dL_isCopy_333 : decode cL_isCopy 333 = .ok (.if_icmp .gt 30, 3) := by decide +kernel
theorem dL_isCopy_336 : decode cL_isCopy 336 = .ok (.aload_n 0, 1) := by decide +kernel
theorem dL_isCopy_337 : decode cL_isCopy 337 = .ok (.iload_n 1, 1) := by decide +kernel
theorem dL_isCopy_338 : decode cL_isCopy 338 = .ok (.iconst 1, 1) := by decide +kernel
theorem dL_isCopy_339 : decode cL_isCopy 339 = .ok (.invokevirtual 49, 3) := by decide +kernel
theorem dL_isCopy_342 : decode cL_isCopy 342 = .ok (.iconst 4, 1) := by decide +kernel
theorem dL_isCopy_343 : decode cL_isCopy 343 = .ok (.if_icmp .gt 20, 3) := by decide +kernel
theorem dL_isCopy_346 : decode cL_isCopy 346 = .ok (.aload_n 0, 1) := by decide +kernel
theorem dL_isCopy_347 : decode cL_isCopy 347 = .ok (.iload_n 1, 1) := by decide +kernel
theorem dL_isCopy_348 : decode cL_isCopy 348 = .ok (.iconst 3, 1) := by decide +kernel
theorem dL_isCopy_349 : decode cL_isCopy 349 = .ok (.invokevirtual 49, 3) := by decide +kernel
theorem dL_isCopy_352 : decode cL_isCopy 352 = .ok (.aload_n 2, 1) := by decide +kernel
theorem dL_isCopy_353 : decode cL_isCopy 353 = .ok (.bipush 8, 2) := by decide +kernel
theorem dL_isCopy_355 : decode cL_isCopy 355 = .ok (.iaload, 1) := by decide +kernel
theorem dL_isCopy_356 : decode cL_isCopy 356 = .ok (.if_icmp .gt 7, 3) := by decide +kernel
theorem dL_isCopy_359 : decode cL_isCopy 359 = .ok (.iconst 1, 1) := by decide +kernel
theorem dL_isCopy_360 : decode cL_isCopy 360 = .ok (.goto 4, 3) := by decide +kernel
theorem dL_isCopy_363 : decode cL_isCopy 363 = .ok (.iconst 0, 1) := by decide +kernel
theorem dL_isCopy_364 : decode cL_isCopy 364 = .ok (.ireturn, 1) := by decide +kernel
theorem dL_areCompared_0 : decode cL_areCompared 0 = .ok (.iconst 1, 1) := by decide +kernel
theorem dL_areCompared_1 : decode cL_areCompared 1 = .ok (.istore_n 3, 1) := by decide +kernel
theorem dL_areCompared_2 : decode cL_areCompared 2 = .ok (.iconst 0, 1) := by decide +kernel
theorem dL_areCompared_3 : decode cL_areCompared 3 = .ok (.istore 4, 2) := by decide +kernel
theorem dL_areCompared_5 : decode cL_areCompared 5 = .ok (.iconst 0, 1) := by decide +kernel
theorem dL_areCompared_6 : decode cL_areCompared 6 = .ok (.istore 5, 2) := by decide +kernel
theorem dL_areCompared_8 : decode cL_areCompared 8 = .ok (.iload 5, 2) := by decide +kernel
theorem dL_areCompared_10 : decode cL_areCompared 10 = .ok (.iconst 5, 1) := by decide +kernel
theorem dL_areCompared_11 : decode cL_areCompared 11 = .ok (.if_icmp .ge 91, 3) := by decide +kernel
theorem dL_areCompared_14 : decode cL_areCompared 14 = .ok (.iconst 0, 1) := by decide +kernel
theorem dL_areCompared_15 : decode cL_areCompared 15 = .ok (.istore 6, 2) := by decide +kernel
theorem dL_areCompared_17 : decode cL_areCompared 17 = .ok (.iconst 0, 1) := by decide +kernel
theorem dL_areCompared_18 : decode cL_areCompared 18 = .ok (.istore 7, 2) := by decide +kernel
theorem dL_areCompared_20 : decode cL_areCompared 20 = .ok (.iload 7, 2) := by decide +kernel
theorem dL_areCompared_22 : decode cL_areCompared 22 = .ok (.iconst 1, 1) := by decide +kernel
theorem dL_areCompared_23 : decode cL_areCompared 23 = .ok (.iload 5, 2) := by decide +kernel
theorem dL_areCompared_25 : decode cL_areCompared 25 = .ok (.ishl, 1) := by decide +kernel
theorem dL_areCompared_26 : decode cL_areCompared 26 = .ok (.if_icmp .ge 67, 3) := by decide +kernel
theorem dL_areCompared_29 : decode cL_areCompared 29 = .ok (.iload_n 3, 1) := by decide +kernel
theorem dL_areCompared_30 : decode cL_areCompared 30 = .ok (.iload 7, 2) := by decide +kernel
theorem dL_areCompared_32 : decode cL_areCompared 32 = .ok (.ishr, 1) := by decide +kernel
theorem dL_areCompared_33 : decode cL_areCompared 33 = .ok (.iconst 1, 1) := by decide +kernel
theorem dL_areCompared_34 : decode cL_areCompared 34 = .ok (.iand, 1) := by decide +kernel
theorem dL_areCompared_35 : decode cL_areCompared 35 = .ok (.iconst 1, 1) := by decide +kernel
theorem dL_areCompared_36 : decode cL_areCompared 36 = .ok (.if_icmp .ne 51, 3) := by decide +kernel
theorem dL_areCompared_39 : decode cL_areCompared 39 = .ok (.iinc 4 1, 3) := by decide +kernel
theorem dL_areCompared_42 : decode cL_areCompared 42 = .ok (.aload_n 0, 1) := by decide +kernel
theorem dL_areCompared_43 : decode cL_areCompared 43 = .ok (.iload_n 1, 1) := by decide +kernel
theorem dL_areCompared_44 : decode cL_areCompared 44 = .ok (.iload 5, 2) := by decide +kernel
theorem dL_areCompared_46 : decode cL_areCompared 46 = .ok (.iload 7, 2) := by decide +kernel
theorem dL_areCompared_48 : decode cL_areCompared 48 = .ok (.invokevirtual 45, 3) := by decide +kernel
theorem dL_areCompared_51 : decode cL_areCompared 51 = .ok (.aload_n 0, 1) := by decide +kernel
theorem dL_areCompared_52 : decode cL_areCompared 52 = .ok (.iload_n 2, 1) := by decide +kernel
theorem dL_areCompared_53 : decode cL_areCompared 53 = .ok (.iload 5, 2) := by decide +kernel
theorem dL_areCompared_55 : decode cL_areCompared 55 = .ok (.iload 7, 2) := by decide +kernel
theorem dL_areCompared_57 : decode cL_areCompared 57 = .ok (.invokevirtual 45, 3) := by decide +kernel
theorem dL_areCompared_60 : decode cL_areCompared 60 = .ok (.if_icmp .eq 27, 3) := by decide +kernel
theorem dL_areCompared_63 : decode cL_areCompared 63 = .ok (.iload 6, 2) := by decide +kernel
theorem dL_areCompared_65 : decode cL_areCompared 65 = .ok (.iload 5, 2) := by decide +kernel
theorem dL_areCompared_67 : decode cL_areCompared 67 = .ok (.iconst 4, 1) := by decide +kernel
theorem dL_areCompared_68 : decode cL_areCompared 68 = .ok (.if_icmp .ne 10, 3) := by decide +kernel
theorem dL_areCompared_71 : decode cL_areCompared 71 = .ok (.iconst 1, 1) := by decide +kernel
theorem dL_areCompared_72 : decode cL_areCompared 72 = .ok (.iload 7, 2) := by decide +kernel
theorem dL_areCompared_74 : decode cL_areCompared 74 = .ok (.ishl, 1) := by decide +kernel
theorem dL_areCompared_75 : decode cL_areCompared 75 = .ok (.goto 9, 3) := by decide +kernel
theorem dL_areCompared_78 : decode cL_areCompared 78 = .ok (.iconst 3, 1) := by decide +kernel
theorem dL_areCompared_79 : decode cL_areCompared 79 = .ok (.iconst 2, 1) := by decide +kernel
theorem dL_areCompared_80 : decode cL_areCompared 80 = .ok (.iload 7, 2) := by decide +kernel
theorem dL_areCompared_82 : decode cL_areCompared 82 = .ok (.imul, 1) := by decide +kernel
theorem dL_areCompared_83 : decode cL_areCompared 83 = .ok (.ishl, 1) := by decide +kernel
theorem dL_areCompared_84 : decode cL_areCompared 84 = .ok (.ior, 1) := by decide +kernel
theorem dL_areCompared_85 : decode cL_areCompared 85 = .ok (.istore 6, 2) := by decide +kernel
theorem dL_areCompared_87 : decode cL_areCompared 87 = .ok (.iinc 7 1, 3) := by decide +kernel
theorem dL_areCompared_90 : decode cL_areCompared 90 = .ok (.goto (-70), 3) := by decide +kernel
theorem dL_areCompared_93 : decode cL_areCompared 93 = .ok (.iload 6, 2) := by decide +kernel
theorem dL_areCompared_95 : decode cL_areCompared 95 = .ok (.istore_n 3, 1) := by decide +kernel
theorem dL_areCompared_96 : decode cL_areCompared 96 = .ok (.iinc 5 1, 3) := by decide +kernel
theorem dL_areCompared_99 : decode cL_areCompared 99 = .ok (.goto (-91), 3) := by decide +kernel
theorem dL_areCompared_102 : decode cL_areCompared 102 = .ok (.aload_n 0, 1) := by decide +kernel
theorem dL_areCompared_103 : decode cL_areCompared 103 = .ok (.iload_n 1, 1) := by decide +kernel
theorem dL_areCompared_104 : decode cL_areCompared 104 = .ok (.iload_n 2, 1) := by decide +kernel
theorem dL_areCompared_105 : decode cL_areCompared 105 = .ok (.invokevirtual 56, 3) := by decide +kernel
theorem dL_areCompared_108 : decode cL_areCompared 108 = .ok (.istore 5, 2) := by decide +kernel
theorem dL_areCompared_110 : decode cL_areCompared 110 = .ok (.aload_n 0, 1) := by decide +kernel
theorem dL_areCompared_111 : decode cL_areCompared 111 = .ok (.iload_n 1, 1) := by decide +kernel
theorem dL_areCompared_112 : decode cL_areCompared 112 = .ok (.iload_n 2, 1) := by decide +kernel
theorem dL_areCompared_113 : decode cL_areCompared 113 = .ok (.invokevirtual 60, 3) := by decide +kernel
theorem dL_areCompared_116 : decode cL_areCompared 116 = .ok (.iload 4, 2) := by decide +kernel
theorem dL_areCompared_118 : decode cL_areCompared 118 = .ok (.if_icmp .ne 63, 3) := by decide +kernel
theorem dL_areCompared_121 : decode cL_areCompared 121 = .ok (.aload_n 0, 1) := by decide +kernel
theorem dL_areCompared_122 : decode cL_areCompared 122 = .ok (.iload_n 1, 1) := by decide +kernel
theorem dL_areCompared_123 : decode cL_areCompared 123 = .ok (.iload_n 2, 1) := by decide +kernel
theorem dL_areCompared_124 : decode cL_areCompared 124 = .ok (.invokevirtual 63, 3) := by decide +kernel
theorem dL_areCompared_127 : decode cL_areCompared 127 = .ok (.iload_n 3, 1) := by decide +kernel
theorem dL_areCompared_128 : decode cL_areCompared 128 = .ok (.if_icmp .ne 53, 3) := by decide +kernel
theorem dL_areCompared_131 : decode cL_areCompared 131 = .ok (.aload_n 0, 1) := by decide +kernel
theorem dL_areCompared_132 : decode cL_areCompared 132 = .ok (.iload_n 2, 1) := by decide +kernel
theorem dL_areCompared_133 : decode cL_areCompared 133 = .ok (.iload_n 1, 1) := by decide +kernel
theorem dL_areCompared_134 : decode cL_areCompared 134 = .ok (.invokevirtual 63, 3) := by decide +kernel
theorem dL_areCompared_137 : decode cL_areCompared 137 = .ok (.iload_n 3, 1) := by decide +kernel
theorem dL_areCompared_138 : decode cL_areCompared 138 = .ok (.if_icmp .ne 43, 3) := by decide +kernel
theorem dL_areCompared_141 : decode cL_areCompared 141 = .ok (.aload_n 0, 1) := by decide +kernel
theorem dL_areCompared_142 : decode cL_areCompared 142 = .ok (.iload_n 2, 1) := by decide +kernel
theorem dL_areCompared_143 : decode cL_areCompared 143 = .ok (.iload_n 1, 1) := by decide +kernel
theorem dL_areCompared_144 : decode cL_areCompared 144 = .ok (.invokevirtual 56, 3) := by decide +kernel
theorem dL_areCompared_147 : decode cL_areCompared 147 = .ok (.iload 5, 2) := by decide +kernel
theorem dL_areCompared_149 : decode cL_areCompared 149 = .ok (.if_icmp .ne 32, 3) := by decide +kernel
theorem dL_areCompared_152 : decode cL_areCompared 152 = .ok (.iload 5, 2) := by decide +kernel
theorem dL_areCompared_154 : decode cL_areCompared 154 = .ok (.ifCond .eq 13, 3) := by decide +kernel
theorem dL_areCompared_157 : decode cL_areCompared 157 = .ok (.iload_n 3, 1) := by decide +kernel
theorem dL_areCompared_158 : decode cL_areCompared 158 = .ok (.ifCond .ne 23, 3) := by decide +kernel
theorem dL_areCompared_161 : decode cL_areCompared 161 = .ok (.iload 4, 2) := by decide +kernel
theorem dL_areCompared_163 : decode cL_areCompared 163 = .ok (.iconst 1, 1) := by decide +kernel
theorem dL_areCompared_164 : decode cL_areCompared 164 = .ok (.if_icmp .ne 17, 3) := by decide +kernel
theorem dL_areCompared_167 : decode cL_areCompared 167 = .ok (.iload_n 1, 1) := by decide +kernel
theorem dL_areCompared_168 : decode cL_areCompared 168 = .ok (.iload_n 2, 1) := by decide +kernel
theorem dL_areCompared_169 : decode cL_areCompared 169 = .ok (.if_icmp .ne 8, 3) := by decide +kernel
theorem dL_areCompared_172 : decode cL_areCompared 172 = .ok (.iload 5, 2) := by decide +kernel
theorem dL_areCompared_174 : decode cL_areCompared 174 = .ok (.ifCond .eq 7, 3) := by decide +kernel
theorem dL_areCompared_177 : decode cL_areCompared 177 = .ok (.iconst 1, 1) := by decide +kernel
theorem dL_areCompared_178 : decode cL_areCompared 178 = .ok (.goto 4, 3) := by decide +kernel
theorem dL_areCompared_181 : decode cL_areCompared 181 = .ok (.iconst 0, 1) := by decide +kernel
theorem dL_areCompared_182 : decode cL_areCompared 182 = .ok (.ireturn, 1) := by decide +kernel
theorem dL_isIdeal_0 : decode cL_isIdeal 0 = .ok (.iconst 1, 1) := by decide +kernel
theorem dL_isIdeal_1 : decode cL_isIdeal 1 = .ok (.istore_n 2, 1) := by decide +kernel
theorem dL_isIdeal_2 : decode cL_isIdeal 2 = .ok (.iconst 0, 1) := by decide +kernel
theorem dL_isIdeal_3 : decode cL_isIdeal 3 = .ok (.istore_n 3, 1) := by decide +kernel
theorem dL_isIdeal_4 : decode cL_isIdeal 4 = .ok (.iload_n 3, 1) := by decide +kernel
theorem dL_isIdeal_5 : decode cL_isIdeal 5 = .ok (.iconst 3, 1) := by decide +kernel
theorem dL_isIdeal_6 : decode cL_isIdeal 6 = .ok (.if_icmp .ge 75, 3) := by decide +kernel
theorem dL_isIdeal_9 : decode cL_isIdeal 9 = .ok (.iload_n 2, 1) := by decide +kernel
theorem dL_isIdeal_10 : decode cL_isIdeal 10 = .ok (.ifCond .eq 71, 3) := by decide +kernel
theorem dL_isIdeal_13 : decode cL_isIdeal 13 = .ok (.iconst 0, 1) := by decide +kernel
theorem dL_isIdeal_14 : decode cL_isIdeal 14 = .ok (.istore 4, 2) := by decide +kernel
theorem dL_isIdeal_16 : decode cL_isIdeal 16 = .ok (.iload 4, 2) := by decide +kernel
theorem dL_isIdeal_18 : decode cL_isIdeal 18 = .ok (.bipush 64, 2) := by decide +kernel
theorem dL_isIdeal_20 : decode cL_isIdeal 20 = .ok (.if_icmp .ge 55, 3) := by decide +kernel
theorem dL_isIdeal_23 : decode cL_isIdeal 23 = .ok (.iload_n 2, 1) := by decide +kernel
theorem dL_isIdeal_24 : decode cL_isIdeal 24 = .ok (.ifCond .eq 51, 3) := by decide +kernel
theorem dL_isIdeal_27 : decode cL_isIdeal 27 = .ok (.aload_n 1, 1) := by decide +kernel
theorem dL_isIdeal_28 : decode cL_isIdeal 28 = .ok (.iconst 2, 1) := by decide +kernel
theorem dL_isIdeal_29 : decode cL_isIdeal 29 = .ok (.iload_n 3, 1) := by decide +kernel
theorem dL_isIdeal_30 : decode cL_isIdeal 30 = .ok (.iadd, 1) := by decide +kernel
theorem dL_isIdeal_31 : decode cL_isIdeal 31 = .ok (.iaload, 1) := by decide +kernel
theorem dL_isIdeal_32 : decode cL_isIdeal 32 = .ok (.ifCond .ne 43, 3) := by decide +kernel
theorem dL_isIdeal_35 : decode cL_isIdeal 35 = .ok (.aload_n 0, 1) := by decide +kernel
theorem dL_isIdeal_36 : decode cL_isIdeal 36 = .ok (.iload_n 3, 1) := by decide +kernel
theorem dL_isIdeal_37 : decode cL_isIdeal 37 = .ok (.iload 4, 2) := by decide +kernel
theorem dL_isIdeal_39 : decode cL_isIdeal 39 = .ok (.iconst 4, 1) := by decide +kernel
theorem dL_isIdeal_40 : decode cL_isIdeal 40 = .ok (.idiv, 1) := by decide +kernel
theorem dL_isIdeal_41 : decode cL_isIdeal 41 = .ok (.iload 4, 2) := by decide +kernel
theorem dL_isIdeal_43 : decode cL_isIdeal 43 = .ok (.iconst 4, 1) := by decide +kernel
theorem dL_isIdeal_44 : decode cL_isIdeal 44 = .ok (.irem, 1) := by decide +kernel
theorem dL_isIdeal_45 : decode cL_isIdeal 45 = .ok (.invokevirtual 39, 3) := by decide +kernel
theorem dL_isIdeal_48 : decode cL_isIdeal 48 = .ok (.aload_n 0, 1) := by decide +kernel
theorem dL_isIdeal_49 : decode cL_isIdeal 49 = .ok (.iload 4, 2) := by decide +kernel
theorem dL_isIdeal_51 : decode cL_isIdeal 51 = .ok (.iconst 4, 1) := by decide +kernel
