theorem dL_isIdeal_52 : decode cL_isIdeal 52 = .ok (.idiv, 1) := by decide +kernel
theorem dL_isIdeal_53 : decode cL_isIdeal 53 = .ok (.iload 4, 2) := by decide +kernel
theorem dL_isIdeal_55 : decode cL_isIdeal 55 = .ok (.iconst 4, 1) := by decide +kernel
theorem dL_isIdeal_56 : decode cL_isIdeal 56 = .ok (.irem, 1) := by decide +kernel
theorem dL_isIdeal_57 : decode cL_isIdeal 57 = .ok (.invokevirtual 66, 3) := by decide +kernel
theorem dL_isIdeal_60 : decode cL_isIdeal 60 = .ok (.if_icmp .ne 7, 3) := by decide +kernel
theorem dL_isIdeal_63 : decode cL_isIdeal 63 = .ok (.iconst 1, 1) := by decide +kernel
theorem dL_isIdeal_64 : decode cL_isIdeal 64 = .ok (.goto 4, 3) := by decide +kernel
theorem dL_isIdeal_67 : decode cL_isIdeal 67 = .ok (.iconst 0, 1) := by decide +kernel
theorem dL_isIdeal_68 : decode cL_isIdeal 68 = .ok (.istore_n 2, 1) := by decide +kernel
theorem dL_isIdeal_69 : decode cL_isIdeal 69 = .ok (.iinc 4 1, 3) := by decide +kernel
theorem dL_isIdeal_72 : decode cL_isIdeal 72 = .ok (.goto (-56), 3) := by decide +kernel
theorem dL_isIdeal_75 : decode cL_isIdeal 75 = .ok (.iinc 3 1, 3) := by decide +kernel
theorem dL_isIdeal_78 : decode cL_isIdeal 78 = .ok (.goto (-74), 3) := by decide +kernel
theorem dL_isIdeal_81 : decode cL_isIdeal 81 = .ok (.iload_n 2, 1) := by decide +kernel
theorem dL_isIdeal_82 : decode cL_isIdeal 82 = .ok (.ifCond .eq 39, 3) := by decide +kernel
theorem dL_isIdeal_85 : decode cL_isIdeal 85 = .ok (.aload_n 1, 1) := by decide +kernel
theorem dL_isIdeal_86 : decode cL_isIdeal 86 = .ok (.iconst 2, 1) := by decide +kernel
theorem dL_isIdeal_87 : decode cL_isIdeal 87 = .ok (.iaload, 1) := by decide +kernel
theorem dL_isIdeal_88 : decode cL_isIdeal 88 = .ok (.aload_n 1, 1) := by decide +kernel
theorem dL_isIdeal_89 : decode cL_isIdeal 89 = .ok (.iconst 3, 1) := by decide +kernel
theorem dL_isIdeal_90 : decode cL_isIdeal 90 = .ok (.iaload, 1) := by decide +kernel
theorem dL_isIdeal_91 : decode cL_isIdeal 91 = .ok (.iadd, 1) := by decide +kernel
theorem dL_isIdeal_92 : decode cL_isIdeal 92 = .ok (.aload_n 1, 1) := by decide +kernel
theorem dL_isIdeal_93 : decode cL_isIdeal 93 = .ok (.iconst 4, 1) := by decide +kernel
theorem dL_isIdeal_94 : decode cL_isIdeal 94 = .ok (.iaload, 1) := by decide +kernel
theorem dL_isIdeal_95 : decode cL_isIdeal 95 = .ok (.iadd, 1) := by decide +kernel
theorem dL_isIdeal_96 : decode cL_isIdeal 96 = .ok (.ifCond .gt 21, 3) := by decide +kernel
theorem dL_isIdeal_99 : decode cL_isIdeal 99 = .ok (.aload_n 0, 1) := by decide +kernel
theorem dL_isIdeal_100 : decode cL_isIdeal 100 = .ok (.iconst 0, 1) := by decide +kernel
theorem dL_isIdeal_101 : decode cL_isIdeal 101 = .ok (.iconst 1, 1) := by decide +kernel
theorem dL_isIdeal_102 : decode cL_isIdeal 102 = .ok (.invokevirtual 56, 3) := by decide +kernel
theorem dL_isIdeal_105 : decode cL_isIdeal 105 = .ok (.ifCond .eq 16, 3) := by decide +kernel
theorem dL_isIdeal_108 : decode cL_isIdeal 108 = .ok (.aload_n 0, 1) := by decide +kernel
theorem dL_isIdeal_109 : decode cL_isIdeal 109 = .ok (.iconst 1, 1) := by decide +kernel
theorem dL_isIdeal_110 : decode cL_isIdeal 110 = .ok (.iconst 2, 1) := by decide +kernel
theorem dL_isIdeal_111 : decode cL_isIdeal 111 = .ok (.invokevirtual 56, 3) := by decide +kernel
theorem dL_isIdeal_114 : decode cL_isIdeal 114 = .ok (.ifCond .eq 7, 3) := by decide +kernel
theorem dL_isIdeal_117 : decode cL_isIdeal 117 = .ok (.iconst 1, 1) := by decide +kernel
theorem dL_isIdeal_118 : decode cL_isIdeal 118 = .ok (.goto 4, 3) := by decide +kernel
theorem dL_isIdeal_121 : decode cL_isIdeal 121 = .ok (.iconst 0, 1) := by decide +kernel
theorem dL_isIdeal_122 : decode cL_isIdeal 122 = .ok (.ireturn, 1) := by decide +kernel
theorem dL_copies_0 : decode cL_copies 0 = .ok (.aload_n 0, 1) := by decide +kernel
theorem dL_copies_1 : decode cL_copies 1 = .ok (.bipush 7, 2) := by decide +kernel
theorem dL_copies_3 : decode cL_copies 3 = .ok (.iaload, 1) := by decide +kernel
theorem dL_copies_4 : decode cL_copies 4 = .ok (.iconst 1, 1) := by decide +kernel
theorem dL_copies_5 : decode cL_copies 5 = .ok (.if_icmp .ne 8, 3) := by decide +kernel
theorem dL_copies_8 : decode cL_copies 8 = .ok (.bipush 7, 2) := by decide +kernel
theorem dL_copies_10 : decode cL_copies 10 = .ok (.goto 7, 3) := by decide +kernel
theorem dL_copies_13 : decode cL_copies 13 = .ok (.iload_n 1, 1) := by decide +kernel
theorem dL_copies_14 : decode cL_copies 14 = .ok (.bipush 8, 2) := by decide +kernel
theorem dL_copies_16 : decode cL_copies 16 = .ok (.irem, 1) := by decide +kernel
theorem dL_copies_17 : decode cL_copies 17 = .ok (.ireturn, 1) := by decide +kernel
theorem dL_hints_0 : decode cL_hints 0 = .ok (.iconst 0, 1) := by decide +kernel
theorem dL_hints_1 : decode cL_hints 1 = .ok (.istore_n 2, 1) := by decide +kernel
theorem dL_hints_2 : decode cL_hints 2 = .ok (.iload_n 2, 1) := by decide +kernel
theorem dL_hints_3 : decode cL_hints 3 = .ok (.iconst 3, 1) := by decide +kernel
theorem dL_hints_4 : decode cL_hints 4 = .ok (.if_icmp .ge 106, 3) := by decide +kernel
theorem dL_hints_7 : decode cL_hints 7 = .ok (.iload_n 1, 1) := by decide +kernel
theorem dL_hints_8 : decode cL_hints 8 = .ok (.iload_n 2, 1) := by decide +kernel
theorem dL_hints_9 : decode cL_hints 9 = .ok (.ishr, 1) := by decide +kernel
theorem dL_hints_10 : decode cL_hints 10 = .ok (.iconst 1, 1) := by decide +kernel
theorem dL_hints_11 : decode cL_hints 11 = .ok (.iand, 1) := by decide +kernel
theorem dL_hints_12 : decode cL_hints 12 = .ok (.iconst 1, 1) := by decide +kernel
theorem dL_hints_13 : decode cL_hints 13 = .ok (.if_icmp .ne 17, 3) := by decide +kernel
theorem dL_hints_16 : decode cL_hints 16 = .ok (.aload_n 0, 1) := by decide +kernel
theorem dL_hints_17 : decode cL_hints 17 = .ok (.iconst 5, 1) := by decide +kernel
theorem dL_hints_18 : decode cL_hints 18 = .ok (.iaload, 1) := by decide +kernel
theorem dL_hints_19 : decode cL_hints 19 = .ok (.iload_n 2, 1) := by decide +kernel
theorem dL_hints_20 : decode cL_hints 20 = .ok (.ishr, 1) := by decide +kernel
theorem dL_hints_21 : decode cL_hints 21 = .ok (.iconst 1, 1) := by decide +kernel
theorem dL_hints_22 : decode cL_hints 22 = .ok (.iand, 1) := by decide +kernel
theorem dL_hints_23 : decode cL_hints 23 = .ok (.ifCond .ne 7, 3) := by decide +kernel
theorem dL_hints_26 : decode cL_hints 26 = .ok (.iconst 1, 1) := by decide +kernel
theorem dL_hints_27 : decode cL_hints 27 = .ok (.goto 4, 3) := by decide +kernel
theorem dL_hints_30 : decode cL_hints 30 = .ok (.iconst 0, 1) := by decide +kernel
theorem dL_hints_31 : decode cL_hints 31 = .ok (.istore_n 3, 1) := by decide +kernel
theorem dL_hints_32 : decode cL_hints 32 = .ok (.aload_n 0, 1) := by decide +kernel
theorem dL_hints_33 : decode cL_hints 33 = .ok (.bipush 6, 2) := by decide +kernel
theorem dL_hints_35 : decode cL_hints 35 = .ok (.dup2, 1) := by decide +kernel
theorem dL_hints_36 : decode cL_hints 36 = .ok (.iaload, 1) := by decide +kernel
theorem dL_hints_37 : decode cL_hints 37 = .ok (.iload_n 3, 1) := by decide +kernel
theorem dL_hints_38 : decode cL_hints 38 = .ok (.ifCond .eq 17, 3) := by decide +kernel
theorem dL_hints_41 : decode cL_hints 41 = .ok (.aload_n 0, 1) := by decide +kernel
theorem dL_hints_42 : decode cL_hints 42 = .ok (.iconst 2, 1) := by decide +kernel
theorem dL_hints_43 : decode cL_hints 43 = .ok (.iload_n 2, 1) := by decide +kernel
theorem dL_hints_44 : decode cL_hints 44 = .ok (.iadd, 1) := by decide +kernel
theorem dL_hints_45 : decode cL_hints 45 = .ok (.iaload, 1) := by decide +kernel
theorem dL_hints_46 : decode cL_hints 46 = .ok (.bipush 10, 2) := by decide +kernel
theorem dL_hints_48 : decode cL_hints 48 = .ok (.if_icmp .ne 7, 3) := by decide +kernel
theorem dL_hints_51 : decode cL_hints 51 = .ok (.iconst 1, 1) := by decide +kernel
theorem dL_hints_52 : decode cL_hints 52 = .ok (.goto 4, 3) := by decide +kernel
theorem dL_hints_55 : decode cL_hints 55 = .ok (.iconst 0, 1) := by decide +kernel
theorem dL_hints_56 : decode cL_hints 56 = .ok (.iadd, 1) := by decide +kernel
theorem dL_hints_57 : decode cL_hints 57 = .ok (.iastore, 1) := by decide +kernel
theorem dL_hints_58 : decode cL_hints 58 = .ok (.aload_n 0, 1) := by decide +kernel
theorem dL_hints_59 : decode cL_hints 59 = .ok (.bipush 7, 2) := by decide +kernel
theorem dL_hints_61 : decode cL_hints 61 = .ok (.aload_n 0, 1) := by decide +kernel
theorem dL_hints_62 : decode cL_hints 62 = .ok (.bipush 6, 2) := by decide +kernel
theorem dL_hints_64 : decode cL_hints 64 = .ok (.iaload, 1) := by decide +kernel
theorem dL_hints_65 : decode cL_hints 65 = .ok (.ifCond .le 7, 3) := by decide +kernel
theorem dL_hints_68 : decode cL_hints 68 = .ok (.iconst 0, 1) := by decide +kernel
theorem dL_hints_69 : decode cL_hints 69 = .ok (.goto 7, 3) := by decide +kernel
theorem dL_hints_72 : decode cL_hints 72 = .ok (.aload_n 0, 1) := by decide +kernel
theorem dL_hints_73 : decode cL_hints 73 = .ok (.bipush 7, 2) := by decide +kernel
theorem dL_hints_75 : decode cL_hints 75 = .ok (.iaload, 1) := by decide +kernel
theorem dL_hints_76 : decode cL_hints 76 = .ok (.iastore, 1) := by decide +kernel
theorem dL_hints_77 : decode cL_hints 77 = .ok (.aload_n 0, 1) := by decide +kernel
theorem dL_hints_78 : decode cL_hints 78 = .ok (.iconst 2, 1) := by decide +kernel
theorem dL_hints_79 : decode cL_hints 79 = .ok (.iload_n 2, 1) := by decide +kernel
theorem dL_hints_80 : decode cL_hints 80 = .ok (.iadd, 1) := by decide +kernel
theorem dL_hints_81 : decode cL_hints 81 = .ok (.dup2, 1) := by decide +kernel
theorem dL_hints_82 : decode cL_hints 82 = .ok (.iaload, 1) := by decide +kernel
theorem dL_hints_83 : decode cL_hints 83 = .ok (.iload_n 3, 1) := by decide +kernel
theorem dL_hints_84 : decode cL_hints 84 = .ok (.ifCond .eq 17, 3) := by decide +kernel
theorem dL_hints_87 : decode cL_hints 87 = .ok (.aload_n 0, 1) := by decide +kernel
theorem dL_hints_88 : decode cL_hints 88 = .ok (.iconst 2, 1) := by decide +kernel
theorem dL_hints_89 : decode cL_hints 89 = .ok (.iload_n 2, 1) := by decide +kernel
theorem dL_hints_90 : decode cL_hints 90 = .ok (.iadd, 1) := by decide +kernel
theorem dL_hints_91 : decode cL_hints 91 = .ok (.iaload, 1) := by decide +kernel
theorem dL_hints_92 : decode cL_hints 92 = .ok (.bipush 10, 2) := by decide +kernel
theorem dL_hints_94 : decode cL_hints 94 = .ok (.if_icmp .ge 7, 3) := by decide +kernel
theorem dL_hints_97 : decode cL_hints 97 = .ok (.iconst 1, 1) := by decide +kernel
theorem dL_hints_98 : decode cL_hints 98 = .ok (.goto 4, 3) := by decide +kernel
theorem dL_hints_101 : decode cL_hints 101 = .ok (.iconst 0, 1) := by decide +kernel
theorem dL_hints_102 : decode cL_hints 102 = .ok (.iadd, 1) := by decide +kernel
theorem dL_hints_103 : decode cL_hints 103 = .ok (.iastore, 1) := by decide +kernel
theorem dL_hints_104 : decode cL_hints 104 = .ok (.iinc 2 1, 3) := by decide +kernel
theorem dL_hints_107 : decode cL_hints 107 = .ok (.goto (-105), 3) := by decide +kernel
theorem dL_hints_110 : decode cL_hints 110 = .ok (.return_, 1) := by decide +kernel
theorem dL_writes_0 : decode cL_writes 0 = .ok (.iload_n 1, 1) := by decide +kernel
theorem dL_writes_1 : decode cL_writes 1 = .ok (.bipush 16, 2) := by decide +kernel
theorem dL_writes_3 : decode cL_writes 3 = .ok (.irem, 1) := by decide +kernel
theorem dL_writes_4 : decode cL_writes 4 = .ok (.istore 4, 2) := by decide +kernel
theorem dL_writes_6 : decode cL_writes 6 = .ok (.iload_n 1, 1) := by decide +kernel
theorem dL_writes_7 : decode cL_writes 7 = .ok (.bipush 16, 2) := by decide +kernel
theorem dL_writes_9 : decode cL_writes 9 = .ok (.idiv, 1) := by decide +kernel
theorem dL_writes_10 : decode cL_writes 10 = .ok (.iconst 4, 1) := by decide +kernel
theorem dL_writes_11 : decode cL_writes 11 = .ok (.irem, 1) := by decide +kernel
theorem dL_writes_12 : decode cL_writes 12 = .ok (.istore 5, 2) := by decide +kernel
theorem dL_writes_14 : decode cL_writes 14 = .ok (.aload_n 3, 1) := by decide +kernel
theorem dL_writes_15 : decode cL_writes 15 = .ok (.iload_n 2, 1) := by decide +kernel
theorem dL_writes_16 : decode cL_writes 16 = .ok (.invokestatic 69, 3) := by decide +kernel
theorem dL_writes_19 : decode cL_writes 19 = .ok (.istore 6, 2) := by decide +kernel
theorem dL_writes_21 : decode cL_writes 21 = .ok (.iload_n 2, 1) := by decide +kernel
theorem dL_writes_22 : decode cL_writes 22 = .ok (.bipush 8, 2) := by decide +kernel
theorem dL_writes_24 : decode cL_writes 24 = .ok (.idiv, 1) := by decide +kernel
theorem dL_writes_25 : decode cL_writes 25 = .ok (.iconst 5, 1) := by decide +kernel
theorem dL_writes_26 : decode cL_writes 26 = .ok (.irem, 1) := by decide +kernel
theorem dL_writes_27 : decode cL_writes 27 = .ok (.istore 7, 2) := by decide +kernel
theorem dL_writes_29 : decode cL_writes 29 = .ok (.iload_n 2, 1) := by decide +kernel
theorem dL_writes_30 : decode cL_writes 30 = .ok (.bipush 40, 2) := by decide +kernel
theorem dL_writes_32 : decode cL_writes 32 = .ok (.idiv, 1) := by decide +kernel
theorem dL_writes_33 : decode cL_writes 33 = .ok (.bipush 7, 2) := by decide +kernel
theorem dL_writes_35 : decode cL_writes 35 = .ok (.irem, 1) := by decide +kernel
theorem dL_writes_36 : decode cL_writes 36 = .ok (.istore 8, 2) := by decide +kernel
theorem dL_writes_38 : decode cL_writes 38 = .ok (.iload_n 1, 1) := by decide +kernel
theorem dL_writes_39 : decode cL_writes 39 = .ok (.iconst 3, 1) := by decide +kernel
theorem dL_writes_40 : decode cL_writes 40 = .ok (.irem, 1) := by decide +kernel
theorem dL_writes_41 : decode cL_writes 41 = .ok (.ifCond .ne 15, 3) := by decide +kernel
theorem dL_writes_44 : decode cL_writes 44 = .ok (.iconst 1, 1) := by decide +kernel
theorem dL_writes_45 : decode cL_writes 45 = .ok (.iload_n 1, 1) := by decide +kernel
theorem dL_writes_46 : decode cL_writes 46 = .ok (.bipush 64, 2) := by decide +kernel
theorem dL_writes_48 : decode cL_writes 48 = .ok (.idiv, 1) := by decide +kernel
theorem dL_writes_49 : decode cL_writes 49 = .ok (.bipush 30, 2) := by decide +kernel
theorem dL_writes_51 : decode cL_writes 51 = .ok (.irem, 1) := by decide +kernel
theorem dL_writes_52 : decode cL_writes 52 = .ok (.iadd, 1) := by decide +kernel
theorem dL_writes_53 : decode cL_writes 53 = .ok (.goto 4, 3) := by decide +kernel
theorem dL_writes_56 : decode cL_writes 56 = .ok (.iconst 0, 1) := by decide +kernel
theorem dL_writes_57 : decode cL_writes 57 = .ok (.istore 9, 2) := by decide +kernel
theorem dL_writes_59 : decode cL_writes 59 = .ok (.iconst 3, 1) := by decide +kernel
theorem dL_writes_60 : decode cL_writes 60 = .ok (.newarray .int, 2) := by decide +kernel
theorem dL_writes_62 : decode cL_writes 62 = .ok (.astore 10, 2) := by decide +kernel
theorem dL_writes_64 : decode cL_writes 64 = .ok (.iconst 0, 1) := by decide +kernel
theorem dL_writes_65 : decode cL_writes 65 = .ok (.istore 11, 2) := by decide +kernel
theorem dL_writes_67 : decode cL_writes 67 = .ok (.iload 11, 2) := by decide +kernel
theorem dL_writes_69 : decode cL_writes 69 = .ok (.iconst 3, 1) := by decide +kernel
theorem dL_writes_70 : decode cL_writes 70 = .ok (.if_icmp .ge 24, 3) := by decide +kernel
theorem dL_writes_73 : decode cL_writes 73 = .ok (.aload 10, 2) := by decide +kernel
theorem dL_writes_75 : decode cL_writes 75 = .ok (.iload 11, 2) := by decide +kernel
theorem dL_writes_77 : decode cL_writes 77 = .ok (.aload_n 0, 1) := by decide +kernel
theorem dL_writes_78 : decode cL_writes 78 = .ok (.iload 11, 2) := by decide +kernel
theorem dL_writes_80 : decode cL_writes 80 = .ok (.iload 4, 2) := by decide +kernel
theorem dL_writes_82 : decode cL_writes 82 = .ok (.iload 5, 2) := by decide +kernel
theorem dL_writes_84 : decode cL_writes 84 = .ok (.invokevirtual 36, 3) := by decide +kernel
theorem dL_writes_87 : decode cL_writes 87 = .ok (.iastore, 1) := by decide +kernel
theorem dL_writes_88 : decode cL_writes 88 = .ok (.iinc 11 1, 3) := by decide +kernel
theorem dL_writes_91 : decode cL_writes 91 = .ok (.goto (-24), 3) := by decide +kernel
theorem dL_writes_94 : decode cL_writes 94 = .ok (.aload_n 0, 1) := by decide +kernel
theorem dL_writes_95 : decode cL_writes 95 = .ok (.iload 6, 2) := by decide +kernel
theorem dL_writes_97 : decode cL_writes 97 = .ok (.iload 4, 2) := by decide +kernel
theorem dL_writes_99 : decode cL_writes 99 = .ok (.iload 5, 2) := by decide +kernel
theorem dL_writes_101 : decode cL_writes 101 = .ok (.iload 7, 2) := by decide +kernel
theorem dL_writes_103 : decode cL_writes 103 = .ok (.iload 8, 2) := by decide +kernel
theorem dL_writes_105 : decode cL_writes 105 = .ok (.iload 9, 2) := by decide +kernel
theorem dL_writes_107 : decode cL_writes 107 = .ok (.invokevirtual 75, 3) := by decide +kernel
theorem dL_writes_110 : decode cL_writes 110 = .ok (.iload 6, 2) := by decide +kernel
theorem dL_writes_112 : decode cL_writes 112 = .ok (.aload_n 3, 1) := by decide +kernel
theorem dL_writes_113 : decode cL_writes 113 = .ok (.iconst 5, 1) := by decide +kernel
theorem dL_writes_114 : decode cL_writes 114 = .ok (.iaload, 1) := by decide +kernel
theorem dL_writes_115 : decode cL_writes 115 = .ok (.iand, 1) := by decide +kernel
theorem dL_writes_116 : decode cL_writes 116 = .ok (.invokestatic 79, 3) := by decide +kernel
theorem dL_writes_119 : decode cL_writes 119 = .ok (.if_icmp .ne 7, 3) := by decide +kernel
theorem dL_writes_122 : decode cL_writes 122 = .ok (.iconst 1, 1) := by decide +kernel
theorem dL_writes_123 : decode cL_writes 123 = .ok (.goto 4, 3) := by decide +kernel
theorem dL_writes_126 : decode cL_writes 126 = .ok (.iconst 0, 1) := by decide +kernel
theorem dL_writes_127 : decode cL_writes 127 = .ok (.istore 11, 2) := by decide +kernel
theorem dL_writes_129 : decode cL_writes 129 = .ok (.iconst 0, 1) := by decide +kernel
theorem dL_writes_130 : decode cL_writes 130 = .ok (.istore 12, 2) := by decide +kernel
theorem dL_writes_132 : decode cL_writes 132 = .ok (.iload 12, 2) := by decide +kernel
theorem dL_writes_134 : decode cL_writes 134 = .ok (.iconst 3, 1) := by decide +kernel
theorem dL_writes_135 : decode cL_writes 135 = .ok (.if_icmp .ge 81, 3) := by decide +kernel
theorem dL_writes_138 : decode cL_writes 138 = .ok (.iload 6, 2) := by decide +kernel
theorem dL_writes_140 : decode cL_writes 140 = .ok (.aload_n 3, 1) := by decide +kernel
theorem dL_writes_141 : decode cL_writes 141 = .ok (.iconst 5, 1) := by decide +kernel
theorem dL_writes_142 : decode cL_writes 142 = .ok (.iaload, 1) := by decide +kernel
theorem dL_writes_143 : decode cL_writes 143 = .ok (.iand, 1) := by decide +kernel
theorem dL_writes_144 : decode cL_writes 144 = .ok (.iload 12, 2) := by decide +kernel
theorem dL_writes_146 : decode cL_writes 146 = .ok (.ishr, 1) := by decide +kernel
theorem dL_writes_147 : decode cL_writes 147 = .ok (.iconst 1, 1) := by decide +kernel
theorem dL_writes_148 : decode cL_writes 148 = .ok (.iand, 1) := by decide +kernel
theorem dL_writes_149 : decode cL_writes 149 = .ok (.iconst 1, 1) := by decide +kernel
theorem dL_writes_150 : decode cL_writes 150 = .ok (.if_icmp .ne 7, 3) := by decide +kernel
theorem dL_writes_153 : decode cL_writes 153 = .ok (.iconst 1, 1) := by decide +kernel
theorem dL_writes_154 : decode cL_writes 154 = .ok (.goto 4, 3) := by decide +kernel
theorem dL_writes_157 : decode cL_writes 157 = .ok (.iconst 0, 1) := by decide +kernel
theorem dL_writes_158 : decode cL_writes 158 = .ok (.istore 13, 2) := by decide +kernel
theorem dL_writes_160 : decode cL_writes 160 = .ok (.iload 11, 2) := by decide +kernel
theorem dL_writes_162 : decode cL_writes 162 = .ok (.ifCond .eq 45, 3) := by decide +kernel
theorem dL_writes_165 : decode cL_writes 165 = .ok (.aload_n 0, 1) := by decide +kernel
theorem dL_writes_166 : decode cL_writes 166 = .ok (.iload 12, 2) := by decide +kernel
theorem dL_writes_168 : decode cL_writes 168 = .ok (.iload 4, 2) := by decide +kernel
theorem dL_writes_170 : decode cL_writes 170 = .ok (.iload 5, 2) := by decide +kernel
theorem dL_writes_172 : decode cL_writes 172 = .ok (.invokevirtual 36, 3) := by decide +kernel
theorem dL_writes_175 : decode cL_writes 175 = .ok (.iload 13, 2) := by decide +kernel
theorem dL_writes_177 : decode cL_writes 177 = .ok (.ifCond .eq 18, 3) := by decide +kernel
theorem dL_writes_180 : decode cL_writes 180 = .ok (.iload 8, 2) := by decide +kernel
theorem dL_writes_182 : decode cL_writes 182 = .ok (.aload 10, 2) := by decide +kernel
theorem dL_writes_184 : decode cL_writes 184 = .ok (.iload 12, 2) := by decide +kernel
theorem dL_writes_186 : decode cL_writes 186 = .ok (.iaload, 1) := by decide +kernel
theorem dL_writes_187 : decode cL_writes 187 = .ok (.if_icmp .le 8, 3) := by decide +kernel
theorem dL_writes_190 : decode cL_writes 190 = .ok (.iload 8, 2) := by decide +kernel
theorem dL_writes_192 : decode cL_writes 192 = .ok (.goto 8, 3) := by decide +kernel
theorem dL_writes_195 : decode cL_writes 195 = .ok (.aload 10, 2) := by decide +kernel
theorem dL_writes_197 : decode cL_writes 197 = .ok (.iload 12, 2) := by decide +kernel
theorem dL_writes_199 : decode cL_writes 199 = .ok (.iaload, 1) := by decide +kernel
theorem dL_writes_200 : decode cL_writes 200 = .ok (.if_icmp .ne 7, 3) := by decide +kernel
theorem dL_writes_203 : decode cL_writes 203 = .ok (.iconst 1, 1) := by decide +kernel
theorem dL_writes_204 : decode cL_writes 204 = .ok (.goto 4, 3) := by decide +kernel
theorem dL_writes_207 : decode cL_writes 207 = .ok (.iconst 0, 1) := by decide +kernel
theorem dL_writes_208 : decode cL_writes 208 = .ok (.istore 11, 2) := by decide +kernel
theorem dL_writes_210 : decode cL_writes 210 = .ok (.iinc 12 1, 3) := by decide +kernel
theorem dL_writes_213 : decode cL_writes 213 = .ok (.goto (-81), 3) := by decide +kernel
theorem dL_writes_216 : decode cL_writes 216 = .ok (.aload_n 3, 1) := by decide +kernel
theorem dL_writes_217 : decode cL_writes 217 = .ok (.iload 6, 2) := by decide +kernel
theorem dL_writes_219 : decode cL_writes 219 = .ok (.invokestatic 82, 3) := by decide +kernel
theorem dL_writes_222 : decode cL_writes 222 = .ok (.iload 11, 2) := by decide +kernel
theorem dL_writes_224 : decode cL_writes 224 = .ok (.ireturn, 1) := by decide +kernel
theorem dL_buries_0 : decode cL_buries 0 = .ok (.iload_n 2, 1) := by decide +kernel
theorem dL_buries_1 : decode cL_buries 1 = .ok (.bipush 16, 2) := by decide +kernel
theorem dL_buries_3 : decode cL_buries 3 = .ok (.irem, 1) := by decide +kernel
theorem dL_buries_4 : decode cL_buries 4 = .ok (.istore 5, 2) := by decide +kernel
theorem dL_buries_6 : decode cL_buries 6 = .ok (.iload_n 1, 1) := by decide +kernel
theorem dL_buries_7 : decode cL_buries 7 = .ok (.iconst 3, 1) := by decide +kernel
theorem dL_buries_8 : decode cL_buries 8 = .ok (.if_icmp .ne 19, 3) := by decide +kernel
theorem dL_buries_11 : decode cL_buries 11 = .ok (.iload 5, 2) := by decide +kernel
theorem dL_buries_13 : decode cL_buries 13 = .ok (.iload_n 2, 1) := by decide +kernel
theorem dL_buries_14 : decode cL_buries 14 = .ok (.bipush 16, 2) := by decide +kernel
theorem dL_buries_16 : decode cL_buries 16 = .ok (.idiv, 1) := by decide +kernel
theorem dL_buries_17 : decode cL_buries 17 = .ok (.bipush 16, 2) := by decide +kernel
theorem dL_buries_19 : decode cL_buries 19 = .ok (.iload 5, 2) := by decide +kernel
theorem dL_buries_21 : decode cL_buries 21 = .ok (.isub, 1) := by decide +kernel
theorem dL_buries_22 : decode cL_buries 22 = .ok (.irem, 1) := by decide +kernel
theorem dL_buries_23 : decode cL_buries 23 = .ok (.iadd, 1) := by decide +kernel
theorem dL_buries_24 : decode cL_buries 24 = .ok (.goto 9, 3) := by decide +kernel
theorem dL_buries_27 : decode cL_buries 27 = .ok (.iload_n 2, 1) := by decide +kernel
theorem dL_buries_28 : decode cL_buries 28 = .ok (.bipush 16, 2) := by decide +kernel
theorem dL_buries_30 : decode cL_buries 30 = .ok (.idiv, 1) := by decide +kernel
theorem dL_buries_31 : decode cL_buries 31 = .ok (.iconst 4, 1) := by decide +kernel
theorem dL_buries_32 : decode cL_buries 32 = .ok (.irem, 1) := by decide +kernel
theorem dL_buries_33 : decode cL_buries 33 = .ok (.istore 6, 2) := by decide +kernel
theorem dL_buries_35 : decode cL_buries 35 = .ok (.aload 4, 2) := by decide +kernel
theorem dL_buries_37 : decode cL_buries 37 = .ok (.iload_n 3, 1) := by decide +kernel
theorem dL_buries_38 : decode cL_buries 38 = .ok (.invokestatic 69, 3) := by decide +kernel
theorem dL_buries_41 : decode cL_buries 41 = .ok (.istore 7, 2) := by decide +kernel
theorem dL_buries_43 : decode cL_buries 43 = .ok (.iload_n 3, 1) := by decide +kernel
theorem dL_buries_44 : decode cL_buries 44 = .ok (.bipush 40, 2) := by decide +kernel
theorem dL_buries_46 : decode cL_buries 46 = .ok (.idiv, 1) := by decide +kernel
theorem dL_buries_47 : decode cL_buries 47 = .ok (.bipush 7, 2) := by decide +kernel
theorem dL_buries_49 : decode cL_buries 49 = .ok (.irem, 1) := by decide +kernel
theorem dL_buries_50 : decode cL_buries 50 = .ok (.istore 8, 2) := by decide +kernel
theorem dL_buries_52 : decode cL_buries 52 = .ok (.iconst 3, 1) := by decide +kernel
theorem dL_buries_53 : decode cL_buries 53 = .ok (.newarray .int, 2) := by decide +kernel
theorem dL_buries_55 : decode cL_buries 55 = .ok (.astore 9, 2) := by decide +kernel
theorem dL_buries_57 : decode cL_buries 57 = .ok (.iload_n 1, 1) := by decide +kernel
theorem dL_buries_58 : decode cL_buries 58 = .ok (.iconst 1, 1) := by decide +kernel
theorem dL_buries_59 : decode cL_buries 59 = .ok (.if_icmp .ne 10, 3) := by decide +kernel
theorem dL_buries_62 : decode cL_buries 62 = .ok (.iload_n 3, 1) := by decide +kernel
theorem dL_buries_63 : decode cL_buries 63 = .ok (.bipush 16, 2) := by decide +kernel
theorem dL_buries_65 : decode cL_buries 65 = .ok (.irem, 1) := by decide +kernel
theorem dL_buries_66 : decode cL_buries 66 = .ok (.goto 5, 3) := by decide +kernel
theorem dL_buries_69 : decode cL_buries 69 = .ok (.iload 5, 2) := by decide +kernel
theorem dL_buries_71 : decode cL_buries 71 = .ok (.istore 10, 2) := by decide +kernel
theorem dL_buries_73 : decode cL_buries 73 = .ok (.iload_n 1, 1) := by decide +kernel
theorem dL_buries_74 : decode cL_buries 74 = .ok (.ifCond .eq 8, 3) := by decide +kernel
theorem dL_buries_77 : decode cL_buries 77 = .ok (.iload_n 1, 1) := by decide +kernel
theorem dL_buries_78 : decode cL_buries 78 = .ok (.iconst 1, 1) := by decide +kernel
theorem dL_buries_79 : decode cL_buries 79 = .ok (.if_icmp .ne 8, 3) := by decide +kernel
theorem dL_buries_82 : decode cL_buries 82 = .ok (.iload 6, 2) := by decide +kernel
theorem dL_buries_84 : decode cL_buries 84 = .ok (.goto 9, 3) := by decide +kernel
theorem dL_buries_87 : decode cL_buries 87 = .ok (.iload_n 3, 1) := by decide +kernel
theorem dL_buries_88 : decode cL_buries 88 = .ok (.bipush 16, 2) := by decide +kernel
theorem dL_buries_90 : decode cL_buries 90 = .ok (.idiv, 1) := by decide +kernel
theorem dL_buries_91 : decode cL_buries 91 = .ok (.iconst 4, 1) := by decide +kernel
theorem dL_buries_92 : decode cL_buries 92 = .ok (.irem, 1) := by decide +kernel
theorem dL_buries_93 : decode cL_buries 93 = .ok (.istore 11, 2) := by decide +kernel
theorem dL_buries_95 : decode cL_buries 95 = .ok (.iconst 0, 1) := by decide +kernel
theorem dL_buries_96 : decode cL_buries 96 = .ok (.istore 12, 2) := by decide +kernel
theorem dL_buries_98 : decode cL_buries 98 = .ok (.iload 12, 2) := by decide +kernel
theorem dL_buries_100 : decode cL_buries 100 = .ok (.iconst 3, 1) := by decide +kernel
theorem dL_buries_101 : decode cL_buries 101 = .ok (.if_icmp .ge 24, 3) := by decide +kernel
theorem dL_buries_104 : decode cL_buries 104 = .ok (.aload 9, 2) := by decide +kernel
theorem dL_buries_106 : decode cL_buries 106 = .ok (.iload 12, 2) := by decide +kernel
theorem dL_buries_108 : decode cL_buries 108 = .ok (.aload_n 0, 1) := by decide +kernel
theorem dL_buries_109 : decode cL_buries 109 = .ok (.iload 12, 2) := by decide +kernel
theorem dL_buries_111 : decode cL_buries 111 = .ok (.iload 10, 2) := by decide +kernel
theorem dL_buries_113 : decode cL_buries 113 = .ok (.iload 11, 2) := by decide +kernel
theorem dL_buries_115 : decode cL_buries 115 = .ok (.invokevirtual 42, 3) := by decide +kernel
theorem dL_buries_118 : decode cL_buries 118 = .ok (.iastore, 1) := by decide +kernel
theorem dL_buries_119 : decode cL_buries 119 = .ok (.iinc 12 1, 3) := by decide +kernel
theorem dL_buries_122 : decode cL_buries 122 = .ok (.goto (-24), 3) := by decide +kernel
theorem dL_buries_125 : decode cL_buries 125 = .ok (.aload_n 0, 1) := by decide +kernel
theorem dL_buries_126 : decode cL_buries 126 = .ok (.iload_n 1, 1) := by decide +kernel
theorem dL_buries_127 : decode cL_buries 127 = .ok (.iload 7, 2) := by decide +kernel
theorem dL_buries_129 : decode cL_buries 129 = .ok (.iload 5, 2) := by decide +kernel
theorem dL_buries_131 : decode cL_buries 131 = .ok (.iload 6, 2) := by decide +kernel
theorem dL_buries_133 : decode cL_buries 133 = .ok (.iload 8, 2) := by decide +kernel
theorem dL_buries_135 : decode cL_buries 135 = .ok (.invokestatic 85, 3) := by decide +kernel
theorem dL_buries_138 : decode cL_buries 138 = .ok (.istore 12, 2) := by decide +kernel
theorem dL_buries_140 : decode cL_buries 140 = .ok (.iload 12, 2) := by decide +kernel
theorem dL_buries_142 : decode cL_buries 142 = .ok (.bipush (-8), 2) := by decide +kernel
theorem dL_buries_144 : decode cL_buries 144 = .ok (.if_icmp .ne 24, 3) := by decide +kernel
theorem dL_buries_147 : decode cL_buries 147 = .ok (.iload_n 1, 1) := by decide +kernel
theorem dL_buries_148 : decode cL_buries 148 = .ok (.iconst 3, 1) := by decide +kernel
theorem dL_buries_149 : decode cL_buries 149 = .ok (.if_icmp .ne 17, 3) := by decide +kernel
theorem dL_buries_152 : decode cL_buries 152 = .ok (.aload 4, 2) := by decide +kernel
theorem dL_buries_154 : decode cL_buries 154 = .ok (.bipush 8, 2) := by decide +kernel
theorem dL_buries_156 : decode cL_buries 156 = .ok (.iaload, 1) := by decide +kernel
theorem dL_buries_157 : decode cL_buries 157 = .ok (.bipush 8, 2) := by decide +kernel
theorem dL_buries_159 : decode cL_buries 159 = .ok (.if_icmp .ne 7, 3) := by decide +kernel
theorem dL_buries_162 : decode cL_buries 162 = .ok (.iconst 1, 1) := by decide +kernel
theorem dL_buries_163 : decode cL_buries 163 = .ok (.goto 4, 3) := by decide +kernel
theorem dL_buries_166 : decode cL_buries 166 = .ok (.iconst 0, 1) := by decide +kernel
theorem dL_buries_167 : decode cL_buries 167 = .ok (.ireturn, 1) := by decide +kernel
theorem dL_buries_168 : decode cL_buries 168 = .ok (.aload 4, 2) := by decide +kernel
theorem dL_buries_170 : decode cL_buries 170 = .ok (.bipush 8, 2) := by decide +kernel
theorem dL_buries_172 : decode cL_buries 172 = .ok (.iload_n 1, 1) := by decide +kernel
theorem dL_buries_173 : decode cL_buries 173 = .ok (.iconst 3, 1) := by decide +kernel
theorem dL_buries_174 : decode cL_buries 174 = .ok (.if_icmp .ne 23, 3) := by decide +kernel
theorem dL_buries_177 : decode cL_buries 177 = .ok (.aload 4, 2) := by decide +kernel
theorem dL_buries_179 : decode cL_buries 179 = .ok (.bipush 8, 2) := by decide +kernel
theorem dL_buries_181 : decode cL_buries 181 = .ok (.iaload, 1) := by decide +kernel
theorem dL_buries_182 : decode cL_buries 182 = .ok (.bipush 8, 2) := by decide +kernel
theorem dL_buries_184 : decode cL_buries 184 = .ok (.if_icmp .ge 13, 3) := by decide +kernel
theorem dL_buries_187 : decode cL_buries 187 = .ok (.aload 4, 2) := by decide +kernel
theorem dL_buries_189 : decode cL_buries 189 = .ok (.bipush 8, 2) := by decide +kernel
theorem dL_buries_191 : decode cL_buries 191 = .ok (.iaload, 1) := by decide +kernel
theorem dL_buries_192 : decode cL_buries 192 = .ok (.iconst 1, 1) := by decide +kernel
theorem dL_buries_193 : decode cL_buries 193 = .ok (.iadd, 1) := by decide +kernel
theorem dL_buries_194 : decode cL_buries 194 = .ok (.goto 8, 3) := by decide +kernel
theorem dL_buries_197 : decode cL_buries 197 = .ok (.aload 4, 2) := by decide +kernel
theorem dL_buries_199 : decode cL_buries 199 = .ok (.bipush 8, 2) := by decide +kernel
theorem dL_buries_201 : decode cL_buries 201 = .ok (.iaload, 1) := by decide +kernel
theorem dL_buries_202 : decode cL_buries 202 = .ok (.iastore, 1) := by decide +kernel
theorem dL_buries_203 : decode cL_buries 203 = .ok (.iload 12, 2) := by decide +kernel
theorem dL_buries_205 : decode cL_buries 205 = .ok (.iload 7, 2) := by decide +kernel
theorem dL_buries_207 : decode cL_buries 207 = .ok (.aload 4, 2) := by decide +kernel
theorem dL_buries_209 : decode cL_buries 209 = .ok (.iconst 5, 1) := by decide +kernel
theorem dL_buries_210 : decode cL_buries 210 = .ok (.iaload, 1) := by decide +kernel
theorem dL_buries_211 : decode cL_buries 211 = .ok (.iand, 1) := by decide +kernel
theorem dL_buries_212 : decode cL_buries 212 = .ok (.invokestatic 79, 3) := by decide +kernel
theorem dL_buries_215 : decode cL_buries 215 = .ok (.if_icmp .ne 7, 3) := by decide +kernel
theorem dL_buries_218 : decode cL_buries 218 = .ok (.iconst 1, 1) := by decide +kernel
theorem dL_buries_219 : decode cL_buries 219 = .ok (.goto 4, 3) := by decide +kernel
theorem dL_buries_222 : decode cL_buries 222 = .ok (.iconst 0, 1) := by decide +kernel
theorem dL_buries_223 : decode cL_buries 223 = .ok (.istore 13, 2) := by decide +kernel
theorem dL_buries_225 : decode cL_buries 225 = .ok (.iconst 0, 1) := by decide +kernel
theorem dL_buries_226 : decode cL_buries 226 = .ok (.istore 14, 2) := by decide +kernel
theorem dL_buries_228 : decode cL_buries 228 = .ok (.iload 14, 2) := by decide +kernel
theorem dL_buries_230 : decode cL_buries 230 = .ok (.iconst 3, 1) := by decide +kernel
theorem dL_buries_231 : decode cL_buries 231 = .ok (.if_icmp .ge 82, 3) := by decide +kernel
theorem dL_buries_234 : decode cL_buries 234 = .ok (.iload 7, 2) := by decide +kernel
theorem dL_buries_236 : decode cL_buries 236 = .ok (.aload 4, 2) := by decide +kernel
theorem dL_buries_238 : decode cL_buries 238 = .ok (.iconst 5, 1) := by decide +kernel
theorem dL_buries_239 : decode cL_buries 239 = .ok (.iaload, 1) := by decide +kernel
theorem dL_buries_240 : decode cL_buries 240 = .ok (.iand, 1) := by decide +kernel
theorem dL_buries_241 : decode cL_buries 241 = .ok (.iload 14, 2) := by decide +kernel
theorem dL_buries_243 : decode cL_buries 243 = .ok (.ishr, 1) := by decide +kernel
theorem dL_buries_244 : decode cL_buries 244 = .ok (.iconst 1, 1) := by decide +kernel
theorem dL_buries_245 : decode cL_buries 245 = .ok (.iand, 1) := by decide +kernel
theorem dL_buries_246 : decode cL_buries 246 = .ok (.iconst 1, 1) := by decide +kernel
theorem dL_buries_247 : decode cL_buries 247 = .ok (.if_icmp .ne 7, 3) := by decide +kernel
theorem dL_buries_250 : decode cL_buries 250 = .ok (.iconst 1, 1) := by decide +kernel
theorem dL_buries_251 : decode cL_buries 251 = .ok (.goto 4, 3) := by decide +kernel
theorem dL_buries_254 : decode cL_buries 254 = .ok (.iconst 0, 1) := by decide +kernel
theorem dL_buries_255 : decode cL_buries 255 = .ok (.istore 15, 2) := by decide +kernel
theorem dL_buries_257 : decode cL_buries 257 = .ok (.iload 13, 2) := by decide +kernel
theorem dL_buries_259 : decode cL_buries 259 = .ok (.ifCond .eq 45, 3) := by decide +kernel
theorem dL_buries_262 : decode cL_buries 262 = .ok (.aload_n 0, 1) := by decide +kernel
theorem dL_buries_263 : decode cL_buries 263 = .ok (.iload 14, 2) := by decide +kernel
theorem dL_buries_265 : decode cL_buries 265 = .ok (.iload 10, 2) := by decide +kernel
theorem dL_buries_267 : decode cL_buries 267 = .ok (.iload 11, 2) := by decide +kernel
theorem dL_buries_269 : decode cL_buries 269 = .ok (.invokevirtual 42, 3) := by decide +kernel
theorem dL_buries_272 : decode cL_buries 272 = .ok (.iload 15, 2) := by decide +kernel
theorem dL_buries_274 : decode cL_buries 274 = .ok (.ifCond .eq 18, 3) := by decide +kernel
theorem dL_buries_277 : decode cL_buries 277 = .ok (.iload 8, 2) := by decide +kernel
theorem dL_buries_279 : decode cL_buries 279 = .ok (.aload 9, 2) := by decide +kernel
theorem dL_buries_281 : decode cL_buries 281 = .ok (.iload 14, 2) := by decide +kernel
theorem dL_buries_283 : decode cL_buries 283 = .ok (.iaload, 1) := by decide +kernel
theorem dL_buries_284 : decode cL_buries 284 = .ok (.if_icmp .le 8, 3) := by decide +kernel
