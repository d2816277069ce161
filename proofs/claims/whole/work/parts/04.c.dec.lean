theorem dX8_init_123 : decode cX8_init 123 = .ok (.if_icmp .ge 16, 3) := by decide +kernel
theorem dX8_init_126 : decode cX8_init 126 = .ok (.aload_n 0, 1) := by decide +kernel
theorem dX8_init_127 : decode cX8_init 127 = .ok (.getfield 7, 3) := by decide +kernel
theorem dX8_init_130 : decode cX8_init 130 = .ok (.iload_n 1, 1) := by decide +kernel
theorem dX8_init_131 : decode cX8_init 131 = .ok (.iconst (-1), 1) := by decide +kernel
theorem dX8_init_132 : decode cX8_init 132 = .ok (.iastore, 1) := by decide +kernel
theorem dX8_init_133 : decode cX8_init 133 = .ok (.iinc 1 1, 3) := by decide +kernel
theorem dX8_init_136 : decode cX8_init 136 = .ok (.goto (-17), 3) := by decide +kernel
theorem dX8_init_139 : decode cX8_init 139 = .ok (.iconst 0, 1) := by decide +kernel
theorem dX8_init_140 : decode cX8_init 140 = .ok (.istore_n 1, 1) := by decide +kernel
theorem dX8_init_141 : decode cX8_init 141 = .ok (.iload_n 1, 1) := by decide +kernel
theorem dX8_init_142 : decode cX8_init 142 = .ok (.sipush 368, 3) := by decide +kernel
theorem dX8_init_145 : decode cX8_init 145 = .ok (.if_icmp .ge 16, 3) := by decide +kernel
theorem dX8_init_148 : decode cX8_init 148 = .ok (.aload_n 0, 1) := by decide +kernel
theorem dX8_init_149 : decode cX8_init 149 = .ok (.getfield 19, 3) := by decide +kernel
theorem dX8_init_152 : decode cX8_init 152 = .ok (.iload_n 1, 1) := by decide +kernel
theorem dX8_init_153 : decode cX8_init 153 = .ok (.iconst (-1), 1) := by decide +kernel
theorem dX8_init_154 : decode cX8_init 154 = .ok (.iastore, 1) := by decide +kernel
theorem dX8_init_155 : decode cX8_init 155 = .ok (.iinc 1 1, 3) := by decide +kernel
theorem dX8_init_158 : decode cX8_init 158 = .ok (.goto (-17), 3) := by decide +kernel
theorem dX8_init_161 : decode cX8_init 161 = .ok (.iconst 0, 1) := by decide +kernel
theorem dX8_init_162 : decode cX8_init 162 = .ok (.istore_n 1, 1) := by decide +kernel
theorem dX8_init_163 : decode cX8_init 163 = .ok (.iload_n 1, 1) := by decide +kernel
theorem dX8_init_164 : decode cX8_init 164 = .ok (.iconst 4, 1) := by decide +kernel
theorem dX8_init_165 : decode cX8_init 165 = .ok (.if_icmp .ge 16, 3) := by decide +kernel
theorem dX8_init_168 : decode cX8_init 168 = .ok (.aload_n 0, 1) := by decide +kernel
theorem dX8_init_169 : decode cX8_init 169 = .ok (.getfield 31, 3) := by decide +kernel
theorem dX8_init_172 : decode cX8_init 172 = .ok (.iload_n 1, 1) := by decide +kernel
theorem dX8_init_173 : decode cX8_init 173 = .ok (.iconst 1, 1) := by decide +kernel
theorem dX8_init_174 : decode cX8_init 174 = .ok (.bastore, 1) := by decide +kernel
theorem dX8_init_175 : decode cX8_init 175 = .ok (.iinc 1 1, 3) := by decide +kernel
theorem dX8_init_178 : decode cX8_init 178 = .ok (.goto (-15), 3) := by decide +kernel
theorem dX8_init_181 : decode cX8_init 181 = .ok (.return_, 1) := by decide +kernel
theorem dX8_thrown_0 : decode cX8_thrown 0 = .ok (.aload_n 0, 1) := by decide +kernel
theorem dX8_thrown_1 : decode cX8_thrown 1 = .ok (.getfield 54, 3) := by decide +kernel
theorem dX8_thrown_4 : decode cX8_thrown 4 = .ok (.ireturn, 1) := by decide +kernel
theorem dX8_can_0 : decode cX8_can 0 = .ok (.aload_n 0, 1) := by decide +kernel
theorem dX8_can_1 : decode cX8_can 1 = .ok (.iload_n 1, 1) := by decide +kernel
theorem dX8_can_2 : decode cX8_can 2 = .ok (.putfield 54, 3) := by decide +kernel
theorem dX8_can_5 : decode cX8_can 5 = .ok (.iload_n 1, 1) := by decide +kernel
theorem dX8_can_6 : decode cX8_can 6 = .ok (.ifCond .ne 7, 3) := by decide +kernel
theorem dX8_can_9 : decode cX8_can 9 = .ok (.iconst 1, 1) := by decide +kernel
theorem dX8_can_10 : decode cX8_can 10 = .ok (.goto 4, 3) := by decide +kernel
theorem dX8_can_13 : decode cX8_can 13 = .ok (.iconst 0, 1) := by decide +kernel
theorem dX8_can_14 : decode cX8_can 14 = .ok (.ireturn, 1) := by decide +kernel
theorem dX8_isIn_0 : decode cX8_isIn 0 = .ok (.iload_n 0, 1) := by decide +kernel
theorem dX8_isIn_1 : decode cX8_isIn 1 = .ok (.iload_n 1, 1) := by decide +kernel
theorem dX8_isIn_2 : decode cX8_isIn 2 = .ok (.if_icmp .lt 12, 3) := by decide +kernel
theorem dX8_isIn_5 : decode cX8_isIn 5 = .ok (.iload_n 0, 1) := by decide +kernel
theorem dX8_isIn_6 : decode cX8_isIn 6 = .ok (.iload_n 2, 1) := by decide +kernel
theorem dX8_isIn_7 : decode cX8_isIn 7 = .ok (.if_icmp .gt 7, 3) := by decide +kernel
theorem dX8_isIn_10 : decode cX8_isIn 10 = .ok (.iconst 1, 1) := by decide +kernel
theorem dX8_isIn_11 : decode cX8_isIn 11 = .ok (.goto 4, 3) := by decide +kernel
theorem dX8_isIn_14 : decode cX8_isIn 14 = .ok (.iconst 0, 1) := by decide +kernel
theorem dX8_isIn_15 : decode cX8_isIn 15 = .ok (.ireturn, 1) := by decide +kernel
set_option maxRecDepth 20000 in
theorem ggX8_isCopy_X8_isIn : GoodIn wsX8_isCopy wsX8_isIn := goodIn_r _ [4] (by decide +kernel) (by decide +kernel)
set_option maxRecDepth 20000 in
theorem gX8_isCopy_X8_isIn : GoodIn wsX8_isCopy (va_wsS RX8 57 yX8_isIn wsX8_isIn) := goodIn_app (goodIn_of _ (by decide +kernel)) ggX8_isCopy_X8_isIn
theorem dX8_isCopy_0 : decode cX8_isCopy 0 = .ok (.iload_n 0, 1) := by decide +kernel
theorem dX8_isCopy_1 : decode cX8_isCopy 1 = .ok (.iconst 0, 1) := by decide +kernel
theorem dX8_isCopy_2 : decode cX8_isCopy 2 = .ok (.iconst 2, 1) := by decide +kernel
theorem dX8_isCopy_3 : decode cX8_isCopy 3 = .ok (.invokestatic 57, 3) := by decide +kernel
theorem dX8_isCopy_6 : decode cX8_isCopy 6 = .ok (.ireturn, 1) := by decide +kernel
set_option maxRecDepth 20000 in
theorem ggX8_isCell_X8_isIn : GoodIn wsX8_isCell wsX8_isIn := goodIn_r _ [4] (by decide +kernel) (by decide +kernel)
set_option maxRecDepth 20000 in
theorem gX8_isCell_X8_isIn : GoodIn wsX8_isCell (va_wsS RX8 57 yX8_isIn wsX8_isIn) := goodIn_app (goodIn_of _ (by decide +kernel)) ggX8_isCell_X8_isIn
theorem dX8_isCell_0 : decode cX8_isCell 0 = .ok (.iload_n 0, 1) := by decide +kernel
theorem dX8_isCell_1 : decode cX8_isCell 1 = .ok (.iconst 0, 1) := by decide +kernel
theorem dX8_isCell_2 : decode cX8_isCell 2 = .ok (.bipush 15, 2) := by decide +kernel
theorem dX8_isCell_4 : decode cX8_isCell 4 = .ok (.invokestatic 57, 3) := by decide +kernel
theorem dX8_isCell_7 : decode cX8_isCell 7 = .ok (.ifCond .eq 16, 3) := by decide +kernel
theorem dX8_isCell_10 : decode cX8_isCell 10 = .ok (.iload_n 1, 1) := by decide +kernel
theorem dX8_isCell_11 : decode cX8_isCell 11 = .ok (.iconst 0, 1) := by decide +kernel
theorem dX8_isCell_12 : decode cX8_isCell 12 = .ok (.iconst 3, 1) := by decide +kernel
theorem dX8_isCell_13 : decode cX8_isCell 13 = .ok (.invokestatic 57, 3) := by decide +kernel
theorem dX8_isCell_16 : decode cX8_isCell 16 = .ok (.ifCond .eq 7, 3) := by decide +kernel
theorem dX8_isCell_19 : decode cX8_isCell 19 = .ok (.iconst 1, 1) := by decide +kernel
theorem dX8_isCell_20 : decode cX8_isCell 20 = .ok (.goto 4, 3) := by decide +kernel
theorem dX8_isCell_23 : decode cX8_isCell 23 = .ok (.iconst 0, 1) := by decide +kernel
theorem dX8_isCell_24 : decode cX8_isCell 24 = .ok (.ireturn, 1) := by decide +kernel
theorem dX8_isLater_0 : decode cX8_isLater 0 = .ok (.iload_n 1, 1) := by decide +kernel
theorem dX8_isLater_1 : decode cX8_isLater 1 = .ok (.iconst (-1), 1) := by decide +kernel
theorem dX8_isLater_2 : decode cX8_isLater 2 = .ok (.if_icmp .eq 17, 3) := by decide +kernel
theorem dX8_isLater_5 : decode cX8_isLater 5 = .ok (.iload_n 0, 1) := by decide +kernel
theorem dX8_isLater_6 : decode cX8_isLater 6 = .ok (.iconst (-1), 1) := by decide +kernel
theorem dX8_isLater_7 : decode cX8_isLater 7 = .ok (.if_icmp .eq 8, 3) := by decide +kernel
theorem dX8_isLater_10 : decode cX8_isLater 10 = .ok (.iload_n 0, 1) := by decide +kernel
theorem dX8_isLater_11 : decode cX8_isLater 11 = .ok (.iload_n 1, 1) := by decide +kernel
theorem dX8_isLater_12 : decode cX8_isLater 12 = .ok (.if_icmp .le 7, 3) := by decide +kernel
theorem dX8_isLater_15 : decode cX8_isLater 15 = .ok (.iconst 1, 1) := by decide +kernel
theorem dX8_isLater_16 : decode cX8_isLater 16 = .ok (.goto 4, 3) := by decide +kernel
theorem dX8_isLater_19 : decode cX8_isLater 19 = .ok (.iconst 0, 1) := by decide +kernel
theorem dX8_isLater_20 : decode cX8_isLater 20 = .ok (.ireturn, 1) := by decide +kernel
set_option maxRecDepth 20000 in
theorem ggX8_takeEntry_X8_isLater : GoodIn wsX8_takeEntry wsX8_isLater := goodIn_r _ [7] (by decide +kernel) (by decide +kernel)
set_option maxRecDepth 20000 in
theorem gX8_takeEntry_X8_isLater : GoodIn wsX8_takeEntry (va_wsS RX8 61 yX8_isLater wsX8_isLater) := goodIn_app (goodIn_of _ (by decide +kernel)) ggX8_takeEntry_X8_isLater
theorem dX8_takeEntry_0 : decode cX8_takeEntry 0 = .ok (.bipush 64, 2) := by decide +kernel
theorem dX8_takeEntry_2 : decode cX8_takeEntry 2 = .ok (.iload_n 1, 1) := by decide +kernel
theorem dX8_takeEntry_3 : decode cX8_takeEntry 3 = .ok (.imul, 1) := by decide +kernel
theorem dX8_takeEntry_4 : decode cX8_takeEntry 4 = .ok (.iload_n 2, 1) := by decide +kernel
theorem dX8_takeEntry_5 : decode cX8_takeEntry 5 = .ok (.iadd, 1) := by decide +kernel
theorem dX8_takeEntry_6 : decode cX8_takeEntry 6 = .ok (.istore 6, 2) := by decide +kernel
theorem dX8_takeEntry_8 : decode cX8_takeEntry 8 = .ok (.iload_n 3, 1) := by decide +kernel
theorem dX8_takeEntry_9 : decode cX8_takeEntry 9 = .ok (.aload_n 0, 1) := by decide +kernel
theorem dX8_takeEntry_10 : decode cX8_takeEntry 10 = .ok (.getfield 7, 3) := by decide +kernel
theorem dX8_takeEntry_13 : decode cX8_takeEntry 13 = .ok (.iload 6, 2) := by decide +kernel
theorem dX8_takeEntry_15 : decode cX8_takeEntry 15 = .ok (.iaload, 1) := by decide +kernel
theorem dX8_takeEntry_16 : decode cX8_takeEntry 16 = .ok (.if_icmp .gt 53, 3) := by decide +kernel
theorem dX8_takeEntry_19 : decode cX8_takeEntry 19 = .ok (.iload_n 3, 1) := by decide +kernel
theorem dX8_takeEntry_20 : decode cX8_takeEntry 20 = .ok (.aload_n 0, 1) := by decide +kernel
theorem dX8_takeEntry_21 : decode cX8_takeEntry 21 = .ok (.getfield 7, 3) := by decide +kernel
theorem dX8_takeEntry_24 : decode cX8_takeEntry 24 = .ok (.iload 6, 2) := by decide +kernel
theorem dX8_takeEntry_26 : decode cX8_takeEntry 26 = .ok (.iaload, 1) := by decide +kernel
theorem dX8_takeEntry_27 : decode cX8_takeEntry 27 = .ok (.if_icmp .ne 46, 3) := by decide +kernel
theorem dX8_takeEntry_30 : decode cX8_takeEntry 30 = .ok (.iload 4, 2) := by decide +kernel
theorem dX8_takeEntry_32 : decode cX8_takeEntry 32 = .ok (.aload_n 0, 1) := by decide +kernel
theorem dX8_takeEntry_33 : decode cX8_takeEntry 33 = .ok (.getfield 13, 3) := by decide +kernel
theorem dX8_takeEntry_36 : decode cX8_takeEntry 36 = .ok (.iload 6, 2) := by decide +kernel
theorem dX8_takeEntry_38 : decode cX8_takeEntry 38 = .ok (.iaload, 1) := by decide +kernel
theorem dX8_takeEntry_39 : decode cX8_takeEntry 39 = .ok (.if_icmp .gt 30, 3) := by decide +kernel
theorem dX8_takeEntry_42 : decode cX8_takeEntry 42 = .ok (.iload 4, 2) := by decide +kernel
theorem dX8_takeEntry_44 : decode cX8_takeEntry 44 = .ok (.aload_n 0, 1) := by decide +kernel
theorem dX8_takeEntry_45 : decode cX8_takeEntry 45 = .ok (.getfield 13, 3) := by decide +kernel
theorem dX8_takeEntry_48 : decode cX8_takeEntry 48 = .ok (.iload 6, 2) := by decide +kernel
theorem dX8_takeEntry_50 : decode cX8_takeEntry 50 = .ok (.iaload, 1) := by decide +kernel
theorem dX8_takeEntry_51 : decode cX8_takeEntry 51 = .ok (.if_icmp .ne 22, 3) := by decide +kernel
theorem dX8_takeEntry_54 : decode cX8_takeEntry 54 = .ok (.iload 5, 2) := by decide +kernel
theorem dX8_takeEntry_56 : decode cX8_takeEntry 56 = .ok (.aload_n 0, 1) := by decide +kernel
theorem dX8_takeEntry_57 : decode cX8_takeEntry 57 = .ok (.getfield 16, 3) := by decide +kernel
theorem dX8_takeEntry_60 : decode cX8_takeEntry 60 = .ok (.iload 6, 2) := by decide +kernel
theorem dX8_takeEntry_62 : decode cX8_takeEntry 62 = .ok (.iaload, 1) := by decide +kernel
theorem dX8_takeEntry_63 : decode cX8_takeEntry 63 = .ok (.invokestatic 61, 3) := by decide +kernel
theorem dX8_takeEntry_66 : decode cX8_takeEntry 66 = .ok (.ifCond .eq 7, 3) := by decide +kernel
theorem dX8_takeEntry_69 : decode cX8_takeEntry 69 = .ok (.iconst 1, 1) := by decide +kernel
theorem dX8_takeEntry_70 : decode cX8_takeEntry 70 = .ok (.goto 4, 3) := by decide +kernel
theorem dX8_takeEntry_73 : decode cX8_takeEntry 73 = .ok (.iconst 0, 1) := by decide +kernel
theorem dX8_takeEntry_74 : decode cX8_takeEntry 74 = .ok (.istore 7, 2) := by decide +kernel
theorem dX8_takeEntry_76 : decode cX8_takeEntry 76 = .ok (.iload 7, 2) := by decide +kernel
theorem dX8_takeEntry_78 : decode cX8_takeEntry 78 = .ok (.ifCond .eq 29, 3) := by decide +kernel
theorem dX8_takeEntry_81 : decode cX8_takeEntry 81 = .ok (.aload_n 0, 1) := by decide +kernel
theorem dX8_takeEntry_82 : decode cX8_takeEntry 82 = .ok (.getfield 7, 3) := by decide +kernel
theorem dX8_takeEntry_85 : decode cX8_takeEntry 85 = .ok (.iload 6, 2) := by decide +kernel
theorem dX8_takeEntry_87 : decode cX8_takeEntry 87 = .ok (.iload_n 3, 1) := by decide +kernel
theorem dX8_takeEntry_88 : decode cX8_takeEntry 88 = .ok (.iastore, 1) := by decide +kernel
theorem dX8_takeEntry_89 : decode cX8_takeEntry 89 = .ok (.aload_n 0, 1) := by decide +kernel
theorem dX8_takeEntry_90 : decode cX8_takeEntry 90 = .ok (.getfield 13, 3) := by decide +kernel
theorem dX8_takeEntry_93 : decode cX8_takeEntry 93 = .ok (.iload 6, 2) := by decide +kernel
theorem dX8_takeEntry_95 : decode cX8_takeEntry 95 = .ok (.iload 4, 2) := by decide +kernel
theorem dX8_takeEntry_97 : decode cX8_takeEntry 97 = .ok (.iastore, 1) := by decide +kernel
theorem dX8_takeEntry_98 : decode cX8_takeEntry 98 = .ok (.aload_n 0, 1) := by decide +kernel
theorem dX8_takeEntry_99 : decode cX8_takeEntry 99 = .ok (.getfield 16, 3) := by decide +kernel
theorem dX8_takeEntry_102 : decode cX8_takeEntry 102 = .ok (.iload 6, 2) := by decide +kernel
theorem dX8_takeEntry_104 : decode cX8_takeEntry 104 = .ok (.iload 5, 2) := by decide +kernel
theorem dX8_takeEntry_106 : decode cX8_takeEntry 106 = .ok (.iastore, 1) := by decide +kernel
theorem dX8_takeEntry_107 : decode cX8_takeEntry 107 = .ok (.return_, 1) := by decide +kernel
theorem dX8_takeTomb_0 : decode cX8_takeTomb 0 = .ok (.bipush 92, 2) := by decide +kernel
theorem dX8_takeTomb_2 : decode cX8_takeTomb 2 = .ok (.iload_n 1, 1) := by decide +kernel
theorem dX8_takeTomb_3 : decode cX8_takeTomb 3 = .ok (.imul, 1) := by decide +kernel
theorem dX8_takeTomb_4 : decode cX8_takeTomb 4 = .ok (.iload_n 2, 1) := by decide +kernel
theorem dX8_takeTomb_5 : decode cX8_takeTomb 5 = .ok (.iadd, 1) := by decide +kernel
theorem dX8_takeTomb_6 : decode cX8_takeTomb 6 = .ok (.istore 5, 2) := by decide +kernel
theorem dX8_takeTomb_8 : decode cX8_takeTomb 8 = .ok (.iload_n 3, 1) := by decide +kernel
theorem dX8_takeTomb_9 : decode cX8_takeTomb 9 = .ok (.aload_n 0, 1) := by decide +kernel
theorem dX8_takeTomb_10 : decode cX8_takeTomb 10 = .ok (.getfield 19, 3) := by decide +kernel
theorem dX8_takeTomb_13 : decode cX8_takeTomb 13 = .ok (.iload 5, 2) := by decide +kernel
theorem dX8_takeTomb_15 : decode cX8_takeTomb 15 = .ok (.iaload, 1) := by decide +kernel
theorem dX8_takeTomb_16 : decode cX8_takeTomb 16 = .ok (.if_icmp .gt 26, 3) := by decide +kernel
theorem dX8_takeTomb_19 : decode cX8_takeTomb 19 = .ok (.iload_n 3, 1) := by decide +kernel
theorem dX8_takeTomb_20 : decode cX8_takeTomb 20 = .ok (.aload_n 0, 1) := by decide +kernel
theorem dX8_takeTomb_21 : decode cX8_takeTomb 21 = .ok (.getfield 19, 3) := by decide +kernel
theorem dX8_takeTomb_24 : decode cX8_takeTomb 24 = .ok (.iload 5, 2) := by decide +kernel
theorem dX8_takeTomb_26 : decode cX8_takeTomb 26 = .ok (.iaload, 1) := by decide +kernel
theorem dX8_takeTomb_27 : decode cX8_takeTomb 27 = .ok (.if_icmp .ne 32, 3) := by decide +kernel
theorem dX8_takeTomb_30 : decode cX8_takeTomb 30 = .ok (.iload 4, 2) := by decide +kernel
theorem dX8_takeTomb_32 : decode cX8_takeTomb 32 = .ok (.aload_n 0, 1) := by decide +kernel
theorem dX8_takeTomb_33 : decode cX8_takeTomb 33 = .ok (.getfield 22, 3) := by decide +kernel
theorem dX8_takeTomb_36 : decode cX8_takeTomb 36 = .ok (.iload 5, 2) := by decide +kernel
theorem dX8_takeTomb_38 : decode cX8_takeTomb 38 = .ok (.iaload, 1) := by decide +kernel
theorem dX8_takeTomb_39 : decode cX8_takeTomb 39 = .ok (.if_icmp .le 20, 3) := by decide +kernel
theorem dX8_takeTomb_42 : decode cX8_takeTomb 42 = .ok (.aload_n 0, 1) := by decide +kernel
theorem dX8_takeTomb_43 : decode cX8_takeTomb 43 = .ok (.getfield 19, 3) := by decide +kernel
theorem dX8_takeTomb_46 : decode cX8_takeTomb 46 = .ok (.iload 5, 2) := by decide +kernel
theorem dX8_takeTomb_48 : decode cX8_takeTomb 48 = .ok (.iload_n 3, 1) := by decide +kernel
theorem dX8_takeTomb_49 : decode cX8_takeTomb 49 = .ok (.iastore, 1) := by decide +kernel
theorem dX8_takeTomb_50 : decode cX8_takeTomb 50 = .ok (.aload_n 0, 1) := by decide +kernel
theorem dX8_takeTomb_51 : decode cX8_takeTomb 51 = .ok (.getfield 22, 3) := by decide +kernel
theorem dX8_takeTomb_54 : decode cX8_takeTomb 54 = .ok (.iload 5, 2) := by decide +kernel
theorem dX8_takeTomb_56 : decode cX8_takeTomb 56 = .ok (.iload 4, 2) := by decide +kernel
theorem dX8_takeTomb_58 : decode cX8_takeTomb 58 = .ok (.iastore, 1) := by decide +kernel
theorem dX8_takeTomb_59 : decode cX8_takeTomb 59 = .ok (.return_, 1) := by decide +kernel
set_option maxRecDepth 20000 in
theorem ggX8_goesTo_X8_takeEntry : GoodIn wsX8_goesTo wsX8_takeEntry := goodIn_r _ [11, 12, 13, 14, 15, 16, 10, 17, 24, 25, 26, 27, 28, 29, 30, 31, 32, 33, 34, 35, 36, 37, 38, 39, 40, 41, 42] (by decide +kernel) (by decide +kernel)
set_option maxRecDepth 20000 in
theorem gX8_goesTo_X8_takeEntry : GoodIn wsX8_goesTo (wsV RX8 65 RX8 yX8_takeEntry wsX8_takeEntry) := goodIn_app (goodIn_of _ (by decide +kernel)) ggX8_goesTo_X8_takeEntry
set_option maxRecDepth 20000 in
theorem ggX8_goesTo_X8_takeTomb : GoodIn wsX8_goesTo wsX8_takeTomb := goodIn_r _ [21, 22, 23, 24, 25, 26, 27, 28, 29, 30, 31, 32, 33, 34, 35, 36, 37, 38, 39, 40, 41, 42] (by decide +kernel) (by decide +kernel)
set_option maxRecDepth 20000 in
theorem gX8_goesTo_X8_takeTomb : GoodIn wsX8_goesTo (wsV RX8 69 RX8 yX8_takeTomb wsX8_takeTomb) := goodIn_app (goodIn_of _ (by decide +kernel)) ggX8_goesTo_X8_takeTomb
theorem dX8_goesTo_0 : decode cX8_goesTo 0 = .ok (.aload_n 0, 1) := by decide +kernel
theorem dX8_goesTo_1 : decode cX8_goesTo 1 = .ok (.getfield 31, 3) := by decide +kernel
theorem dX8_goesTo_4 : decode cX8_goesTo 4 = .ok (.iload_n 1, 1) := by decide +kernel
theorem dX8_goesTo_5 : decode cX8_goesTo 5 = .ok (.baload, 1) := by decide +kernel
theorem dX8_goesTo_6 : decode cX8_goesTo 6 = .ok (.ifCond .ne 74, 3) := by decide +kernel
theorem dX8_goesTo_9 : decode cX8_goesTo 9 = .ok (.aload_n 0, 1) := by decide +kernel
theorem dX8_goesTo_10 : decode cX8_goesTo 10 = .ok (.getfield 35, 3) := by decide +kernel
theorem dX8_goesTo_13 : decode cX8_goesTo 13 = .ok (.iload_n 1, 1) := by decide +kernel
theorem dX8_goesTo_14 : decode cX8_goesTo 14 = .ok (.iaload, 1) := by decide +kernel
theorem dX8_goesTo_15 : decode cX8_goesTo 15 = .ok (.bipush 10, 2) := by decide +kernel
theorem dX8_goesTo_17 : decode cX8_goesTo 17 = .ok (.if_icmp .ge 95, 3) := by decide +kernel
theorem dX8_goesTo_20 : decode cX8_goesTo 20 = .ok (.bipush 10, 2) := by decide +kernel
theorem dX8_goesTo_22 : decode cX8_goesTo 22 = .ok (.iload_n 1, 1) := by decide +kernel
theorem dX8_goesTo_23 : decode cX8_goesTo 23 = .ok (.imul, 1) := by decide +kernel
theorem dX8_goesTo_24 : decode cX8_goesTo 24 = .ok (.aload_n 0, 1) := by decide +kernel
theorem dX8_goesTo_25 : decode cX8_goesTo 25 = .ok (.getfield 35, 3) := by decide +kernel
theorem dX8_goesTo_28 : decode cX8_goesTo 28 = .ok (.iload_n 1, 1) := by decide +kernel
theorem dX8_goesTo_29 : decode cX8_goesTo 29 = .ok (.iaload, 1) := by decide +kernel
theorem dX8_goesTo_30 : decode cX8_goesTo 30 = .ok (.iadd, 1) := by decide +kernel
theorem dX8_goesTo_31 : decode cX8_goesTo 31 = .ok (.istore 6, 2) := by decide +kernel
theorem dX8_goesTo_33 : decode cX8_goesTo 33 = .ok (.aload_n 0, 1) := by decide +kernel
theorem dX8_goesTo_34 : decode cX8_goesTo 34 = .ok (.getfield 38, 3) := by decide +kernel
theorem dX8_goesTo_37 : decode cX8_goesTo 37 = .ok (.iload 6, 2) := by decide +kernel
theorem dX8_goesTo_39 : decode cX8_goesTo 39 = .ok (.iload_n 2, 1) := by decide +kernel
theorem dX8_goesTo_40 : decode cX8_goesTo 40 = .ok (.iastore, 1) := by decide +kernel
theorem dX8_goesTo_41 : decode cX8_goesTo 41 = .ok (.aload_n 0, 1) := by decide +kernel
theorem dX8_goesTo_42 : decode cX8_goesTo 42 = .ok (.getfield 41, 3) := by decide +kernel
theorem dX8_goesTo_45 : decode cX8_goesTo 45 = .ok (.iload 6, 2) := by decide +kernel
theorem dX8_goesTo_47 : decode cX8_goesTo 47 = .ok (.iload_n 3, 1) := by decide +kernel
theorem dX8_goesTo_48 : decode cX8_goesTo 48 = .ok (.iastore, 1) := by decide +kernel
theorem dX8_goesTo_49 : decode cX8_goesTo 49 = .ok (.aload_n 0, 1) := by decide +kernel
theorem dX8_goesTo_50 : decode cX8_goesTo 50 = .ok (.getfield 44, 3) := by decide +kernel
theorem dX8_goesTo_53 : decode cX8_goesTo 53 = .ok (.iload 6, 2) := by decide +kernel
theorem dX8_goesTo_55 : decode cX8_goesTo 55 = .ok (.iload 4, 2) := by decide +kernel
theorem dX8_goesTo_57 : decode cX8_goesTo 57 = .ok (.iastore, 1) := by decide +kernel
theorem dX8_goesTo_58 : decode cX8_goesTo 58 = .ok (.aload_n 0, 1) := by decide +kernel
theorem dX8_goesTo_59 : decode cX8_goesTo 59 = .ok (.getfield 47, 3) := by decide +kernel
theorem dX8_goesTo_62 : decode cX8_goesTo 62 = .ok (.iload 6, 2) := by decide +kernel
theorem dX8_goesTo_64 : decode cX8_goesTo 64 = .ok (.iload 5, 2) := by decide +kernel
theorem dX8_goesTo_66 : decode cX8_goesTo 66 = .ok (.iastore, 1) := by decide +kernel
theorem dX8_goesTo_67 : decode cX8_goesTo 67 = .ok (.aload_n 0, 1) := by decide +kernel
theorem dX8_goesTo_68 : decode cX8_goesTo 68 = .ok (.getfield 35, 3) := by decide +kernel
theorem dX8_goesTo_71 : decode cX8_goesTo 71 = .ok (.iload_n 1, 1) := by decide +kernel
theorem dX8_goesTo_72 : decode cX8_goesTo 72 = .ok (.dup2, 1) := by decide +kernel
theorem dX8_goesTo_73 : decode cX8_goesTo 73 = .ok (.iaload, 1) := by decide +kernel
theorem dX8_goesTo_74 : decode cX8_goesTo 74 = .ok (.iconst 1, 1) := by decide +kernel
theorem dX8_goesTo_75 : decode cX8_goesTo 75 = .ok (.iadd, 1) := by decide +kernel
theorem dX8_goesTo_76 : decode cX8_goesTo 76 = .ok (.iastore, 1) := by decide +kernel
theorem dX8_goesTo_77 : decode cX8_goesTo 77 = .ok (.goto 35, 3) := by decide +kernel
theorem dX8_goesTo_80 : decode cX8_goesTo 80 = .ok (.iload_n 2, 1) := by decide +kernel
theorem dX8_goesTo_81 : decode cX8_goesTo 81 = .ok (.bipush 64, 2) := by decide +kernel
theorem dX8_goesTo_83 : decode cX8_goesTo 83 = .ok (.if_icmp .ge 17, 3) := by decide +kernel
theorem dX8_goesTo_86 : decode cX8_goesTo 86 = .ok (.aload_n 0, 1) := by decide +kernel
theorem dX8_goesTo_87 : decode cX8_goesTo 87 = .ok (.iload_n 1, 1) := by decide +kernel
theorem dX8_goesTo_88 : decode cX8_goesTo 88 = .ok (.iload_n 2, 1) := by decide +kernel
theorem dX8_goesTo_89 : decode cX8_goesTo 89 = .ok (.iload_n 3, 1) := by decide +kernel
theorem dX8_goesTo_90 : decode cX8_goesTo 90 = .ok (.iload 4, 2) := by decide +kernel
theorem dX8_goesTo_92 : decode cX8_goesTo 92 = .ok (.iload 5, 2) := by decide +kernel
theorem dX8_goesTo_94 : decode cX8_goesTo 94 = .ok (.invokevirtual 65, 3) := by decide +kernel
theorem dX8_goesTo_97 : decode cX8_goesTo 97 = .ok (.goto 15, 3) := by decide +kernel
theorem dX8_goesTo_100 : decode cX8_goesTo 100 = .ok (.aload_n 0, 1) := by decide +kernel
theorem dX8_goesTo_101 : decode cX8_goesTo 101 = .ok (.iload_n 1, 1) := by decide +kernel
theorem dX8_goesTo_102 : decode cX8_goesTo 102 = .ok (.iload_n 2, 1) := by decide +kernel
theorem dX8_goesTo_103 : decode cX8_goesTo 103 = .ok (.bipush 64, 2) := by decide +kernel
theorem dX8_goesTo_105 : decode cX8_goesTo 105 = .ok (.isub, 1) := by decide +kernel
theorem dX8_goesTo_106 : decode cX8_goesTo 106 = .ok (.iload_n 3, 1) := by decide +kernel
theorem dX8_goesTo_107 : decode cX8_goesTo 107 = .ok (.iload 4, 2) := by decide +kernel
theorem dX8_goesTo_109 : decode cX8_goesTo 109 = .ok (.invokevirtual 69, 3) := by decide +kernel
theorem dX8_goesTo_112 : decode cX8_goesTo 112 = .ok (.return_, 1) := by decide +kernel
set_option maxRecDepth 20000 in
theorem ggX8_spreads_X8_goesTo : GoodIn wsX8_spreads wsX8_goesTo := goodIn_r _ [6, 1, 7, 8, 9, 10, 11, 12, 13, 14, 5, 15, 16, 17, 18, 19, 20, 21, 22, 23, 24, 25, 26, 27, 28, 29, 30, 31, 32, 33, 34, 35, 36, 37, 38, 39, 40, 41, 42, 43, 44, 45, 46] (by decide +kernel) (by decide +kernel)
set_option maxRecDepth 20000 in
theorem gX8_spreads_X8_goesTo : GoodIn wsX8_spreads (wsV RX8 73 RX8 yX8_goesTo wsX8_goesTo) := goodIn_app (goodIn_of _ (by decide +kernel)) ggX8_spreads_X8_goesTo
theorem dX8_spreads_0 : decode cX8_spreads 0 = .ok (.iconst 0, 1) := by decide +kernel
theorem dX8_spreads_1 : decode cX8_spreads 1 = .ok (.istore 6, 2) := by decide +kernel
theorem dX8_spreads_3 : decode cX8_spreads 3 = .ok (.iconst 0, 1) := by decide +kernel
theorem dX8_spreads_4 : decode cX8_spreads 4 = .ok (.istore 7, 2) := by decide +kernel
theorem dX8_spreads_6 : decode cX8_spreads 6 = .ok (.iload 7, 2) := by decide +kernel
theorem dX8_spreads_8 : decode cX8_spreads 8 = .ok (.iconst 3, 1) := by decide +kernel
theorem dX8_spreads_9 : decode cX8_spreads 9 = .ok (.if_icmp .ge 51, 3) := by decide +kernel
theorem dX8_spreads_12 : decode cX8_spreads 12 = .ok (.iload_n 1, 1) := by decide +kernel
theorem dX8_spreads_13 : decode cX8_spreads 13 = .ok (.iload 7, 2) := by decide +kernel
theorem dX8_spreads_15 : decode cX8_spreads 15 = .ok (.ishr, 1) := by decide +kernel
theorem dX8_spreads_16 : decode cX8_spreads 16 = .ok (.iconst 1, 1) := by decide +kernel
theorem dX8_spreads_17 : decode cX8_spreads 17 = .ok (.iand, 1) := by decide +kernel
theorem dX8_spreads_18 : decode cX8_spreads 18 = .ok (.iconst 1, 1) := by decide +kernel
theorem dX8_spreads_19 : decode cX8_spreads 19 = .ok (.if_icmp .ne 35, 3) := by decide +kernel
theorem dX8_spreads_22 : decode cX8_spreads 22 = .ok (.iload 6, 2) := by decide +kernel
theorem dX8_spreads_24 : decode cX8_spreads 24 = .ok (.aload_n 0, 1) := by decide +kernel
theorem dX8_spreads_25 : decode cX8_spreads 25 = .ok (.getfield 31, 3) := by decide +kernel
theorem dX8_spreads_28 : decode cX8_spreads 28 = .ok (.iload 7, 2) := by decide +kernel
theorem dX8_spreads_30 : decode cX8_spreads 30 = .ok (.baload, 1) := by decide +kernel
theorem dX8_spreads_31 : decode cX8_spreads 31 = .ok (.ifCond .eq 7, 3) := by decide +kernel
theorem dX8_spreads_34 : decode cX8_spreads 34 = .ok (.iconst 1, 1) := by decide +kernel
theorem dX8_spreads_35 : decode cX8_spreads 35 = .ok (.goto 4, 3) := by decide +kernel
theorem dX8_spreads_38 : decode cX8_spreads 38 = .ok (.iconst 0, 1) := by decide +kernel
theorem dX8_spreads_39 : decode cX8_spreads 39 = .ok (.iadd, 1) := by decide +kernel
theorem dX8_spreads_40 : decode cX8_spreads 40 = .ok (.istore 6, 2) := by decide +kernel
theorem dX8_spreads_42 : decode cX8_spreads 42 = .ok (.aload_n 0, 1) := by decide +kernel
theorem dX8_spreads_43 : decode cX8_spreads 43 = .ok (.iload 7, 2) := by decide +kernel
theorem dX8_spreads_45 : decode cX8_spreads 45 = .ok (.iload_n 2, 1) := by decide +kernel
theorem dX8_spreads_46 : decode cX8_spreads 46 = .ok (.iload_n 3, 1) := by decide +kernel
theorem dX8_spreads_47 : decode cX8_spreads 47 = .ok (.iload 4, 2) := by decide +kernel
theorem dX8_spreads_49 : decode cX8_spreads 49 = .ok (.iload 5, 2) := by decide +kernel
theorem dX8_spreads_51 : decode cX8_spreads 51 = .ok (.invokevirtual 73, 3) := by decide +kernel
theorem dX8_spreads_54 : decode cX8_spreads 54 = .ok (.iinc 7 1, 3) := by decide +kernel
theorem dX8_spreads_57 : decode cX8_spreads 57 = .ok (.goto (-51), 3) := by decide +kernel
theorem dX8_spreads_60 : decode cX8_spreads 60 = .ok (.aload_n 0, 1) := by decide +kernel
theorem dX8_spreads_61 : decode cX8_spreads 61 = .ok (.iconst 3, 1) := by decide +kernel
theorem dX8_spreads_62 : decode cX8_spreads 62 = .ok (.iload_n 2, 1) := by decide +kernel
theorem dX8_spreads_63 : decode cX8_spreads 63 = .ok (.iload_n 3, 1) := by decide +kernel
theorem dX8_spreads_64 : decode cX8_spreads 64 = .ok (.iload 4, 2) := by decide +kernel
theorem dX8_spreads_66 : decode cX8_spreads 66 = .ok (.iload 5, 2) := by decide +kernel
theorem dX8_spreads_68 : decode cX8_spreads 68 = .ok (.invokevirtual 73, 3) := by decide +kernel
theorem dX8_spreads_71 : decode cX8_spreads 71 = .ok (.iload 6, 2) := by decide +kernel
theorem dX8_spreads_73 : decode cX8_spreads 73 = .ok (.ireturn, 1) := by decide +kernel
set_option maxRecDepth 20000 in
theorem ggX8_write_X8_isIn : GoodIn wsX8_write wsX8_isIn := goodIn_r _ [5] (by decide +kernel) (by decide +kernel)
set_option maxRecDepth 20000 in
theorem gX8_write_X8_isIn : GoodIn wsX8_write (va_wsS RX8 57 yX8_isIn wsX8_isIn) := goodIn_app (goodIn_of _ (by decide +kernel)) ggX8_write_X8_isIn
set_option maxRecDepth 20000 in
theorem ggX8_write_X8_isCell : GoodIn wsX8_write wsX8_isCell := goodIn_r _ [8, 2, 3, 4, 5] (by decide +kernel) (by decide +kernel)
set_option maxRecDepth 20000 in
theorem gX8_write_X8_isCell : GoodIn wsX8_write (va_wsS RX8 76 yX8_isCell wsX8_isCell) := goodIn_app (goodIn_of _ (by decide +kernel)) ggX8_write_X8_isCell
set_option maxRecDepth 20000 in
theorem ggX8_write_X8_can : GoodIn wsX8_write wsX8_can := goodIn_r _ [12, 13, 44, 45, 46, 47, 48, 49, 50, 51, 52, 53, 54, 55, 56, 57, 58, 59, 60, 61, 62] (by decide +kernel) (by decide +kernel)
set_option maxRecDepth 20000 in
theorem gX8_write_X8_can : GoodIn wsX8_write (wsV RX8 79 RX8 yX8_can wsX8_can) := goodIn_app (goodIn_of _ (by decide +kernel)) ggX8_write_X8_can
set_option maxRecDepth 20000 in
theorem ggX8_write_X8_spreads : GoodIn wsX8_write wsX8_spreads := goodIn_r _ [17, 18, 19, 20, 21, 4, 22, 23, 24, 25, 26, 27, 28, 29, 30, 31, 32, 33, 34, 35, 36, 37, 38, 39, 40, 41, 42, 43, 44, 45, 46, 47, 48, 49, 50, 51, 52, 53, 54, 55, 56, 57, 58, 59, 60, 61, 62] (by decide +kernel) (by decide +kernel)
set_option maxRecDepth 20000 in
theorem gX8_write_X8_spreads : GoodIn wsX8_write (wsV RX8 86 RX8 yX8_spreads wsX8_spreads) := goodIn_app (goodIn_of _ (by decide +kernel)) ggX8_write_X8_spreads
theorem dX8_write_0 : decode cX8_write 0 = .ok (.iload_n 1, 1) := by decide +kernel
theorem dX8_write_1 : decode cX8_write 1 = .ok (.iconst 0, 1) := by decide +kernel
theorem dX8_write_2 : decode cX8_write 2 = .ok (.bipush 7, 2) := by decide +kernel
theorem dX8_write_4 : decode cX8_write 4 = .ok (.invokestatic 57, 3) := by decide +kernel
theorem dX8_write_7 : decode cX8_write 7 = .ok (.ifCond .eq 43, 3) := by decide +kernel
theorem dX8_write_10 : decode cX8_write 10 = .ok (.iload 4, 2) := by decide +kernel
theorem dX8_write_12 : decode cX8_write 12 = .ok (.iconst 0, 1) := by decide +kernel
theorem dX8_write_13 : decode cX8_write 13 = .ok (.sipush 999, 3) := by decide +kernel
theorem dX8_write_16 : decode cX8_write 16 = .ok (.invokestatic 57, 3) := by decide +kernel
theorem dX8_write_19 : decode cX8_write 19 = .ok (.ifCond .eq 31, 3) := by decide +kernel
theorem dX8_write_22 : decode cX8_write 22 = .ok (.iload 5, 2) := by decide +kernel
theorem dX8_write_24 : decode cX8_write 24 = .ok (.iconst 0, 1) := by decide +kernel
theorem dX8_write_25 : decode cX8_write 25 = .ok (.sipush 999, 3) := by decide +kernel
theorem dX8_write_28 : decode cX8_write 28 = .ok (.invokestatic 57, 3) := by decide +kernel
theorem dX8_write_31 : decode cX8_write 31 = .ok (.ifCond .eq 19, 3) := by decide +kernel
theorem dX8_write_34 : decode cX8_write 34 = .ok (.iload 6, 2) := by decide +kernel
theorem dX8_write_36 : decode cX8_write 36 = .ok (.iconst 0, 1) := by decide +kernel
theorem dX8_write_37 : decode cX8_write 37 = .ok (.sipush 1000, 3) := by decide +kernel
theorem dX8_write_40 : decode cX8_write 40 = .ok (.invokestatic 57, 3) := by decide +kernel
theorem dX8_write_43 : decode cX8_write 43 = .ok (.ifCond .eq 7, 3) := by decide +kernel
theorem dX8_write_46 : decode cX8_write 46 = .ok (.iconst 1, 1) := by decide +kernel
theorem dX8_write_47 : decode cX8_write 47 = .ok (.goto 4, 3) := by decide +kernel
theorem dX8_write_50 : decode cX8_write 50 = .ok (.iconst 0, 1) := by decide +kernel
theorem dX8_write_51 : decode cX8_write 51 = .ok (.istore 7, 2) := by decide +kernel
theorem dX8_write_53 : decode cX8_write 53 = .ok (.aload_n 0, 1) := by decide +kernel
theorem dX8_write_54 : decode cX8_write 54 = .ok (.iload_n 2, 1) := by decide +kernel
theorem dX8_write_55 : decode cX8_write 55 = .ok (.iload_n 3, 1) := by decide +kernel
theorem dX8_write_56 : decode cX8_write 56 = .ok (.invokestatic 76, 3) := by decide +kernel
theorem dX8_write_59 : decode cX8_write 59 = .ok (.ifCond .ne 7, 3) := by decide +kernel
theorem dX8_write_62 : decode cX8_write 62 = .ok (.iconst 1, 1) := by decide +kernel
theorem dX8_write_63 : decode cX8_write 63 = .ok (.goto 13, 3) := by decide +kernel
theorem dX8_write_66 : decode cX8_write 66 = .ok (.iload 7, 2) := by decide +kernel
theorem dX8_write_68 : decode cX8_write 68 = .ok (.ifCond .eq 7, 3) := by decide +kernel
theorem dX8_write_71 : decode cX8_write 71 = .ok (.iconst 0, 1) := by decide +kernel
theorem dX8_write_72 : decode cX8_write 72 = .ok (.goto 4, 3) := by decide +kernel
theorem dX8_write_75 : decode cX8_write 75 = .ok (.iconst 2, 1) := by decide +kernel
theorem dX8_write_76 : decode cX8_write 76 = .ok (.invokevirtual 79, 3) := by decide +kernel
theorem dX8_write_79 : decode cX8_write 79 = .ok (.ifCond .ne 5, 3) := by decide +kernel
theorem dX8_write_82 : decode cX8_write 82 = .ok (.iconst 0, 1) := by decide +kernel
theorem dX8_write_83 : decode cX8_write 83 = .ok (.ireturn, 1) := by decide +kernel
theorem dX8_write_84 : decode cX8_write 84 = .ok (.aload_n 0, 1) := by decide +kernel
theorem dX8_write_85 : decode cX8_write 85 = .ok (.iload_n 1, 1) := by decide +kernel
theorem dX8_write_86 : decode cX8_write 86 = .ok (.iconst 4, 1) := by decide +kernel
theorem dX8_write_87 : decode cX8_write 87 = .ok (.iload_n 2, 1) := by decide +kernel
theorem dX8_write_88 : decode cX8_write 88 = .ok (.imul, 1) := by decide +kernel
theorem dX8_write_89 : decode cX8_write 89 = .ok (.iload_n 3, 1) := by decide +kernel
theorem dX8_write_90 : decode cX8_write 90 = .ok (.iadd, 1) := by decide +kernel
theorem dX8_write_91 : decode cX8_write 91 = .ok (.iload 5, 2) := by decide +kernel
theorem dX8_write_93 : decode cX8_write 93 = .ok (.iload 4, 2) := by decide +kernel
theorem dX8_write_95 : decode cX8_write 95 = .ok (.iload 6, 2) := by decide +kernel
theorem dX8_write_97 : decode cX8_write 97 = .ok (.ifCond .ne 7, 3) := by decide +kernel
theorem dX8_write_100 : decode cX8_write 100 = .ok (.iconst (-1), 1) := by decide +kernel
theorem dX8_write_101 : decode cX8_write 101 = .ok (.goto 10, 3) := by decide +kernel
theorem dX8_write_104 : decode cX8_write 104 = .ok (.aload_n 0, 1) := by decide +kernel
theorem dX8_write_105 : decode cX8_write 105 = .ok (.getfield 83, 3) := by decide +kernel
theorem dX8_write_108 : decode cX8_write 108 = .ok (.iload 6, 2) := by decide +kernel
theorem dX8_write_110 : decode cX8_write 110 = .ok (.iadd, 1) := by decide +kernel
theorem dX8_write_111 : decode cX8_write 111 = .ok (.invokevirtual 86, 3) := by decide +kernel
theorem dX8_write_114 : decode cX8_write 114 = .ok (.ireturn, 1) := by decide +kernel
set_option maxRecDepth 20000 in
theorem ggX8_buries_X8_isIn : GoodIn wsX8_buries wsX8_isIn := goodIn_r _ [5] (by decide +kernel) (by decide +kernel)
set_option maxRecDepth 20000 in
theorem gX8_buries_X8_isIn : GoodIn wsX8_buries (va_wsS RX8 57 yX8_isIn wsX8_isIn) := goodIn_app (goodIn_of _ (by decide +kernel)) ggX8_buries_X8_isIn
set_option maxRecDepth 20000 in
theorem ggX8_buries_X8_can : GoodIn wsX8_buries wsX8_can := goodIn_r _ [9, 10, 41, 42, 43, 44, 45, 46, 47, 48, 49, 50, 51, 52, 53, 54, 55, 56, 57, 58, 59] (by decide +kernel) (by decide +kernel)
set_option maxRecDepth 20000 in
theorem gX8_buries_X8_can : GoodIn wsX8_buries (wsV RX8 79 RX8 yX8_can wsX8_can) := goodIn_app (goodIn_of _ (by decide +kernel)) ggX8_buries_X8_can
set_option maxRecDepth 20000 in
theorem ggX8_buries_X8_spreads : GoodIn wsX8_buries wsX8_spreads := goodIn_r _ [14, 15, 16, 17, 18, 4, 19, 20, 21, 22, 23, 24, 25, 26, 27, 28, 29, 30, 31, 32, 33, 34, 35, 36, 37, 38, 39, 40, 41, 42, 43, 44, 45, 46, 47, 48, 49, 50, 51, 52, 53, 54, 55, 56, 57, 58, 59] (by decide +kernel) (by decide +kernel)
set_option maxRecDepth 20000 in
theorem gX8_buries_X8_spreads : GoodIn wsX8_buries (wsV RX8 86 RX8 yX8_spreads wsX8_spreads) := goodIn_app (goodIn_of _ (by decide +kernel)) ggX8_buries_X8_spreads
theorem dX8_buries_0 : decode cX8_buries 0 = .ok (.aload_n 0, 1) := by decide +kernel
theorem dX8_buries_1 : decode cX8_buries 1 = .ok (.iload_n 2, 1) := by decide +kernel
theorem dX8_buries_2 : decode cX8_buries 2 = .ok (.ifCond .ne 7, 3) := by decide +kernel
theorem dX8_buries_5 : decode cX8_buries 5 = .ok (.iconst 1, 1) := by decide +kernel
theorem dX8_buries_6 : decode cX8_buries 6 = .ok (.goto 30, 3) := by decide +kernel
theorem dX8_buries_9 : decode cX8_buries 9 = .ok (.iload_n 1, 1) := by decide +kernel
theorem dX8_buries_10 : decode cX8_buries 10 = .ok (.iconst 0, 1) := by decide +kernel
theorem dX8_buries_11 : decode cX8_buries 11 = .ok (.bipush 7, 2) := by decide +kernel
theorem dX8_buries_13 : decode cX8_buries 13 = .ok (.invokestatic 57, 3) := by decide +kernel
theorem dX8_buries_16 : decode cX8_buries 16 = .ok (.ifCond .eq 19, 3) := by decide +kernel
theorem dX8_buries_19 : decode cX8_buries 19 = .ok (.iload 4, 2) := by decide +kernel
theorem dX8_buries_21 : decode cX8_buries 21 = .ok (.iconst 0, 1) := by decide +kernel
theorem dX8_buries_22 : decode cX8_buries 22 = .ok (.sipush 999, 3) := by decide +kernel
theorem dX8_buries_25 : decode cX8_buries 25 = .ok (.invokestatic 57, 3) := by decide +kernel
theorem dX8_buries_28 : decode cX8_buries 28 = .ok (.ifCond .eq 7, 3) := by decide +kernel
theorem dX8_buries_31 : decode cX8_buries 31 = .ok (.iconst 0, 1) := by decide +kernel
theorem dX8_buries_32 : decode cX8_buries 32 = .ok (.goto 4, 3) := by decide +kernel
theorem dX8_buries_35 : decode cX8_buries 35 = .ok (.iconst 2, 1) := by decide +kernel
theorem dX8_buries_36 : decode cX8_buries 36 = .ok (.invokevirtual 79, 3) := by decide +kernel
theorem dX8_buries_39 : decode cX8_buries 39 = .ok (.ifCond .ne 5, 3) := by decide +kernel
theorem dX8_buries_42 : decode cX8_buries 42 = .ok (.iconst 0, 1) := by decide +kernel
theorem dX8_buries_43 : decode cX8_buries 43 = .ok (.ireturn, 1) := by decide +kernel
theorem dX8_buries_44 : decode cX8_buries 44 = .ok (.aload_n 0, 1) := by decide +kernel
theorem dX8_buries_45 : decode cX8_buries 45 = .ok (.iload_n 1, 1) := by decide +kernel
theorem dX8_buries_46 : decode cX8_buries 46 = .ok (.bipush 64, 2) := by decide +kernel
theorem dX8_buries_48 : decode cX8_buries 48 = .ok (.iload_n 3, 1) := by decide +kernel
theorem dX8_buries_49 : decode cX8_buries 49 = .ok (.iadd, 1) := by decide +kernel
theorem dX8_buries_50 : decode cX8_buries 50 = .ok (.iload 4, 2) := by decide +kernel
theorem dX8_buries_52 : decode cX8_buries 52 = .ok (.aload_n 0, 1) := by decide +kernel
theorem dX8_buries_53 : decode cX8_buries 53 = .ok (.getfield 83, 3) := by decide +kernel
theorem dX8_buries_56 : decode cX8_buries 56 = .ok (.iconst 0, 1) := by decide +kernel
theorem dX8_buries_57 : decode cX8_buries 57 = .ok (.invokevirtual 86, 3) := by decide +kernel
theorem dX8_buries_60 : decode cX8_buries 60 = .ok (.ireturn, 1) := by decide +kernel
set_option maxRecDepth 20000 in
theorem ggX8_deleteCell_X8_isCell : GoodIn wsX8_deleteCell wsX8_isCell := goodIn_r _ [4, 5, 6, 3, 7] (by decide +kernel) (by decide +kernel)
set_option maxRecDepth 20000 in
theorem gX8_deleteCell_X8_isCell : GoodIn wsX8_deleteCell (va_wsS RX8 76 yX8_isCell wsX8_isCell) := goodIn_app (goodIn_of _ (by decide +kernel)) ggX8_deleteCell_X8_isCell
set_option maxRecDepth 20000 in
theorem ggX8_deleteCell_X8_buries : GoodIn wsX8_deleteCell wsX8_buries := goodIn_r _ [11, 12, 5, 6, 3, 7, 13, 14, 15, 16, 17, 18, 19, 20, 21, 22, 23, 24, 25, 26, 27, 28, 29, 30, 31, 32, 33, 34, 35, 36, 37, 38, 39, 40, 41, 42, 43, 44, 45, 46, 47, 48, 49, 50, 51, 52, 53, 54, 55, 56, 57, 58, 59, 60, 61, 62, 63, 64, 65, 66] (by decide +kernel) (by decide +kernel)
set_option maxRecDepth 20000 in
theorem gX8_deleteCell_X8_buries : GoodIn wsX8_deleteCell (wsV RX8 90 RX8 yX8_buries wsX8_buries) := goodIn_app (goodIn_of _ (by decide +kernel)) ggX8_deleteCell_X8_buries
theorem dX8_deleteCell_0 : decode cX8_deleteCell 0 = .ok (.aload_n 0, 1) := by decide +kernel
theorem dX8_deleteCell_1 : decode cX8_deleteCell 1 = .ok (.iload_n 1, 1) := by decide +kernel
theorem dX8_deleteCell_2 : decode cX8_deleteCell 2 = .ok (.iload_n 2, 1) := by decide +kernel
theorem dX8_deleteCell_3 : decode cX8_deleteCell 3 = .ok (.iload_n 3, 1) := by decide +kernel
theorem dX8_deleteCell_4 : decode cX8_deleteCell 4 = .ok (.invokestatic 76, 3) := by decide +kernel
theorem dX8_deleteCell_7 : decode cX8_deleteCell 7 = .ok (.iconst 4, 1) := by decide +kernel
theorem dX8_deleteCell_8 : decode cX8_deleteCell 8 = .ok (.iload_n 2, 1) := by decide +kernel
theorem dX8_deleteCell_9 : decode cX8_deleteCell 9 = .ok (.imul, 1) := by decide +kernel
theorem dX8_deleteCell_10 : decode cX8_deleteCell 10 = .ok (.iload_n 3, 1) := by decide +kernel
theorem dX8_deleteCell_11 : decode cX8_deleteCell 11 = .ok (.iadd, 1) := by decide +kernel
theorem dX8_deleteCell_12 : decode cX8_deleteCell 12 = .ok (.iload 4, 2) := by decide +kernel
theorem dX8_deleteCell_14 : decode cX8_deleteCell 14 = .ok (.invokevirtual 90, 3) := by decide +kernel
theorem dX8_deleteCell_17 : decode cX8_deleteCell 17 = .ok (.ireturn, 1) := by decide +kernel
set_option maxRecDepth 20000 in
theorem ggX8_deleteColumn_X8_isIn : GoodIn wsX8_deleteColumn wsX8_isIn := goodIn_r _ [4] (by decide +kernel) (by decide +kernel)
set_option maxRecDepth 20000 in
theorem gX8_deleteColumn_X8_isIn : GoodIn wsX8_deleteColumn (va_wsS RX8 57 yX8_isIn wsX8_isIn) := goodIn_app (goodIn_of _ (by decide +kernel)) ggX8_deleteColumn_X8_isIn
set_option maxRecDepth 20000 in
theorem ggX8_deleteColumn_X8_buries : GoodIn wsX8_deleteColumn wsX8_buries := goodIn_r _ [8, 9, 1, 2, 3, 4, 10, 11, 12, 13, 14, 15, 16, 17, 18, 19, 20, 21, 22, 23, 24, 25, 26, 27, 28, 29, 30, 31, 32, 33, 34, 35, 36, 37, 38, 39, 40, 41, 42, 43, 44, 45, 46, 47, 48, 49, 50, 51, 52, 53, 54, 55, 56, 57, 58, 59, 60, 61, 62, 63] (by decide +kernel) (by decide +kernel)
set_option maxRecDepth 20000 in
theorem gX8_deleteColumn_X8_buries : GoodIn wsX8_deleteColumn (wsV RX8 90 RX8 yX8_buries wsX8_buries) := goodIn_app (goodIn_of _ (by decide +kernel)) ggX8_deleteColumn_X8_buries
theorem dX8_deleteColumn_0 : decode cX8_deleteColumn 0 = .ok (.aload_n 0, 1) := by decide +kernel
theorem dX8_deleteColumn_1 : decode cX8_deleteColumn 1 = .ok (.iload_n 1, 1) := by decide +kernel
theorem dX8_deleteColumn_2 : decode cX8_deleteColumn 2 = .ok (.iload_n 2, 1) := by decide +kernel
theorem dX8_deleteColumn_3 : decode cX8_deleteColumn 3 = .ok (.iconst 0, 1) := by decide +kernel
theorem dX8_deleteColumn_4 : decode cX8_deleteColumn 4 = .ok (.iconst 3, 1) := by decide +kernel
theorem dX8_deleteColumn_5 : decode cX8_deleteColumn 5 = .ok (.invokestatic 57, 3) := by decide +kernel
theorem dX8_deleteColumn_8 : decode cX8_deleteColumn 8 = .ok (.bipush 64, 2) := by decide +kernel
theorem dX8_deleteColumn_10 : decode cX8_deleteColumn 10 = .ok (.iload_n 2, 1) := by decide +kernel
theorem dX8_deleteColumn_11 : decode cX8_deleteColumn 11 = .ok (.iadd, 1) := by decide +kernel
theorem dX8_deleteColumn_12 : decode cX8_deleteColumn 12 = .ok (.iload_n 3, 1) := by decide +kernel
theorem dX8_deleteColumn_13 : decode cX8_deleteColumn 13 = .ok (.invokevirtual 90, 3) := by decide +kernel
theorem dX8_deleteColumn_16 : decode cX8_deleteColumn 16 = .ok (.ireturn, 1) := by decide +kernel
set_option maxRecDepth 20000 in
theorem ggX8_deleteRow_X8_isIn : GoodIn wsX8_deleteRow wsX8_isIn := goodIn_r _ [4] (by decide +kernel) (by decide +kernel)
set_option maxRecDepth 20000 in
theorem gX8_deleteRow_X8_isIn : GoodIn wsX8_deleteRow (va_wsS RX8 57 yX8_isIn wsX8_isIn) := goodIn_app (goodIn_of _ (by decide +kernel)) ggX8_deleteRow_X8_isIn
set_option maxRecDepth 20000 in
theorem ggX8_deleteRow_X8_buries : GoodIn wsX8_deleteRow wsX8_buries := goodIn_r _ [8, 9, 1, 2, 3, 4, 10, 11, 12, 13, 14, 15, 16, 17, 18, 19, 20, 21, 22, 23, 24, 25, 26, 27, 28, 29, 30, 31, 32, 33, 34, 35, 36, 37, 38, 39, 40, 41, 42, 43, 44, 45, 46, 47, 48, 49, 50, 51, 52, 53, 54, 55, 56, 57, 58, 59, 60, 61, 62, 63] (by decide +kernel) (by decide +kernel)
set_option maxRecDepth 20000 in
theorem gX8_deleteRow_X8_buries : GoodIn wsX8_deleteRow (wsV RX8 90 RX8 yX8_buries wsX8_buries) := goodIn_app (goodIn_of _ (by decide +kernel)) ggX8_deleteRow_X8_buries
theorem dX8_deleteRow_0 : decode cX8_deleteRow 0 = .ok (.aload_n 0, 1) := by decide +kernel
theorem dX8_deleteRow_1 : decode cX8_deleteRow 1 = .ok (.iload_n 1, 1) := by decide +kernel
theorem dX8_deleteRow_2 : decode cX8_deleteRow 2 = .ok (.iload_n 2, 1) := by decide +kernel
theorem dX8_deleteRow_3 : decode cX8_deleteRow 3 = .ok (.iconst 0, 1) := by decide +kernel
theorem dX8_deleteRow_4 : decode cX8_deleteRow 4 = .ok (.bipush 15, 2) := by decide +kernel
theorem dX8_deleteRow_6 : decode cX8_deleteRow 6 = .ok (.invokestatic 57, 3) := by decide +kernel
theorem dX8_deleteRow_9 : decode cX8_deleteRow 9 = .ok (.bipush 68, 2) := by decide +kernel
theorem dX8_deleteRow_11 : decode cX8_deleteRow 11 = .ok (.iload_n 2, 1) := by decide +kernel
theorem dX8_deleteRow_12 : decode cX8_deleteRow 12 = .ok (.iadd, 1) := by decide +kernel
theorem dX8_deleteRow_13 : decode cX8_deleteRow 13 = .ok (.iload_n 3, 1) := by decide +kernel
theorem dX8_deleteRow_14 : decode cX8_deleteRow 14 = .ok (.invokevirtual 90, 3) := by decide +kernel
theorem dX8_deleteRow_17 : decode cX8_deleteRow 17 = .ok (.ireturn, 1) := by decide +kernel
set_option maxRecDepth 20000 in
theorem ggX8_deleteRange_X8_isIn : GoodIn wsX8_deleteRange wsX8_isIn := goodIn_r _ [7] (by decide +kernel) (by decide +kernel)
set_option maxRecDepth 20000 in
theorem gX8_deleteRange_X8_isIn : GoodIn wsX8_deleteRange (va_wsS RX8 57 yX8_isIn wsX8_isIn) := goodIn_app (goodIn_of _ (by decide +kernel)) ggX8_deleteRange_X8_isIn
set_option maxRecDepth 20000 in
theorem ggX8_deleteRange_X8_can : GoodIn wsX8_deleteRange wsX8_can := goodIn_r _ [11, 12, 48, 49, 50, 51, 52, 53, 54, 55, 56, 57, 58, 59, 60, 61, 62, 63, 64, 65, 66] (by decide +kernel) (by decide +kernel)
set_option maxRecDepth 20000 in
theorem gX8_deleteRange_X8_can : GoodIn wsX8_deleteRange (wsV RX8 79 RX8 yX8_can wsX8_can) := goodIn_app (goodIn_of _ (by decide +kernel)) ggX8_deleteRange_X8_can
set_option maxRecDepth 20000 in
theorem ggX8_deleteRange_X8_buries : GoodIn wsX8_deleteRange wsX8_buries := goodIn_r _ [16, 17, 4, 5, 6, 7, 8, 9, 10, 11, 12, 18, 19, 20, 21, 22, 23, 24, 25, 26, 27, 28, 29, 30, 31, 32, 33, 34, 35, 36, 37, 38, 39, 40, 41, 42, 43, 44, 45, 46, 47, 48, 49, 50, 51, 52, 53, 54, 55, 56, 57, 58, 59, 60, 61, 62, 63, 64, 65, 66] (by decide +kernel) (by decide +kernel)
set_option maxRecDepth 20000 in
theorem gX8_deleteRange_X8_buries : GoodIn wsX8_deleteRange (wsV RX8 90 RX8 yX8_buries wsX8_buries) := goodIn_app (goodIn_of _ (by decide +kernel)) ggX8_deleteRange_X8_buries
theorem dX8_deleteRange_0 : decode cX8_deleteRange 0 = .ok (.iload_n 2, 1) := by decide +kernel
theorem dX8_deleteRange_1 : decode cX8_deleteRange 1 = .ok (.iconst 0, 1) := by decide +kernel
theorem dX8_deleteRange_2 : decode cX8_deleteRange 2 = .ok (.bipush 15, 2) := by decide +kernel
theorem dX8_deleteRange_4 : decode cX8_deleteRange 4 = .ok (.invokestatic 57, 3) := by decide +kernel
theorem dX8_deleteRange_7 : decode cX8_deleteRange 7 = .ok (.ifCond .eq 17, 3) := by decide +kernel
theorem dX8_deleteRange_10 : decode cX8_deleteRange 10 = .ok (.iload_n 3, 1) := by decide +kernel
theorem dX8_deleteRange_11 : decode cX8_deleteRange 11 = .ok (.iconst 0, 1) := by decide +kernel
theorem dX8_deleteRange_12 : decode cX8_deleteRange 12 = .ok (.bipush 15, 2) := by decide +kernel
theorem dX8_deleteRange_14 : decode cX8_deleteRange 14 = .ok (.invokestatic 57, 3) := by decide +kernel
theorem dX8_deleteRange_17 : decode cX8_deleteRange 17 = .ok (.ifCond .eq 7, 3) := by decide +kernel
theorem dX8_deleteRange_20 : decode cX8_deleteRange 20 = .ok (.iconst 1, 1) := by decide +kernel
theorem dX8_deleteRange_21 : decode cX8_deleteRange 21 = .ok (.goto 4, 3) := by decide +kernel
theorem dX8_deleteRange_24 : decode cX8_deleteRange 24 = .ok (.iconst 0, 1) := by decide +kernel
theorem dX8_deleteRange_25 : decode cX8_deleteRange 25 = .ok (.istore 5, 2) := by decide +kernel
theorem dX8_deleteRange_27 : decode cX8_deleteRange 27 = .ok (.iconst 0, 1) := by decide +kernel
theorem dX8_deleteRange_28 : decode cX8_deleteRange 28 = .ok (.istore 6, 2) := by decide +kernel
theorem dX8_deleteRange_30 : decode cX8_deleteRange 30 = .ok (.iload 6, 2) := by decide +kernel
theorem dX8_deleteRange_32 : decode cX8_deleteRange 32 = .ok (.aload_n 0, 1) := by decide +kernel
theorem dX8_deleteRange_33 : decode cX8_deleteRange 33 = .ok (.getfield 94, 3) := by decide +kernel
theorem dX8_deleteRange_36 : decode cX8_deleteRange 36 = .ok (.if_icmp .ge 31, 3) := by decide +kernel
theorem dX8_deleteRange_39 : decode cX8_deleteRange 39 = .ok (.aload_n 0, 1) := by decide +kernel
theorem dX8_deleteRange_40 : decode cX8_deleteRange 40 = .ok (.getfield 25, 3) := by decide +kernel
theorem dX8_deleteRange_43 : decode cX8_deleteRange 43 = .ok (.iload 6, 2) := by decide +kernel
theorem dX8_deleteRange_45 : decode cX8_deleteRange 45 = .ok (.iaload, 1) := by decide +kernel
theorem dX8_deleteRange_46 : decode cX8_deleteRange 46 = .ok (.iload_n 2, 1) := by decide +kernel
theorem dX8_deleteRange_47 : decode cX8_deleteRange 47 = .ok (.if_icmp .ne 14, 3) := by decide +kernel
theorem dX8_deleteRange_50 : decode cX8_deleteRange 50 = .ok (.aload_n 0, 1) := by decide +kernel
theorem dX8_deleteRange_51 : decode cX8_deleteRange 51 = .ok (.getfield 28, 3) := by decide +kernel
theorem dX8_deleteRange_54 : decode cX8_deleteRange 54 = .ok (.iload 6, 2) := by decide +kernel
theorem dX8_deleteRange_56 : decode cX8_deleteRange 56 = .ok (.iaload, 1) := by decide +kernel
theorem dX8_deleteRange_57 : decode cX8_deleteRange 57 = .ok (.iload_n 3, 1) := by decide +kernel
theorem dX8_deleteRange_58 : decode cX8_deleteRange 58 = .ok (.if_icmp .eq 9, 3) := by decide +kernel
theorem dX8_deleteRange_61 : decode cX8_deleteRange 61 = .ok (.iinc 6 1, 3) := by decide +kernel
theorem dX8_deleteRange_64 : decode cX8_deleteRange 64 = .ok (.goto (-34), 3) := by decide +kernel
theorem dX8_deleteRange_67 : decode cX8_deleteRange 67 = .ok (.iload_n 1, 1) := by decide +kernel
theorem dX8_deleteRange_68 : decode cX8_deleteRange 68 = .ok (.iconst 0, 1) := by decide +kernel
theorem dX8_deleteRange_69 : decode cX8_deleteRange 69 = .ok (.bipush 7, 2) := by decide +kernel
theorem dX8_deleteRange_71 : decode cX8_deleteRange 71 = .ok (.invokestatic 57, 3) := by decide +kernel
theorem dX8_deleteRange_74 : decode cX8_deleteRange 74 = .ok (.ifCond .eq 24, 3) := by decide +kernel
theorem dX8_deleteRange_77 : decode cX8_deleteRange 77 = .ok (.iload 4, 2) := by decide +kernel
theorem dX8_deleteRange_79 : decode cX8_deleteRange 79 = .ok (.iconst 0, 1) := by decide +kernel
theorem dX8_deleteRange_80 : decode cX8_deleteRange 80 = .ok (.sipush 999, 3) := by decide +kernel
theorem dX8_deleteRange_83 : decode cX8_deleteRange 83 = .ok (.invokestatic 57, 3) := by decide +kernel
theorem dX8_deleteRange_86 : decode cX8_deleteRange 86 = .ok (.ifCond .eq 12, 3) := by decide +kernel
theorem dX8_deleteRange_89 : decode cX8_deleteRange 89 = .ok (.iload_n 3, 1) := by decide +kernel
theorem dX8_deleteRange_90 : decode cX8_deleteRange 90 = .ok (.iload_n 2, 1) := by decide +kernel
theorem dX8_deleteRange_91 : decode cX8_deleteRange 91 = .ok (.if_icmp .lt 7, 3) := by decide +kernel
theorem dX8_deleteRange_94 : decode cX8_deleteRange 94 = .ok (.iconst 1, 1) := by decide +kernel
theorem dX8_deleteRange_95 : decode cX8_deleteRange 95 = .ok (.goto 4, 3) := by decide +kernel
theorem dX8_deleteRange_98 : decode cX8_deleteRange 98 = .ok (.iconst 0, 1) := by decide +kernel
theorem dX8_deleteRange_99 : decode cX8_deleteRange 99 = .ok (.istore 7, 2) := by decide +kernel
theorem dX8_deleteRange_101 : decode cX8_deleteRange 101 = .ok (.aload_n 0, 1) := by decide +kernel
theorem dX8_deleteRange_102 : decode cX8_deleteRange 102 = .ok (.iload 5, 2) := by decide +kernel
theorem dX8_deleteRange_104 : decode cX8_deleteRange 104 = .ok (.ifCond .ne 7, 3) := by decide +kernel
theorem dX8_deleteRange_107 : decode cX8_deleteRange 107 = .ok (.iconst 1, 1) := by decide +kernel
theorem dX8_deleteRange_108 : decode cX8_deleteRange 108 = .ok (.goto 24, 3) := by decide +kernel
theorem dX8_deleteRange_111 : decode cX8_deleteRange 111 = .ok (.iload 7, 2) := by decide +kernel
theorem dX8_deleteRange_113 : decode cX8_deleteRange 113 = .ok (.ifCond .ne 7, 3) := by decide +kernel
theorem dX8_deleteRange_116 : decode cX8_deleteRange 116 = .ok (.iconst 2, 1) := by decide +kernel
theorem dX8_deleteRange_117 : decode cX8_deleteRange 117 = .ok (.goto 15, 3) := by decide +kernel
theorem dX8_deleteRange_120 : decode cX8_deleteRange 120 = .ok (.iload 6, 2) := by decide +kernel
theorem dX8_deleteRange_122 : decode cX8_deleteRange 122 = .ok (.bipush 8, 2) := by decide +kernel
theorem dX8_deleteRange_124 : decode cX8_deleteRange 124 = .ok (.if_icmp .ne 7, 3) := by decide +kernel
theorem dX8_deleteRange_127 : decode cX8_deleteRange 127 = .ok (.iconst 3, 1) := by decide +kernel
theorem dX8_deleteRange_128 : decode cX8_deleteRange 128 = .ok (.goto 4, 3) := by decide +kernel
theorem dX8_deleteRange_131 : decode cX8_deleteRange 131 = .ok (.iconst 0, 1) := by decide +kernel
theorem dX8_deleteRange_132 : decode cX8_deleteRange 132 = .ok (.invokevirtual 79, 3) := by decide +kernel
theorem dX8_deleteRange_135 : decode cX8_deleteRange 135 = .ok (.ifCond .ne 5, 3) := by decide +kernel
theorem dX8_deleteRange_138 : decode cX8_deleteRange 138 = .ok (.iconst 0, 1) := by decide +kernel
theorem dX8_deleteRange_139 : decode cX8_deleteRange 139 = .ok (.ireturn, 1) := by decide +kernel
theorem dX8_deleteRange_140 : decode cX8_deleteRange 140 = .ok (.iload 6, 2) := by decide +kernel
theorem dX8_deleteRange_142 : decode cX8_deleteRange 142 = .ok (.aload_n 0, 1) := by decide +kernel
theorem dX8_deleteRange_143 : decode cX8_deleteRange 143 = .ok (.getfield 94, 3) := by decide +kernel
theorem dX8_deleteRange_146 : decode cX8_deleteRange 146 = .ok (.if_icmp .ne 29, 3) := by decide +kernel
theorem dX8_deleteRange_149 : decode cX8_deleteRange 149 = .ok (.aload_n 0, 1) := by decide +kernel
theorem dX8_deleteRange_150 : decode cX8_deleteRange 150 = .ok (.getfield 25, 3) := by decide +kernel
theorem dX8_deleteRange_153 : decode cX8_deleteRange 153 = .ok (.iload 6, 2) := by decide +kernel
theorem dX8_deleteRange_155 : decode cX8_deleteRange 155 = .ok (.iload_n 2, 1) := by decide +kernel
theorem dX8_deleteRange_156 : decode cX8_deleteRange 156 = .ok (.iastore, 1) := by decide +kernel
theorem dX8_deleteRange_157 : decode cX8_deleteRange 157 = .ok (.aload_n 0, 1) := by decide +kernel
theorem dX8_deleteRange_158 : decode cX8_deleteRange 158 = .ok (.getfield 28, 3) := by decide +kernel
theorem dX8_deleteRange_161 : decode cX8_deleteRange 161 = .ok (.iload 6, 2) := by decide +kernel
theorem dX8_deleteRange_163 : decode cX8_deleteRange 163 = .ok (.iload_n 3, 1) := by decide +kernel
theorem dX8_deleteRange_164 : decode cX8_deleteRange 164 = .ok (.iastore, 1) := by decide +kernel
theorem dX8_deleteRange_165 : decode cX8_deleteRange 165 = .ok (.aload_n 0, 1) := by decide +kernel
theorem dX8_deleteRange_166 : decode cX8_deleteRange 166 = .ok (.dup, 1) := by decide +kernel
theorem dX8_deleteRange_167 : decode cX8_deleteRange 167 = .ok (.getfield 94, 3) := by decide +kernel
theorem dX8_deleteRange_170 : decode cX8_deleteRange 170 = .ok (.iconst 1, 1) := by decide +kernel
theorem dX8_deleteRange_171 : decode cX8_deleteRange 171 = .ok (.iadd, 1) := by decide +kernel
theorem dX8_deleteRange_172 : decode cX8_deleteRange 172 = .ok (.putfield 94, 3) := by decide +kernel
theorem dX8_deleteRange_175 : decode cX8_deleteRange 175 = .ok (.aload_n 0, 1) := by decide +kernel
theorem dX8_deleteRange_176 : decode cX8_deleteRange 176 = .ok (.iload_n 1, 1) := by decide +kernel
theorem dX8_deleteRange_177 : decode cX8_deleteRange 177 = .ok (.iconst 1, 1) := by decide +kernel
theorem dX8_deleteRange_178 : decode cX8_deleteRange 178 = .ok (.bipush 84, 2) := by decide +kernel
theorem dX8_deleteRange_180 : decode cX8_deleteRange 180 = .ok (.iload 6, 2) := by decide +kernel
theorem dX8_deleteRange_182 : decode cX8_deleteRange 182 = .ok (.iadd, 1) := by decide +kernel
theorem dX8_deleteRange_183 : decode cX8_deleteRange 183 = .ok (.iload 4, 2) := by decide +kernel
theorem dX8_deleteRange_185 : decode cX8_deleteRange 185 = .ok (.invokevirtual 90, 3) := by decide +kernel
theorem dX8_deleteRange_188 : decode cX8_deleteRange 188 = .ok (.ireturn, 1) := by decide +kernel
set_option maxRecDepth 20000 in
theorem ggX8_setUp_X8_isCopy : GoodIn wsX8_setUp wsX8_isCopy := goodIn_r _ [10, 11, 12, 9, 13] (by decide +kernel) (by decide +kernel)
set_option maxRecDepth 20000 in
theorem gX8_setUp_X8_isCopy : GoodIn wsX8_setUp (va_wsS RX8 97 yX8_isCopy wsX8_isCopy) := goodIn_app (goodIn_of _ (by decide +kernel)) ggX8_setUp_X8_isCopy
set_option maxRecDepth 20000 in
theorem ggX8_setUp_X8_can : GoodIn wsX8_setUp wsX8_can := goodIn_r _ [17, 18, 39, 40, 41, 42, 43, 44, 45, 46, 47, 48, 49, 50, 51, 52, 53, 54, 55, 56, 57] (by decide +kernel) (by decide +kernel)
set_option maxRecDepth 20000 in
theorem gX8_setUp_X8_can : GoodIn wsX8_setUp (wsV RX8 79 RX8 yX8_can wsX8_can) := goodIn_app (goodIn_of _ (by decide +kernel)) ggX8_setUp_X8_can
set_option maxRecDepth 20000 in
theorem ggX8_setUp_X8_goesTo : GoodIn wsX8_setUp wsX8_goesTo := goodIn_r _ [22, 1, 2, 3, 4, 5, 6, 23, 24, 25, 9, 26, 27, 28, 29, 30, 31, 32, 33, 34, 35, 36, 37, 38, 39, 40, 41, 42, 43, 44, 45, 46, 47, 48, 49, 50, 51, 52, 53, 54, 55, 56, 57] (by decide +kernel) (by decide +kernel)
set_option maxRecDepth 20000 in
theorem gX8_setUp_X8_goesTo : GoodIn wsX8_setUp (wsV RX8 73 RX8 yX8_goesTo wsX8_goesTo) := goodIn_app (goodIn_of _ (by decide +kernel)) ggX8_setUp_X8_goesTo
theorem dX8_setUp_0 : decode cX8_setUp 0 = .ok (.aload_n 0, 1) := by decide +kernel
theorem dX8_setUp_1 : decode cX8_setUp 1 = .ok (.iload_n 1, 1) := by decide +kernel
theorem dX8_setUp_2 : decode cX8_setUp 2 = .ok (.invokestatic 97, 3) := by decide +kernel
theorem dX8_setUp_5 : decode cX8_setUp 5 = .ok (.ifCond .eq 7, 3) := by decide +kernel
theorem dX8_setUp_8 : decode cX8_setUp 8 = .ok (.iconst 0, 1) := by decide +kernel
theorem dX8_setUp_9 : decode cX8_setUp 9 = .ok (.goto 4, 3) := by decide +kernel
theorem dX8_setUp_12 : decode cX8_setUp 12 = .ok (.iconst 1, 1) := by decide +kernel
theorem dX8_setUp_13 : decode cX8_setUp 13 = .ok (.invokevirtual 79, 3) := by decide +kernel
theorem dX8_setUp_16 : decode cX8_setUp 16 = .ok (.ifCond .ne 5, 3) := by decide +kernel
theorem dX8_setUp_19 : decode cX8_setUp 19 = .ok (.iconst 0, 1) := by decide +kernel
theorem dX8_setUp_20 : decode cX8_setUp 20 = .ok (.ireturn, 1) := by decide +kernel
theorem dX8_setUp_21 : decode cX8_setUp 21 = .ok (.aload_n 0, 1) := by decide +kernel
theorem dX8_setUp_22 : decode cX8_setUp 22 = .ok (.getfield 31, 3) := by decide +kernel
theorem dX8_setUp_25 : decode cX8_setUp 25 = .ok (.iload_n 1, 1) := by decide +kernel
theorem dX8_setUp_26 : decode cX8_setUp 26 = .ok (.iload_n 2, 1) := by decide +kernel
theorem dX8_setUp_27 : decode cX8_setUp 27 = .ok (.bastore, 1) := by decide +kernel
theorem dX8_setUp_28 : decode cX8_setUp 28 = .ok (.iload_n 2, 1) := by decide +kernel
theorem dX8_setUp_29 : decode cX8_setUp 29 = .ok (.ifCond .eq 12, 3) := by decide +kernel
theorem dX8_setUp_32 : decode cX8_setUp 32 = .ok (.aload_n 0, 1) := by decide +kernel
theorem dX8_setUp_33 : decode cX8_setUp 33 = .ok (.getfield 35, 3) := by decide +kernel
theorem dX8_setUp_36 : decode cX8_setUp 36 = .ok (.iload_n 1, 1) := by decide +kernel
theorem dX8_setUp_37 : decode cX8_setUp 37 = .ok (.iaload, 1) := by decide +kernel
theorem dX8_setUp_38 : decode cX8_setUp 38 = .ok (.goto 4, 3) := by decide +kernel
theorem dX8_setUp_41 : decode cX8_setUp 41 = .ok (.iconst 0, 1) := by decide +kernel
theorem dX8_setUp_42 : decode cX8_setUp 42 = .ok (.istore_n 3, 1) := by decide +kernel
theorem dX8_setUp_43 : decode cX8_setUp 43 = .ok (.bipush 10, 2) := by decide +kernel
theorem dX8_setUp_45 : decode cX8_setUp 45 = .ok (.iload_n 1, 1) := by decide +kernel
theorem dX8_setUp_46 : decode cX8_setUp 46 = .ok (.imul, 1) := by decide +kernel
theorem dX8_setUp_47 : decode cX8_setUp 47 = .ok (.istore 4, 2) := by decide +kernel
theorem dX8_setUp_49 : decode cX8_setUp 49 = .ok (.iload 4, 2) := by decide +kernel
theorem dX8_setUp_51 : decode cX8_setUp 51 = .ok (.bipush 10, 2) := by decide +kernel
theorem dX8_setUp_53 : decode cX8_setUp 53 = .ok (.iload_n 1, 1) := by decide +kernel
theorem dX8_setUp_54 : decode cX8_setUp 54 = .ok (.imul, 1) := by decide +kernel
theorem dX8_setUp_55 : decode cX8_setUp 55 = .ok (.iload_n 3, 1) := by decide +kernel
theorem dX8_setUp_56 : decode cX8_setUp 56 = .ok (.iadd, 1) := by decide +kernel
theorem dX8_setUp_57 : decode cX8_setUp 57 = .ok (.if_icmp .ge 42, 3) := by decide +kernel
theorem dX8_setUp_60 : decode cX8_setUp 60 = .ok (.aload_n 0, 1) := by decide +kernel
theorem dX8_setUp_61 : decode cX8_setUp 61 = .ok (.iload_n 1, 1) := by decide +kernel
theorem dX8_setUp_62 : decode cX8_setUp 62 = .ok (.aload_n 0, 1) := by decide +kernel
theorem dX8_setUp_63 : decode cX8_setUp 63 = .ok (.getfield 38, 3) := by decide +kernel
theorem dX8_setUp_66 : decode cX8_setUp 66 = .ok (.iload 4, 2) := by decide +kernel
theorem dX8_setUp_68 : decode cX8_setUp 68 = .ok (.iaload, 1) := by decide +kernel
theorem dX8_setUp_69 : decode cX8_setUp 69 = .ok (.aload_n 0, 1) := by decide +kernel
theorem dX8_setUp_70 : decode cX8_setUp 70 = .ok (.getfield 41, 3) := by decide +kernel
theorem dX8_setUp_73 : decode cX8_setUp 73 = .ok (.iload 4, 2) := by decide +kernel
theorem dX8_setUp_75 : decode cX8_setUp 75 = .ok (.iaload, 1) := by decide +kernel
theorem dX8_setUp_76 : decode cX8_setUp 76 = .ok (.aload_n 0, 1) := by decide +kernel
theorem dX8_setUp_77 : decode cX8_setUp 77 = .ok (.getfield 44, 3) := by decide +kernel
theorem dX8_setUp_80 : decode cX8_setUp 80 = .ok (.iload 4, 2) := by decide +kernel
theorem dX8_setUp_82 : decode cX8_setUp 82 = .ok (.iaload, 1) := by decide +kernel
theorem dX8_setUp_83 : decode cX8_setUp 83 = .ok (.aload_n 0, 1) := by decide +kernel
theorem dX8_setUp_84 : decode cX8_setUp 84 = .ok (.getfield 47, 3) := by decide +kernel
theorem dX8_setUp_87 : decode cX8_setUp 87 = .ok (.iload 4, 2) := by decide +kernel
theorem dX8_setUp_89 : decode cX8_setUp 89 = .ok (.iaload, 1) := by decide +kernel
theorem dX8_setUp_90 : decode cX8_setUp 90 = .ok (.invokevirtual 73, 3) := by decide +kernel
theorem dX8_setUp_93 : decode cX8_setUp 93 = .ok (.iinc 4 1, 3) := by decide +kernel
theorem dX8_setUp_96 : decode cX8_setUp 96 = .ok (.goto (-47), 3) := by decide +kernel
theorem dX8_setUp_99 : decode cX8_setUp 99 = .ok (.aload_n 0, 1) := by decide +kernel
theorem dX8_setUp_100 : decode cX8_setUp 100 = .ok (.getfield 35, 3) := by decide +kernel
theorem dX8_setUp_103 : decode cX8_setUp 103 = .ok (.iload_n 1, 1) := by decide +kernel
theorem dX8_setUp_104 : decode cX8_setUp 104 = .ok (.dup2, 1) := by decide +kernel
theorem dX8_setUp_105 : decode cX8_setUp 105 = .ok (.iaload, 1) := by decide +kernel
theorem dX8_setUp_106 : decode cX8_setUp 106 = .ok (.iload_n 3, 1) := by decide +kernel
theorem dX8_setUp_107 : decode cX8_setUp 107 = .ok (.isub, 1) := by decide +kernel
theorem dX8_setUp_108 : decode cX8_setUp 108 = .ok (.iastore, 1) := by decide +kernel
theorem dX8_setUp_109 : decode cX8_setUp 109 = .ok (.iload_n 3, 1) := by decide +kernel
theorem dX8_setUp_110 : decode cX8_setUp 110 = .ok (.ireturn, 1) := by decide +kernel
set_option maxRecDepth 20000 in
theorem ggX8_loseHints_X8_isCopy : GoodIn wsX8_loseHints wsX8_isCopy := goodIn_r _ [5, 6, 7, 4, 8] (by decide +kernel) (by decide +kernel)
set_option maxRecDepth 20000 in
theorem gX8_loseHints_X8_isCopy : GoodIn wsX8_loseHints (va_wsS RX8 97 yX8_isCopy wsX8_isCopy) := goodIn_app (goodIn_of _ (by decide +kernel)) ggX8_loseHints_X8_isCopy
set_option maxRecDepth 20000 in
theorem ggX8_loseHints_X8_can : GoodIn wsX8_loseHints wsX8_can := goodIn_r _ [12, 13, 14, 15, 16, 17, 18, 19, 20, 21, 22, 23, 24, 25, 26, 27, 28, 29, 30, 31, 32] (by decide +kernel) (by decide +kernel)
set_option maxRecDepth 20000 in
theorem gX8_loseHints_X8_can : GoodIn wsX8_loseHints (wsV RX8 79 RX8 yX8_can wsX8_can) := goodIn_app (goodIn_of _ (by decide +kernel)) ggX8_loseHints_X8_can
theorem dX8_loseHints_0 : decode cX8_loseHints 0 = .ok (.aload_n 0, 1) := by decide +kernel
theorem dX8_loseHints_1 : decode cX8_loseHints 1 = .ok (.iload_n 1, 1) := by decide +kernel
theorem dX8_loseHints_2 : decode cX8_loseHints 2 = .ok (.invokestatic 97, 3) := by decide +kernel
theorem dX8_loseHints_5 : decode cX8_loseHints 5 = .ok (.ifCond .eq 7, 3) := by decide +kernel
theorem dX8_loseHints_8 : decode cX8_loseHints 8 = .ok (.iconst 0, 1) := by decide +kernel
theorem dX8_loseHints_9 : decode cX8_loseHints 9 = .ok (.goto 4, 3) := by decide +kernel
theorem dX8_loseHints_12 : decode cX8_loseHints 12 = .ok (.iconst 1, 1) := by decide +kernel
theorem dX8_loseHints_13 : decode cX8_loseHints 13 = .ok (.invokevirtual 79, 3) := by decide +kernel
theorem dX8_loseHints_16 : decode cX8_loseHints 16 = .ok (.ifCond .ne 5, 3) := by decide +kernel
theorem dX8_loseHints_19 : decode cX8_loseHints 19 = .ok (.iconst 0, 1) := by decide +kernel
theorem dX8_loseHints_20 : decode cX8_loseHints 20 = .ok (.ireturn, 1) := by decide +kernel
theorem dX8_loseHints_21 : decode cX8_loseHints 21 = .ok (.aload_n 0, 1) := by decide +kernel
theorem dX8_loseHints_22 : decode cX8_loseHints 22 = .ok (.getfield 35, 3) := by decide +kernel
theorem dX8_loseHints_25 : decode cX8_loseHints 25 = .ok (.iload_n 1, 1) := by decide +kernel
theorem dX8_loseHints_26 : decode cX8_loseHints 26 = .ok (.iaload, 1) := by decide +kernel
theorem dX8_loseHints_27 : decode cX8_loseHints 27 = .ok (.istore_n 2, 1) := by decide +kernel
theorem dX8_loseHints_28 : decode cX8_loseHints 28 = .ok (.aload_n 0, 1) := by decide +kernel
theorem dX8_loseHints_29 : decode cX8_loseHints 29 = .ok (.getfield 35, 3) := by decide +kernel
theorem dX8_loseHints_32 : decode cX8_loseHints 32 = .ok (.iload_n 1, 1) := by decide +kernel
theorem dX8_loseHints_33 : decode cX8_loseHints 33 = .ok (.iconst 0, 1) := by decide +kernel
theorem dX8_loseHints_34 : decode cX8_loseHints 34 = .ok (.iastore, 1) := by decide +kernel
theorem dX8_loseHints_35 : decode cX8_loseHints 35 = .ok (.iload_n 2, 1) := by decide +kernel
theorem dX8_loseHints_36 : decode cX8_loseHints 36 = .ok (.ireturn, 1) := by decide +kernel
set_option maxRecDepth 20000 in
theorem ggX8_pass_X8_isIn : GoodIn wsX8_pass wsX8_isIn := goodIn_r _ [5] (by decide +kernel) (by decide +kernel)
set_option maxRecDepth 20000 in
theorem gX8_pass_X8_isIn : GoodIn wsX8_pass (va_wsS RX8 57 yX8_isIn wsX8_isIn) := goodIn_app (goodIn_of _ (by decide +kernel)) ggX8_pass_X8_isIn
set_option maxRecDepth 20000 in
theorem ggX8_pass_X8_can : GoodIn wsX8_pass wsX8_can := goodIn_r _ [9, 10, 11, 12, 13, 14, 15, 16, 17, 18, 19, 20, 21, 22, 23, 24, 25, 26, 27, 28, 29] (by decide +kernel) (by decide +kernel)
set_option maxRecDepth 20000 in
theorem gX8_pass_X8_can : GoodIn wsX8_pass (wsV RX8 79 RX8 yX8_can wsX8_can) := goodIn_app (goodIn_of _ (by decide +kernel)) ggX8_pass_X8_can
theorem dX8_pass_0 : decode cX8_pass 0 = .ok (.aload_n 0, 1) := by decide +kernel
theorem dX8_pass_1 : decode cX8_pass 1 = .ok (.iload_n 1, 1) := by decide +kernel
theorem dX8_pass_2 : decode cX8_pass 2 = .ok (.iconst 1, 1) := by decide +kernel
theorem dX8_pass_3 : decode cX8_pass 3 = .ok (.bipush 100, 2) := by decide +kernel
theorem dX8_pass_5 : decode cX8_pass 5 = .ok (.invokestatic 57, 3) := by decide +kernel
theorem dX8_pass_8 : decode cX8_pass 8 = .ok (.ifCond .ne 7, 3) := by decide +kernel
theorem dX8_pass_11 : decode cX8_pass 11 = .ok (.iconst 1, 1) := by decide +kernel
theorem dX8_pass_12 : decode cX8_pass 12 = .ok (.goto 20, 3) := by decide +kernel
theorem dX8_pass_15 : decode cX8_pass 15 = .ok (.aload_n 0, 1) := by decide +kernel
theorem dX8_pass_16 : decode cX8_pass 16 = .ok (.getfield 83, 3) := by decide +kernel
theorem dX8_pass_19 : decode cX8_pass 19 = .ok (.iload_n 1, 1) := by decide +kernel
theorem dX8_pass_20 : decode cX8_pass 20 = .ok (.iadd, 1) := by decide +kernel
theorem dX8_pass_21 : decode cX8_pass 21 = .ok (.sipush 10000, 3) := by decide +kernel
theorem dX8_pass_24 : decode cX8_pass 24 = .ok (.if_icmp .le 7, 3) := by decide +kernel
theorem dX8_pass_27 : decode cX8_pass 27 = .ok (.iconst 2, 1) := by decide +kernel
theorem dX8_pass_28 : decode cX8_pass 28 = .ok (.goto 4, 3) := by decide +kernel
theorem dX8_pass_31 : decode cX8_pass 31 = .ok (.iconst 0, 1) := by decide +kernel
theorem dX8_pass_32 : decode cX8_pass 32 = .ok (.invokevirtual 79, 3) := by decide +kernel
theorem dX8_pass_35 : decode cX8_pass 35 = .ok (.ifCond .ne 5, 3) := by decide +kernel
theorem dX8_pass_38 : decode cX8_pass 38 = .ok (.iconst 0, 1) := by decide +kernel
theorem dX8_pass_39 : decode cX8_pass 39 = .ok (.ireturn, 1) := by decide +kernel
theorem dX8_pass_40 : decode cX8_pass 40 = .ok (.aload_n 0, 1) := by decide +kernel
theorem dX8_pass_41 : decode cX8_pass 41 = .ok (.dup, 1) := by decide +kernel
theorem dX8_pass_42 : decode cX8_pass 42 = .ok (.getfield 83, 3) := by decide +kernel
theorem dX8_pass_45 : decode cX8_pass 45 = .ok (.iload_n 1, 1) := by decide +kernel
theorem dX8_pass_46 : decode cX8_pass 46 = .ok (.iadd, 1) := by decide +kernel
theorem dX8_pass_47 : decode cX8_pass 47 = .ok (.putfield 83, 3) := by decide +kernel
theorem dX8_pass_50 : decode cX8_pass 50 = .ok (.aload_n 0, 1) := by decide +kernel
theorem dX8_pass_51 : decode cX8_pass 51 = .ok (.getfield 83, 3) := by decide +kernel
theorem dX8_pass_54 : decode cX8_pass 54 = .ok (.ireturn, 1) := by decide +kernel
set_option maxRecDepth 20000 in
theorem ggX8_setGrace_X8_isIn : GoodIn wsX8_setGrace wsX8_isIn := goodIn_r _ [5] (by decide +kernel) (by decide +kernel)
set_option maxRecDepth 20000 in
theorem gX8_setGrace_X8_isIn : GoodIn wsX8_setGrace (va_wsS RX8 57 yX8_isIn wsX8_isIn) := goodIn_app (goodIn_of _ (by decide +kernel)) ggX8_setGrace_X8_isIn
set_option maxRecDepth 20000 in
theorem ggX8_setGrace_X8_can : GoodIn wsX8_setGrace wsX8_can := goodIn_r _ [9, 10, 11, 12, 13, 14, 15, 16, 17, 18, 19, 20, 21, 22, 23, 24, 25, 26, 27, 28, 29] (by decide +kernel) (by decide +kernel)
set_option maxRecDepth 20000 in
theorem gX8_setGrace_X8_can : GoodIn wsX8_setGrace (wsV RX8 79 RX8 yX8_can wsX8_can) := goodIn_app (goodIn_of _ (by decide +kernel)) ggX8_setGrace_X8_can
theorem dX8_setGrace_0 : decode cX8_setGrace 0 = .ok (.aload_n 0, 1) := by decide +kernel
theorem dX8_setGrace_1 : decode cX8_setGrace 1 = .ok (.iload_n 1, 1) := by decide +kernel
theorem dX8_setGrace_2 : decode cX8_setGrace 2 = .ok (.iconst 0, 1) := by decide +kernel
theorem dX8_setGrace_3 : decode cX8_setGrace 3 = .ok (.sipush 1000, 3) := by decide +kernel
theorem dX8_setGrace_6 : decode cX8_setGrace 6 = .ok (.invokestatic 57, 3) := by decide +kernel
theorem dX8_setGrace_9 : decode cX8_setGrace 9 = .ok (.ifCond .eq 7, 3) := by decide +kernel
theorem dX8_setGrace_12 : decode cX8_setGrace 12 = .ok (.iconst 0, 1) := by decide +kernel
theorem dX8_setGrace_13 : decode cX8_setGrace 13 = .ok (.goto 4, 3) := by decide +kernel
theorem dX8_setGrace_16 : decode cX8_setGrace 16 = .ok (.iconst 1, 1) := by decide +kernel
theorem dX8_setGrace_17 : decode cX8_setGrace 17 = .ok (.invokevirtual 79, 3) := by decide +kernel
theorem dX8_setGrace_20 : decode cX8_setGrace 20 = .ok (.ifCond .ne 5, 3) := by decide +kernel
theorem dX8_setGrace_23 : decode cX8_setGrace 23 = .ok (.iconst 0, 1) := by decide +kernel
theorem dX8_setGrace_24 : decode cX8_setGrace 24 = .ok (.ireturn, 1) := by decide +kernel
theorem dX8_setGrace_25 : decode cX8_setGrace 25 = .ok (.aload_n 0, 1) := by decide +kernel
theorem dX8_setGrace_26 : decode cX8_setGrace 26 = .ok (.getfield 50, 3) := by decide +kernel
theorem dX8_setGrace_29 : decode cX8_setGrace 29 = .ok (.istore_n 2, 1) := by decide +kernel
theorem dX8_setGrace_30 : decode cX8_setGrace 30 = .ok (.aload_n 0, 1) := by decide +kernel
theorem dX8_setGrace_31 : decode cX8_setGrace 31 = .ok (.iload_n 1, 1) := by decide +kernel
theorem dX8_setGrace_32 : decode cX8_setGrace 32 = .ok (.putfield 50, 3) := by decide +kernel
theorem dX8_setGrace_35 : decode cX8_setGrace 35 = .ok (.iload_n 2, 1) := by decide +kernel
theorem dX8_setGrace_36 : decode cX8_setGrace 36 = .ok (.ireturn, 1) := by decide +kernel
set_option maxRecDepth 20000 in
theorem ggX8_covers_X8_isIn : GoodIn wsX8_covers wsX8_isIn := goodIn_r _ [7] (by decide +kernel) (by decide +kernel)
set_option maxRecDepth 20000 in
theorem gX8_covers_X8_isIn : GoodIn wsX8_covers (va_wsS RX8 57 yX8_isIn wsX8_isIn) := goodIn_app (goodIn_of _ (by decide +kernel)) ggX8_covers_X8_isIn
theorem dX8_covers_0 : decode cX8_covers 0 = .ok (.iload_n 1, 1) := by decide +kernel
theorem dX8_covers_1 : decode cX8_covers 1 = .ok (.bipush 64, 2) := by decide +kernel
theorem dX8_covers_3 : decode cX8_covers 3 = .ok (.if_icmp .ge 18, 3) := by decide +kernel
theorem dX8_covers_6 : decode cX8_covers 6 = .ok (.iload_n 1, 1) := by decide +kernel
theorem dX8_covers_7 : decode cX8_covers 7 = .ok (.iconst 4, 1) := by decide +kernel
theorem dX8_covers_8 : decode cX8_covers 8 = .ok (.iload_n 2, 1) := by decide +kernel
theorem dX8_covers_9 : decode cX8_covers 9 = .ok (.imul, 1) := by decide +kernel
theorem dX8_covers_10 : decode cX8_covers 10 = .ok (.iload_n 3, 1) := by decide +kernel
theorem dX8_covers_11 : decode cX8_covers 11 = .ok (.iadd, 1) := by decide +kernel
theorem dX8_covers_12 : decode cX8_covers 12 = .ok (.if_icmp .ne 7, 3) := by decide +kernel
theorem dX8_covers_15 : decode cX8_covers 15 = .ok (.iconst 1, 1) := by decide +kernel
theorem dX8_covers_16 : decode cX8_covers 16 = .ok (.goto 4, 3) := by decide +kernel
theorem dX8_covers_19 : decode cX8_covers 19 = .ok (.iconst 0, 1) := by decide +kernel
theorem dX8_covers_20 : decode cX8_covers 20 = .ok (.ireturn, 1) := by decide +kernel
theorem dX8_covers_21 : decode cX8_covers 21 = .ok (.iload_n 1, 1) := by decide +kernel
theorem dX8_covers_22 : decode cX8_covers 22 = .ok (.bipush 68, 2) := by decide +kernel
theorem dX8_covers_24 : decode cX8_covers 24 = .ok (.if_icmp .ge 17, 3) := by decide +kernel
theorem dX8_covers_27 : decode cX8_covers 27 = .ok (.iload_n 1, 1) := by decide +kernel
theorem dX8_covers_28 : decode cX8_covers 28 = .ok (.bipush 64, 2) := by decide +kernel
theorem dX8_covers_30 : decode cX8_covers 30 = .ok (.iload_n 3, 1) := by decide +kernel
theorem dX8_covers_31 : decode cX8_covers 31 = .ok (.iadd, 1) := by decide +kernel
theorem dX8_covers_32 : decode cX8_covers 32 = .ok (.if_icmp .ne 7, 3) := by decide +kernel
theorem dX8_covers_35 : decode cX8_covers 35 = .ok (.iconst 1, 1) := by decide +kernel
theorem dX8_covers_36 : decode cX8_covers 36 = .ok (.goto 4, 3) := by decide +kernel
theorem dX8_covers_39 : decode cX8_covers 39 = .ok (.iconst 0, 1) := by decide +kernel
theorem dX8_covers_40 : decode cX8_covers 40 = .ok (.ireturn, 1) := by decide +kernel
theorem dX8_covers_41 : decode cX8_covers 41 = .ok (.iload_n 1, 1) := by decide +kernel
theorem dX8_covers_42 : decode cX8_covers 42 = .ok (.bipush 84, 2) := by decide +kernel
theorem dX8_covers_44 : decode cX8_covers 44 = .ok (.if_icmp .ge 17, 3) := by decide +kernel
theorem dX8_covers_47 : decode cX8_covers 47 = .ok (.iload_n 1, 1) := by decide +kernel
theorem dX8_covers_48 : decode cX8_covers 48 = .ok (.bipush 68, 2) := by decide +kernel
theorem dX8_covers_50 : decode cX8_covers 50 = .ok (.iload_n 2, 1) := by decide +kernel
theorem dX8_covers_51 : decode cX8_covers 51 = .ok (.iadd, 1) := by decide +kernel
theorem dX8_covers_52 : decode cX8_covers 52 = .ok (.if_icmp .ne 7, 3) := by decide +kernel
theorem dX8_covers_55 : decode cX8_covers 55 = .ok (.iconst 1, 1) := by decide +kernel
theorem dX8_covers_56 : decode cX8_covers 56 = .ok (.goto 4, 3) := by decide +kernel
theorem dX8_covers_59 : decode cX8_covers 59 = .ok (.iconst 0, 1) := by decide +kernel
theorem dX8_covers_60 : decode cX8_covers 60 = .ok (.ireturn, 1) := by decide +kernel
theorem dX8_covers_61 : decode cX8_covers 61 = .ok (.iload_n 1, 1) := by decide +kernel
theorem dX8_covers_62 : decode cX8_covers 62 = .ok (.bipush 84, 2) := by decide +kernel
theorem dX8_covers_64 : decode cX8_covers 64 = .ok (.isub, 1) := by decide +kernel
theorem dX8_covers_65 : decode cX8_covers 65 = .ok (.aload_n 0, 1) := by decide +kernel
theorem dX8_covers_66 : decode cX8_covers 66 = .ok (.getfield 94, 3) := by decide +kernel
theorem dX8_covers_69 : decode cX8_covers 69 = .ok (.if_icmp .ge 32, 3) := by decide +kernel
theorem dX8_covers_72 : decode cX8_covers 72 = .ok (.iload_n 2, 1) := by decide +kernel
theorem dX8_covers_73 : decode cX8_covers 73 = .ok (.aload_n 0, 1) := by decide +kernel
theorem dX8_covers_74 : decode cX8_covers 74 = .ok (.getfield 25, 3) := by decide +kernel
theorem dX8_covers_77 : decode cX8_covers 77 = .ok (.iload_n 1, 1) := by decide +kernel
theorem dX8_covers_78 : decode cX8_covers 78 = .ok (.bipush 84, 2) := by decide +kernel
theorem dX8_covers_80 : decode cX8_covers 80 = .ok (.isub, 1) := by decide +kernel
theorem dX8_covers_81 : decode cX8_covers 81 = .ok (.iaload, 1) := by decide +kernel
theorem dX8_covers_82 : decode cX8_covers 82 = .ok (.aload_n 0, 1) := by decide +kernel
theorem dX8_covers_83 : decode cX8_covers 83 = .ok (.getfield 28, 3) := by decide +kernel
theorem dX8_covers_86 : decode cX8_covers 86 = .ok (.iload_n 1, 1) := by decide +kernel
theorem dX8_covers_87 : decode cX8_covers 87 = .ok (.bipush 84, 2) := by decide +kernel
theorem dX8_covers_89 : decode cX8_covers 89 = .ok (.isub, 1) := by decide +kernel
theorem dX8_covers_90 : decode cX8_covers 90 = .ok (.iaload, 1) := by decide +kernel
theorem dX8_covers_91 : decode cX8_covers 91 = .ok (.invokestatic 57, 3) := by decide +kernel
theorem dX8_covers_94 : decode cX8_covers 94 = .ok (.ifCond .eq 7, 3) := by decide +kernel
theorem dX8_covers_97 : decode cX8_covers 97 = .ok (.iconst 1, 1) := by decide +kernel
theorem dX8_covers_98 : decode cX8_covers 98 = .ok (.goto 4, 3) := by decide +kernel
theorem dX8_covers_101 : decode cX8_covers 101 = .ok (.iconst 0, 1) := by decide +kernel
theorem dX8_covers_102 : decode cX8_covers 102 = .ok (.ireturn, 1) := by decide +kernel
set_option maxRecDepth 20000 in
theorem ggX8_touches_X8_covers : GoodIn wsX8_touches wsX8_covers := goodIn_r _ [5, 6, 7, 8, 9, 10, 4, 11, 12, 13, 14, 15, 16, 17, 18, 19, 20, 21, 22, 23, 24, 25, 26, 27, 28, 29, 30] (by decide +kernel) (by decide +kernel)
set_option maxRecDepth 20000 in
theorem gX8_touches_X8_covers : GoodIn wsX8_touches (wsV RX8 100 RX8 yX8_covers wsX8_covers) := goodIn_app (goodIn_of _ (by decide +kernel)) ggX8_touches_X8_covers
theorem dX8_touches_0 : decode cX8_touches 0 = .ok (.aload_n 0, 1) := by decide +kernel
theorem dX8_touches_1 : decode cX8_touches 1 = .ok (.iload_n 1, 1) := by decide +kernel
theorem dX8_touches_2 : decode cX8_touches 2 = .ok (.iload_n 2, 1) := by decide +kernel
theorem dX8_touches_3 : decode cX8_touches 3 = .ok (.iconst 0, 1) := by decide +kernel
theorem dX8_touches_4 : decode cX8_touches 4 = .ok (.invokevirtual 100, 3) := by decide +kernel
theorem dX8_touches_7 : decode cX8_touches 7 = .ok (.ifCond .ne 33, 3) := by decide +kernel
theorem dX8_touches_10 : decode cX8_touches 10 = .ok (.aload_n 0, 1) := by decide +kernel
theorem dX8_touches_11 : decode cX8_touches 11 = .ok (.iload_n 1, 1) := by decide +kernel
theorem dX8_touches_12 : decode cX8_touches 12 = .ok (.iload_n 2, 1) := by decide +kernel
theorem dX8_touches_13 : decode cX8_touches 13 = .ok (.iconst 1, 1) := by decide +kernel
theorem dX8_touches_14 : decode cX8_touches 14 = .ok (.invokevirtual 100, 3) := by decide +kernel
theorem dX8_touches_17 : decode cX8_touches 17 = .ok (.ifCond .ne 23, 3) := by decide +kernel
theorem dX8_touches_20 : decode cX8_touches 20 = .ok (.aload_n 0, 1) := by decide +kernel
theorem dX8_touches_21 : decode cX8_touches 21 = .ok (.iload_n 1, 1) := by decide +kernel
theorem dX8_touches_22 : decode cX8_touches 22 = .ok (.iload_n 2, 1) := by decide +kernel
theorem dX8_touches_23 : decode cX8_touches 23 = .ok (.iconst 2, 1) := by decide +kernel
theorem dX8_touches_24 : decode cX8_touches 24 = .ok (.invokevirtual 100, 3) := by decide +kernel
theorem dX8_touches_27 : decode cX8_touches 27 = .ok (.ifCond .ne 13, 3) := by decide +kernel
theorem dX8_touches_30 : decode cX8_touches 30 = .ok (.aload_n 0, 1) := by decide +kernel
theorem dX8_touches_31 : decode cX8_touches 31 = .ok (.iload_n 1, 1) := by decide +kernel
theorem dX8_touches_32 : decode cX8_touches 32 = .ok (.iload_n 2, 1) := by decide +kernel
theorem dX8_touches_33 : decode cX8_touches 33 = .ok (.iconst 3, 1) := by decide +kernel
theorem dX8_touches_34 : decode cX8_touches 34 = .ok (.invokevirtual 100, 3) := by decide +kernel
theorem dX8_touches_37 : decode cX8_touches 37 = .ok (.ifCond .eq 7, 3) := by decide +kernel
theorem dX8_touches_40 : decode cX8_touches 40 = .ok (.iconst 1, 1) := by decide +kernel
theorem dX8_touches_41 : decode cX8_touches 41 = .ok (.goto 4, 3) := by decide +kernel
theorem dX8_touches_44 : decode cX8_touches 44 = .ok (.iconst 0, 1) := by decide +kernel
theorem dX8_touches_45 : decode cX8_touches 45 = .ok (.ireturn, 1) := by decide +kernel
set_option maxRecDepth 20000 in
theorem ggX8_buried_X8_covers : GoodIn wsX8_buried wsX8_covers := goodIn_r _ [6, 7, 8, 9, 10, 11, 5, 12, 13, 14, 15, 16, 17, 18, 19, 20, 21, 22, 23, 24, 25, 26, 27, 28, 29, 30, 31] (by decide +kernel) (by decide +kernel)
set_option maxRecDepth 20000 in
theorem gX8_buried_X8_covers : GoodIn wsX8_buried (wsV RX8 100 RX8 yX8_covers wsX8_covers) := goodIn_app (goodIn_of _ (by decide +kernel)) ggX8_buried_X8_covers
theorem dX8_buried_0 : decode cX8_buried 0 = .ok (.iconst (-1), 1) := by decide +kernel
theorem dX8_buried_1 : decode cX8_buried 1 = .ok (.istore 4, 2) := by decide +kernel
theorem dX8_buried_3 : decode cX8_buried 3 = .ok (.iconst 0, 1) := by decide +kernel
theorem dX8_buried_4 : decode cX8_buried 4 = .ok (.istore 5, 2) := by decide +kernel
theorem dX8_buried_6 : decode cX8_buried 6 = .ok (.iload 5, 2) := by decide +kernel
theorem dX8_buried_8 : decode cX8_buried 8 = .ok (.bipush 92, 2) := by decide +kernel
theorem dX8_buried_10 : decode cX8_buried 10 = .ok (.if_icmp .ge 54, 3) := by decide +kernel
theorem dX8_buried_13 : decode cX8_buried 13 = .ok (.aload_n 0, 1) := by decide +kernel
theorem dX8_buried_14 : decode cX8_buried 14 = .ok (.iload 5, 2) := by decide +kernel
theorem dX8_buried_16 : decode cX8_buried 16 = .ok (.iload_n 2, 1) := by decide +kernel
theorem dX8_buried_17 : decode cX8_buried 17 = .ok (.iload_n 3, 1) := by decide +kernel
theorem dX8_buried_18 : decode cX8_buried 18 = .ok (.invokevirtual 100, 3) := by decide +kernel
theorem dX8_buried_21 : decode cX8_buried 21 = .ok (.ifCond .eq 18, 3) := by decide +kernel
theorem dX8_buried_24 : decode cX8_buried 24 = .ok (.aload_n 0, 1) := by decide +kernel
theorem dX8_buried_25 : decode cX8_buried 25 = .ok (.getfield 19, 3) := by decide +kernel
theorem dX8_buried_28 : decode cX8_buried 28 = .ok (.bipush 92, 2) := by decide +kernel
theorem dX8_buried_30 : decode cX8_buried 30 = .ok (.iload_n 1, 1) := by decide +kernel
theorem dX8_buried_31 : decode cX8_buried 31 = .ok (.imul, 1) := by decide +kernel
theorem dX8_buried_32 : decode cX8_buried 32 = .ok (.iload 5, 2) := by decide +kernel
theorem dX8_buried_34 : decode cX8_buried 34 = .ok (.iadd, 1) := by decide +kernel
theorem dX8_buried_35 : decode cX8_buried 35 = .ok (.iaload, 1) := by decide +kernel
theorem dX8_buried_36 : decode cX8_buried 36 = .ok (.goto 4, 3) := by decide +kernel
theorem dX8_buried_39 : decode cX8_buried 39 = .ok (.iconst (-1), 1) := by decide +kernel
theorem dX8_buried_40 : decode cX8_buried 40 = .ok (.istore 6, 2) := by decide +kernel
theorem dX8_buried_42 : decode cX8_buried 42 = .ok (.iload 6, 2) := by decide +kernel
theorem dX8_buried_44 : decode cX8_buried 44 = .ok (.iload 4, 2) := by decide +kernel
theorem dX8_buried_46 : decode cX8_buried 46 = .ok (.if_icmp .le 8, 3) := by decide +kernel
theorem dX8_buried_49 : decode cX8_buried 49 = .ok (.iload 6, 2) := by decide +kernel
theorem dX8_buried_51 : decode cX8_buried 51 = .ok (.goto 5, 3) := by decide +kernel
theorem dX8_buried_54 : decode cX8_buried 54 = .ok (.iload 4, 2) := by decide +kernel
theorem dX8_buried_56 : decode cX8_buried 56 = .ok (.istore 4, 2) := by decide +kernel
theorem dX8_buried_58 : decode cX8_buried 58 = .ok (.iinc 5 1, 3) := by decide +kernel
theorem dX8_buried_61 : decode cX8_buried 61 = .ok (.goto (-55), 3) := by decide +kernel
theorem dX8_buried_64 : decode cX8_buried 64 = .ok (.iload 4, 2) := by decide +kernel
theorem dX8_buried_66 : decode cX8_buried 66 = .ok (.ireturn, 1) := by decide +kernel
set_option maxRecDepth 20000 in
theorem ggX8_seen_X8_buried : GoodIn wsX8_seen wsX8_buried := goodIn_r _ [9, 10, 11, 12, 13, 8, 14, 15, 16, 17, 18, 19, 20, 21, 22, 23, 24, 25, 26, 27, 28, 29, 30, 31, 32, 33, 34, 35, 36, 37, 38, 39] (by decide +kernel) (by decide +kernel)
set_option maxRecDepth 20000 in
theorem gX8_seen_X8_buried : GoodIn wsX8_seen (wsV RX8 103 RX8 yX8_buried wsX8_buried) := goodIn_app (goodIn_of _ (by decide +kernel)) ggX8_seen_X8_buried
theorem dX8_seen_0 : decode cX8_seen 0 = .ok (.bipush 64, 2) := by decide +kernel
theorem dX8_seen_2 : decode cX8_seen 2 = .ok (.iload_n 1, 1) := by decide +kernel
theorem dX8_seen_3 : decode cX8_seen 3 = .ok (.imul, 1) := by decide +kernel
theorem dX8_seen_4 : decode cX8_seen 4 = .ok (.iconst 4, 1) := by decide +kernel
theorem dX8_seen_5 : decode cX8_seen 5 = .ok (.iload_n 2, 1) := by decide +kernel
theorem dX8_seen_6 : decode cX8_seen 6 = .ok (.imul, 1) := by decide +kernel
theorem dX8_seen_7 : decode cX8_seen 7 = .ok (.iadd, 1) := by decide +kernel
theorem dX8_seen_8 : decode cX8_seen 8 = .ok (.iload_n 3, 1) := by decide +kernel
theorem dX8_seen_9 : decode cX8_seen 9 = .ok (.iadd, 1) := by decide +kernel
theorem dX8_seen_10 : decode cX8_seen 10 = .ok (.istore 4, 2) := by decide +kernel
theorem dX8_seen_12 : decode cX8_seen 12 = .ok (.aload_n 0, 1) := by decide +kernel
theorem dX8_seen_13 : decode cX8_seen 13 = .ok (.getfield 7, 3) := by decide +kernel
theorem dX8_seen_16 : decode cX8_seen 16 = .ok (.iload 4, 2) := by decide +kernel
theorem dX8_seen_18 : decode cX8_seen 18 = .ok (.iaload, 1) := by decide +kernel
theorem dX8_seen_19 : decode cX8_seen 19 = .ok (.aload_n 0, 1) := by decide +kernel
theorem dX8_seen_20 : decode cX8_seen 20 = .ok (.iload_n 1, 1) := by decide +kernel
theorem dX8_seen_21 : decode cX8_seen 21 = .ok (.iload_n 2, 1) := by decide +kernel
theorem dX8_seen_22 : decode cX8_seen 22 = .ok (.iload_n 3, 1) := by decide +kernel
theorem dX8_seen_23 : decode cX8_seen 23 = .ok (.invokevirtual 103, 3) := by decide +kernel
theorem dX8_seen_26 : decode cX8_seen 26 = .ok (.if_icmp .le 32, 3) := by decide +kernel
theorem dX8_seen_29 : decode cX8_seen 29 = .ok (.aload_n 0, 1) := by decide +kernel
theorem dX8_seen_30 : decode cX8_seen 30 = .ok (.getfield 16, 3) := by decide +kernel
theorem dX8_seen_33 : decode cX8_seen 33 = .ok (.iload 4, 2) := by decide +kernel
theorem dX8_seen_35 : decode cX8_seen 35 = .ok (.iaload, 1) := by decide +kernel
theorem dX8_seen_36 : decode cX8_seen 36 = .ok (.iconst (-1), 1) := by decide +kernel
theorem dX8_seen_37 : decode cX8_seen 37 = .ok (.if_icmp .eq 17, 3) := by decide +kernel
theorem dX8_seen_40 : decode cX8_seen 40 = .ok (.aload_n 0, 1) := by decide +kernel
theorem dX8_seen_41 : decode cX8_seen 41 = .ok (.getfield 16, 3) := by decide +kernel
theorem dX8_seen_44 : decode cX8_seen 44 = .ok (.iload 4, 2) := by decide +kernel
theorem dX8_seen_46 : decode cX8_seen 46 = .ok (.iaload, 1) := by decide +kernel
theorem dX8_seen_47 : decode cX8_seen 47 = .ok (.aload_n 0, 1) := by decide +kernel
theorem dX8_seen_48 : decode cX8_seen 48 = .ok (.getfield 83, 3) := by decide +kernel
theorem dX8_seen_51 : decode cX8_seen 51 = .ok (.if_icmp .le 7, 3) := by decide +kernel
theorem dX8_seen_54 : decode cX8_seen 54 = .ok (.iconst 1, 1) := by decide +kernel
theorem dX8_seen_55 : decode cX8_seen 55 = .ok (.goto 4, 3) := by decide +kernel
theorem dX8_seen_58 : decode cX8_seen 58 = .ok (.iconst 0, 1) := by decide +kernel
theorem dX8_seen_59 : decode cX8_seen 59 = .ok (.istore 5, 2) := by decide +kernel
theorem dX8_seen_61 : decode cX8_seen 61 = .ok (.iload 5, 2) := by decide +kernel
theorem dX8_seen_63 : decode cX8_seen 63 = .ok (.ifCond .eq 13, 3) := by decide +kernel
theorem dX8_seen_66 : decode cX8_seen 66 = .ok (.aload_n 0, 1) := by decide +kernel
theorem dX8_seen_67 : decode cX8_seen 67 = .ok (.getfield 13, 3) := by decide +kernel
theorem dX8_seen_70 : decode cX8_seen 70 = .ok (.iload 4, 2) := by decide +kernel
theorem dX8_seen_72 : decode cX8_seen 72 = .ok (.iaload, 1) := by decide +kernel
theorem dX8_seen_73 : decode cX8_seen 73 = .ok (.goto 4, 3) := by decide +kernel
theorem dX8_seen_76 : decode cX8_seen 76 = .ok (.iconst (-1), 1) := by decide +kernel
theorem dX8_seen_77 : decode cX8_seen 77 = .ok (.ireturn, 1) := by decide +kernel
theorem dX8_areSameEntries_0 : decode cX8_areSameEntries 0 = .ok (.bipush 64, 2) := by decide +kernel
theorem dX8_areSameEntries_2 : decode cX8_areSameEntries 2 = .ok (.iload_n 1, 1) := by decide +kernel
theorem dX8_areSameEntries_3 : decode cX8_areSameEntries 3 = .ok (.imul, 1) := by decide +kernel
theorem dX8_areSameEntries_4 : decode cX8_areSameEntries 4 = .ok (.iload_n 3, 1) := by decide +kernel
theorem dX8_areSameEntries_5 : decode cX8_areSameEntries 5 = .ok (.iadd, 1) := by decide +kernel
theorem dX8_areSameEntries_6 : decode cX8_areSameEntries 6 = .ok (.istore 4, 2) := by decide +kernel
theorem dX8_areSameEntries_8 : decode cX8_areSameEntries 8 = .ok (.bipush 64, 2) := by decide +kernel
theorem dX8_areSameEntries_10 : decode cX8_areSameEntries 10 = .ok (.iload_n 2, 1) := by decide +kernel
theorem dX8_areSameEntries_11 : decode cX8_areSameEntries 11 = .ok (.imul, 1) := by decide +kernel
theorem dX8_areSameEntries_12 : decode cX8_areSameEntries 12 = .ok (.iload_n 3, 1) := by decide +kernel
theorem dX8_areSameEntries_13 : decode cX8_areSameEntries 13 = .ok (.iadd, 1) := by decide +kernel
theorem dX8_areSameEntries_14 : decode cX8_areSameEntries 14 = .ok (.istore 5, 2) := by decide +kernel
theorem dX8_areSameEntries_16 : decode cX8_areSameEntries 16 = .ok (.aload_n 0, 1) := by decide +kernel
theorem dX8_areSameEntries_17 : decode cX8_areSameEntries 17 = .ok (.getfield 7, 3) := by decide +kernel
theorem dX8_areSameEntries_20 : decode cX8_areSameEntries 20 = .ok (.iload 4, 2) := by decide +kernel
theorem dX8_areSameEntries_22 : decode cX8_areSameEntries 22 = .ok (.iaload, 1) := by decide +kernel
theorem dX8_areSameEntries_23 : decode cX8_areSameEntries 23 = .ok (.aload_n 0, 1) := by decide +kernel
theorem dX8_areSameEntries_24 : decode cX8_areSameEntries 24 = .ok (.getfield 7, 3) := by decide +kernel
theorem dX8_areSameEntries_27 : decode cX8_areSameEntries 27 = .ok (.iload 5, 2) := by decide +kernel
theorem dX8_areSameEntries_29 : decode cX8_areSameEntries 29 = .ok (.iaload, 1) := by decide +kernel
theorem dX8_areSameEntries_30 : decode cX8_areSameEntries 30 = .ok (.if_icmp .ne 52, 3) := by decide +kernel
theorem dX8_areSameEntries_33 : decode cX8_areSameEntries 33 = .ok (.aload_n 0, 1) := by decide +kernel
theorem dX8_areSameEntries_34 : decode cX8_areSameEntries 34 = .ok (.getfield 7, 3) := by decide +kernel
theorem dX8_areSameEntries_37 : decode cX8_areSameEntries 37 = .ok (.iload 4, 2) := by decide +kernel
theorem dX8_areSameEntries_39 : decode cX8_areSameEntries 39 = .ok (.iaload, 1) := by decide +kernel
theorem dX8_areSameEntries_40 : decode cX8_areSameEntries 40 = .ok (.iconst (-1), 1) := by decide +kernel
theorem dX8_areSameEntries_41 : decode cX8_areSameEntries 41 = .ok (.if_icmp .eq 37, 3) := by decide +kernel
theorem dX8_areSameEntries_44 : decode cX8_areSameEntries 44 = .ok (.aload_n 0, 1) := by decide +kernel
theorem dX8_areSameEntries_45 : decode cX8_areSameEntries 45 = .ok (.getfield 13, 3) := by decide +kernel
theorem dX8_areSameEntries_48 : decode cX8_areSameEntries 48 = .ok (.iload 4, 2) := by decide +kernel
theorem dX8_areSameEntries_50 : decode cX8_areSameEntries 50 = .ok (.iaload, 1) := by decide +kernel
theorem dX8_areSameEntries_51 : decode cX8_areSameEntries 51 = .ok (.aload_n 0, 1) := by decide +kernel
theorem dX8_areSameEntries_52 : decode cX8_areSameEntries 52 = .ok (.getfield 13, 3) := by decide +kernel
theorem dX8_areSameEntries_55 : decode cX8_areSameEntries 55 = .ok (.iload 5, 2) := by decide +kernel
theorem dX8_areSameEntries_57 : decode cX8_areSameEntries 57 = .ok (.iaload, 1) := by decide +kernel
theorem dX8_areSameEntries_58 : decode cX8_areSameEntries 58 = .ok (.if_icmp .ne 24, 3) := by decide +kernel
theorem dX8_areSameEntries_61 : decode cX8_areSameEntries 61 = .ok (.aload_n 0, 1) := by decide +kernel
theorem dX8_areSameEntries_62 : decode cX8_areSameEntries 62 = .ok (.getfield 16, 3) := by decide +kernel
theorem dX8_areSameEntries_65 : decode cX8_areSameEntries 65 = .ok (.iload 4, 2) := by decide +kernel
theorem dX8_areSameEntries_67 : decode cX8_areSameEntries 67 = .ok (.iaload, 1) := by decide +kernel
theorem dX8_areSameEntries_68 : decode cX8_areSameEntries 68 = .ok (.aload_n 0, 1) := by decide +kernel
theorem dX8_areSameEntries_69 : decode cX8_areSameEntries 69 = .ok (.getfield 16, 3) := by decide +kernel
theorem dX8_areSameEntries_72 : decode cX8_areSameEntries 72 = .ok (.iload 5, 2) := by decide +kernel
theorem dX8_areSameEntries_74 : decode cX8_areSameEntries 74 = .ok (.iaload, 1) := by decide +kernel
theorem dX8_areSameEntries_75 : decode cX8_areSameEntries 75 = .ok (.if_icmp .ne 7, 3) := by decide +kernel
theorem dX8_areSameEntries_78 : decode cX8_areSameEntries 78 = .ok (.iconst 1, 1) := by decide +kernel
theorem dX8_areSameEntries_79 : decode cX8_areSameEntries 79 = .ok (.goto 4, 3) := by decide +kernel
theorem dX8_areSameEntries_82 : decode cX8_areSameEntries 82 = .ok (.iconst 0, 1) := by decide +kernel
theorem dX8_areSameEntries_83 : decode cX8_areSameEntries 83 = .ok (.ireturn, 1) := by decide +kernel
theorem dX8_areSameTombs_0 : decode cX8_areSameTombs 0 = .ok (.bipush 92, 2) := by decide +kernel
theorem dX8_areSameTombs_2 : decode cX8_areSameTombs 2 = .ok (.iload_n 1, 1) := by decide +kernel
theorem dX8_areSameTombs_3 : decode cX8_areSameTombs 3 = .ok (.imul, 1) := by decide +kernel
theorem dX8_areSameTombs_4 : decode cX8_areSameTombs 4 = .ok (.iload_n 3, 1) := by decide +kernel
theorem dX8_areSameTombs_5 : decode cX8_areSameTombs 5 = .ok (.iadd, 1) := by decide +kernel
theorem dX8_areSameTombs_6 : decode cX8_areSameTombs 6 = .ok (.istore 4, 2) := by decide +kernel
theorem dX8_areSameTombs_8 : decode cX8_areSameTombs 8 = .ok (.bipush 92, 2) := by decide +kernel
theorem dX8_areSameTombs_10 : decode cX8_areSameTombs 10 = .ok (.iload_n 2, 1) := by decide +kernel
theorem dX8_areSameTombs_11 : decode cX8_areSameTombs 11 = .ok (.imul, 1) := by decide +kernel
theorem dX8_areSameTombs_12 : decode cX8_areSameTombs 12 = .ok (.iload_n 3, 1) := by decide +kernel
theorem dX8_areSameTombs_13 : decode cX8_areSameTombs 13 = .ok (.iadd, 1) := by decide +kernel
theorem dX8_areSameTombs_14 : decode cX8_areSameTombs 14 = .ok (.istore 5, 2) := by decide +kernel
theorem dX8_areSameTombs_16 : decode cX8_areSameTombs 16 = .ok (.aload_n 0, 1) := by decide +kernel
theorem dX8_areSameTombs_17 : decode cX8_areSameTombs 17 = .ok (.getfield 19, 3) := by decide +kernel
theorem dX8_areSameTombs_20 : decode cX8_areSameTombs 20 = .ok (.iload 4, 2) := by decide +kernel
theorem dX8_areSameTombs_22 : decode cX8_areSameTombs 22 = .ok (.iaload, 1) := by decide +kernel
theorem dX8_areSameTombs_23 : decode cX8_areSameTombs 23 = .ok (.aload_n 0, 1) := by decide +kernel
theorem dX8_areSameTombs_24 : decode cX8_areSameTombs 24 = .ok (.getfield 19, 3) := by decide +kernel
theorem dX8_areSameTombs_27 : decode cX8_areSameTombs 27 = .ok (.iload 5, 2) := by decide +kernel
theorem dX8_areSameTombs_29 : decode cX8_areSameTombs 29 = .ok (.iaload, 1) := by decide +kernel
theorem dX8_areSameTombs_30 : decode cX8_areSameTombs 30 = .ok (.if_icmp .ne 35, 3) := by decide +kernel
theorem dX8_areSameTombs_33 : decode cX8_areSameTombs 33 = .ok (.aload_n 0, 1) := by decide +kernel
theorem dX8_areSameTombs_34 : decode cX8_areSameTombs 34 = .ok (.getfield 19, 3) := by decide +kernel
theorem dX8_areSameTombs_37 : decode cX8_areSameTombs 37 = .ok (.iload 4, 2) := by decide +kernel
theorem dX8_areSameTombs_39 : decode cX8_areSameTombs 39 = .ok (.iaload, 1) := by decide +kernel
theorem dX8_areSameTombs_40 : decode cX8_areSameTombs 40 = .ok (.iconst (-1), 1) := by decide +kernel
theorem dX8_areSameTombs_41 : decode cX8_areSameTombs 41 = .ok (.if_icmp .eq 20, 3) := by decide +kernel
theorem dX8_areSameTombs_44 : decode cX8_areSameTombs 44 = .ok (.aload_n 0, 1) := by decide +kernel
theorem dX8_areSameTombs_45 : decode cX8_areSameTombs 45 = .ok (.getfield 22, 3) := by decide +kernel
theorem dX8_areSameTombs_48 : decode cX8_areSameTombs 48 = .ok (.iload 4, 2) := by decide +kernel
theorem dX8_areSameTombs_50 : decode cX8_areSameTombs 50 = .ok (.iaload, 1) := by decide +kernel
theorem dX8_areSameTombs_51 : decode cX8_areSameTombs 51 = .ok (.aload_n 0, 1) := by decide +kernel
theorem dX8_areSameTombs_52 : decode cX8_areSameTombs 52 = .ok (.getfield 22, 3) := by decide +kernel
theorem dX8_areSameTombs_55 : decode cX8_areSameTombs 55 = .ok (.iload 5, 2) := by decide +kernel
theorem dX8_areSameTombs_57 : decode cX8_areSameTombs 57 = .ok (.iaload, 1) := by decide +kernel
theorem dX8_areSameTombs_58 : decode cX8_areSameTombs 58 = .ok (.if_icmp .ne 7, 3) := by decide +kernel
theorem dX8_areSameTombs_61 : decode cX8_areSameTombs 61 = .ok (.iconst 1, 1) := by decide +kernel
theorem dX8_areSameTombs_62 : decode cX8_areSameTombs 62 = .ok (.goto 4, 3) := by decide +kernel
theorem dX8_areSameTombs_65 : decode cX8_areSameTombs 65 = .ok (.iconst 0, 1) := by decide +kernel
theorem dX8_areSameTombs_66 : decode cX8_areSameTombs 66 = .ok (.ireturn, 1) := by decide +kernel
set_option maxRecDepth 20000 in
theorem ggX8_gives_X8_takeEntry : GoodIn wsX8_gives wsX8_takeEntry := goodIn_r _ [8, 1, 2, 3, 9, 10, 7, 11, 12, 13, 14, 15, 16, 17, 18, 19, 20, 21, 22, 23, 24, 25, 26, 27, 28, 29, 30] (by decide +kernel) (by decide +kernel)
set_option maxRecDepth 20000 in
theorem gX8_gives_X8_takeEntry : GoodIn wsX8_gives (wsV RX8 65 RX8 yX8_takeEntry wsX8_takeEntry) := goodIn_app (goodIn_of _ (by decide +kernel)) ggX8_gives_X8_takeEntry
theorem dX8_gives_0 : decode cX8_gives 0 = .ok (.bipush 64, 2) := by decide +kernel
theorem dX8_gives_2 : decode cX8_gives 2 = .ok (.iload_n 1, 1) := by decide +kernel
theorem dX8_gives_3 : decode cX8_gives 3 = .ok (.imul, 1) := by decide +kernel
theorem dX8_gives_4 : decode cX8_gives 4 = .ok (.iload_n 3, 1) := by decide +kernel
theorem dX8_gives_5 : decode cX8_gives 5 = .ok (.iadd, 1) := by decide +kernel
theorem dX8_gives_6 : decode cX8_gives 6 = .ok (.istore 4, 2) := by decide +kernel
theorem dX8_gives_8 : decode cX8_gives 8 = .ok (.aload_n 0, 1) := by decide +kernel
theorem dX8_gives_9 : decode cX8_gives 9 = .ok (.getfield 7, 3) := by decide +kernel
theorem dX8_gives_12 : decode cX8_gives 12 = .ok (.iload 4, 2) := by decide +kernel
theorem dX8_gives_14 : decode cX8_gives 14 = .ok (.iaload, 1) := by decide +kernel
theorem dX8_gives_15 : decode cX8_gives 15 = .ok (.iconst (-1), 1) := by decide +kernel
theorem dX8_gives_16 : decode cX8_gives 16 = .ok (.if_icmp .eq 30, 3) := by decide +kernel
theorem dX8_gives_19 : decode cX8_gives 19 = .ok (.aload_n 0, 1) := by decide +kernel
theorem dX8_gives_20 : decode cX8_gives 20 = .ok (.iload_n 2, 1) := by decide +kernel
theorem dX8_gives_21 : decode cX8_gives 21 = .ok (.iload_n 3, 1) := by decide +kernel
theorem dX8_gives_22 : decode cX8_gives 22 = .ok (.aload_n 0, 1) := by decide +kernel
theorem dX8_gives_23 : decode cX8_gives 23 = .ok (.getfield 7, 3) := by decide +kernel
theorem dX8_gives_26 : decode cX8_gives 26 = .ok (.iload 4, 2) := by decide +kernel
theorem dX8_gives_28 : decode cX8_gives 28 = .ok (.iaload, 1) := by decide +kernel
theorem dX8_gives_29 : decode cX8_gives 29 = .ok (.aload_n 0, 1) := by decide +kernel
theorem dX8_gives_30 : decode cX8_gives 30 = .ok (.getfield 13, 3) := by decide +kernel
theorem dX8_gives_33 : decode cX8_gives 33 = .ok (.iload 4, 2) := by decide +kernel
theorem dX8_gives_35 : decode cX8_gives 35 = .ok (.iaload, 1) := by decide +kernel
theorem dX8_gives_36 : decode cX8_gives 36 = .ok (.aload_n 0, 1) := by decide +kernel
theorem dX8_gives_37 : decode cX8_gives 37 = .ok (.getfield 16, 3) := by decide +kernel
theorem dX8_gives_40 : decode cX8_gives 40 = .ok (.iload 4, 2) := by decide +kernel
theorem dX8_gives_42 : decode cX8_gives 42 = .ok (.iaload, 1) := by decide +kernel
theorem dX8_gives_43 : decode cX8_gives 43 = .ok (.invokevirtual 65, 3) := by decide +kernel
theorem dX8_gives_46 : decode cX8_gives 46 = .ok (.return_, 1) := by decide +kernel
set_option maxRecDepth 20000 in
theorem ggX8_givesTomb_X8_takeTomb : GoodIn wsX8_givesTomb wsX8_takeTomb := goodIn_r _ [7, 1, 2, 8, 9, 10, 11, 12, 13, 14, 15, 16, 17, 18, 19, 20, 21, 22, 23, 24, 25, 26] (by decide +kernel) (by decide +kernel)
set_option maxRecDepth 20000 in
theorem gX8_givesTomb_X8_takeTomb : GoodIn wsX8_givesTomb (wsV RX8 69 RX8 yX8_takeTomb wsX8_takeTomb) := goodIn_app (goodIn_of _ (by decide +kernel)) ggX8_givesTomb_X8_takeTomb
theorem dX8_givesTomb_0 : decode cX8_givesTomb 0 = .ok (.bipush 92, 2) := by decide +kernel
theorem dX8_givesTomb_2 : decode cX8_givesTomb 2 = .ok (.iload_n 1, 1) := by decide +kernel
theorem dX8_givesTomb_3 : decode cX8_givesTomb 3 = .ok (.imul, 1) := by decide +kernel
theorem dX8_givesTomb_4 : decode cX8_givesTomb 4 = .ok (.iload_n 3, 1) := by decide +kernel
theorem dX8_givesTomb_5 : decode cX8_givesTomb 5 = .ok (.iadd, 1) := by decide +kernel
theorem dX8_givesTomb_6 : decode cX8_givesTomb 6 = .ok (.istore 4, 2) := by decide +kernel
theorem dX8_givesTomb_8 : decode cX8_givesTomb 8 = .ok (.aload_n 0, 1) := by decide +kernel
theorem dX8_givesTomb_9 : decode cX8_givesTomb 9 = .ok (.getfield 19, 3) := by decide +kernel
theorem dX8_givesTomb_12 : decode cX8_givesTomb 12 = .ok (.iload 4, 2) := by decide +kernel
theorem dX8_givesTomb_14 : decode cX8_givesTomb 14 = .ok (.iaload, 1) := by decide +kernel
theorem dX8_givesTomb_15 : decode cX8_givesTomb 15 = .ok (.iconst (-1), 1) := by decide +kernel
theorem dX8_givesTomb_16 : decode cX8_givesTomb 16 = .ok (.if_icmp .eq 23, 3) := by decide +kernel
theorem dX8_givesTomb_19 : decode cX8_givesTomb 19 = .ok (.aload_n 0, 1) := by decide +kernel
theorem dX8_givesTomb_20 : decode cX8_givesTomb 20 = .ok (.iload_n 2, 1) := by decide +kernel
theorem dX8_givesTomb_21 : decode cX8_givesTomb 21 = .ok (.iload_n 3, 1) := by decide +kernel
theorem dX8_givesTomb_22 : decode cX8_givesTomb 22 = .ok (.aload_n 0, 1) := by decide +kernel
theorem dX8_givesTomb_23 : decode cX8_givesTomb 23 = .ok (.getfield 19, 3) := by decide +kernel
theorem dX8_givesTomb_26 : decode cX8_givesTomb 26 = .ok (.iload 4, 2) := by decide +kernel
theorem dX8_givesTomb_28 : decode cX8_givesTomb 28 = .ok (.iaload, 1) := by decide +kernel
theorem dX8_givesTomb_29 : decode cX8_givesTomb 29 = .ok (.aload_n 0, 1) := by decide +kernel
theorem dX8_givesTomb_30 : decode cX8_givesTomb 30 = .ok (.getfield 22, 3) := by decide +kernel
theorem dX8_givesTomb_33 : decode cX8_givesTomb 33 = .ok (.iload 4, 2) := by decide +kernel
theorem dX8_givesTomb_35 : decode cX8_givesTomb 35 = .ok (.iaload, 1) := by decide +kernel
theorem dX8_givesTomb_36 : decode cX8_givesTomb 36 = .ok (.invokevirtual 69, 3) := by decide +kernel
theorem dX8_givesTomb_39 : decode cX8_givesTomb 39 = .ok (.return_, 1) := by decide +kernel
set_option maxRecDepth 20000 in
theorem ggX8_read_X8_isCopy : GoodIn wsX8_read wsX8_isCopy := goodIn_r _ [6, 7, 8, 5, 9] (by decide +kernel) (by decide +kernel)
set_option maxRecDepth 20000 in
theorem gX8_read_X8_isCopy : GoodIn wsX8_read (va_wsS RX8 97 yX8_isCopy wsX8_isCopy) := goodIn_app (goodIn_of _ (by decide +kernel)) ggX8_read_X8_isCopy
set_option maxRecDepth 20000 in
theorem ggX8_read_X8_isCell : GoodIn wsX8_read wsX8_isCell := goodIn_r _ [12, 7, 8, 5, 9] (by decide +kernel) (by decide +kernel)
set_option maxRecDepth 20000 in
theorem gX8_read_X8_isCell : GoodIn wsX8_read (va_wsS RX8 76 yX8_isCell wsX8_isCell) := goodIn_app (goodIn_of _ (by decide +kernel)) ggX8_read_X8_isCell
set_option maxRecDepth 20000 in
theorem ggX8_read_X8_can : GoodIn wsX8_read wsX8_can := goodIn_r _ [16, 17, 66, 67, 68, 69, 70, 71, 72, 73, 74, 75, 76, 77, 78, 79, 80, 81, 82, 83, 84] (by decide +kernel) (by decide +kernel)
set_option maxRecDepth 20000 in
theorem gX8_read_X8_can : GoodIn wsX8_read (wsV RX8 79 RX8 yX8_can wsX8_can) := goodIn_app (goodIn_of _ (by decide +kernel)) ggX8_read_X8_can
set_option maxRecDepth 20000 in
theorem ggX8_read_X8_areSameEntries : GoodIn wsX8_read wsX8_areSameEntries := goodIn_r _ [21, 22, 23, 24, 66, 67, 68, 69, 70, 71, 72, 73, 74, 75, 76, 77, 78, 79, 80, 81, 82, 83, 84] (by decide +kernel) (by decide +kernel)
set_option maxRecDepth 20000 in
theorem gX8_read_X8_areSameEntries : GoodIn wsX8_read (wsV RX8 107 RX8 yX8_areSameEntries wsX8_areSameEntries) := goodIn_app (goodIn_of _ (by decide +kernel)) ggX8_read_X8_areSameEntries
set_option maxRecDepth 20000 in
theorem ggX8_read_X8_gives : GoodIn wsX8_read wsX8_gives := goodIn_r _ [28, 22, 23, 24, 29, 30, 31, 5, 32, 33, 34, 35, 66, 67, 68, 69, 70, 71, 72, 73, 74, 75, 76, 77, 78, 79, 80, 81, 82, 83, 84] (by decide +kernel) (by decide +kernel)
set_option maxRecDepth 20000 in
theorem gX8_read_X8_gives : GoodIn wsX8_read (wsV RX8 110 RX8 yX8_gives wsX8_gives) := goodIn_app (goodIn_of _ (by decide +kernel)) ggX8_read_X8_gives
set_option maxRecDepth 20000 in
theorem ggX8_read_X8_covers : GoodIn wsX8_read wsX8_covers := goodIn_r _ [39, 40, 41, 42, 7, 8, 5, 9, 66, 67, 68, 69, 70, 71, 72, 73, 74, 75, 76, 77, 78, 79, 80, 81, 82, 83, 84] (by decide +kernel) (by decide +kernel)
set_option maxRecDepth 20000 in
theorem gX8_read_X8_covers : GoodIn wsX8_read (wsV RX8 100 RX8 yX8_covers wsX8_covers) := goodIn_app (goodIn_of _ (by decide +kernel)) ggX8_read_X8_covers
set_option maxRecDepth 20000 in
theorem ggX8_read_X8_areSameTombs : GoodIn wsX8_read wsX8_areSameTombs := goodIn_r _ [46, 47, 48, 66, 67, 68, 69, 70, 71, 72, 73, 74, 75, 76, 77, 78, 79, 80, 81, 82, 83, 84] (by decide +kernel) (by decide +kernel)
set_option maxRecDepth 20000 in
theorem gX8_read_X8_areSameTombs : GoodIn wsX8_read (wsV RX8 114 RX8 yX8_areSameTombs wsX8_areSameTombs) := goodIn_app (goodIn_of _ (by decide +kernel)) ggX8_read_X8_areSameTombs
set_option maxRecDepth 20000 in
theorem ggX8_read_X8_givesTomb : GoodIn wsX8_read wsX8_givesTomb := goodIn_r _ [52, 47, 48, 53, 54, 55, 5, 56, 66, 67, 68, 69, 70, 71, 72, 73, 74, 75, 76, 77, 78, 79, 80, 81, 82, 83, 84] (by decide +kernel) (by decide +kernel)
set_option maxRecDepth 20000 in
theorem gX8_read_X8_givesTomb : GoodIn wsX8_read (wsV RX8 117 RX8 yX8_givesTomb wsX8_givesTomb) := goodIn_app (goodIn_of _ (by decide +kernel)) ggX8_read_X8_givesTomb
set_option maxRecDepth 20000 in
theorem ggX8_read_X8_seen : GoodIn wsX8_read wsX8_seen := goodIn_r _ [60, 22, 24, 61, 23, 62, 63, 64, 5, 65, 47, 36, 37, 38, 39, 40, 41, 42, 7, 8, 9, 66, 67, 68, 69, 70, 71, 72, 73, 74, 75, 76, 77, 78, 79, 80, 81, 82, 83, 84] (by decide +kernel) (by decide +kernel)
set_option maxRecDepth 20000 in
theorem gX8_read_X8_seen : GoodIn wsX8_read (wsV RX8 123 RX8 yX8_seen wsX8_seen) := goodIn_app (goodIn_of _ (by decide +kernel)) ggX8_read_X8_seen
theorem dX8_read_0 : decode cX8_read 0 = .ok (.iload_n 1, 1) := by decide +kernel
theorem dX8_read_1 : decode cX8_read 1 = .ok (.invokestatic 97, 3) := by decide +kernel
theorem dX8_read_4 : decode cX8_read 4 = .ok (.ifCond .eq 23, 3) := by decide +kernel
theorem dX8_read_7 : decode cX8_read 7 = .ok (.iload_n 2, 1) := by decide +kernel
theorem dX8_read_8 : decode cX8_read 8 = .ok (.invokestatic 97, 3) := by decide +kernel
theorem dX8_read_11 : decode cX8_read 11 = .ok (.ifCond .eq 16, 3) := by decide +kernel
theorem dX8_read_14 : decode cX8_read 14 = .ok (.iload_n 3, 1) := by decide +kernel
theorem dX8_read_15 : decode cX8_read 15 = .ok (.iload 4, 2) := by decide +kernel
theorem dX8_read_17 : decode cX8_read 17 = .ok (.invokestatic 76, 3) := by decide +kernel
theorem dX8_read_20 : decode cX8_read 20 = .ok (.ifCond .eq 7, 3) := by decide +kernel
theorem dX8_read_23 : decode cX8_read 23 = .ok (.iconst 1, 1) := by decide +kernel
theorem dX8_read_24 : decode cX8_read 24 = .ok (.goto 4, 3) := by decide +kernel
theorem dX8_read_27 : decode cX8_read 27 = .ok (.iconst 0, 1) := by decide +kernel
theorem dX8_read_28 : decode cX8_read 28 = .ok (.istore 5, 2) := by decide +kernel
theorem dX8_read_30 : decode cX8_read 30 = .ok (.aload_n 0, 1) := by decide +kernel
theorem dX8_read_31 : decode cX8_read 31 = .ok (.iload 5, 2) := by decide +kernel
theorem dX8_read_33 : decode cX8_read 33 = .ok (.ifCond .ne 7, 3) := by decide +kernel
theorem dX8_read_36 : decode cX8_read 36 = .ok (.iconst 1, 1) := by decide +kernel
theorem dX8_read_37 : decode cX8_read 37 = .ok (.goto 35, 3) := by decide +kernel
theorem dX8_read_40 : decode cX8_read 40 = .ok (.iload_n 1, 1) := by decide +kernel
theorem dX8_read_41 : decode cX8_read 41 = .ok (.iload_n 2, 1) := by decide +kernel
theorem dX8_read_42 : decode cX8_read 42 = .ok (.if_icmp .ne 7, 3) := by decide +kernel
theorem dX8_read_45 : decode cX8_read 45 = .ok (.iconst 2, 1) := by decide +kernel
theorem dX8_read_46 : decode cX8_read 46 = .ok (.goto 26, 3) := by decide +kernel
theorem dX8_read_49 : decode cX8_read 49 = .ok (.aload_n 0, 1) := by decide +kernel
theorem dX8_read_50 : decode cX8_read 50 = .ok (.getfield 31, 3) := by decide +kernel
theorem dX8_read_53 : decode cX8_read 53 = .ok (.iload_n 1, 1) := by decide +kernel
theorem dX8_read_54 : decode cX8_read 54 = .ok (.baload, 1) := by decide +kernel
theorem dX8_read_55 : decode cX8_read 55 = .ok (.ifCond .eq 16, 3) := by decide +kernel
theorem dX8_read_58 : decode cX8_read 58 = .ok (.aload_n 0, 1) := by decide +kernel
theorem dX8_read_59 : decode cX8_read 59 = .ok (.getfield 31, 3) := by decide +kernel
theorem dX8_read_62 : decode cX8_read 62 = .ok (.iload_n 2, 1) := by decide +kernel
theorem dX8_read_63 : decode cX8_read 63 = .ok (.baload, 1) := by decide +kernel
theorem dX8_read_64 : decode cX8_read 64 = .ok (.ifCond .eq 7, 3) := by decide +kernel
theorem dX8_read_67 : decode cX8_read 67 = .ok (.iconst 0, 1) := by decide +kernel
theorem dX8_read_68 : decode cX8_read 68 = .ok (.goto 4, 3) := by decide +kernel
theorem dX8_read_71 : decode cX8_read 71 = .ok (.iconst 3, 1) := by decide +kernel
theorem dX8_read_72 : decode cX8_read 72 = .ok (.invokevirtual 79, 3) := by decide +kernel
theorem dX8_read_75 : decode cX8_read 75 = .ok (.ifCond .ne 5, 3) := by decide +kernel
theorem dX8_read_78 : decode cX8_read 78 = .ok (.iconst 0, 1) := by decide +kernel
theorem dX8_read_79 : decode cX8_read 79 = .ok (.ireturn, 1) := by decide +kernel
theorem dX8_read_80 : decode cX8_read 80 = .ok (.iconst 4, 1) := by decide +kernel
theorem dX8_read_81 : decode cX8_read 81 = .ok (.iload_n 3, 1) := by decide +kernel
theorem dX8_read_82 : decode cX8_read 82 = .ok (.imul, 1) := by decide +kernel
theorem dX8_read_83 : decode cX8_read 83 = .ok (.iload 4, 2) := by decide +kernel
theorem dX8_read_85 : decode cX8_read 85 = .ok (.iadd, 1) := by decide +kernel
theorem dX8_read_86 : decode cX8_read 86 = .ok (.istore 6, 2) := by decide +kernel
theorem dX8_read_88 : decode cX8_read 88 = .ok (.aload_n 0, 1) := by decide +kernel
theorem dX8_read_89 : decode cX8_read 89 = .ok (.iload_n 1, 1) := by decide +kernel
theorem dX8_read_90 : decode cX8_read 90 = .ok (.iload_n 2, 1) := by decide +kernel
theorem dX8_read_91 : decode cX8_read 91 = .ok (.iload 6, 2) := by decide +kernel
theorem dX8_read_93 : decode cX8_read 93 = .ok (.invokevirtual 107, 3) := by decide +kernel
theorem dX8_read_96 : decode cX8_read 96 = .ok (.istore 7, 2) := by decide +kernel
theorem dX8_read_98 : decode cX8_read 98 = .ok (.aload_n 0, 1) := by decide +kernel
theorem dX8_read_99 : decode cX8_read 99 = .ok (.iload_n 1, 1) := by decide +kernel
theorem dX8_read_100 : decode cX8_read 100 = .ok (.iload_n 2, 1) := by decide +kernel
theorem dX8_read_101 : decode cX8_read 101 = .ok (.iload 6, 2) := by decide +kernel
theorem dX8_read_103 : decode cX8_read 103 = .ok (.invokevirtual 110, 3) := by decide +kernel
theorem dX8_read_106 : decode cX8_read 106 = .ok (.aload_n 0, 1) := by decide +kernel
theorem dX8_read_107 : decode cX8_read 107 = .ok (.iload_n 2, 1) := by decide +kernel
theorem dX8_read_108 : decode cX8_read 108 = .ok (.iload_n 1, 1) := by decide +kernel
theorem dX8_read_109 : decode cX8_read 109 = .ok (.iload 6, 2) := by decide +kernel
theorem dX8_read_111 : decode cX8_read 111 = .ok (.invokevirtual 110, 3) := by decide +kernel
theorem dX8_read_114 : decode cX8_read 114 = .ok (.iconst 0, 1) := by decide +kernel
theorem dX8_read_115 : decode cX8_read 115 = .ok (.istore 8, 2) := by decide +kernel
theorem dX8_read_117 : decode cX8_read 117 = .ok (.iload 8, 2) := by decide +kernel
theorem dX8_read_119 : decode cX8_read 119 = .ok (.bipush 92, 2) := by decide +kernel
theorem dX8_read_121 : decode cX8_read 121 = .ok (.if_icmp .ge 60, 3) := by decide +kernel
theorem dX8_read_124 : decode cX8_read 124 = .ok (.aload_n 0, 1) := by decide +kernel
theorem dX8_read_125 : decode cX8_read 125 = .ok (.iload 8, 2) := by decide +kernel
theorem dX8_read_127 : decode cX8_read 127 = .ok (.iload_n 3, 1) := by decide +kernel
theorem dX8_read_128 : decode cX8_read 128 = .ok (.iload 4, 2) := by decide +kernel
theorem dX8_read_130 : decode cX8_read 130 = .ok (.invokevirtual 100, 3) := by decide +kernel
theorem dX8_read_133 : decode cX8_read 133 = .ok (.ifCond .eq 42, 3) := by decide +kernel
theorem dX8_read_136 : decode cX8_read 136 = .ok (.iload 7, 2) := by decide +kernel
theorem dX8_read_138 : decode cX8_read 138 = .ok (.ifCond .eq 18, 3) := by decide +kernel
theorem dX8_read_141 : decode cX8_read 141 = .ok (.aload_n 0, 1) := by decide +kernel
theorem dX8_read_142 : decode cX8_read 142 = .ok (.iload_n 1, 1) := by decide +kernel
theorem dX8_read_143 : decode cX8_read 143 = .ok (.iload_n 2, 1) := by decide +kernel
theorem dX8_read_144 : decode cX8_read 144 = .ok (.iload 8, 2) := by decide +kernel
theorem dX8_read_146 : decode cX8_read 146 = .ok (.invokevirtual 114, 3) := by decide +kernel
theorem dX8_read_149 : decode cX8_read 149 = .ok (.ifCond .eq 7, 3) := by decide +kernel
theorem dX8_read_152 : decode cX8_read 152 = .ok (.iconst 1, 1) := by decide +kernel
theorem dX8_read_153 : decode cX8_read 153 = .ok (.goto 4, 3) := by decide +kernel
theorem dX8_read_156 : decode cX8_read 156 = .ok (.iconst 0, 1) := by decide +kernel
theorem dX8_read_157 : decode cX8_read 157 = .ok (.istore 7, 2) := by decide +kernel
theorem dX8_read_159 : decode cX8_read 159 = .ok (.aload_n 0, 1) := by decide +kernel
theorem dX8_read_160 : decode cX8_read 160 = .ok (.iload_n 1, 1) := by decide +kernel
theorem dX8_read_161 : decode cX8_read 161 = .ok (.iload_n 2, 1) := by decide +kernel
