theorem dX5_entryPart_0 : decode cX5_entryPart 0 = .ok (.aload_n 0, 1) := by decide +kernel
theorem dX5_entryPart_1 : decode cX5_entryPart 1 = .ok (.getfield 9, 3) := by decide +kernel
theorem dX5_entryPart_4 : decode cX5_entryPart 4 = .ok (.iload_n 1, 1) := by decide +kernel
theorem dX5_entryPart_5 : decode cX5_entryPart 5 = .ok (.iaload, 1) := by decide +kernel
theorem dX5_entryPart_6 : decode cX5_entryPart 6 = .ok (.iconst (-1), 1) := by decide +kernel
theorem dX5_entryPart_7 : decode cX5_entryPart 7 = .ok (.if_icmp .ne 5, 3) := by decide +kernel
theorem dX5_entryPart_10 : decode cX5_entryPart 10 = .ok (.iconst 0, 1) := by decide +kernel
theorem dX5_entryPart_11 : decode cX5_entryPart 11 = .ok (.ireturn, 1) := by decide +kernel
theorem dX5_entryPart_12 : decode cX5_entryPart 12 = .ok (.aload_n 0, 1) := by decide +kernel
theorem dX5_entryPart_13 : decode cX5_entryPart 13 = .ok (.getfield 18, 3) := by decide +kernel
theorem dX5_entryPart_16 : decode cX5_entryPart 16 = .ok (.iload_n 1, 1) := by decide +kernel
theorem dX5_entryPart_17 : decode cX5_entryPart 17 = .ok (.iaload, 1) := by decide +kernel
theorem dX5_entryPart_18 : decode cX5_entryPart 18 = .ok (.iconst (-1), 1) := by decide +kernel
theorem dX5_entryPart_19 : decode cX5_entryPart 19 = .ok (.if_icmp .ne 9, 3) := by decide +kernel
theorem dX5_entryPart_22 : decode cX5_entryPart 22 = .ok (.sipush 20000, 3) := by decide +kernel
theorem dX5_entryPart_25 : decode cX5_entryPart 25 = .ok (.goto 9, 3) := by decide +kernel
theorem dX5_entryPart_28 : decode cX5_entryPart 28 = .ok (.aload_n 0, 1) := by decide +kernel
theorem dX5_entryPart_29 : decode cX5_entryPart 29 = .ok (.getfield 18, 3) := by decide +kernel
theorem dX5_entryPart_32 : decode cX5_entryPart 32 = .ok (.iload_n 1, 1) := by decide +kernel
theorem dX5_entryPart_33 : decode cX5_entryPart 33 = .ok (.iaload, 1) := by decide +kernel
theorem dX5_entryPart_34 : decode cX5_entryPart 34 = .ok (.istore_n 3, 1) := by decide +kernel
theorem dX5_entryPart_35 : decode cX5_entryPart 35 = .ok (.bipush 31, 2) := by decide +kernel
theorem dX5_entryPart_37 : decode cX5_entryPart 37 = .ok (.aload_n 0, 1) := by decide +kernel
theorem dX5_entryPart_38 : decode cX5_entryPart 38 = .ok (.getfield 9, 3) := by decide +kernel
theorem dX5_entryPart_41 : decode cX5_entryPart 41 = .ok (.iload_n 1, 1) := by decide +kernel
theorem dX5_entryPart_42 : decode cX5_entryPart 42 = .ok (.iaload, 1) := by decide +kernel
theorem dX5_entryPart_43 : decode cX5_entryPart 43 = .ok (.imul, 1) := by decide +kernel
theorem dX5_entryPart_44 : decode cX5_entryPart 44 = .ok (.bipush 7, 2) := by decide +kernel
theorem dX5_entryPart_46 : decode cX5_entryPart 46 = .ok (.aload_n 0, 1) := by decide +kernel
theorem dX5_entryPart_47 : decode cX5_entryPart 47 = .ok (.getfield 15, 3) := by decide +kernel
theorem dX5_entryPart_50 : decode cX5_entryPart 50 = .ok (.iload_n 1, 1) := by decide +kernel
theorem dX5_entryPart_51 : decode cX5_entryPart 51 = .ok (.iaload, 1) := by decide +kernel
theorem dX5_entryPart_52 : decode cX5_entryPart 52 = .ok (.imul, 1) := by decide +kernel
theorem dX5_entryPart_53 : decode cX5_entryPart 53 = .ok (.iadd, 1) := by decide +kernel
theorem dX5_entryPart_54 : decode cX5_entryPart 54 = .ok (.iload_n 3, 1) := by decide +kernel
theorem dX5_entryPart_55 : decode cX5_entryPart 55 = .ok (.iadd, 1) := by decide +kernel
theorem dX5_entryPart_56 : decode cX5_entryPart 56 = .ok (.iload_n 2, 1) := by decide +kernel
theorem dX5_entryPart_57 : decode cX5_entryPart 57 = .ok (.iadd, 1) := by decide +kernel
theorem dX5_entryPart_58 : decode cX5_entryPart 58 = .ok (.iconst 1, 1) := by decide +kernel
theorem dX5_entryPart_59 : decode cX5_entryPart 59 = .ok (.iadd, 1) := by decide +kernel
theorem dX5_entryPart_60 : decode cX5_entryPart 60 = .ok (.ireturn, 1) := by decide +kernel
theorem dX5_tombstonePart_0 : decode cX5_tombstonePart 0 = .ok (.aload_n 0, 1) := by decide +kernel
theorem dX5_tombstonePart_1 : decode cX5_tombstonePart 1 = .ok (.getfield 21, 3) := by decide +kernel
theorem dX5_tombstonePart_4 : decode cX5_tombstonePart 4 = .ok (.iload_n 1, 1) := by decide +kernel
theorem dX5_tombstonePart_5 : decode cX5_tombstonePart 5 = .ok (.iaload, 1) := by decide +kernel
theorem dX5_tombstonePart_6 : decode cX5_tombstonePart 6 = .ok (.iconst (-1), 1) := by decide +kernel
theorem dX5_tombstonePart_7 : decode cX5_tombstonePart 7 = .ok (.if_icmp .ne 7, 3) := by decide +kernel
theorem dX5_tombstonePart_10 : decode cX5_tombstonePart 10 = .ok (.iconst 0, 1) := by decide +kernel
theorem dX5_tombstonePart_11 : decode cX5_tombstonePart 11 = .ok (.goto 23, 3) := by decide +kernel
theorem dX5_tombstonePart_14 : decode cX5_tombstonePart 14 = .ok (.bipush 13, 2) := by decide +kernel
theorem dX5_tombstonePart_16 : decode cX5_tombstonePart 16 = .ok (.aload_n 0, 1) := by decide +kernel
theorem dX5_tombstonePart_17 : decode cX5_tombstonePart 17 = .ok (.getfield 21, 3) := by decide +kernel
theorem dX5_tombstonePart_20 : decode cX5_tombstonePart 20 = .ok (.iload_n 1, 1) := by decide +kernel
theorem dX5_tombstonePart_21 : decode cX5_tombstonePart 21 = .ok (.iaload, 1) := by decide +kernel
theorem dX5_tombstonePart_22 : decode cX5_tombstonePart 22 = .ok (.imul, 1) := by decide +kernel
theorem dX5_tombstonePart_23 : decode cX5_tombstonePart 23 = .ok (.iconst 5, 1) := by decide +kernel
theorem dX5_tombstonePart_24 : decode cX5_tombstonePart 24 = .ok (.aload_n 0, 1) := by decide +kernel
theorem dX5_tombstonePart_25 : decode cX5_tombstonePart 25 = .ok (.getfield 24, 3) := by decide +kernel
theorem dX5_tombstonePart_28 : decode cX5_tombstonePart 28 = .ok (.iload_n 1, 1) := by decide +kernel
theorem dX5_tombstonePart_29 : decode cX5_tombstonePart 29 = .ok (.iaload, 1) := by decide +kernel
theorem dX5_tombstonePart_30 : decode cX5_tombstonePart 30 = .ok (.imul, 1) := by decide +kernel
theorem dX5_tombstonePart_31 : decode cX5_tombstonePart 31 = .ok (.iadd, 1) := by decide +kernel
theorem dX5_tombstonePart_32 : decode cX5_tombstonePart 32 = .ok (.iload_n 2, 1) := by decide +kernel
theorem dX5_tombstonePart_33 : decode cX5_tombstonePart 33 = .ok (.iadd, 1) := by decide +kernel
theorem dX5_tombstonePart_34 : decode cX5_tombstonePart 34 = .ok (.ireturn, 1) := by decide +kernel
set_option maxRecDepth 20000 in
theorem ggX6_init_X0_init : GoodIn wsX6_init wsX0_init := goodIn_r _ [6, 7, 8, 9] (by decide +kernel) (by decide +kernel)
set_option maxRecDepth 20000 in
theorem gX6_init_X0_init_n1 : GoodIn wsX6_init (wsX0_init) := ggX6_init_X0_init
theorem dX6_init_0 : decode cX6_init 0 = .ok (.aload_n 0, 1) := by decide +kernel
theorem dX6_init_1 : decode cX6_init 1 = .ok (.invokespecial 1, 3) := by decide +kernel
theorem dX6_init_4 : decode cX6_init 4 = .ok (.aload_n 0, 1) := by decide +kernel
theorem dX6_init_5 : decode cX6_init 5 = .ok (.iload_n 1, 1) := by decide +kernel
theorem dX6_init_6 : decode cX6_init 6 = .ok (.putfield 7, 3) := by decide +kernel
theorem dX6_init_9 : decode cX6_init 9 = .ok (.aload_n 0, 1) := by decide +kernel
theorem dX6_init_10 : decode cX6_init 10 = .ok (.iload_n 2, 1) := by decide +kernel
theorem dX6_init_11 : decode cX6_init 11 = .ok (.putfield 13, 3) := by decide +kernel
theorem dX6_init_14 : decode cX6_init 14 = .ok (.aload_n 0, 1) := by decide +kernel
theorem dX6_init_15 : decode cX6_init 15 = .ok (.iload_n 3, 1) := by decide +kernel
theorem dX6_init_16 : decode cX6_init 16 = .ok (.putfield 16, 3) := by decide +kernel
theorem dX6_init_19 : decode cX6_init 19 = .ok (.return_, 1) := by decide +kernel
set_option maxRecDepth 20000 in
theorem ggX6_goTo_X5_takeTombstone : GoodIn wsX6_goTo wsX5_takeTombstone := goodIn_r _ [8, 9, 10, 11, 12, 13, 7, 14, 18, 19, 20, 21, 22, 23] (by decide +kernel) (by decide +kernel)
set_option maxRecDepth 20000 in
theorem gX6_goTo_X5_takeTombstone : GoodIn wsX6_goTo (wsV RX6 19 RX5 yX5_takeTombstone wsX5_takeTombstone) := goodIn_app (goodIn_of _ (by decide +kernel)) ggX6_goTo_X5_takeTombstone
theorem dX6_goTo_0 : decode cX6_goTo 0 = .ok (.aload_n 1, 1) := by decide +kernel
theorem dX6_goTo_1 : decode cX6_goTo 1 = .ok (.aload_n 0, 1) := by decide +kernel
theorem dX6_goTo_2 : decode cX6_goTo 2 = .ok (.getfield 7, 3) := by decide +kernel
theorem dX6_goTo_5 : decode cX6_goTo 5 = .ok (.aload_n 0, 1) := by decide +kernel
theorem dX6_goTo_6 : decode cX6_goTo 6 = .ok (.getfield 13, 3) := by decide +kernel
theorem dX6_goTo_9 : decode cX6_goTo 9 = .ok (.aload_n 0, 1) := by decide +kernel
theorem dX6_goTo_10 : decode cX6_goTo 10 = .ok (.getfield 16, 3) := by decide +kernel
theorem dX6_goTo_13 : decode cX6_goTo 13 = .ok (.invokevirtual 19, 3) := by decide +kernel
theorem dX6_goTo_16 : decode cX6_goTo 16 = .ok (.return_, 1) := by decide +kernel
set_option maxRecDepth 20000 in
theorem ggX7_init_X4_init : GoodIn wsX7_init wsX4_init := goodIn_r _ [25, 26, 2, 3, 27, 28, 29, 30, 31, 32, 33, 77, 78] (by decide +kernel) (by decide +kernel)
set_option maxRecDepth 20000 in
theorem gX7_init_X4_init : GoodIn wsX7_init (wsX4_init) := ggX7_init_X4_init
set_option maxRecDepth 20000 in
theorem ggX7_init_X5_init : GoodIn wsX7_init wsX5_init := goodIn_r _ [36, 37, 2, 3, 27, 38, 39, 40, 41, 42, 43, 44, 31, 32, 33, 86, 87, 88, 89, 90, 91] (by decide +kernel) (by decide +kernel)
set_option maxRecDepth 20000 in
theorem gX7_init_X5_init : GoodIn wsX7_init (wsX5_init) := ggX7_init_X5_init
set_option maxRecDepth 20000 in
theorem ggX7_init_X3_init : GoodIn wsX7_init wsX3_init := goodIn_r _ [47, 48, 2, 3, 49, 50, 51, 52, 53, 54, 55, 56, 57, 58, 59, 60, 61, 62, 63, 64, 65, 66, 67, 68, 69, 98, 99, 100, 92, 93, 94] (by decide +kernel) (by decide +kernel)
set_option maxRecDepth 20000 in
theorem gX7_init_X3_init : GoodIn wsX7_init (wsX3_init) := ggX7_init_X3_init
set_option maxRecDepth 20000 in
theorem ggX7_init_X1_init : GoodIn wsX7_init wsX1_init := goodIn_r _ [71, 72, 2, 3, 27, 73, 74, 75, 76, 95, 96, 97] (by decide +kernel) (by decide +kernel)
set_option maxRecDepth 20000 in
theorem gX7_init_X1_init_n36 : GoodIn wsX7_init (wsX1_init) := ggX7_init_X1_init
theorem dX7_init_0 : decode cX7_init 0 = .ok (.aload_n 0, 1) := by decide +kernel
theorem dX7_init_1 : decode cX7_init 1 = .ok (.invokespecial 3, 3) := by decide +kernel
theorem dX7_init_4 : decode cX7_init 4 = .ok (.aload_n 0, 1) := by decide +kernel
theorem dX7_init_5 : decode cX7_init 5 = .ok (.new 9, 3) := by decide +kernel
theorem dX7_init_8 : decode cX7_init 8 = .ok (.dup, 1) := by decide +kernel
theorem dX7_init_9 : decode cX7_init 9 = .ok (.invokespecial 11, 3) := by decide +kernel
theorem dX7_init_12 : decode cX7_init 12 = .ok (.putfield 12, 3) := by decide +kernel
theorem dX7_init_15 : decode cX7_init 15 = .ok (.aload_n 0, 1) := by decide +kernel
theorem dX7_init_16 : decode cX7_init 16 = .ok (.new 16, 3) := by decide +kernel
theorem dX7_init_19 : decode cX7_init 19 = .ok (.dup, 1) := by decide +kernel
theorem dX7_init_20 : decode cX7_init 20 = .ok (.aload_n 0, 1) := by decide +kernel
theorem dX7_init_21 : decode cX7_init 21 = .ok (.getfield 12, 3) := by decide +kernel
theorem dX7_init_24 : decode cX7_init 24 = .ok (.invokespecial 18, 3) := by decide +kernel
theorem dX7_init_27 : decode cX7_init 27 = .ok (.putfield 21, 3) := by decide +kernel
theorem dX7_init_30 : decode cX7_init 30 = .ok (.aload_n 0, 1) := by decide +kernel
theorem dX7_init_31 : decode cX7_init 31 = .ok (.iconst 3, 1) := by decide +kernel
theorem dX7_init_32 : decode cX7_init 32 = .ok (.anewarray 25, 3) := by decide +kernel
theorem dX7_init_35 : decode cX7_init 35 = .ok (.putfield 27, 3) := by decide +kernel
theorem dX7_init_38 : decode cX7_init 38 = .ok (.iconst 0, 1) := by decide +kernel
theorem dX7_init_39 : decode cX7_init 39 = .ok (.istore_n 1, 1) := by decide +kernel
theorem dX7_init_40 : decode cX7_init 40 = .ok (.iload_n 1, 1) := by decide +kernel
theorem dX7_init_41 : decode cX7_init 41 = .ok (.iconst 3, 1) := by decide +kernel
theorem dX7_init_42 : decode cX7_init 42 = .ok (.if_icmp .ge 33, 3) := by decide +kernel
theorem dX7_init_45 : decode cX7_init 45 = .ok (.aload_n 0, 1) := by decide +kernel
theorem dX7_init_46 : decode cX7_init 46 = .ok (.getfield 27, 3) := by decide +kernel
theorem dX7_init_49 : decode cX7_init 49 = .ok (.iload_n 1, 1) := by decide +kernel
theorem dX7_init_50 : decode cX7_init 50 = .ok (.new 25, 3) := by decide +kernel
theorem dX7_init_53 : decode cX7_init 53 = .ok (.dup, 1) := by decide +kernel
theorem dX7_init_54 : decode cX7_init 54 = .ok (.new 16, 3) := by decide +kernel
theorem dX7_init_57 : decode cX7_init 57 = .ok (.dup, 1) := by decide +kernel
theorem dX7_init_58 : decode cX7_init 58 = .ok (.aload_n 0, 1) := by decide +kernel
theorem dX7_init_59 : decode cX7_init 59 = .ok (.getfield 12, 3) := by decide +kernel
theorem dX7_init_62 : decode cX7_init 62 = .ok (.invokespecial 18, 3) := by decide +kernel
theorem dX7_init_65 : decode cX7_init 65 = .ok (.invokespecial 31, 3) := by decide +kernel
theorem dX7_init_68 : decode cX7_init 68 = .ok (.aastore, 1) := by decide +kernel
theorem dX7_init_69 : decode cX7_init 69 = .ok (.iinc 1 1, 3) := by decide +kernel
theorem dX7_init_72 : decode cX7_init 72 = .ok (.goto (-32), 3) := by decide +kernel
theorem dX7_init_75 : decode cX7_init 75 = .ok (.aload_n 0, 1) := by decide +kernel
theorem dX7_init_76 : decode cX7_init 76 = .ok (.new 34, 3) := by decide +kernel
theorem dX7_init_79 : decode cX7_init 79 = .ok (.dup, 1) := by decide +kernel
theorem dX7_init_80 : decode cX7_init 80 = .ok (.invokespecial 36, 3) := by decide +kernel
theorem dX7_init_83 : decode cX7_init 83 = .ok (.putfield 37, 3) := by decide +kernel
theorem dX7_init_86 : decode cX7_init 86 = .ok (.aload_n 0, 1) := by decide +kernel
theorem dX7_init_87 : decode cX7_init 87 = .ok (.iconst 0, 1) := by decide +kernel
theorem dX7_init_88 : decode cX7_init 88 = .ok (.putfield 41, 3) := by decide +kernel
theorem dX7_init_91 : decode cX7_init 91 = .ok (.aload_n 0, 1) := by decide +kernel
theorem dX7_init_92 : decode cX7_init 92 = .ok (.bipush 10, 2) := by decide +kernel
theorem dX7_init_94 : decode cX7_init 94 = .ok (.putfield 45, 3) := by decide +kernel
theorem dX7_init_97 : decode cX7_init 97 = .ok (.aload_n 0, 1) := by decide +kernel
theorem dX7_init_98 : decode cX7_init 98 = .ok (.iconst 0, 1) := by decide +kernel
theorem dX7_init_99 : decode cX7_init 99 = .ok (.putfield 48, 3) := by decide +kernel
theorem dX7_init_102 : decode cX7_init 102 = .ok (.return_, 1) := by decide +kernel
set_option maxRecDepth 20000 in
theorem ggX7_write_X7_requireRow : GoodIn wsX7_write wsX7_requireRow := goodIn_ca (goodIn_r _ [8, 9, 10, 7, 11, 12, 13, 14, 15, 16] (by decide +kernel) (by decide +kernel)) (goodIn_sub (fun _ h => List.mem_cons_of_mem _ (List.mem_append_left _ (List.mem_append_right _ h))) (by decide +kernel))
set_option maxRecDepth 20000 in
theorem gX7_write_X7_requireRow : GoodIn wsX7_write (va_wsS RX7 51 yX7_requireRow wsX7_requireRow) := goodIn_app (goodIn_of _ (by decide +kernel)) ggX7_write_X7_requireRow
set_option maxRecDepth 20000 in
theorem ggX7_write_X7_requireColumn : GoodIn wsX7_write wsX7_requireColumn := goodIn_ca (goodIn_r _ [19, 9, 10, 7, 11, 12, 13, 14, 15, 16] (by decide +kernel) (by decide +kernel)) (goodIn_sub (fun _ h => List.mem_cons_of_mem _ (List.mem_append_left _ (List.mem_append_right _ h))) (by decide +kernel))
set_option maxRecDepth 20000 in
theorem gX7_write_X7_requireColumn : GoodIn wsX7_write (va_wsS RX7 55 yX7_requireColumn wsX7_requireColumn) := goodIn_app (goodIn_of _ (by decide +kernel)) ggX7_write_X7_requireColumn
set_option maxRecDepth 20000 in
theorem ggX7_write_X7_isWithin : GoodIn wsX7_write wsX7_isWithin := goodIn_r _ [11] (by decide +kernel) (by decide +kernel)
set_option maxRecDepth 20000 in
theorem gX7_write_X7_isWithin : GoodIn wsX7_write (va_wsS RX7 58 yX7_isWithin wsX7_isWithin) := goodIn_app (goodIn_of _ (by decide +kernel)) ggX7_write_X7_isWithin
set_option maxRecDepth 20000 in
theorem ggX7_write_X7_requireArgument : GoodIn wsX7_write wsX7_requireArgument := goodIn_ca (goodIn_r _ [22, 23, 24] (by decide +kernel) (by decide +kernel)) (goodIn_sub (fun _ h => List.mem_cons_of_mem _ (List.mem_append_right _ h)) (by decide +kernel))
set_option maxRecDepth 20000 in
theorem gX7_write_X7_requireArgument : GoodIn wsX7_write (va_wsS RX7 62 yX7_requireArgument wsX7_requireArgument) := goodIn_app (goodIn_of _ (by decide +kernel)) ggX7_write_X7_requireArgument
set_option maxRecDepth 20000 in
theorem ggX7_write_X7_cellAt : GoodIn wsX7_write wsX7_cellAt := goodIn_r _ [27] (by decide +kernel) (by decide +kernel)
set_option maxRecDepth 20000 in
theorem gX7_write_X7_cellAt : GoodIn wsX7_write (va_wsS RX7 68 yX7_cellAt wsX7_cellAt) := goodIn_app (goodIn_of _ (by decide +kernel)) ggX7_write_X7_cellAt
set_option maxRecDepth 20000 in
theorem ggX7_write_X2_init : GoodIn wsX7_write wsX2_init := goodIn_r _ [30, 31, 32, 33, 34, 35, 36, 37, 38, 39, 40, 167, 168, 169, 170] (by decide +kernel) (by decide +kernel)
set_option maxRecDepth 20000 in
theorem gX7_write_X2_init : GoodIn wsX7_write (wsX2_init) := ggX7_write_X2_init
set_option maxRecDepth 20000 in
theorem ggX7_write_X7_send : GoodIn wsX7_write wsX7_send := goodIn_r _ [44, 45, 46, 47, 48, 49, 50, 4, 51, 31, 32, 33, 34, 52, 53, 54, 55, 56, 57, 58, 59, 60, 61, 62, 63, 64, 65, 66, 67, 68, 69, 70, 71, 72, 73, 74, 75, 76, 77, 78, 79, 80, 81, 82, 83, 84, 85, 86, 87, 88, 89, 7, 90, 91, 92, 93, 94, 95, 96, 97, 98, 99, 100, 101, 102, 103, 104, 105, 106, 107, 108, 109, 110, 111, 112, 113, 114, 115, 116, 117, 118, 119, 120, 121, 122, 123, 124, 125, 126, 127, 128, 129, 130, 131, 132, 133, 134, 135, 136, 137, 138, 139, 140, 141, 142, 143, 144, 145, 146, 147, 148, 149, 150, 151, 152, 153, 154, 155, 156, 157, 158, 159, 160, 161, 162, 163, 164, 165, 166, 167, 168, 169, 170, 171, 172, 173, 174, 175, 176, 177, 178, 179, 180, 181, 182, 183, 184, 185] (by decide +kernel) (by decide +kernel)
set_option maxRecDepth 20000 in
theorem gX7_write_X7_send : GoodIn wsX7_write (wsV RX7 75 RX7 yX7_send wsX7_send) := goodIn_app (goodIn_of _ (by decide +kernel)) ggX7_write_X7_send
theorem dX7_write_0 : decode cX7_write 0 = .ok (.iload_n 2, 1) := by decide +kernel
theorem dX7_write_1 : decode cX7_write 1 = .ok (.invokestatic 51, 3) := by decide +kernel
theorem dX7_write_4 : decode cX7_write 4 = .ok (.iload_n 3, 1) := by decide +kernel
theorem dX7_write_5 : decode cX7_write 5 = .ok (.invokestatic 55, 3) := by decide +kernel
theorem dX7_write_8 : decode cX7_write 8 = .ok (.iload_n 1, 1) := by decide +kernel
theorem dX7_write_9 : decode cX7_write 9 = .ok (.bipush 7, 2) := by decide +kernel
theorem dX7_write_11 : decode cX7_write 11 = .ok (.invokestatic 58, 3) := by decide +kernel
theorem dX7_write_14 : decode cX7_write 14 = .ok (.invokestatic 62, 3) := by decide +kernel
theorem dX7_write_17 : decode cX7_write 17 = .ok (.iload 4, 2) := by decide +kernel
theorem dX7_write_19 : decode cX7_write 19 = .ok (.sipush 999, 3) := by decide +kernel
theorem dX7_write_22 : decode cX7_write 22 = .ok (.invokestatic 58, 3) := by decide +kernel
theorem dX7_write_25 : decode cX7_write 25 = .ok (.invokestatic 62, 3) := by decide +kernel
theorem dX7_write_28 : decode cX7_write 28 = .ok (.iload 5, 2) := by decide +kernel
theorem dX7_write_30 : decode cX7_write 30 = .ok (.sipush 999, 3) := by decide +kernel
theorem dX7_write_33 : decode cX7_write 33 = .ok (.invokestatic 58, 3) := by decide +kernel
theorem dX7_write_36 : decode cX7_write 36 = .ok (.invokestatic 62, 3) := by decide +kernel
theorem dX7_write_39 : decode cX7_write 39 = .ok (.iload 6, 2) := by decide +kernel
theorem dX7_write_41 : decode cX7_write 41 = .ok (.sipush 1000, 3) := by decide +kernel
theorem dX7_write_44 : decode cX7_write 44 = .ok (.invokestatic 58, 3) := by decide +kernel
theorem dX7_write_47 : decode cX7_write 47 = .ok (.invokestatic 62, 3) := by decide +kernel
theorem dX7_write_50 : decode cX7_write 50 = .ok (.iload 6, 2) := by decide +kernel
theorem dX7_write_52 : decode cX7_write 52 = .ok (.ifCond .ne 7, 3) := by decide +kernel
theorem dX7_write_55 : decode cX7_write 55 = .ok (.iconst (-1), 1) := by decide +kernel
theorem dX7_write_56 : decode cX7_write 56 = .ok (.goto 10, 3) := by decide +kernel
theorem dX7_write_59 : decode cX7_write 59 = .ok (.aload_n 0, 1) := by decide +kernel
theorem dX7_write_60 : decode cX7_write 60 = .ok (.getfield 41, 3) := by decide +kernel
theorem dX7_write_63 : decode cX7_write 63 = .ok (.iload 6, 2) := by decide +kernel
theorem dX7_write_65 : decode cX7_write 65 = .ok (.iadd, 1) := by decide +kernel
theorem dX7_write_66 : decode cX7_write 66 = .ok (.istore 7, 2) := by decide +kernel
theorem dX7_write_68 : decode cX7_write 68 = .ok (.aload_n 0, 1) := by decide +kernel
theorem dX7_write_69 : decode cX7_write 69 = .ok (.iload_n 1, 1) := by decide +kernel
theorem dX7_write_70 : decode cX7_write 70 = .ok (.new 66, 3) := by decide +kernel
theorem dX7_write_73 : decode cX7_write 73 = .ok (.dup, 1) := by decide +kernel
theorem dX7_write_74 : decode cX7_write 74 = .ok (.iload_n 2, 1) := by decide +kernel
theorem dX7_write_75 : decode cX7_write 75 = .ok (.iload_n 3, 1) := by decide +kernel
theorem dX7_write_76 : decode cX7_write 76 = .ok (.invokestatic 68, 3) := by decide +kernel
theorem dX7_write_79 : decode cX7_write 79 = .ok (.iload 4, 2) := by decide +kernel
theorem dX7_write_81 : decode cX7_write 81 = .ok (.iload 5, 2) := by decide +kernel
theorem dX7_write_83 : decode cX7_write 83 = .ok (.iload 7, 2) := by decide +kernel
theorem dX7_write_85 : decode cX7_write 85 = .ok (.invokespecial 72, 3) := by decide +kernel
theorem dX7_write_88 : decode cX7_write 88 = .ok (.invokevirtual 75, 3) := by decide +kernel
theorem dX7_write_91 : decode cX7_write 91 = .ok (.ireturn, 1) := by decide +kernel
set_option maxRecDepth 20000 in
theorem ggX7_deleteCell_X7_requireRow : GoodIn wsX7_deleteCell wsX7_requireRow := goodIn_ca (goodIn_r _ [8, 9, 10, 7, 11, 12, 13, 14, 15, 16] (by decide +kernel) (by decide +kernel)) (goodIn_sub (fun _ h => List.mem_cons_of_mem _ (List.mem_append_left _ (List.mem_append_right _ h))) (by decide +kernel))
set_option maxRecDepth 20000 in
theorem gX7_deleteCell_X7_requireRow : GoodIn wsX7_deleteCell (va_wsS RX7 51 yX7_requireRow wsX7_requireRow) := goodIn_app (goodIn_of _ (by decide +kernel)) ggX7_deleteCell_X7_requireRow
set_option maxRecDepth 20000 in
theorem ggX7_deleteCell_X7_requireColumn : GoodIn wsX7_deleteCell wsX7_requireColumn := goodIn_ca (goodIn_r _ [19, 9, 10, 7, 11, 12, 13, 14, 15, 16] (by decide +kernel) (by decide +kernel)) (goodIn_sub (fun _ h => List.mem_cons_of_mem _ (List.mem_append_left _ (List.mem_append_right _ h))) (by decide +kernel))
set_option maxRecDepth 20000 in
theorem gX7_deleteCell_X7_requireColumn : GoodIn wsX7_deleteCell (va_wsS RX7 55 yX7_requireColumn wsX7_requireColumn) := goodIn_app (goodIn_of _ (by decide +kernel)) ggX7_deleteCell_X7_requireColumn
set_option maxRecDepth 20000 in
theorem ggX7_deleteCell_X7_requireDeletion : GoodIn wsX7_deleteCell wsX7_requireDeletion := goodIn_ca (goodIn_r _ [22, 9, 10, 7, 11, 23, 24, 25, 26, 27] (by decide +kernel) (by decide +kernel)) (goodIn_sub (fun _ h => List.mem_cons_of_mem _ (List.mem_append_right _ h)) (by decide +kernel))
set_option maxRecDepth 20000 in
theorem gX7_deleteCell_X7_requireDeletion : GoodIn wsX7_deleteCell (va_wsS RX7 79 yX7_requireDeletion wsX7_requireDeletion) := goodIn_app (goodIn_of _ (by decide +kernel)) ggX7_deleteCell_X7_requireDeletion
set_option maxRecDepth 20000 in
theorem ggX7_deleteCell_X7_cellAt : GoodIn wsX7_deleteCell wsX7_cellAt := goodIn_r _ [30] (by decide +kernel) (by decide +kernel)
set_option maxRecDepth 20000 in
theorem gX7_deleteCell_X7_cellAt : GoodIn wsX7_deleteCell (va_wsS RX7 68 yX7_cellAt wsX7_cellAt) := goodIn_app (goodIn_of _ (by decide +kernel)) ggX7_deleteCell_X7_cellAt
set_option maxRecDepth 20000 in
theorem ggX7_deleteCell_X6_init : GoodIn wsX7_deleteCell wsX6_init := goodIn_r _ [33, 34, 35, 36, 37, 38, 39, 40, 41, 42, 163, 164, 165] (by decide +kernel) (by decide +kernel)
set_option maxRecDepth 20000 in
theorem gX7_deleteCell_X6_init : GoodIn wsX7_deleteCell (wsX6_init) := ggX7_deleteCell_X6_init
set_option maxRecDepth 20000 in
theorem ggX7_deleteCell_X7_send : GoodIn wsX7_deleteCell wsX7_send := goodIn_r _ [46, 47, 48, 49, 50, 51, 52, 53, 54, 55, 56, 57, 58, 59, 60, 61, 62, 63, 64, 65, 66, 67, 68, 69, 70, 71, 72, 73, 74, 75, 76, 77, 78, 79, 3, 80, 34, 35, 36, 81, 82, 83, 84, 85, 86, 87, 88, 89, 90, 91, 92, 7, 93, 94, 95, 96, 97, 98, 99, 100, 101, 102, 103, 104, 105, 106, 107, 108, 109, 110, 111, 112, 113, 114, 115, 116, 117, 118, 119, 120, 121, 122, 123, 124, 125, 126, 127, 128, 129, 130, 131, 132, 133, 134, 135, 136, 137, 138, 139, 140, 141, 142, 143, 144, 145, 146, 147, 148, 149, 150, 151, 152, 153, 154, 155, 156, 157, 158, 159, 160, 161, 162, 166, 167, 168, 169, 170, 171, 172, 173, 174, 175, 176, 177, 178, 179, 180, 181, 182, 163, 164, 165, 183, 184, 185, 186, 187, 188] (by decide +kernel) (by decide +kernel)
set_option maxRecDepth 20000 in
theorem gX7_deleteCell_X7_send : GoodIn wsX7_deleteCell (wsV RX7 75 RX7 yX7_send wsX7_send) := goodIn_app (goodIn_of _ (by decide +kernel)) ggX7_deleteCell_X7_send
theorem dX7_deleteCell_0 : decode cX7_deleteCell 0 = .ok (.iload_n 2, 1) := by decide +kernel
theorem dX7_deleteCell_1 : decode cX7_deleteCell 1 = .ok (.invokestatic 51, 3) := by decide +kernel
theorem dX7_deleteCell_4 : decode cX7_deleteCell 4 = .ok (.iload_n 3, 1) := by decide +kernel
theorem dX7_deleteCell_5 : decode cX7_deleteCell 5 = .ok (.invokestatic 55, 3) := by decide +kernel
theorem dX7_deleteCell_8 : decode cX7_deleteCell 8 = .ok (.iload_n 1, 1) := by decide +kernel
theorem dX7_deleteCell_9 : decode cX7_deleteCell 9 = .ok (.iload 4, 2) := by decide +kernel
theorem dX7_deleteCell_11 : decode cX7_deleteCell 11 = .ok (.invokestatic 79, 3) := by decide +kernel
theorem dX7_deleteCell_14 : decode cX7_deleteCell 14 = .ok (.aload_n 0, 1) := by decide +kernel
theorem dX7_deleteCell_15 : decode cX7_deleteCell 15 = .ok (.iload_n 1, 1) := by decide +kernel
theorem dX7_deleteCell_16 : decode cX7_deleteCell 16 = .ok (.new 83, 3) := by decide +kernel
theorem dX7_deleteCell_19 : decode cX7_deleteCell 19 = .ok (.dup, 1) := by decide +kernel
theorem dX7_deleteCell_20 : decode cX7_deleteCell 20 = .ok (.iload_n 2, 1) := by decide +kernel
theorem dX7_deleteCell_21 : decode cX7_deleteCell 21 = .ok (.iload_n 3, 1) := by decide +kernel
theorem dX7_deleteCell_22 : decode cX7_deleteCell 22 = .ok (.invokestatic 68, 3) := by decide +kernel
theorem dX7_deleteCell_25 : decode cX7_deleteCell 25 = .ok (.iload 4, 2) := by decide +kernel
theorem dX7_deleteCell_27 : decode cX7_deleteCell 27 = .ok (.aload_n 0, 1) := by decide +kernel
theorem dX7_deleteCell_28 : decode cX7_deleteCell 28 = .ok (.getfield 41, 3) := by decide +kernel
theorem dX7_deleteCell_31 : decode cX7_deleteCell 31 = .ok (.invokespecial 85, 3) := by decide +kernel
theorem dX7_deleteCell_34 : decode cX7_deleteCell 34 = .ok (.invokevirtual 75, 3) := by decide +kernel
theorem dX7_deleteCell_37 : decode cX7_deleteCell 37 = .ok (.ireturn, 1) := by decide +kernel
set_option maxRecDepth 20000 in
theorem ggX7_deleteColumn_X7_requireColumn : GoodIn wsX7_deleteColumn wsX7_requireColumn := goodIn_ca (goodIn_r _ [8, 9, 10, 7, 11, 12, 13, 14, 15, 16] (by decide +kernel) (by decide +kernel)) (goodIn_sub (fun _ h => List.mem_cons_of_mem _ (List.mem_append_left _ (List.mem_append_right _ h))) (by decide +kernel))
set_option maxRecDepth 20000 in
theorem gX7_deleteColumn_X7_requireColumn : GoodIn wsX7_deleteColumn (va_wsS RX7 55 yX7_requireColumn wsX7_requireColumn) := goodIn_app (goodIn_of _ (by decide +kernel)) ggX7_deleteColumn_X7_requireColumn
set_option maxRecDepth 20000 in
theorem ggX7_deleteColumn_X7_requireDeletion : GoodIn wsX7_deleteColumn wsX7_requireDeletion := goodIn_ca (goodIn_r _ [19, 9, 10, 7, 11, 20, 21, 22, 23, 24] (by decide +kernel) (by decide +kernel)) (goodIn_sub (fun _ h => List.mem_cons_of_mem _ (List.mem_append_right _ h)) (by decide +kernel))
set_option maxRecDepth 20000 in
theorem gX7_deleteColumn_X7_requireDeletion : GoodIn wsX7_deleteColumn (va_wsS RX7 79 yX7_requireDeletion wsX7_requireDeletion) := goodIn_app (goodIn_of _ (by decide +kernel)) ggX7_deleteColumn_X7_requireDeletion
set_option maxRecDepth 20000 in
theorem ggX7_deleteColumn_X6_init : GoodIn wsX7_deleteColumn wsX6_init := goodIn_r _ [27, 28, 29, 30, 31, 32, 33, 34, 35, 36, 157, 158, 159] (by decide +kernel) (by decide +kernel)
set_option maxRecDepth 20000 in
theorem gX7_deleteColumn_X6_init : GoodIn wsX7_deleteColumn (wsX6_init) := ggX7_deleteColumn_X6_init
set_option maxRecDepth 20000 in
theorem ggX7_deleteColumn_X7_send : GoodIn wsX7_deleteColumn wsX7_send := goodIn_r _ [40, 41, 42, 43, 44, 45, 46, 47, 48, 49, 50, 51, 52, 53, 54, 55, 56, 57, 58, 59, 60, 61, 62, 63, 64, 65, 66, 67, 68, 69, 70, 71, 72, 73, 3, 74, 28, 29, 30, 75, 76, 77, 78, 79, 80, 81, 82, 83, 84, 85, 86, 7, 87, 88, 89, 90, 91, 92, 93, 94, 95, 96, 97, 98, 99, 100, 101, 102, 103, 104, 105, 106, 107, 108, 109, 110, 111, 112, 113, 114, 115, 116, 117, 118, 119, 120, 121, 122, 123, 124, 125, 126, 127, 128, 129, 130, 131, 132, 133, 134, 135, 136, 137, 138, 139, 140, 141, 142, 143, 144, 145, 146, 147, 148, 149, 150, 151, 152, 153, 154, 155, 156, 160, 161, 162, 163, 164, 165, 166, 167, 168, 169, 170, 171, 172, 173, 174, 175, 176, 157, 158, 159, 177, 178, 179, 180, 181, 182] (by decide +kernel) (by decide +kernel)
set_option maxRecDepth 20000 in
theorem gX7_deleteColumn_X7_send : GoodIn wsX7_deleteColumn (wsV RX7 75 RX7 yX7_send wsX7_send) := goodIn_app (goodIn_of _ (by decide +kernel)) ggX7_deleteColumn_X7_send
theorem dX7_deleteColumn_0 : decode cX7_deleteColumn 0 = .ok (.iload_n 2, 1) := by decide +kernel
theorem dX7_deleteColumn_1 : decode cX7_deleteColumn 1 = .ok (.invokestatic 55, 3) := by decide +kernel
theorem dX7_deleteColumn_4 : decode cX7_deleteColumn 4 = .ok (.iload_n 1, 1) := by decide +kernel
theorem dX7_deleteColumn_5 : decode cX7_deleteColumn 5 = .ok (.iload_n 3, 1) := by decide +kernel
theorem dX7_deleteColumn_6 : decode cX7_deleteColumn 6 = .ok (.invokestatic 79, 3) := by decide +kernel
theorem dX7_deleteColumn_9 : decode cX7_deleteColumn 9 = .ok (.aload_n 0, 1) := by decide +kernel
theorem dX7_deleteColumn_10 : decode cX7_deleteColumn 10 = .ok (.iload_n 1, 1) := by decide +kernel
theorem dX7_deleteColumn_11 : decode cX7_deleteColumn 11 = .ok (.new 83, 3) := by decide +kernel
theorem dX7_deleteColumn_14 : decode cX7_deleteColumn 14 = .ok (.dup, 1) := by decide +kernel
theorem dX7_deleteColumn_15 : decode cX7_deleteColumn 15 = .ok (.bipush 64, 2) := by decide +kernel
theorem dX7_deleteColumn_17 : decode cX7_deleteColumn 17 = .ok (.iload_n 2, 1) := by decide +kernel
theorem dX7_deleteColumn_18 : decode cX7_deleteColumn 18 = .ok (.iadd, 1) := by decide +kernel
theorem dX7_deleteColumn_19 : decode cX7_deleteColumn 19 = .ok (.iload_n 3, 1) := by decide +kernel
theorem dX7_deleteColumn_20 : decode cX7_deleteColumn 20 = .ok (.aload_n 0, 1) := by decide +kernel
theorem dX7_deleteColumn_21 : decode cX7_deleteColumn 21 = .ok (.getfield 41, 3) := by decide +kernel
theorem dX7_deleteColumn_24 : decode cX7_deleteColumn 24 = .ok (.invokespecial 85, 3) := by decide +kernel
theorem dX7_deleteColumn_27 : decode cX7_deleteColumn 27 = .ok (.invokevirtual 75, 3) := by decide +kernel
theorem dX7_deleteColumn_30 : decode cX7_deleteColumn 30 = .ok (.ireturn, 1) := by decide +kernel
set_option maxRecDepth 20000 in
theorem ggX7_deleteRow_X7_requireRow : GoodIn wsX7_deleteRow wsX7_requireRow := goodIn_ca (goodIn_r _ [8, 9, 10, 7, 11, 12, 13, 14, 15, 16] (by decide +kernel) (by decide +kernel)) (goodIn_sub (fun _ h => List.mem_cons_of_mem _ (List.mem_append_left _ (List.mem_append_right _ h))) (by decide +kernel))
set_option maxRecDepth 20000 in
theorem gX7_deleteRow_X7_requireRow : GoodIn wsX7_deleteRow (va_wsS RX7 51 yX7_requireRow wsX7_requireRow) := goodIn_app (goodIn_of _ (by decide +kernel)) ggX7_deleteRow_X7_requireRow
set_option maxRecDepth 20000 in
theorem ggX7_deleteRow_X7_requireDeletion : GoodIn wsX7_deleteRow wsX7_requireDeletion := goodIn_ca (goodIn_r _ [19, 9, 10, 7, 11, 20, 21, 22, 23, 24] (by decide +kernel) (by decide +kernel)) (goodIn_sub (fun _ h => List.mem_cons_of_mem _ (List.mem_append_right _ h)) (by decide +kernel))
set_option maxRecDepth 20000 in
theorem gX7_deleteRow_X7_requireDeletion : GoodIn wsX7_deleteRow (va_wsS RX7 79 yX7_requireDeletion wsX7_requireDeletion) := goodIn_app (goodIn_of _ (by decide +kernel)) ggX7_deleteRow_X7_requireDeletion
set_option maxRecDepth 20000 in
theorem ggX7_deleteRow_X6_init : GoodIn wsX7_deleteRow wsX6_init := goodIn_r _ [27, 28, 29, 30, 31, 32, 33, 34, 35, 36, 157, 158, 159] (by decide +kernel) (by decide +kernel)
set_option maxRecDepth 20000 in
theorem gX7_deleteRow_X6_init : GoodIn wsX7_deleteRow (wsX6_init) := ggX7_deleteRow_X6_init
set_option maxRecDepth 20000 in
theorem ggX7_deleteRow_X7_send : GoodIn wsX7_deleteRow wsX7_send := goodIn_r _ [40, 41, 42, 43, 44, 45, 46, 47, 48, 49, 50, 51, 52, 53, 54, 55, 56, 57, 58, 59, 60, 61, 62, 63, 64, 65, 66, 67, 68, 69, 70, 71, 72, 73, 3, 74, 28, 29, 30, 75, 76, 77, 78, 79, 80, 81, 82, 83, 84, 85, 86, 7, 87, 88, 89, 90, 91, 92, 93, 94, 95, 96, 97, 98, 99, 100, 101, 102, 103, 104, 105, 106, 107, 108, 109, 110, 111, 112, 113, 114, 115, 116, 117, 118, 119, 120, 121, 122, 123, 124, 125, 126, 127, 128, 129, 130, 131, 132, 133, 134, 135, 136, 137, 138, 139, 140, 141, 142, 143, 144, 145, 146, 147, 148, 149, 150, 151, 152, 153, 154, 155, 156, 160, 161, 162, 163, 164, 165, 166, 167, 168, 169, 170, 171, 172, 173, 174, 175, 176, 157, 158, 159, 177, 178, 179, 180, 181, 182] (by decide +kernel) (by decide +kernel)
set_option maxRecDepth 20000 in
theorem gX7_deleteRow_X7_send : GoodIn wsX7_deleteRow (wsV RX7 75 RX7 yX7_send wsX7_send) := goodIn_app (goodIn_of _ (by decide +kernel)) ggX7_deleteRow_X7_send
theorem dX7_deleteRow_0 : decode cX7_deleteRow 0 = .ok (.iload_n 2, 1) := by decide +kernel
theorem dX7_deleteRow_1 : decode cX7_deleteRow 1 = .ok (.invokestatic 51, 3) := by decide +kernel
theorem dX7_deleteRow_4 : decode cX7_deleteRow 4 = .ok (.iload_n 1, 1) := by decide +kernel
theorem dX7_deleteRow_5 : decode cX7_deleteRow 5 = .ok (.iload_n 3, 1) := by decide +kernel
theorem dX7_deleteRow_6 : decode cX7_deleteRow 6 = .ok (.invokestatic 79, 3) := by decide +kernel
theorem dX7_deleteRow_9 : decode cX7_deleteRow 9 = .ok (.aload_n 0, 1) := by decide +kernel
theorem dX7_deleteRow_10 : decode cX7_deleteRow 10 = .ok (.iload_n 1, 1) := by decide +kernel
theorem dX7_deleteRow_11 : decode cX7_deleteRow 11 = .ok (.new 83, 3) := by decide +kernel
theorem dX7_deleteRow_14 : decode cX7_deleteRow 14 = .ok (.dup, 1) := by decide +kernel
theorem dX7_deleteRow_15 : decode cX7_deleteRow 15 = .ok (.bipush 68, 2) := by decide +kernel
theorem dX7_deleteRow_17 : decode cX7_deleteRow 17 = .ok (.iload_n 2, 1) := by decide +kernel
theorem dX7_deleteRow_18 : decode cX7_deleteRow 18 = .ok (.iadd, 1) := by decide +kernel
theorem dX7_deleteRow_19 : decode cX7_deleteRow 19 = .ok (.iload_n 3, 1) := by decide +kernel
theorem dX7_deleteRow_20 : decode cX7_deleteRow 20 = .ok (.aload_n 0, 1) := by decide +kernel
theorem dX7_deleteRow_21 : decode cX7_deleteRow 21 = .ok (.getfield 41, 3) := by decide +kernel
theorem dX7_deleteRow_24 : decode cX7_deleteRow 24 = .ok (.invokespecial 85, 3) := by decide +kernel
theorem dX7_deleteRow_27 : decode cX7_deleteRow 27 = .ok (.invokevirtual 75, 3) := by decide +kernel
theorem dX7_deleteRow_30 : decode cX7_deleteRow 30 = .ok (.ireturn, 1) := by decide +kernel
set_option maxRecDepth 20000 in
theorem ggX7_deleteRange_X7_requireRow : GoodIn wsX7_deleteRange wsX7_requireRow := goodIn_ca (goodIn_r _ [9, 10, 11, 8, 12, 13, 14, 15, 16, 17] (by decide +kernel) (by decide +kernel)) (goodIn_sub (fun _ h => List.mem_cons_of_mem _ (List.mem_append_left _ (List.mem_append_left _ (List.mem_append_right _ h)))) (by decide +kernel))
set_option maxRecDepth 20000 in
theorem gX7_deleteRange_X7_requireRow : GoodIn wsX7_deleteRange (va_wsS RX7 51 yX7_requireRow wsX7_requireRow) := goodIn_app (goodIn_of _ (by decide +kernel)) ggX7_deleteRange_X7_requireRow
set_option maxRecDepth 20000 in
theorem ggX7_deleteRange_X7_requireDeletion : GoodIn wsX7_deleteRange wsX7_requireDeletion := goodIn_ca (goodIn_r _ [20, 10, 11, 8, 12, 21, 22, 23, 24, 25] (by decide +kernel) (by decide +kernel)) (goodIn_sub (fun _ h => List.mem_cons_of_mem _ (List.mem_append_left _ (List.mem_append_right _ h))) (by decide +kernel))
set_option maxRecDepth 20000 in
theorem gX7_deleteRange_X7_requireDeletion : GoodIn wsX7_deleteRange (va_wsS RX7 79 yX7_requireDeletion wsX7_requireDeletion) := goodIn_app (goodIn_of _ (by decide +kernel)) ggX7_deleteRange_X7_requireDeletion
set_option maxRecDepth 20000 in
theorem ggX7_deleteRange_X7_requireArgument : GoodIn wsX7_deleteRange wsX7_requireArgument := goodIn_ca (goodIn_r _ [23, 24, 25] (by decide +kernel) (by decide +kernel)) (goodIn_sub (fun _ h => List.mem_cons_of_mem _ (List.mem_append_left _ (List.mem_append_right _ h))) (by decide +kernel))
set_option maxRecDepth 20000 in
theorem gX7_deleteRange_X7_requireArgument : GoodIn wsX7_deleteRange (va_wsS RX7 62 yX7_requireArgument wsX7_requireArgument) := goodIn_app (goodIn_of _ (by decide +kernel)) ggX7_deleteRange_X7_requireArgument
set_option maxRecDepth 20000 in
theorem ggX7_deleteRange_X4_numberOf : GoodIn wsX7_deleteRange wsX4_numberOf := goodIn_r _ [30, 31, 32, 180, 181] (by decide +kernel) (by decide +kernel)
set_option maxRecDepth 20000 in
theorem gX7_deleteRange_X4_numberOf : GoodIn wsX7_deleteRange (wsV RX7 88 RX4 yX4_numberOf wsX4_numberOf) := goodIn_app (goodIn_of _ (by decide +kernel)) ggX7_deleteRange_X4_numberOf
set_option maxRecDepth 20000 in
theorem ggX7_deleteRange_X7_requireState : GoodIn wsX7_deleteRange wsX7_requireState := goodIn_ca (goodIn_r _ [35, 36, 37] (by decide +kernel) (by decide +kernel)) (goodIn_sub (fun _ h => List.mem_cons_of_mem _ (List.mem_append_right _ h)) (by decide +kernel))
set_option maxRecDepth 20000 in
theorem gX7_deleteRange_X7_requireState : GoodIn wsX7_deleteRange (va_wsS RX7 91 yX7_requireState wsX7_requireState) := goodIn_app (goodIn_of _ (by decide +kernel)) ggX7_deleteRange_X7_requireState
set_option maxRecDepth 20000 in
theorem ggX7_deleteRange_X6_init : GoodIn wsX7_deleteRange wsX6_init := goodIn_r _ [40, 41, 42, 43, 44, 45, 46, 47, 48, 49, 177, 178, 179] (by decide +kernel) (by decide +kernel)
set_option maxRecDepth 20000 in
theorem gX7_deleteRange_X6_init : GoodIn wsX7_deleteRange (wsX6_init) := ggX7_deleteRange_X6_init
set_option maxRecDepth 20000 in
theorem ggX7_deleteRange_X7_send : GoodIn wsX7_deleteRange wsX7_send := goodIn_r _ [53, 54, 55, 56, 57, 58, 59, 60, 61, 62, 63, 64, 65, 66, 67, 68, 69, 70, 71, 72, 73, 74, 75, 76, 77, 78, 79, 80, 81, 82, 83, 84, 85, 86, 4, 87, 41, 42, 43, 88, 89, 90, 91, 92, 93, 94, 95, 96, 97, 98, 99, 8, 100, 101, 102, 103, 104, 105, 106, 107, 108, 109, 110, 111, 112, 113, 114, 115, 116, 117, 118, 119, 120, 121, 122, 123, 124, 125, 126, 127, 128, 129, 130, 131, 132, 133, 134, 135, 136, 137, 138, 139, 140, 141, 142, 143, 144, 145, 146, 147, 148, 149, 150, 151, 152, 153, 154, 155, 156, 157, 158, 159, 160, 161, 162, 163, 164, 165, 166, 167, 168, 169, 170, 171, 172, 173, 174, 175, 176, 182, 183, 184, 185, 186, 187, 188, 189, 190, 191, 177, 178, 179, 192, 193, 194, 195, 196, 197] (by decide +kernel) (by decide +kernel)
set_option maxRecDepth 20000 in
theorem gX7_deleteRange_X7_send : GoodIn wsX7_deleteRange (wsV RX7 75 RX7 yX7_send wsX7_send) := goodIn_app (goodIn_of _ (by decide +kernel)) ggX7_deleteRange_X7_send
theorem dX7_deleteRange_0 : decode cX7_deleteRange 0 = .ok (.iload_n 2, 1) := by decide +kernel
theorem dX7_deleteRange_1 : decode cX7_deleteRange 1 = .ok (.invokestatic 51, 3) := by decide +kernel
theorem dX7_deleteRange_4 : decode cX7_deleteRange 4 = .ok (.iload_n 3, 1) := by decide +kernel
theorem dX7_deleteRange_5 : decode cX7_deleteRange 5 = .ok (.invokestatic 51, 3) := by decide +kernel
theorem dX7_deleteRange_8 : decode cX7_deleteRange 8 = .ok (.iload_n 1, 1) := by decide +kernel
theorem dX7_deleteRange_9 : decode cX7_deleteRange 9 = .ok (.iload 4, 2) := by decide +kernel
theorem dX7_deleteRange_11 : decode cX7_deleteRange 11 = .ok (.invokestatic 79, 3) := by decide +kernel
theorem dX7_deleteRange_14 : decode cX7_deleteRange 14 = .ok (.iload_n 2, 1) := by decide +kernel
theorem dX7_deleteRange_15 : decode cX7_deleteRange 15 = .ok (.iload_n 3, 1) := by decide +kernel
theorem dX7_deleteRange_16 : decode cX7_deleteRange 16 = .ok (.if_icmp .gt 7, 3) := by decide +kernel
theorem dX7_deleteRange_19 : decode cX7_deleteRange 19 = .ok (.iconst 1, 1) := by decide +kernel
theorem dX7_deleteRange_20 : decode cX7_deleteRange 20 = .ok (.goto 4, 3) := by decide +kernel
theorem dX7_deleteRange_23 : decode cX7_deleteRange 23 = .ok (.iconst 0, 1) := by decide +kernel
theorem dX7_deleteRange_24 : decode cX7_deleteRange 24 = .ok (.invokestatic 62, 3) := by decide +kernel
theorem dX7_deleteRange_27 : decode cX7_deleteRange 27 = .ok (.aload_n 0, 1) := by decide +kernel
theorem dX7_deleteRange_28 : decode cX7_deleteRange 28 = .ok (.getfield 12, 3) := by decide +kernel
theorem dX7_deleteRange_31 : decode cX7_deleteRange 31 = .ok (.iload_n 2, 1) := by decide +kernel
theorem dX7_deleteRange_32 : decode cX7_deleteRange 32 = .ok (.iload_n 3, 1) := by decide +kernel
theorem dX7_deleteRange_33 : decode cX7_deleteRange 33 = .ok (.invokevirtual 88, 3) := by decide +kernel
theorem dX7_deleteRange_36 : decode cX7_deleteRange 36 = .ok (.istore 5, 2) := by decide +kernel
theorem dX7_deleteRange_38 : decode cX7_deleteRange 38 = .ok (.iload 5, 2) := by decide +kernel
theorem dX7_deleteRange_40 : decode cX7_deleteRange 40 = .ok (.iconst (-1), 1) := by decide +kernel
theorem dX7_deleteRange_41 : decode cX7_deleteRange 41 = .ok (.if_icmp .eq 7, 3) := by decide +kernel
theorem dX7_deleteRange_44 : decode cX7_deleteRange 44 = .ok (.iconst 1, 1) := by decide +kernel
theorem dX7_deleteRange_45 : decode cX7_deleteRange 45 = .ok (.goto 4, 3) := by decide +kernel
theorem dX7_deleteRange_48 : decode cX7_deleteRange 48 = .ok (.iconst 0, 1) := by decide +kernel
theorem dX7_deleteRange_49 : decode cX7_deleteRange 49 = .ok (.invokestatic 91, 3) := by decide +kernel
theorem dX7_deleteRange_52 : decode cX7_deleteRange 52 = .ok (.aload_n 0, 1) := by decide +kernel
theorem dX7_deleteRange_53 : decode cX7_deleteRange 53 = .ok (.iload_n 1, 1) := by decide +kernel
theorem dX7_deleteRange_54 : decode cX7_deleteRange 54 = .ok (.new 83, 3) := by decide +kernel
theorem dX7_deleteRange_57 : decode cX7_deleteRange 57 = .ok (.dup, 1) := by decide +kernel
theorem dX7_deleteRange_58 : decode cX7_deleteRange 58 = .ok (.bipush 84, 2) := by decide +kernel
theorem dX7_deleteRange_60 : decode cX7_deleteRange 60 = .ok (.iload 5, 2) := by decide +kernel
theorem dX7_deleteRange_62 : decode cX7_deleteRange 62 = .ok (.iadd, 1) := by decide +kernel
theorem dX7_deleteRange_63 : decode cX7_deleteRange 63 = .ok (.iload 4, 2) := by decide +kernel
theorem dX7_deleteRange_65 : decode cX7_deleteRange 65 = .ok (.aload_n 0, 1) := by decide +kernel
theorem dX7_deleteRange_66 : decode cX7_deleteRange 66 = .ok (.getfield 41, 3) := by decide +kernel
theorem dX7_deleteRange_69 : decode cX7_deleteRange 69 = .ok (.invokespecial 85, 3) := by decide +kernel
theorem dX7_deleteRange_72 : decode cX7_deleteRange 72 = .ok (.invokevirtual 75, 3) := by decide +kernel
theorem dX7_deleteRange_75 : decode cX7_deleteRange 75 = .ok (.ireturn, 1) := by decide +kernel
set_option maxRecDepth 20000 in
theorem ggX7_setUp_X7_keeperOf : GoodIn wsX7_setUp wsX7_keeperOf := goodIn_ca (goodIn_r _ [5, 6, 7, 8, 4, 9, 10, 11, 12, 13, 14, 107, 108, 109, 110, 111, 112, 113] (by decide +kernel) (by decide +kernel)) (goodIn_sub (fun _ h => List.mem_cons_of_mem _ (List.mem_append_right _ h)) (by decide +kernel))
set_option maxRecDepth 20000 in
theorem gX7_setUp_X7_keeperOf : GoodIn wsX7_setUp (wsV RX7 94 RX7 yX7_keeperOf wsX7_keeperOf) := goodIn_app (goodIn_of _ (by decide +kernel)) ggX7_setUp_X7_keeperOf
set_option maxRecDepth 20000 in
theorem ggX7_setUp_X3_comeUp : GoodIn wsX7_setUp wsX3_comeUp := goodIn_r _ [19, 20, 21, 22, 23, 24, 25, 26, 27, 28, 29, 30, 31, 32, 33, 34, 35, 36, 37, 38, 39, 40, 41, 42, 43, 44, 45, 46, 47, 48, 49, 50, 51, 52, 53, 54, 55, 56, 57, 58, 59, 60, 61, 62, 63, 64, 65, 66, 67, 68, 69, 70, 71, 72, 73, 74, 75, 76, 77, 78, 79, 80, 81, 82, 83, 84, 85, 86, 87, 88, 89, 90, 91, 92, 93, 94, 95, 18, 96, 97, 98, 99, 100, 101, 102, 114, 115, 116, 117, 118, 119, 120, 121, 122, 123, 124, 125, 126, 127, 128, 129, 130, 131, 132] (by decide +kernel) (by decide +kernel)
set_option maxRecDepth 20000 in
theorem gX7_setUp_X3_comeUp : GoodIn wsX7_setUp (wsV RX7 98 RX3 yX3_comeUp wsX3_comeUp) := goodIn_app (goodIn_of _ (by decide +kernel)) ggX7_setUp_X3_comeUp
set_option maxRecDepth 20000 in
theorem ggX7_setUp_X3_goDown : GoodIn wsX7_setUp wsX3_goDown := goodIn_r _ [106, 20, 114, 115, 116] (by decide +kernel) (by decide +kernel)
set_option maxRecDepth 20000 in
theorem gX7_setUp_X3_goDown : GoodIn wsX7_setUp (wsV RX7 102 RX3 yX3_goDown wsX3_goDown) := goodIn_app (goodIn_of _ (by decide +kernel)) ggX7_setUp_X3_goDown
theorem dX7_setUp_0 : decode cX7_setUp 0 = .ok (.aload_n 0, 1) := by decide +kernel
theorem dX7_setUp_1 : decode cX7_setUp 1 = .ok (.iload_n 1, 1) := by decide +kernel
theorem dX7_setUp_2 : decode cX7_setUp 2 = .ok (.invokevirtual 94, 3) := by decide +kernel
theorem dX7_setUp_5 : decode cX7_setUp 5 = .ok (.astore_n 3, 1) := by decide +kernel
theorem dX7_setUp_6 : decode cX7_setUp 6 = .ok (.iload_n 2, 1) := by decide +kernel
theorem dX7_setUp_7 : decode cX7_setUp 7 = .ok (.ifCond .eq 10, 3) := by decide +kernel
theorem dX7_setUp_10 : decode cX7_setUp 10 = .ok (.aload_n 3, 1) := by decide +kernel
theorem dX7_setUp_11 : decode cX7_setUp 11 = .ok (.invokevirtual 98, 3) := by decide +kernel
theorem dX7_setUp_14 : decode cX7_setUp 14 = .ok (.goto 7, 3) := by decide +kernel
theorem dX7_setUp_17 : decode cX7_setUp 17 = .ok (.aload_n 3, 1) := by decide +kernel
theorem dX7_setUp_18 : decode cX7_setUp 18 = .ok (.invokevirtual 102, 3) := by decide +kernel
theorem dX7_setUp_21 : decode cX7_setUp 21 = .ok (.ireturn, 1) := by decide +kernel
set_option maxRecDepth 20000 in
theorem ggX7_pass_X7_requireArgument : GoodIn wsX7_pass wsX7_requireArgument := goodIn_ca (goodIn_r _ [5, 6, 7] (by decide +kernel) (by decide +kernel)) (goodIn_sub (fun _ h => List.mem_cons_of_mem _ (List.mem_append_left _ (List.mem_append_right _ h))) (by decide +kernel))
set_option maxRecDepth 20000 in
theorem gX7_pass_X7_requireArgument : GoodIn wsX7_pass (va_wsS RX7 62 yX7_requireArgument wsX7_requireArgument) := goodIn_app (goodIn_of _ (by decide +kernel)) ggX7_pass_X7_requireArgument
set_option maxRecDepth 20000 in
theorem ggX7_pass_X7_requireState : GoodIn wsX7_pass wsX7_requireState := goodIn_ca (goodIn_r _ [10, 11, 12] (by decide +kernel) (by decide +kernel)) (goodIn_sub (fun _ h => List.mem_cons_of_mem _ (List.mem_append_right _ h)) (by decide +kernel))
set_option maxRecDepth 20000 in
theorem gX7_pass_X7_requireState : GoodIn wsX7_pass (va_wsS RX7 91 yX7_requireState wsX7_requireState) := goodIn_app (goodIn_of _ (by decide +kernel)) ggX7_pass_X7_requireState
theorem dX7_pass_0 : decode cX7_pass 0 = .ok (.iload_n 1, 1) := by decide +kernel
theorem dX7_pass_1 : decode cX7_pass 1 = .ok (.iconst 1, 1) := by decide +kernel
theorem dX7_pass_2 : decode cX7_pass 2 = .ok (.if_icmp .lt 13, 3) := by decide +kernel
theorem dX7_pass_5 : decode cX7_pass 5 = .ok (.iload_n 1, 1) := by decide +kernel
theorem dX7_pass_6 : decode cX7_pass 6 = .ok (.bipush 100, 2) := by decide +kernel
theorem dX7_pass_8 : decode cX7_pass 8 = .ok (.if_icmp .gt 7, 3) := by decide +kernel
theorem dX7_pass_11 : decode cX7_pass 11 = .ok (.iconst 1, 1) := by decide +kernel
theorem dX7_pass_12 : decode cX7_pass 12 = .ok (.goto 4, 3) := by decide +kernel
theorem dX7_pass_15 : decode cX7_pass 15 = .ok (.iconst 0, 1) := by decide +kernel
theorem dX7_pass_16 : decode cX7_pass 16 = .ok (.invokestatic 62, 3) := by decide +kernel
theorem dX7_pass_19 : decode cX7_pass 19 = .ok (.aload_n 0, 1) := by decide +kernel
theorem dX7_pass_20 : decode cX7_pass 20 = .ok (.getfield 41, 3) := by decide +kernel
theorem dX7_pass_23 : decode cX7_pass 23 = .ok (.iload_n 1, 1) := by decide +kernel
theorem dX7_pass_24 : decode cX7_pass 24 = .ok (.iadd, 1) := by decide +kernel
theorem dX7_pass_25 : decode cX7_pass 25 = .ok (.sipush 10000, 3) := by decide +kernel
theorem dX7_pass_28 : decode cX7_pass 28 = .ok (.if_icmp .gt 7, 3) := by decide +kernel
theorem dX7_pass_31 : decode cX7_pass 31 = .ok (.iconst 1, 1) := by decide +kernel
theorem dX7_pass_32 : decode cX7_pass 32 = .ok (.goto 4, 3) := by decide +kernel
theorem dX7_pass_35 : decode cX7_pass 35 = .ok (.iconst 0, 1) := by decide +kernel
theorem dX7_pass_36 : decode cX7_pass 36 = .ok (.invokestatic 91, 3) := by decide +kernel
theorem dX7_pass_39 : decode cX7_pass 39 = .ok (.aload_n 0, 1) := by decide +kernel
theorem dX7_pass_40 : decode cX7_pass 40 = .ok (.dup, 1) := by decide +kernel
theorem dX7_pass_41 : decode cX7_pass 41 = .ok (.getfield 41, 3) := by decide +kernel
theorem dX7_pass_44 : decode cX7_pass 44 = .ok (.iload_n 1, 1) := by decide +kernel
theorem dX7_pass_45 : decode cX7_pass 45 = .ok (.iadd, 1) := by decide +kernel
theorem dX7_pass_46 : decode cX7_pass 46 = .ok (.putfield 41, 3) := by decide +kernel
theorem dX7_pass_49 : decode cX7_pass 49 = .ok (.aload_n 0, 1) := by decide +kernel
theorem dX7_pass_50 : decode cX7_pass 50 = .ok (.getfield 41, 3) := by decide +kernel
theorem dX7_pass_53 : decode cX7_pass 53 = .ok (.ireturn, 1) := by decide +kernel
set_option maxRecDepth 20000 in
theorem ggX7_setGrace_X7_isWithin : GoodIn wsX7_setGrace wsX7_isWithin := goodIn_r _ [5] (by decide +kernel) (by decide +kernel)
set_option maxRecDepth 20000 in
theorem gX7_setGrace_X7_isWithin : GoodIn wsX7_setGrace (va_wsS RX7 58 yX7_isWithin wsX7_isWithin) := goodIn_app (goodIn_of _ (by decide +kernel)) ggX7_setGrace_X7_isWithin
set_option maxRecDepth 20000 in
theorem ggX7_setGrace_X7_requireArgument : GoodIn wsX7_setGrace wsX7_requireArgument := goodIn_ca (goodIn_r _ [8, 9, 10] (by decide +kernel) (by decide +kernel)) (goodIn_sub (fun _ h => List.mem_cons_of_mem _ (List.mem_append_right _ h)) (by decide +kernel))
set_option maxRecDepth 20000 in
theorem gX7_setGrace_X7_requireArgument : GoodIn wsX7_setGrace (va_wsS RX7 62 yX7_requireArgument wsX7_requireArgument) := goodIn_app (goodIn_of _ (by decide +kernel)) ggX7_setGrace_X7_requireArgument
theorem dX7_setGrace_0 : decode cX7_setGrace 0 = .ok (.iload_n 1, 1) := by decide +kernel
theorem dX7_setGrace_1 : decode cX7_setGrace 1 = .ok (.sipush 1000, 3) := by decide +kernel
theorem dX7_setGrace_4 : decode cX7_setGrace 4 = .ok (.invokestatic 58, 3) := by decide +kernel
theorem dX7_setGrace_7 : decode cX7_setGrace 7 = .ok (.invokestatic 62, 3) := by decide +kernel
theorem dX7_setGrace_10 : decode cX7_setGrace 10 = .ok (.aload_n 0, 1) := by decide +kernel
theorem dX7_setGrace_11 : decode cX7_setGrace 11 = .ok (.getfield 45, 3) := by decide +kernel
theorem dX7_setGrace_14 : decode cX7_setGrace 14 = .ok (.istore_n 2, 1) := by decide +kernel
theorem dX7_setGrace_15 : decode cX7_setGrace 15 = .ok (.aload_n 0, 1) := by decide +kernel
theorem dX7_setGrace_16 : decode cX7_setGrace 16 = .ok (.iload_n 1, 1) := by decide +kernel
theorem dX7_setGrace_17 : decode cX7_setGrace 17 = .ok (.putfield 45, 3) := by decide +kernel
theorem dX7_setGrace_20 : decode cX7_setGrace 20 = .ok (.iload_n 2, 1) := by decide +kernel
theorem dX7_setGrace_21 : decode cX7_setGrace 21 = .ok (.ireturn, 1) := by decide +kernel
set_option maxRecDepth 20000 in
theorem ggX7_read_X7_tableOf : GoodIn wsX7_read wsX7_tableOf := goodIn_ca (goodIn_r _ [7, 8, 9, 10, 6, 11, 12, 13, 14, 15, 16, 17, 18, 19, 20, 127, 128, 129, 120, 121, 122, 123, 124, 125, 126] (by decide +kernel) (by decide +kernel)) (goodIn_sub (fun _ h => List.mem_cons_of_mem _ (List.mem_append_left _ (List.mem_append_left _ (List.mem_append_right _ h)))) (by decide +kernel))
set_option maxRecDepth 20000 in
theorem gX7_read_X7_tableOf : GoodIn wsX7_read (wsV RX7 108 RX7 yX7_tableOf wsX7_tableOf) := goodIn_app (goodIn_of _ (by decide +kernel)) ggX7_read_X7_tableOf
set_option maxRecDepth 20000 in
theorem ggX7_read_X7_requireRow : GoodIn wsX7_read wsX7_requireRow := goodIn_ca (goodIn_r _ [23, 13, 14, 6, 15, 16, 17, 18, 19, 20] (by decide +kernel) (by decide +kernel)) (goodIn_sub (fun _ h => List.mem_cons_of_mem _ (List.mem_append_left _ (List.mem_append_left _ (List.mem_append_right _ h)))) (by decide +kernel))
set_option maxRecDepth 20000 in
theorem gX7_read_X7_requireRow : GoodIn wsX7_read (va_wsS RX7 51 yX7_requireRow wsX7_requireRow) := goodIn_app (goodIn_of _ (by decide +kernel)) ggX7_read_X7_requireRow
set_option maxRecDepth 20000 in
theorem ggX7_read_X7_requireColumn : GoodIn wsX7_read wsX7_requireColumn := goodIn_ca (goodIn_r _ [26, 13, 14, 6, 15, 16, 17, 18, 19, 20] (by decide +kernel) (by decide +kernel)) (goodIn_sub (fun _ h => List.mem_cons_of_mem _ (List.mem_append_left _ (List.mem_append_left _ (List.mem_append_right _ h)))) (by decide +kernel))
set_option maxRecDepth 20000 in
theorem gX7_read_X7_requireColumn : GoodIn wsX7_read (va_wsS RX7 55 yX7_requireColumn wsX7_requireColumn) := goodIn_app (goodIn_of _ (by decide +kernel)) ggX7_read_X7_requireColumn
set_option maxRecDepth 20000 in
theorem ggX7_read_X7_requireTwoUp : GoodIn wsX7_read wsX7_requireTwoUp := goodIn_ca (goodIn_ca (goodIn_ca (goodIn_r _ [30, 31, 32, 6, 33, 34, 35, 8, 9, 10, 11, 12, 13, 14, 15, 16, 17, 18, 19, 20, 36, 37, 38, 39, 40, 127, 128, 129, 120, 121, 122, 123, 124, 125, 126] (by decide +kernel) (by decide +kernel)) (goodIn_sub (fun _ h => List.mem_cons_of_mem _ (List.mem_append_left _ (List.mem_append_right _ h))) (by decide +kernel))) (goodIn_sub (fun _ h => List.mem_cons_of_mem _ (List.mem_append_left _ (List.mem_append_left _ (List.mem_append_right _ h)))) (by decide +kernel))) (goodIn_sub (fun _ h => List.mem_cons_of_mem _ (List.mem_append_right _ h)) (by decide +kernel))
set_option maxRecDepth 20000 in
theorem gX7_read_X7_requireTwoUp : GoodIn wsX7_read (wsV RX7 112 RX7 yX7_requireTwoUp wsX7_requireTwoUp) := goodIn_app (goodIn_of _ (by decide +kernel)) ggX7_read_X7_requireTwoUp
set_option maxRecDepth 20000 in
theorem ggX7_read_X5_hasSameFor : GoodIn wsX7_read wsX5_hasSameFor := goodIn_r _ [45, 46, 6, 47, 48, 49, 50, 44, 51, 52, 53, 54, 55, 56, 57, 58, 59, 60, 61, 62, 63, 64, 65, 66, 67, 68, 69, 70, 71, 72, 130, 131, 132, 133, 134, 135, 136, 137] (by decide +kernel) (by decide +kernel)
set_option maxRecDepth 20000 in
theorem gX7_read_X5_hasSameFor : GoodIn wsX7_read (wsV RX7 115 RX5 yX5_hasSameFor wsX5_hasSameFor) := goodIn_app (goodIn_of _ (by decide +kernel)) ggX7_read_X5_hasSameFor
set_option maxRecDepth 20000 in
theorem ggX7_read_X5_takeCellFrom : GoodIn wsX7_read wsX5_takeCellFrom := goodIn_r _ [76, 53, 52, 54, 46, 6, 47, 77, 78, 79, 44, 80, 81, 82, 83, 84, 85, 86, 87, 88, 89, 90, 91, 55, 56, 57, 58, 59, 60, 61, 62, 63, 64, 65, 66, 92, 93, 94, 95, 71, 72, 96, 97, 98, 99, 100, 101, 102, 103, 130, 131, 132, 133, 134, 135, 136, 137] (by decide +kernel) (by decide +kernel)
set_option maxRecDepth 20000 in
theorem gX7_read_X5_takeCellFrom : GoodIn wsX7_read (wsV RX7 119 RX5 yX5_takeCellFrom wsX5_takeCellFrom) := goodIn_app (goodIn_of _ (by decide +kernel)) ggX7_read_X5_takeCellFrom
set_option maxRecDepth 20000 in
theorem ggX7_read_X5_visibleValue : GoodIn wsX7_read wsX5_visibleValue := goodIn_r _ [107, 52, 54, 53, 46, 6, 47, 85, 86, 44, 87, 108, 109, 110, 111, 112, 113, 114, 115, 71, 116, 117, 118, 119, 55, 56, 57, 58, 59, 60, 61, 62, 63, 64, 65, 66, 130, 131, 132, 133, 134, 135, 136, 137] (by decide +kernel) (by decide +kernel)
set_option maxRecDepth 20000 in
theorem gX7_read_X5_visibleValue : GoodIn wsX7_read (wsV RX7 123 RX5 yX5_visibleValue wsX5_visibleValue) := goodIn_app (goodIn_of _ (by decide +kernel)) ggX7_read_X5_visibleValue
theorem dX7_read_0 : decode cX7_read 0 = .ok (.aload_n 0, 1) := by decide +kernel
theorem dX7_read_1 : decode cX7_read 1 = .ok (.iload_n 1, 1) := by decide +kernel
theorem dX7_read_2 : decode cX7_read 2 = .ok (.invokevirtual 108, 3) := by decide +kernel
theorem dX7_read_5 : decode cX7_read 5 = .ok (.astore 5, 2) := by decide +kernel
theorem dX7_read_7 : decode cX7_read 7 = .ok (.aload_n 0, 1) := by decide +kernel
theorem dX7_read_8 : decode cX7_read 8 = .ok (.iload_n 2, 1) := by decide +kernel
theorem dX7_read_9 : decode cX7_read 9 = .ok (.invokevirtual 108, 3) := by decide +kernel
theorem dX7_read_12 : decode cX7_read 12 = .ok (.astore 6, 2) := by decide +kernel
theorem dX7_read_14 : decode cX7_read 14 = .ok (.iload_n 3, 1) := by decide +kernel
theorem dX7_read_15 : decode cX7_read 15 = .ok (.invokestatic 51, 3) := by decide +kernel
theorem dX7_read_18 : decode cX7_read 18 = .ok (.iload 4, 2) := by decide +kernel
theorem dX7_read_20 : decode cX7_read 20 = .ok (.invokestatic 55, 3) := by decide +kernel
theorem dX7_read_23 : decode cX7_read 23 = .ok (.aload_n 0, 1) := by decide +kernel
theorem dX7_read_24 : decode cX7_read 24 = .ok (.iload_n 1, 1) := by decide +kernel
theorem dX7_read_25 : decode cX7_read 25 = .ok (.iload_n 2, 1) := by decide +kernel
theorem dX7_read_26 : decode cX7_read 26 = .ok (.invokevirtual 112, 3) := by decide +kernel
theorem dX7_read_29 : decode cX7_read 29 = .ok (.aload 5, 2) := by decide +kernel
theorem dX7_read_31 : decode cX7_read 31 = .ok (.iload_n 3, 1) := by decide +kernel
theorem dX7_read_32 : decode cX7_read 32 = .ok (.iload 4, 2) := by decide +kernel
theorem dX7_read_34 : decode cX7_read 34 = .ok (.aload 6, 2) := by decide +kernel
theorem dX7_read_36 : decode cX7_read 36 = .ok (.invokevirtual 115, 3) := by decide +kernel
theorem dX7_read_39 : decode cX7_read 39 = .ok (.ifCond .ne 33, 3) := by decide +kernel
theorem dX7_read_42 : decode cX7_read 42 = .ok (.aload 5, 2) := by decide +kernel
theorem dX7_read_44 : decode cX7_read 44 = .ok (.aload 6, 2) := by decide +kernel
theorem dX7_read_46 : decode cX7_read 46 = .ok (.iload_n 3, 1) := by decide +kernel
theorem dX7_read_47 : decode cX7_read 47 = .ok (.iload 4, 2) := by decide +kernel
theorem dX7_read_49 : decode cX7_read 49 = .ok (.invokevirtual 119, 3) := by decide +kernel
theorem dX7_read_52 : decode cX7_read 52 = .ok (.aload 6, 2) := by decide +kernel
theorem dX7_read_54 : decode cX7_read 54 = .ok (.aload 5, 2) := by decide +kernel
theorem dX7_read_56 : decode cX7_read 56 = .ok (.iload_n 3, 1) := by decide +kernel
theorem dX7_read_57 : decode cX7_read 57 = .ok (.iload 4, 2) := by decide +kernel
theorem dX7_read_59 : decode cX7_read 59 = .ok (.invokevirtual 119, 3) := by decide +kernel
theorem dX7_read_62 : decode cX7_read 62 = .ok (.aload_n 0, 1) := by decide +kernel
theorem dX7_read_63 : decode cX7_read 63 = .ok (.dup, 1) := by decide +kernel
theorem dX7_read_64 : decode cX7_read 64 = .ok (.getfield 48, 3) := by decide +kernel
theorem dX7_read_67 : decode cX7_read 67 = .ok (.iconst 1, 1) := by decide +kernel
theorem dX7_read_68 : decode cX7_read 68 = .ok (.iadd, 1) := by decide +kernel
theorem dX7_read_69 : decode cX7_read 69 = .ok (.putfield 48, 3) := by decide +kernel
theorem dX7_read_72 : decode cX7_read 72 = .ok (.aload 5, 2) := by decide +kernel
theorem dX7_read_74 : decode cX7_read 74 = .ok (.iload_n 3, 1) := by decide +kernel
theorem dX7_read_75 : decode cX7_read 75 = .ok (.iload 4, 2) := by decide +kernel
theorem dX7_read_77 : decode cX7_read 77 = .ok (.aload_n 0, 1) := by decide +kernel
theorem dX7_read_78 : decode cX7_read 78 = .ok (.getfield 41, 3) := by decide +kernel
theorem dX7_read_81 : decode cX7_read 81 = .ok (.invokevirtual 123, 3) := by decide +kernel
theorem dX7_read_84 : decode cX7_read 84 = .ok (.ireturn, 1) := by decide +kernel
set_option maxRecDepth 20000 in
theorem ggX7_makeAlike_X7_tableOf : GoodIn wsX7_makeAlike wsX7_tableOf := goodIn_ca (goodIn_r _ [6, 7, 8, 9, 5, 10, 11, 12, 13, 14, 15, 16, 17, 18, 19, 139, 140, 141, 132, 133, 134, 135, 136, 137, 138] (by decide +kernel) (by decide +kernel)) (goodIn_sub (fun _ h => List.mem_cons_of_mem _ (List.mem_append_left _ (List.mem_append_left _ (List.mem_append_right _ h)))) (by decide +kernel))
set_option maxRecDepth 20000 in
theorem gX7_makeAlike_X7_tableOf : GoodIn wsX7_makeAlike (wsV RX7 108 RX7 yX7_tableOf wsX7_tableOf) := goodIn_app (goodIn_of _ (by decide +kernel)) ggX7_makeAlike_X7_tableOf
set_option maxRecDepth 20000 in
theorem ggX7_makeAlike_X7_requireTwoUp : GoodIn wsX7_makeAlike wsX7_requireTwoUp := goodIn_ca (goodIn_ca (goodIn_ca (goodIn_r _ [23, 24, 25, 5, 26, 27, 28, 7, 8, 9, 10, 11, 12, 13, 14, 15, 16, 17, 18, 19, 29, 30, 31, 32, 33, 139, 140, 141, 132, 133, 134, 135, 136, 137, 138] (by decide +kernel) (by decide +kernel)) (goodIn_sub (fun _ h => List.mem_cons_of_mem _ (List.mem_append_left _ (List.mem_append_right _ h))) (by decide +kernel))) (goodIn_sub (fun _ h => List.mem_cons_of_mem _ (List.mem_append_left _ (List.mem_append_left _ (List.mem_append_right _ h)))) (by decide +kernel))) (goodIn_sub (fun _ h => List.mem_cons_of_mem _ (List.mem_append_right _ h)) (by decide +kernel))
set_option maxRecDepth 20000 in
theorem gX7_makeAlike_X7_requireTwoUp : GoodIn wsX7_makeAlike (wsV RX7 112 RX7 yX7_requireTwoUp wsX7_requireTwoUp) := goodIn_app (goodIn_of _ (by decide +kernel)) ggX7_makeAlike_X7_requireTwoUp
set_option maxRecDepth 20000 in
theorem ggX7_makeAlike_X1_compareNodes : GoodIn wsX7_makeAlike wsX1_compareNodes := goodIn_r _ [38, 39, 40, 41, 42, 43, 37, 44, 45, 46, 47, 48, 49, 50, 51, 52, 53, 54, 55, 56, 57, 58, 59, 5, 60, 61, 62, 63, 64, 65, 66, 67, 68, 69, 70, 71, 72, 73, 74, 75, 76, 77, 78, 142, 143, 144, 145, 146, 147, 148, 149, 150, 151, 152] (by decide +kernel) (by decide +kernel)
set_option maxRecDepth 20000 in
theorem gX7_makeAlike_X1_compareNodes : GoodIn wsX7_makeAlike (wsV RX7 127 RX1 yX1_compareNodes wsX1_compareNodes) := goodIn_app (goodIn_of _ (by decide +kernel)) ggX7_makeAlike_X1_compareNodes
set_option maxRecDepth 20000 in
theorem ggX7_makeAlike_X1_unlikeRows : GoodIn wsX7_makeAlike wsX1_unlikeRows := goodIn_r _ [82, 41, 142, 143, 144] (by decide +kernel) (by decide +kernel)
set_option maxRecDepth 20000 in
theorem gX7_makeAlike_X1_unlikeRows : GoodIn wsX7_makeAlike (wsV RX7 131 RX1 yX1_unlikeRows wsX1_unlikeRows) := goodIn_app (goodIn_of _ (by decide +kernel)) ggX7_makeAlike_X1_unlikeRows
set_option maxRecDepth 20000 in
theorem ggX7_makeAlike_X7_isInSet : GoodIn wsX7_makeAlike wsX7_isInSet := goodIn_r _ [85] (by decide +kernel) (by decide +kernel)
set_option maxRecDepth 20000 in
theorem gX7_makeAlike_X7_isInSet : GoodIn wsX7_makeAlike (va_wsS RX7 134 yX7_isInSet wsX7_isInSet) := goodIn_app (goodIn_of _ (by decide +kernel)) ggX7_makeAlike_X7_isInSet
set_option maxRecDepth 20000 in
theorem ggX7_makeAlike_X5_takeRowFrom : GoodIn wsX7_makeAlike wsX5_takeRowFrom := goodIn_r _ [89, 90, 91, 92, 49, 93, 67, 65, 66, 59, 5, 60, 94, 95, 96, 97, 98, 99, 100, 101, 102, 103, 104, 105, 106, 107, 108, 109, 110, 111, 112, 51, 68, 69, 70, 71, 72, 73, 74, 113, 114, 115, 116, 57, 58, 117, 118, 119, 120, 121, 122, 123, 124, 145, 146, 147, 148, 149, 150, 151, 152] (by decide +kernel) (by decide +kernel)
set_option maxRecDepth 20000 in
theorem gX7_makeAlike_X5_takeRowFrom : GoodIn wsX7_makeAlike (wsV RX7 137 RX5 yX5_takeRowFrom wsX5_takeRowFrom) := goodIn_app (goodIn_of _ (by decide +kernel)) ggX7_makeAlike_X5_takeRowFrom
set_option maxRecDepth 20000 in
theorem ggX7_makeAlike_J6_bitCount_0f7a4 : GoodIn wsX7_makeAlike wsJ6_bitCount_0f7a4 := goodIn_r _ [128, 129, 130, 131] (by decide +kernel) (by decide +kernel)
set_option maxRecDepth 20000 in
theorem gX7_makeAlike_J6_bitCount_0f7a4 : GoodIn wsX7_makeAlike (va_wsS RX7 141 yJ6_bitCount_0f7a4 wsJ6_bitCount_0f7a4) := goodIn_app (goodIn_of _ (by decide +kernel)) ggX7_makeAlike_J6_bitCount_0f7a4
theorem dX7_makeAlike_0 : decode cX7_makeAlike 0 = .ok (.aload_n 0, 1) := by decide +kernel
theorem dX7_makeAlike_1 : decode cX7_makeAlike 1 = .ok (.iload_n 1, 1) := by decide +kernel
theorem dX7_makeAlike_2 : decode cX7_makeAlike 2 = .ok (.invokevirtual 108, 3) := by decide +kernel
theorem dX7_makeAlike_5 : decode cX7_makeAlike 5 = .ok (.astore_n 3, 1) := by decide +kernel
theorem dX7_makeAlike_6 : decode cX7_makeAlike 6 = .ok (.aload_n 0, 1) := by decide +kernel
theorem dX7_makeAlike_7 : decode cX7_makeAlike 7 = .ok (.iload_n 2, 1) := by decide +kernel
theorem dX7_makeAlike_8 : decode cX7_makeAlike 8 = .ok (.invokevirtual 108, 3) := by decide +kernel
theorem dX7_makeAlike_11 : decode cX7_makeAlike 11 = .ok (.astore 4, 2) := by decide +kernel
theorem dX7_makeAlike_13 : decode cX7_makeAlike 13 = .ok (.aload_n 0, 1) := by decide +kernel
theorem dX7_makeAlike_14 : decode cX7_makeAlike 14 = .ok (.iload_n 1, 1) := by decide +kernel
theorem dX7_makeAlike_15 : decode cX7_makeAlike 15 = .ok (.iload_n 2, 1) := by decide +kernel
theorem dX7_makeAlike_16 : decode cX7_makeAlike 16 = .ok (.invokevirtual 112, 3) := by decide +kernel
theorem dX7_makeAlike_19 : decode cX7_makeAlike 19 = .ok (.aload_n 0, 1) := by decide +kernel
theorem dX7_makeAlike_20 : decode cX7_makeAlike 20 = .ok (.getfield 37, 3) := by decide +kernel
theorem dX7_makeAlike_23 : decode cX7_makeAlike 23 = .ok (.aload_n 3, 1) := by decide +kernel
theorem dX7_makeAlike_24 : decode cX7_makeAlike 24 = .ok (.aload 4, 2) := by decide +kernel
theorem dX7_makeAlike_26 : decode cX7_makeAlike 26 = .ok (.invokevirtual 127, 3) := by decide +kernel
theorem dX7_makeAlike_29 : decode cX7_makeAlike 29 = .ok (.pop, 1) := by decide +kernel
theorem dX7_makeAlike_30 : decode cX7_makeAlike 30 = .ok (.aload_n 0, 1) := by decide +kernel
theorem dX7_makeAlike_31 : decode cX7_makeAlike 31 = .ok (.getfield 37, 3) := by decide +kernel
theorem dX7_makeAlike_34 : decode cX7_makeAlike 34 = .ok (.invokevirtual 131, 3) := by decide +kernel
theorem dX7_makeAlike_37 : decode cX7_makeAlike 37 = .ok (.istore 5, 2) := by decide +kernel
theorem dX7_makeAlike_39 : decode cX7_makeAlike 39 = .ok (.iconst 0, 1) := by decide +kernel
theorem dX7_makeAlike_40 : decode cX7_makeAlike 40 = .ok (.istore 6, 2) := by decide +kernel
theorem dX7_makeAlike_42 : decode cX7_makeAlike 42 = .ok (.iload 6, 2) := by decide +kernel
theorem dX7_makeAlike_44 : decode cX7_makeAlike 44 = .ok (.bipush 16, 2) := by decide +kernel
theorem dX7_makeAlike_46 : decode cX7_makeAlike 46 = .ok (.if_icmp .ge 35, 3) := by decide +kernel
theorem dX7_makeAlike_49 : decode cX7_makeAlike 49 = .ok (.iload 6, 2) := by decide +kernel
theorem dX7_makeAlike_51 : decode cX7_makeAlike 51 = .ok (.iload 5, 2) := by decide +kernel
theorem dX7_makeAlike_53 : decode cX7_makeAlike 53 = .ok (.invokestatic 134, 3) := by decide +kernel
theorem dX7_makeAlike_56 : decode cX7_makeAlike 56 = .ok (.ifCond .eq 19, 3) := by decide +kernel
theorem dX7_makeAlike_59 : decode cX7_makeAlike 59 = .ok (.aload_n 3, 1) := by decide +kernel
theorem dX7_makeAlike_60 : decode cX7_makeAlike 60 = .ok (.aload 4, 2) := by decide +kernel
theorem dX7_makeAlike_62 : decode cX7_makeAlike 62 = .ok (.iload 6, 2) := by decide +kernel
theorem dX7_makeAlike_64 : decode cX7_makeAlike 64 = .ok (.invokevirtual 137, 3) := by decide +kernel
theorem dX7_makeAlike_67 : decode cX7_makeAlike 67 = .ok (.aload 4, 2) := by decide +kernel
theorem dX7_makeAlike_69 : decode cX7_makeAlike 69 = .ok (.aload_n 3, 1) := by decide +kernel
theorem dX7_makeAlike_70 : decode cX7_makeAlike 70 = .ok (.iload 6, 2) := by decide +kernel
theorem dX7_makeAlike_72 : decode cX7_makeAlike 72 = .ok (.invokevirtual 137, 3) := by decide +kernel
theorem dX7_makeAlike_75 : decode cX7_makeAlike 75 = .ok (.iinc 6 1, 3) := by decide +kernel
theorem dX7_makeAlike_78 : decode cX7_makeAlike 78 = .ok (.goto (-36), 3) := by decide +kernel
theorem dX7_makeAlike_81 : decode cX7_makeAlike 81 = .ok (.iload 5, 2) := by decide +kernel
theorem dX7_makeAlike_83 : decode cX7_makeAlike 83 = .ok (.invokestatic 141, 3) := by decide +kernel
theorem dX7_makeAlike_86 : decode cX7_makeAlike 86 = .ok (.ireturn, 1) := by decide +kernel
set_option maxRecDepth 20000 in
theorem ggX7_clean_X7_keeperOf : GoodIn wsX7_clean wsX7_keeperOf := goodIn_ca (goodIn_r _ [7, 8, 9, 10, 6, 11, 12, 13, 14, 15, 16, 84, 85, 86, 87, 88, 89, 90] (by decide +kernel) (by decide +kernel)) (goodIn_sub (fun _ h => List.mem_cons_of_mem _ (List.mem_append_left _ (List.mem_append_right _ h))) (by decide +kernel))
set_option maxRecDepth 20000 in
theorem gX7_clean_X7_keeperOf : GoodIn wsX7_clean (wsV RX7 94 RX7 yX7_keeperOf wsX7_keeperOf) := goodIn_app (goodIn_of _ (by decide +kernel)) ggX7_clean_X7_keeperOf
set_option maxRecDepth 20000 in
theorem ggX7_clean_X7_requireState : GoodIn wsX7_clean wsX7_requireState := goodIn_ca (goodIn_r _ [19, 20, 21] (by decide +kernel) (by decide +kernel)) (goodIn_sub (fun _ h => List.mem_cons_of_mem _ (List.mem_append_right _ h)) (by decide +kernel))
set_option maxRecDepth 20000 in
theorem gX7_clean_X7_requireState : GoodIn wsX7_clean (va_wsS RX7 91 yX7_requireState wsX7_requireState) := goodIn_app (goodIn_of _ (by decide +kernel)) ggX7_clean_X7_requireState
set_option maxRecDepth 20000 in
theorem ggX7_clean_X5_dropCovered : GoodIn wsX7_clean wsX5_dropCovered := goodIn_r _ [26, 27, 28, 6, 29, 30, 31, 32, 25, 33, 34, 35, 36, 37, 38, 39, 40, 41, 42, 43, 44, 45, 46, 47, 48, 49, 50, 51, 52, 53, 54, 55, 56, 57, 58, 59, 60, 61, 62, 63, 64, 91, 92, 93, 94, 95, 96, 97, 98] (by decide +kernel) (by decide +kernel)
set_option maxRecDepth 20000 in
theorem gX7_clean_X5_dropCovered : GoodIn wsX7_clean (wsV RX7 154 RX5 yX5_dropCovered wsX5_dropCovered) := goodIn_app (goodIn_of _ (by decide +kernel)) ggX7_clean_X5_dropCovered
set_option maxRecDepth 20000 in
theorem ggX7_clean_X5_dropTombstonesMadeBy : GoodIn wsX7_clean wsX5_dropTombstonesMadeBy := goodIn_r _ [68, 38, 69, 70, 71, 72, 25, 73, 91, 92, 93, 94, 95, 96] (by decide +kernel) (by decide +kernel)
set_option maxRecDepth 20000 in
theorem gX7_clean_X5_dropTombstonesMadeBy : GoodIn wsX7_clean (wsV RX7 157 RX5 yX5_dropTombstonesMadeBy wsX5_dropTombstonesMadeBy) := goodIn_app (goodIn_of _ (by decide +kernel)) ggX7_clean_X5_dropTombstonesMadeBy
set_option maxRecDepth 20000 in
theorem ggX7_clean_X5_dropEntriesEndedBy : GoodIn wsX7_clean wsX5_dropEntriesEndedBy := goodIn_r _ [77, 27, 64, 78, 79, 25, 80, 55, 56, 57, 58, 59, 60, 61, 62, 63, 91, 92, 93, 94, 95, 96] (by decide +kernel) (by decide +kernel)
set_option maxRecDepth 20000 in
theorem gX7_clean_X5_dropEntriesEndedBy : GoodIn wsX7_clean (wsV RX7 160 RX5 yX5_dropEntriesEndedBy wsX5_dropEntriesEndedBy) := goodIn_app (goodIn_of _ (by decide +kernel)) ggX7_clean_X5_dropEntriesEndedBy
theorem dX7_clean_0 : decode cX7_clean 0 = .ok (.aload_n 0, 1) := by decide +kernel
theorem dX7_clean_1 : decode cX7_clean 1 = .ok (.iload_n 1, 1) := by decide +kernel
theorem dX7_clean_2 : decode cX7_clean 2 = .ok (.invokevirtual 94, 3) := by decide +kernel
theorem dX7_clean_5 : decode cX7_clean 5 = .ok (.astore_n 2, 1) := by decide +kernel
theorem dX7_clean_6 : decode cX7_clean 6 = .ok (.aload_n 2, 1) := by decide +kernel
theorem dX7_clean_7 : decode cX7_clean 7 = .ok (.getfield 147, 3) := by decide +kernel
theorem dX7_clean_10 : decode cX7_clean 10 = .ok (.invokestatic 91, 3) := by decide +kernel
theorem dX7_clean_13 : decode cX7_clean 13 = .ok (.aload_n 2, 1) := by decide +kernel
theorem dX7_clean_14 : decode cX7_clean 14 = .ok (.getfield 151, 3) := by decide +kernel
theorem dX7_clean_17 : decode cX7_clean 17 = .ok (.invokevirtual 154, 3) := by decide +kernel
theorem dX7_clean_20 : decode cX7_clean 20 = .ok (.istore_n 3, 1) := by decide +kernel
theorem dX7_clean_21 : decode cX7_clean 21 = .ok (.aload_n 2, 1) := by decide +kernel
theorem dX7_clean_22 : decode cX7_clean 22 = .ok (.getfield 151, 3) := by decide +kernel
theorem dX7_clean_25 : decode cX7_clean 25 = .ok (.aload_n 0, 1) := by decide +kernel
theorem dX7_clean_26 : decode cX7_clean 26 = .ok (.getfield 41, 3) := by decide +kernel
theorem dX7_clean_29 : decode cX7_clean 29 = .ok (.aload_n 0, 1) := by decide +kernel
theorem dX7_clean_30 : decode cX7_clean 30 = .ok (.getfield 45, 3) := by decide +kernel
theorem dX7_clean_33 : decode cX7_clean 33 = .ok (.isub, 1) := by decide +kernel
theorem dX7_clean_34 : decode cX7_clean 34 = .ok (.invokevirtual 157, 3) := by decide +kernel
theorem dX7_clean_37 : decode cX7_clean 37 = .ok (.istore 4, 2) := by decide +kernel
theorem dX7_clean_39 : decode cX7_clean 39 = .ok (.aload_n 2, 1) := by decide +kernel
theorem dX7_clean_40 : decode cX7_clean 40 = .ok (.getfield 151, 3) := by decide +kernel
theorem dX7_clean_43 : decode cX7_clean 43 = .ok (.aload_n 0, 1) := by decide +kernel
theorem dX7_clean_44 : decode cX7_clean 44 = .ok (.getfield 41, 3) := by decide +kernel
theorem dX7_clean_47 : decode cX7_clean 47 = .ok (.aload_n 0, 1) := by decide +kernel
theorem dX7_clean_48 : decode cX7_clean 48 = .ok (.getfield 45, 3) := by decide +kernel
theorem dX7_clean_51 : decode cX7_clean 51 = .ok (.isub, 1) := by decide +kernel
theorem dX7_clean_52 : decode cX7_clean 52 = .ok (.invokevirtual 160, 3) := by decide +kernel
theorem dX7_clean_55 : decode cX7_clean 55 = .ok (.istore 5, 2) := by decide +kernel
theorem dX7_clean_57 : decode cX7_clean 57 = .ok (.iload_n 3, 1) := by decide +kernel
theorem dX7_clean_58 : decode cX7_clean 58 = .ok (.iload 4, 2) := by decide +kernel
theorem dX7_clean_60 : decode cX7_clean 60 = .ok (.iadd, 1) := by decide +kernel
theorem dX7_clean_61 : decode cX7_clean 61 = .ok (.iload 5, 2) := by decide +kernel
theorem dX7_clean_63 : decode cX7_clean 63 = .ok (.iadd, 1) := by decide +kernel
theorem dX7_clean_64 : decode cX7_clean 64 = .ok (.ireturn, 1) := by decide +kernel
theorem dX7_time_0 : decode cX7_time 0 = .ok (.aload_n 0, 1) := by decide +kernel
theorem dX7_time_1 : decode cX7_time 1 = .ok (.getfield 41, 3) := by decide +kernel
theorem dX7_time_4 : decode cX7_time 4 = .ok (.ireturn, 1) := by decide +kernel
set_option maxRecDepth 20000 in
theorem ggX7_isUp_X7_keeperOf : GoodIn wsX7_isUp wsX7_keeperOf := goodIn_ca (goodIn_r _ [5, 6, 7, 8, 4, 9, 10, 11, 12, 13, 14, 18, 19, 20, 21, 22, 23, 24] (by decide +kernel) (by decide +kernel)) (goodIn_sub (fun _ h => List.mem_cons_of_mem _ (List.mem_append_right _ h)) (by decide +kernel))
set_option maxRecDepth 20000 in
theorem gX7_isUp_X7_keeperOf : GoodIn wsX7_isUp (wsV RX7 94 RX7 yX7_keeperOf wsX7_keeperOf) := goodIn_app (goodIn_of _ (by decide +kernel)) ggX7_isUp_X7_keeperOf
theorem dX7_isUp_0 : decode cX7_isUp 0 = .ok (.aload_n 0, 1) := by decide +kernel
theorem dX7_isUp_1 : decode cX7_isUp 1 = .ok (.iload_n 1, 1) := by decide +kernel
theorem dX7_isUp_2 : decode cX7_isUp 2 = .ok (.invokevirtual 94, 3) := by decide +kernel
theorem dX7_isUp_5 : decode cX7_isUp 5 = .ok (.getfield 147, 3) := by decide +kernel
theorem dX7_isUp_8 : decode cX7_isUp 8 = .ok (.ireturn, 1) := by decide +kernel
set_option maxRecDepth 20000 in
theorem ggX7_hints_X7_keeperOf : GoodIn wsX7_hints wsX7_keeperOf := goodIn_ca (goodIn_r _ [5, 6, 7, 8, 4, 9, 10, 11, 12, 13, 14, 24, 25, 26, 27, 28, 29, 30] (by decide +kernel) (by decide +kernel)) (goodIn_sub (fun _ h => List.mem_cons_of_mem _ (List.mem_append_right _ h)) (by decide +kernel))
set_option maxRecDepth 20000 in
theorem gX7_hints_X7_keeperOf : GoodIn wsX7_hints (wsV RX7 94 RX7 yX7_keeperOf wsX7_keeperOf) := goodIn_app (goodIn_of _ (by decide +kernel)) ggX7_hints_X7_keeperOf
set_option maxRecDepth 20000 in
theorem ggX7_hints_Jx4a65c_size_8abf5 : GoodIn wsX7_hints wsJx4a65c_size_8abf5 := goodIn_r _ [19, 20, 31, 32, 33] (by decide +kernel) (by decide +kernel)
set_option maxRecDepth 20000 in
theorem gX7_hints_Jx4a65c_size_8abf5 : GoodIn wsX7_hints (wsV RX7 167 RJx4a65c yJx4a65c_size_8abf5 wsJx4a65c_size_8abf5) := goodIn_app (goodIn_of _ (by decide +kernel)) ggX7_hints_Jx4a65c_size_8abf5
theorem dX7_hints_0 : decode cX7_hints 0 = .ok (.aload_n 0, 1) := by decide +kernel
theorem dX7_hints_1 : decode cX7_hints 1 = .ok (.iload_n 1, 1) := by decide +kernel
theorem dX7_hints_2 : decode cX7_hints 2 = .ok (.invokevirtual 94, 3) := by decide +kernel
theorem dX7_hints_5 : decode cX7_hints 5 = .ok (.getfield 163, 3) := by decide +kernel
theorem dX7_hints_8 : decode cX7_hints 8 = .ok (.invokevirtual 167, 3) := by decide +kernel
theorem dX7_hints_11 : decode cX7_hints 11 = .ok (.ireturn, 1) := by decide +kernel
theorem dX7_repairs_0 : decode cX7_repairs 0 = .ok (.aload_n 0, 1) := by decide +kernel
theorem dX7_repairs_1 : decode cX7_repairs 1 = .ok (.getfield 48, 3) := by decide +kernel
theorem dX7_repairs_4 : decode cX7_repairs 4 = .ok (.ireturn, 1) := by decide +kernel
set_option maxRecDepth 20000 in
theorem ggX7_valueAt_X7_tableOf : GoodIn wsX7_valueAt wsX7_tableOf := goodIn_ca (goodIn_r _ [6, 7, 8, 9, 5, 10, 11, 12, 13, 14, 15, 16, 17, 18, 19, 71, 72, 73, 64, 65, 66, 67, 68, 69, 70] (by decide +kernel) (by decide +kernel)) (goodIn_sub (fun _ h => List.mem_cons_of_mem _ (List.mem_append_right _ h)) (by decide +kernel))
set_option maxRecDepth 20000 in
theorem gX7_valueAt_X7_tableOf : GoodIn wsX7_valueAt (wsV RX7 108 RX7 yX7_tableOf wsX7_tableOf) := goodIn_app (goodIn_of _ (by decide +kernel)) ggX7_valueAt_X7_tableOf
set_option maxRecDepth 20000 in
theorem ggX7_valueAt_X7_requireRow : GoodIn wsX7_valueAt wsX7_requireRow := goodIn_ca (goodIn_r _ [22, 12, 13, 5, 14, 15, 16, 17, 18, 19] (by decide +kernel) (by decide +kernel)) (goodIn_sub (fun _ h => List.mem_cons_of_mem _ (List.mem_append_right _ h)) (by decide +kernel))
set_option maxRecDepth 20000 in
theorem gX7_valueAt_X7_requireRow : GoodIn wsX7_valueAt (va_wsS RX7 51 yX7_requireRow wsX7_requireRow) := goodIn_app (goodIn_of _ (by decide +kernel)) ggX7_valueAt_X7_requireRow
set_option maxRecDepth 20000 in
theorem ggX7_valueAt_X7_requireColumn : GoodIn wsX7_valueAt wsX7_requireColumn := goodIn_ca (goodIn_r _ [25, 12, 13, 5, 14, 15, 16, 17, 18, 19] (by decide +kernel) (by decide +kernel)) (goodIn_sub (fun _ h => List.mem_cons_of_mem _ (List.mem_append_right _ h)) (by decide +kernel))
set_option maxRecDepth 20000 in
theorem gX7_valueAt_X7_requireColumn : GoodIn wsX7_valueAt (va_wsS RX7 55 yX7_requireColumn wsX7_requireColumn) := goodIn_app (goodIn_of _ (by decide +kernel)) ggX7_valueAt_X7_requireColumn
set_option maxRecDepth 20000 in
theorem ggX7_valueAt_X5_visibleValue : GoodIn wsX7_valueAt wsX5_visibleValue := goodIn_r _ [30, 31, 32, 33, 34, 5, 35, 36, 37, 29, 38, 39, 40, 41, 42, 43, 44, 45, 46, 47, 48, 49, 50, 51, 52, 53, 54, 55, 56, 57, 58, 59, 60, 61, 62, 63, 74, 75, 76, 77, 78, 79, 80, 81] (by decide +kernel) (by decide +kernel)
set_option maxRecDepth 20000 in
theorem gX7_valueAt_X5_visibleValue : GoodIn wsX7_valueAt (wsV RX7 123 RX5 yX5_visibleValue wsX5_visibleValue) := goodIn_app (goodIn_of _ (by decide +kernel)) ggX7_valueAt_X5_visibleValue
theorem dX7_valueAt_0 : decode cX7_valueAt 0 = .ok (.aload_n 0, 1) := by decide +kernel
theorem dX7_valueAt_1 : decode cX7_valueAt 1 = .ok (.iload_n 1, 1) := by decide +kernel
theorem dX7_valueAt_2 : decode cX7_valueAt 2 = .ok (.invokevirtual 108, 3) := by decide +kernel
theorem dX7_valueAt_5 : decode cX7_valueAt 5 = .ok (.astore 4, 2) := by decide +kernel
theorem dX7_valueAt_7 : decode cX7_valueAt 7 = .ok (.iload_n 2, 1) := by decide +kernel
theorem dX7_valueAt_8 : decode cX7_valueAt 8 = .ok (.invokestatic 51, 3) := by decide +kernel
theorem dX7_valueAt_11 : decode cX7_valueAt 11 = .ok (.iload_n 3, 1) := by decide +kernel
theorem dX7_valueAt_12 : decode cX7_valueAt 12 = .ok (.invokestatic 55, 3) := by decide +kernel
theorem dX7_valueAt_15 : decode cX7_valueAt 15 = .ok (.aload 4, 2) := by decide +kernel
theorem dX7_valueAt_17 : decode cX7_valueAt 17 = .ok (.iload_n 2, 1) := by decide +kernel
theorem dX7_valueAt_18 : decode cX7_valueAt 18 = .ok (.iload_n 3, 1) := by decide +kernel
theorem dX7_valueAt_19 : decode cX7_valueAt 19 = .ok (.aload_n 0, 1) := by decide +kernel
theorem dX7_valueAt_20 : decode cX7_valueAt 20 = .ok (.getfield 41, 3) := by decide +kernel
theorem dX7_valueAt_23 : decode cX7_valueAt 23 = .ok (.invokevirtual 123, 3) := by decide +kernel
theorem dX7_valueAt_26 : decode cX7_valueAt 26 = .ok (.ireturn, 1) := by decide +kernel
set_option maxRecDepth 20000 in
theorem ggX7_stampAt_X7_tableOf : GoodIn wsX7_stampAt wsX7_tableOf := goodIn_ca (goodIn_r _ [5, 6, 7, 8, 4, 9, 10, 11, 12, 13, 14, 15, 16, 17, 18, 34, 35, 36, 37, 38, 39, 40, 41, 42, 43] (by decide +kernel) (by decide +kernel)) (goodIn_sub (fun _ h => List.mem_cons_of_mem _ (List.mem_append_right _ h)) (by decide +kernel))
set_option maxRecDepth 20000 in
theorem gX7_stampAt_X7_tableOf : GoodIn wsX7_stampAt (wsV RX7 108 RX7 yX7_tableOf wsX7_tableOf) := goodIn_app (goodIn_of _ (by decide +kernel)) ggX7_stampAt_X7_tableOf
set_option maxRecDepth 20000 in
theorem ggX7_stampAt_X7_requireRow : GoodIn wsX7_stampAt wsX7_requireRow := goodIn_ca (goodIn_r _ [21, 11, 12, 4, 13, 14, 15, 16, 17, 18] (by decide +kernel) (by decide +kernel)) (goodIn_sub (fun _ h => List.mem_cons_of_mem _ (List.mem_append_right _ h)) (by decide +kernel))
set_option maxRecDepth 20000 in
theorem gX7_stampAt_X7_requireRow : GoodIn wsX7_stampAt (va_wsS RX7 51 yX7_requireRow wsX7_requireRow) := goodIn_app (goodIn_of _ (by decide +kernel)) ggX7_stampAt_X7_requireRow
set_option maxRecDepth 20000 in
theorem ggX7_stampAt_X7_requireColumn : GoodIn wsX7_stampAt wsX7_requireColumn := goodIn_ca (goodIn_r _ [24, 11, 12, 4, 13, 14, 15, 16, 17, 18] (by decide +kernel) (by decide +kernel)) (goodIn_sub (fun _ h => List.mem_cons_of_mem _ (List.mem_append_right _ h)) (by decide +kernel))
set_option maxRecDepth 20000 in
theorem gX7_stampAt_X7_requireColumn : GoodIn wsX7_stampAt (va_wsS RX7 55 yX7_requireColumn wsX7_requireColumn) := goodIn_app (goodIn_of _ (by decide +kernel)) ggX7_stampAt_X7_requireColumn
set_option maxRecDepth 20000 in
theorem ggX7_stampAt_X7_cellAt : GoodIn wsX7_stampAt wsX7_cellAt := goodIn_r _ [27] (by decide +kernel) (by decide +kernel)
set_option maxRecDepth 20000 in
theorem gX7_stampAt_X7_cellAt : GoodIn wsX7_stampAt (va_wsS RX7 68 yX7_cellAt wsX7_cellAt) := goodIn_app (goodIn_of _ (by decide +kernel)) ggX7_stampAt_X7_cellAt
theorem dX7_stampAt_0 : decode cX7_stampAt 0 = .ok (.aload_n 0, 1) := by decide +kernel
theorem dX7_stampAt_1 : decode cX7_stampAt 1 = .ok (.iload_n 1, 1) := by decide +kernel
theorem dX7_stampAt_2 : decode cX7_stampAt 2 = .ok (.invokevirtual 108, 3) := by decide +kernel
theorem dX7_stampAt_5 : decode cX7_stampAt 5 = .ok (.astore 4, 2) := by decide +kernel
theorem dX7_stampAt_7 : decode cX7_stampAt 7 = .ok (.iload_n 2, 1) := by decide +kernel
theorem dX7_stampAt_8 : decode cX7_stampAt 8 = .ok (.invokestatic 51, 3) := by decide +kernel
theorem dX7_stampAt_11 : decode cX7_stampAt 11 = .ok (.iload_n 3, 1) := by decide +kernel
theorem dX7_stampAt_12 : decode cX7_stampAt 12 = .ok (.invokestatic 55, 3) := by decide +kernel
theorem dX7_stampAt_15 : decode cX7_stampAt 15 = .ok (.aload 4, 2) := by decide +kernel
theorem dX7_stampAt_17 : decode cX7_stampAt 17 = .ok (.getfield 172, 3) := by decide +kernel
theorem dX7_stampAt_20 : decode cX7_stampAt 20 = .ok (.iload_n 2, 1) := by decide +kernel
theorem dX7_stampAt_21 : decode cX7_stampAt 21 = .ok (.iload_n 3, 1) := by decide +kernel
theorem dX7_stampAt_22 : decode cX7_stampAt 22 = .ok (.invokestatic 68, 3) := by decide +kernel
theorem dX7_stampAt_25 : decode cX7_stampAt 25 = .ok (.iaload, 1) := by decide +kernel
theorem dX7_stampAt_26 : decode cX7_stampAt 26 = .ok (.ireturn, 1) := by decide +kernel
set_option maxRecDepth 20000 in
theorem ggX7_buriedBy_X7_tableOf : GoodIn wsX7_buriedBy wsX7_tableOf := goodIn_ca (goodIn_r _ [5, 6, 7, 8, 4, 9, 10, 11, 12, 13, 14, 15, 16, 17, 18, 49, 50, 51, 52, 53, 54, 55, 56, 57, 58] (by decide +kernel) (by decide +kernel)) (goodIn_sub (fun _ h => List.mem_cons_of_mem _ (List.mem_append_right _ h)) (by decide +kernel))
set_option maxRecDepth 20000 in
theorem gX7_buriedBy_X7_tableOf : GoodIn wsX7_buriedBy (wsV RX7 108 RX7 yX7_tableOf wsX7_tableOf) := goodIn_app (goodIn_of _ (by decide +kernel)) ggX7_buriedBy_X7_tableOf
set_option maxRecDepth 20000 in
theorem ggX7_buriedBy_X7_requireRow : GoodIn wsX7_buriedBy wsX7_requireRow := goodIn_ca (goodIn_r _ [21, 11, 12, 4, 13, 14, 15, 16, 17, 18] (by decide +kernel) (by decide +kernel)) (goodIn_sub (fun _ h => List.mem_cons_of_mem _ (List.mem_append_right _ h)) (by decide +kernel))
set_option maxRecDepth 20000 in
theorem gX7_buriedBy_X7_requireRow : GoodIn wsX7_buriedBy (va_wsS RX7 51 yX7_requireRow wsX7_requireRow) := goodIn_app (goodIn_of _ (by decide +kernel)) ggX7_buriedBy_X7_requireRow
set_option maxRecDepth 20000 in
theorem ggX7_buriedBy_X7_requireColumn : GoodIn wsX7_buriedBy wsX7_requireColumn := goodIn_ca (goodIn_r _ [24, 11, 12, 4, 13, 14, 15, 16, 17, 18] (by decide +kernel) (by decide +kernel)) (goodIn_sub (fun _ h => List.mem_cons_of_mem _ (List.mem_append_right _ h)) (by decide +kernel))
set_option maxRecDepth 20000 in
theorem gX7_buriedBy_X7_requireColumn : GoodIn wsX7_buriedBy (va_wsS RX7 55 yX7_requireColumn wsX7_requireColumn) := goodIn_app (goodIn_of _ (by decide +kernel)) ggX7_buriedBy_X7_requireColumn
set_option maxRecDepth 20000 in
theorem ggX7_buriedBy_X5_greatestBurial : GoodIn wsX7_buriedBy wsX5_greatestBurial := goodIn_r _ [29, 30, 31, 32, 33, 34, 35, 36, 37, 28, 38, 39, 40, 4, 41, 42, 43, 44, 45, 46, 47, 48, 59, 60, 61, 62, 63, 64, 65, 66] (by decide +kernel) (by decide +kernel)
set_option maxRecDepth 20000 in
theorem gX7_buriedBy_X5_greatestBurial : GoodIn wsX7_buriedBy (wsV RX7 176 RX5 yX5_greatestBurial wsX5_greatestBurial) := goodIn_app (goodIn_of _ (by decide +kernel)) ggX7_buriedBy_X5_greatestBurial
theorem dX7_buriedBy_0 : decode cX7_buriedBy 0 = .ok (.aload_n 0, 1) := by decide +kernel
theorem dX7_buriedBy_1 : decode cX7_buriedBy 1 = .ok (.iload_n 1, 1) := by decide +kernel
theorem dX7_buriedBy_2 : decode cX7_buriedBy 2 = .ok (.invokevirtual 108, 3) := by decide +kernel
theorem dX7_buriedBy_5 : decode cX7_buriedBy 5 = .ok (.astore 4, 2) := by decide +kernel
theorem dX7_buriedBy_7 : decode cX7_buriedBy 7 = .ok (.iload_n 2, 1) := by decide +kernel
theorem dX7_buriedBy_8 : decode cX7_buriedBy 8 = .ok (.invokestatic 51, 3) := by decide +kernel
theorem dX7_buriedBy_11 : decode cX7_buriedBy 11 = .ok (.iload_n 3, 1) := by decide +kernel
theorem dX7_buriedBy_12 : decode cX7_buriedBy 12 = .ok (.invokestatic 55, 3) := by decide +kernel
theorem dX7_buriedBy_15 : decode cX7_buriedBy 15 = .ok (.aload 4, 2) := by decide +kernel
theorem dX7_buriedBy_17 : decode cX7_buriedBy 17 = .ok (.iload_n 2, 1) := by decide +kernel
theorem dX7_buriedBy_18 : decode cX7_buriedBy 18 = .ok (.iload_n 3, 1) := by decide +kernel
theorem dX7_buriedBy_19 : decode cX7_buriedBy 19 = .ok (.invokevirtual 176, 3) := by decide +kernel
theorem dX7_buriedBy_22 : decode cX7_buriedBy 22 = .ok (.ireturn, 1) := by decide +kernel
set_option maxRecDepth 20000 in
theorem ggX7_tombstones_X7_tableOf : GoodIn wsX7_tombstones wsX7_tableOf := goodIn_ca (goodIn_r _ [5, 6, 7, 8, 4, 9, 10, 11, 12, 13, 14, 15, 16, 17, 18, 33, 34, 35, 36, 37, 38, 39, 40, 41, 42] (by decide +kernel) (by decide +kernel)) (goodIn_sub (fun _ h => List.mem_cons_of_mem _ (List.mem_append_left _ (List.mem_append_right _ h))) (by decide +kernel))
set_option maxRecDepth 20000 in
theorem gX7_tombstones_X7_tableOf : GoodIn wsX7_tombstones (wsV RX7 108 RX7 yX7_tableOf wsX7_tableOf) := goodIn_app (goodIn_of _ (by decide +kernel)) ggX7_tombstones_X7_tableOf
set_option maxRecDepth 20000 in
theorem ggX7_tombstones_X7_isWithin : GoodIn wsX7_tombstones wsX7_isWithin := goodIn_r _ [13] (by decide +kernel) (by decide +kernel)
set_option maxRecDepth 20000 in
theorem gX7_tombstones_X7_isWithin : GoodIn wsX7_tombstones (va_wsS RX7 58 yX7_isWithin wsX7_isWithin) := goodIn_app (goodIn_of _ (by decide +kernel)) ggX7_tombstones_X7_isWithin
set_option maxRecDepth 20000 in
theorem ggX7_tombstones_X7_requireArgument : GoodIn wsX7_tombstones wsX7_requireArgument := goodIn_ca (goodIn_r _ [21, 22, 23] (by decide +kernel) (by decide +kernel)) (goodIn_sub (fun _ h => List.mem_cons_of_mem _ (List.mem_append_right _ h)) (by decide +kernel))
set_option maxRecDepth 20000 in
theorem gX7_tombstones_X7_requireArgument : GoodIn wsX7_tombstones (va_wsS RX7 62 yX7_requireArgument wsX7_requireArgument) := goodIn_app (goodIn_of _ (by decide +kernel)) ggX7_tombstones_X7_requireArgument
set_option maxRecDepth 20000 in
theorem ggX7_tombstones_X5_countTombstones : GoodIn wsX7_tombstones wsX5_countTombstones := goodIn_r _ [28, 29, 30, 31, 27, 32, 43, 44, 45, 46, 47, 48] (by decide +kernel) (by decide +kernel)
set_option maxRecDepth 20000 in
theorem gX7_tombstones_X5_countTombstones : GoodIn wsX7_tombstones (wsV RX7 179 RX5 yX5_countTombstones wsX5_countTombstones) := goodIn_app (goodIn_of _ (by decide +kernel)) ggX7_tombstones_X5_countTombstones
theorem dX7_tombstones_0 : decode cX7_tombstones 0 = .ok (.aload_n 0, 1) := by decide +kernel
theorem dX7_tombstones_1 : decode cX7_tombstones 1 = .ok (.iload_n 1, 1) := by decide +kernel
theorem dX7_tombstones_2 : decode cX7_tombstones 2 = .ok (.invokevirtual 108, 3) := by decide +kernel
theorem dX7_tombstones_5 : decode cX7_tombstones 5 = .ok (.astore_n 3, 1) := by decide +kernel
theorem dX7_tombstones_6 : decode cX7_tombstones 6 = .ok (.iload_n 2, 1) := by decide +kernel
theorem dX7_tombstones_7 : decode cX7_tombstones 7 = .ok (.iconst 3, 1) := by decide +kernel
theorem dX7_tombstones_8 : decode cX7_tombstones 8 = .ok (.invokestatic 58, 3) := by decide +kernel
theorem dX7_tombstones_11 : decode cX7_tombstones 11 = .ok (.invokestatic 62, 3) := by decide +kernel
theorem dX7_tombstones_14 : decode cX7_tombstones 14 = .ok (.aload_n 3, 1) := by decide +kernel
theorem dX7_tombstones_15 : decode cX7_tombstones 15 = .ok (.iload_n 2, 1) := by decide +kernel
theorem dX7_tombstones_16 : decode cX7_tombstones 16 = .ok (.invokevirtual 179, 3) := by decide +kernel
theorem dX7_tombstones_19 : decode cX7_tombstones 19 = .ok (.ireturn, 1) := by decide +kernel
set_option maxRecDepth 20000 in
theorem ggX7_entries_X7_tableOf : GoodIn wsX7_entries wsX7_tableOf := goodIn_ca (goodIn_r _ [5, 6, 7, 8, 4, 9, 10, 11, 12, 13, 14, 15, 16, 17, 18, 25, 26, 27, 28, 29, 30, 31, 32, 33, 34] (by decide +kernel) (by decide +kernel)) (goodIn_sub (fun _ h => List.mem_cons_of_mem _ (List.mem_append_right _ h)) (by decide +kernel))
set_option maxRecDepth 20000 in
theorem gX7_entries_X7_tableOf : GoodIn wsX7_entries (wsV RX7 108 RX7 yX7_tableOf wsX7_tableOf) := goodIn_app (goodIn_of _ (by decide +kernel)) ggX7_entries_X7_tableOf
set_option maxRecDepth 20000 in
theorem ggX7_entries_X5_countEntries : GoodIn wsX7_entries wsX5_countEntries := goodIn_r _ [23, 24, 35, 36, 37, 38, 39, 40] (by decide +kernel) (by decide +kernel)
set_option maxRecDepth 20000 in
theorem gX7_entries_X5_countEntries : GoodIn wsX7_entries (wsV RX7 182 RX5 yX5_countEntries wsX5_countEntries) := goodIn_app (goodIn_of _ (by decide +kernel)) ggX7_entries_X5_countEntries
theorem dX7_entries_0 : decode cX7_entries 0 = .ok (.aload_n 0, 1) := by decide +kernel
theorem dX7_entries_1 : decode cX7_entries 1 = .ok (.iload_n 1, 1) := by decide +kernel
theorem dX7_entries_2 : decode cX7_entries 2 = .ok (.invokevirtual 108, 3) := by decide +kernel
theorem dX7_entries_5 : decode cX7_entries 5 = .ok (.invokevirtual 182, 3) := by decide +kernel
theorem dX7_entries_8 : decode cX7_entries 8 = .ok (.ireturn, 1) := by decide +kernel
set_option maxRecDepth 20000 in
theorem ggX7_ideal_X7_requireRow : GoodIn wsX7_ideal wsX7_requireRow := goodIn_ca (goodIn_r _ [6, 7, 8, 5, 9, 10, 11, 12, 13, 14] (by decide +kernel) (by decide +kernel)) (goodIn_sub (fun _ h => List.mem_cons_of_mem _ (List.mem_append_right _ h)) (by decide +kernel))
set_option maxRecDepth 20000 in
theorem gX7_ideal_X7_requireRow : GoodIn wsX7_ideal (va_wsS RX7 51 yX7_requireRow wsX7_requireRow) := goodIn_app (goodIn_of _ (by decide +kernel)) ggX7_ideal_X7_requireRow
set_option maxRecDepth 20000 in
theorem ggX7_ideal_X7_requireColumn : GoodIn wsX7_ideal wsX7_requireColumn := goodIn_ca (goodIn_r _ [17, 7, 8, 5, 9, 10, 11, 12, 13, 14] (by decide +kernel) (by decide +kernel)) (goodIn_sub (fun _ h => List.mem_cons_of_mem _ (List.mem_append_right _ h)) (by decide +kernel))
set_option maxRecDepth 20000 in
theorem gX7_ideal_X7_requireColumn : GoodIn wsX7_ideal (va_wsS RX7 55 yX7_requireColumn wsX7_requireColumn) := goodIn_app (goodIn_of _ (by decide +kernel)) ggX7_ideal_X7_requireColumn
set_option maxRecDepth 20000 in
theorem ggX7_ideal_X5_visibleValue : GoodIn wsX7_ideal wsX5_visibleValue := goodIn_r _ [22, 23, 24, 25, 26, 5, 27, 28, 29, 21, 30, 31, 32, 33, 34, 35, 36, 37, 38, 39, 40, 41, 42, 43, 44, 45, 46, 47, 48, 49, 50, 51, 52, 53, 54, 55, 63, 64, 65, 66, 67, 68, 69, 70] (by decide +kernel) (by decide +kernel)
set_option maxRecDepth 20000 in
theorem gX7_ideal_X5_visibleValue : GoodIn wsX7_ideal (wsV RX7 123 RX5 yX5_visibleValue wsX5_visibleValue) := goodIn_app (goodIn_of _ (by decide +kernel)) ggX7_ideal_X5_visibleValue
theorem dX7_ideal_0 : decode cX7_ideal 0 = .ok (.iload_n 1, 1) := by decide +kernel
theorem dX7_ideal_1 : decode cX7_ideal 1 = .ok (.invokestatic 51, 3) := by decide +kernel
theorem dX7_ideal_4 : decode cX7_ideal 4 = .ok (.iload_n 2, 1) := by decide +kernel
theorem dX7_ideal_5 : decode cX7_ideal 5 = .ok (.invokestatic 55, 3) := by decide +kernel
theorem dX7_ideal_8 : decode cX7_ideal 8 = .ok (.aload_n 0, 1) := by decide +kernel
theorem dX7_ideal_9 : decode cX7_ideal 9 = .ok (.getfield 21, 3) := by decide +kernel
theorem dX7_ideal_12 : decode cX7_ideal 12 = .ok (.iload_n 1, 1) := by decide +kernel
theorem dX7_ideal_13 : decode cX7_ideal 13 = .ok (.iload_n 2, 1) := by decide +kernel
theorem dX7_ideal_14 : decode cX7_ideal 14 = .ok (.aload_n 0, 1) := by decide +kernel
theorem dX7_ideal_15 : decode cX7_ideal 15 = .ok (.getfield 41, 3) := by decide +kernel
theorem dX7_ideal_18 : decode cX7_ideal 18 = .ok (.invokevirtual 123, 3) := by decide +kernel
theorem dX7_ideal_21 : decode cX7_ideal 21 = .ok (.ireturn, 1) := by decide +kernel
set_option maxRecDepth 20000 in
theorem ggX7_sumOf_X7_tableOf : GoodIn wsX7_sumOf wsX7_tableOf := goodIn_ca (goodIn_r _ [6, 7, 8, 9, 5, 10, 11, 12, 13, 14, 15, 16, 17, 18, 19, 70, 71, 72, 63, 64, 65, 66, 67, 68, 69] (by decide +kernel) (by decide +kernel)) (goodIn_sub (fun _ h => List.mem_cons_of_mem _ (List.mem_append_right _ h)) (by decide +kernel))
set_option maxRecDepth 20000 in
theorem gX7_sumOf_X7_tableOf : GoodIn wsX7_sumOf (wsV RX7 108 RX7 yX7_tableOf wsX7_tableOf) := goodIn_app (goodIn_of _ (by decide +kernel)) ggX7_sumOf_X7_tableOf
set_option maxRecDepth 20000 in
theorem ggX7_sumOf_X7_isWithin : GoodIn wsX7_sumOf wsX7_isWithin := goodIn_r _ [14] (by decide +kernel) (by decide +kernel)
set_option maxRecDepth 20000 in
theorem gX7_sumOf_X7_isWithin : GoodIn wsX7_sumOf (va_wsS RX7 58 yX7_isWithin wsX7_isWithin) := goodIn_app (goodIn_of _ (by decide +kernel)) ggX7_sumOf_X7_isWithin
set_option maxRecDepth 20000 in
theorem ggX7_sumOf_X7_requireIndex : GoodIn wsX7_sumOf wsX7_requireIndex := goodIn_ca (goodIn_r _ [17, 18, 19] (by decide +kernel) (by decide +kernel)) (goodIn_sub (fun _ h => List.mem_cons_of_mem _ (List.mem_append_right _ h)) (by decide +kernel))
set_option maxRecDepth 20000 in
theorem gX7_sumOf_X7_requireIndex : GoodIn wsX7_sumOf (va_wsS RX7 185 yX7_requireIndex wsX7_requireIndex) := goodIn_app (goodIn_of _ (by decide +kernel)) ggX7_sumOf_X7_requireIndex
set_option maxRecDepth 20000 in
theorem ggX7_sumOf_X1_nodeSum : GoodIn wsX7_sumOf wsX1_nodeSum := goodIn_r _ [24, 25, 26, 27, 23, 28, 29, 30, 31, 32, 33, 34, 35, 36, 37, 38, 39, 40, 41, 42, 43, 5, 44, 45, 46, 47, 48, 49, 50, 51, 52, 53, 54, 55, 56, 57, 58, 59, 60, 61, 62, 73, 74, 75, 76, 77, 78, 79, 80, 81, 82, 83] (by decide +kernel) (by decide +kernel)
set_option maxRecDepth 20000 in
theorem gX7_sumOf_X1_nodeSum : GoodIn wsX7_sumOf (wsV RX7 188 RX1 yX1_nodeSum wsX1_nodeSum) := goodIn_app (goodIn_of _ (by decide +kernel)) ggX7_sumOf_X1_nodeSum
theorem dX7_sumOf_0 : decode cX7_sumOf 0 = .ok (.aload_n 0, 1) := by decide +kernel
theorem dX7_sumOf_1 : decode cX7_sumOf 1 = .ok (.iload_n 1, 1) := by decide +kernel
theorem dX7_sumOf_2 : decode cX7_sumOf 2 = .ok (.invokevirtual 108, 3) := by decide +kernel
theorem dX7_sumOf_5 : decode cX7_sumOf 5 = .ok (.astore 4, 2) := by decide +kernel
theorem dX7_sumOf_7 : decode cX7_sumOf 7 = .ok (.iload_n 2, 1) := by decide +kernel
theorem dX7_sumOf_8 : decode cX7_sumOf 8 = .ok (.iconst 4, 1) := by decide +kernel
theorem dX7_sumOf_9 : decode cX7_sumOf 9 = .ok (.invokestatic 58, 3) := by decide +kernel
theorem dX7_sumOf_12 : decode cX7_sumOf 12 = .ok (.invokestatic 185, 3) := by decide +kernel
theorem dX7_sumOf_15 : decode cX7_sumOf 15 = .ok (.iconst 1, 1) := by decide +kernel
theorem dX7_sumOf_16 : decode cX7_sumOf 16 = .ok (.iload_n 2, 1) := by decide +kernel
theorem dX7_sumOf_17 : decode cX7_sumOf 17 = .ok (.ishl, 1) := by decide +kernel
theorem dX7_sumOf_18 : decode cX7_sumOf 18 = .ok (.istore 5, 2) := by decide +kernel
theorem dX7_sumOf_20 : decode cX7_sumOf 20 = .ok (.iload_n 3, 1) := by decide +kernel
theorem dX7_sumOf_21 : decode cX7_sumOf 21 = .ok (.iload 5, 2) := by decide +kernel
theorem dX7_sumOf_23 : decode cX7_sumOf 23 = .ok (.iconst 1, 1) := by decide +kernel
theorem dX7_sumOf_24 : decode cX7_sumOf 24 = .ok (.isub, 1) := by decide +kernel
theorem dX7_sumOf_25 : decode cX7_sumOf 25 = .ok (.invokestatic 58, 3) := by decide +kernel
theorem dX7_sumOf_28 : decode cX7_sumOf 28 = .ok (.invokestatic 185, 3) := by decide +kernel
theorem dX7_sumOf_31 : decode cX7_sumOf 31 = .ok (.aload_n 0, 1) := by decide +kernel
theorem dX7_sumOf_32 : decode cX7_sumOf 32 = .ok (.getfield 37, 3) := by decide +kernel
theorem dX7_sumOf_35 : decode cX7_sumOf 35 = .ok (.aload 4, 2) := by decide +kernel
theorem dX7_sumOf_37 : decode cX7_sumOf 37 = .ok (.iload 5, 2) := by decide +kernel
theorem dX7_sumOf_39 : decode cX7_sumOf 39 = .ok (.iload_n 3, 1) := by decide +kernel
theorem dX7_sumOf_40 : decode cX7_sumOf 40 = .ok (.iadd, 1) := by decide +kernel
theorem dX7_sumOf_41 : decode cX7_sumOf 41 = .ok (.invokevirtual 188, 3) := by decide +kernel
theorem dX7_sumOf_44 : decode cX7_sumOf 44 = .ok (.ireturn, 1) := by decide +kernel
set_option maxRecDepth 20000 in
theorem ggX7_compared_X7_tableOf : GoodIn wsX7_compared wsX7_tableOf := goodIn_ca (goodIn_r _ [6, 7, 8, 9, 5, 10, 11, 12, 13, 14, 15, 16, 17, 18, 19, 72, 73, 74, 65, 66, 67, 68, 69, 70, 71] (by decide +kernel) (by decide +kernel)) (goodIn_sub (fun _ h => List.mem_cons_of_mem _ (List.mem_append_right _ h)) (by decide +kernel))
set_option maxRecDepth 20000 in
theorem gX7_compared_X7_tableOf : GoodIn wsX7_compared (wsV RX7 108 RX7 yX7_tableOf wsX7_tableOf) := goodIn_app (goodIn_of _ (by decide +kernel)) ggX7_compared_X7_tableOf
set_option maxRecDepth 20000 in
theorem ggX7_compared_X1_compareNodes : GoodIn wsX7_compared wsX1_compareNodes := goodIn_r _ [24, 25, 26, 27, 28, 29, 23, 30, 31, 32, 33, 34, 35, 36, 37, 38, 39, 40, 41, 42, 43, 44, 45, 5, 46, 47, 48, 49, 50, 51, 52, 53, 54, 55, 56, 57, 58, 59, 60, 61, 62, 63, 64, 75, 76, 77, 78, 79, 80, 81, 82, 83, 84, 85] (by decide +kernel) (by decide +kernel)
set_option maxRecDepth 20000 in
theorem gX7_compared_X1_compareNodes : GoodIn wsX7_compared (wsV RX7 127 RX1 yX1_compareNodes wsX1_compareNodes) := goodIn_app (goodIn_of _ (by decide +kernel)) ggX7_compared_X1_compareNodes
theorem dX7_compared_0 : decode cX7_compared 0 = .ok (.aload_n 0, 1) := by decide +kernel
theorem dX7_compared_1 : decode cX7_compared 1 = .ok (.getfield 37, 3) := by decide +kernel
theorem dX7_compared_4 : decode cX7_compared 4 = .ok (.aload_n 0, 1) := by decide +kernel
theorem dX7_compared_5 : decode cX7_compared 5 = .ok (.iload_n 1, 1) := by decide +kernel
theorem dX7_compared_6 : decode cX7_compared 6 = .ok (.invokevirtual 108, 3) := by decide +kernel
theorem dX7_compared_9 : decode cX7_compared 9 = .ok (.aload_n 0, 1) := by decide +kernel
theorem dX7_compared_10 : decode cX7_compared 10 = .ok (.iload_n 2, 1) := by decide +kernel
theorem dX7_compared_11 : decode cX7_compared 11 = .ok (.invokevirtual 108, 3) := by decide +kernel
theorem dX7_compared_14 : decode cX7_compared 14 = .ok (.invokevirtual 127, 3) := by decide +kernel
theorem dX7_compared_17 : decode cX7_compared 17 = .ok (.ireturn, 1) := by decide +kernel
set_option maxRecDepth 20000 in
theorem ggX7_unlike_X7_tableOf : GoodIn wsX7_unlike wsX7_tableOf := goodIn_ca (goodIn_r _ [6, 7, 8, 9, 5, 10, 11, 12, 13, 14, 15, 16, 17, 18, 19, 76, 77, 78, 69, 70, 71, 72, 73, 74, 75] (by decide +kernel) (by decide +kernel)) (goodIn_sub (fun _ h => List.mem_cons_of_mem _ (List.mem_append_right _ h)) (by decide +kernel))
set_option maxRecDepth 20000 in
theorem gX7_unlike_X7_tableOf : GoodIn wsX7_unlike (wsV RX7 108 RX7 yX7_tableOf wsX7_tableOf) := goodIn_app (goodIn_of _ (by decide +kernel)) ggX7_unlike_X7_tableOf
set_option maxRecDepth 20000 in
theorem ggX7_unlike_X1_compareNodes : GoodIn wsX7_unlike wsX1_compareNodes := goodIn_r _ [24, 25, 26, 27, 28, 29, 23, 30, 31, 32, 33, 34, 35, 36, 37, 38, 39, 40, 41, 42, 43, 44, 45, 5, 46, 47, 48, 49, 50, 51, 52, 53, 54, 55, 56, 57, 58, 59, 60, 61, 62, 63, 64, 79, 80, 81, 82, 83, 84, 85, 86, 87, 88, 89] (by decide +kernel) (by decide +kernel)
set_option maxRecDepth 20000 in
theorem gX7_unlike_X1_compareNodes : GoodIn wsX7_unlike (wsV RX7 127 RX1 yX1_compareNodes wsX1_compareNodes) := goodIn_app (goodIn_of _ (by decide +kernel)) ggX7_unlike_X1_compareNodes
set_option maxRecDepth 20000 in
theorem ggX7_unlike_X1_unlikeRows : GoodIn wsX7_unlike wsX1_unlikeRows := goodIn_r _ [68, 27, 79, 80, 81] (by decide +kernel) (by decide +kernel)
set_option maxRecDepth 20000 in
theorem gX7_unlike_X1_unlikeRows : GoodIn wsX7_unlike (wsV RX7 131 RX1 yX1_unlikeRows wsX1_unlikeRows) := goodIn_app (goodIn_of _ (by decide +kernel)) ggX7_unlike_X1_unlikeRows
theorem dX7_unlike_0 : decode cX7_unlike 0 = .ok (.aload_n 0, 1) := by decide +kernel
theorem dX7_unlike_1 : decode cX7_unlike 1 = .ok (.getfield 37, 3) := by decide +kernel
theorem dX7_unlike_4 : decode cX7_unlike 4 = .ok (.aload_n 0, 1) := by decide +kernel
theorem dX7_unlike_5 : decode cX7_unlike 5 = .ok (.iload_n 1, 1) := by decide +kernel
theorem dX7_unlike_6 : decode cX7_unlike 6 = .ok (.invokevirtual 108, 3) := by decide +kernel
theorem dX7_unlike_9 : decode cX7_unlike 9 = .ok (.aload_n 0, 1) := by decide +kernel
theorem dX7_unlike_10 : decode cX7_unlike 10 = .ok (.iload_n 2, 1) := by decide +kernel
theorem dX7_unlike_11 : decode cX7_unlike 11 = .ok (.invokevirtual 108, 3) := by decide +kernel
theorem dX7_unlike_14 : decode cX7_unlike 14 = .ok (.invokevirtual 127, 3) := by decide +kernel
theorem dX7_unlike_17 : decode cX7_unlike 17 = .ok (.pop, 1) := by decide +kernel
theorem dX7_unlike_18 : decode cX7_unlike 18 = .ok (.aload_n 0, 1) := by decide +kernel
theorem dX7_unlike_19 : decode cX7_unlike 19 = .ok (.getfield 37, 3) := by decide +kernel
theorem dX7_unlike_22 : decode cX7_unlike 22 = .ok (.invokevirtual 131, 3) := by decide +kernel
theorem dX7_unlike_25 : decode cX7_unlike 25 = .ok (.ireturn, 1) := by decide +kernel
set_option maxRecDepth 20000 in
theorem ggX7_areAlike_X7_tableOf : GoodIn wsX7_areAlike wsX7_tableOf := goodIn_ca (goodIn_r _ [5, 6, 7, 8, 4, 9, 10, 11, 12, 13, 14, 15, 16, 17, 18, 37, 38, 39, 40, 41, 42, 43, 44, 45, 46] (by decide +kernel) (by decide +kernel)) (goodIn_sub (fun _ h => List.mem_cons_of_mem _ (List.mem_append_right _ h)) (by decide +kernel))
set_option maxRecDepth 20000 in
theorem gX7_areAlike_X7_tableOf : GoodIn wsX7_areAlike (wsV RX7 108 RX7 yX7_tableOf wsX7_tableOf) := goodIn_app (goodIn_of _ (by decide +kernel)) ggX7_areAlike_X7_tableOf
set_option maxRecDepth 20000 in
theorem ggX7_areAlike_X5_hasSameAs : GoodIn wsX7_areAlike wsX5_hasSameAs := goodIn_r _ [23, 24, 25, 26, 22, 27, 28, 29, 30, 31, 32, 33, 34, 35, 36, 47, 48, 49, 50, 51, 52] (by decide +kernel) (by decide +kernel)
set_option maxRecDepth 20000 in
theorem gX7_areAlike_X5_hasSameAs : GoodIn wsX7_areAlike (wsV RX7 192 RX5 yX5_hasSameAs wsX5_hasSameAs) := goodIn_app (goodIn_of _ (by decide +kernel)) ggX7_areAlike_X5_hasSameAs
theorem dX7_areAlike_0 : decode cX7_areAlike 0 = .ok (.aload_n 0, 1) := by decide +kernel
theorem dX7_areAlike_1 : decode cX7_areAlike 1 = .ok (.iload_n 1, 1) := by decide +kernel
theorem dX7_areAlike_2 : decode cX7_areAlike 2 = .ok (.invokevirtual 108, 3) := by decide +kernel
theorem dX7_areAlike_5 : decode cX7_areAlike 5 = .ok (.aload_n 0, 1) := by decide +kernel
theorem dX7_areAlike_6 : decode cX7_areAlike 6 = .ok (.iload_n 2, 1) := by decide +kernel
theorem dX7_areAlike_7 : decode cX7_areAlike 7 = .ok (.invokevirtual 108, 3) := by decide +kernel
theorem dX7_areAlike_10 : decode cX7_areAlike 10 = .ok (.invokevirtual 192, 3) := by decide +kernel
theorem dX7_areAlike_13 : decode cX7_areAlike 13 = .ok (.ireturn, 1) := by decide +kernel
theorem dX7_isWithin_0 : decode cX7_isWithin 0 = .ok (.iload_n 0, 1) := by decide +kernel
theorem dX7_isWithin_1 : decode cX7_isWithin 1 = .ok (.ifCond .lt 12, 3) := by decide +kernel
theorem dX7_isWithin_4 : decode cX7_isWithin 4 = .ok (.iload_n 0, 1) := by decide +kernel
theorem dX7_isWithin_5 : decode cX7_isWithin 5 = .ok (.iload_n 1, 1) := by decide +kernel
theorem dX7_isWithin_6 : decode cX7_isWithin 6 = .ok (.if_icmp .gt 7, 3) := by decide +kernel
theorem dX7_isWithin_9 : decode cX7_isWithin 9 = .ok (.iconst 1, 1) := by decide +kernel
theorem dX7_isWithin_10 : decode cX7_isWithin 10 = .ok (.goto 4, 3) := by decide +kernel
theorem dX7_isWithin_13 : decode cX7_isWithin 13 = .ok (.iconst 0, 1) := by decide +kernel
theorem dX7_isWithin_14 : decode cX7_isWithin 14 = .ok (.ireturn, 1) := by decide +kernel
theorem dX7_requireIndex_0 : decode cX7_requireIndex 0 = .ok (.iload_n 0, 1) := by decide +kernel
theorem dX7_requireIndex_1 : decode cX7_requireIndex 1 = .ok (.ifCond .ne 13, 3) := by decide +kernel
theorem dX7_requireIndex_4 : decode cX7_requireIndex 4 = .ok (.new 196, 3) := by decide +kernel
theorem dX7_requireIndex_7 : decode cX7_requireIndex 7 = .ok (.dup, 1) := by decide +kernel
theorem dX7_requireIndex_8 : decode cX7_requireIndex 8 = .ok (.ldc 198, 2) := by decide +kernel
theorem dX7_requireIndex_10 : decode cX7_requireIndex 10 = .ok (.invokespecial 200, 3) := by decide +kernel
theorem dX7_requireIndex_13 : decode cX7_requireIndex 13 = .ok (.athrow, 1) := by decide +kernel
theorem dX7_requireIndex_14 : decode cX7_requireIndex 14 = .ok (.return_, 1) := by decide +kernel
theorem dX7_requireArgument_0 : decode cX7_requireArgument 0 = .ok (.iload_n 0, 1) := by decide +kernel
theorem dX7_requireArgument_1 : decode cX7_requireArgument 1 = .ok (.ifCond .ne 13, 3) := by decide +kernel
theorem dX7_requireArgument_4 : decode cX7_requireArgument 4 = .ok (.new 203, 3) := by decide +kernel
theorem dX7_requireArgument_7 : decode cX7_requireArgument 7 = .ok (.dup, 1) := by decide +kernel
theorem dX7_requireArgument_8 : decode cX7_requireArgument 8 = .ok (.ldc 205, 2) := by decide +kernel
theorem dX7_requireArgument_10 : decode cX7_requireArgument 10 = .ok (.invokespecial 207, 3) := by decide +kernel
theorem dX7_requireArgument_13 : decode cX7_requireArgument 13 = .ok (.athrow, 1) := by decide +kernel
theorem dX7_requireArgument_14 : decode cX7_requireArgument 14 = .ok (.return_, 1) := by decide +kernel
theorem dX7_requireState_0 : decode cX7_requireState 0 = .ok (.iload_n 0, 1) := by decide +kernel
theorem dX7_requireState_1 : decode cX7_requireState 1 = .ok (.ifCond .ne 13, 3) := by decide +kernel
theorem dX7_requireState_4 : decode cX7_requireState 4 = .ok (.new 208, 3) := by decide +kernel
theorem dX7_requireState_7 : decode cX7_requireState 7 = .ok (.dup, 1) := by decide +kernel
theorem dX7_requireState_8 : decode cX7_requireState 8 = .ok (.ldc 210, 2) := by decide +kernel
theorem dX7_requireState_10 : decode cX7_requireState 10 = .ok (.invokespecial 212, 3) := by decide +kernel
theorem dX7_requireState_13 : decode cX7_requireState 13 = .ok (.athrow, 1) := by decide +kernel
theorem dX7_requireState_14 : decode cX7_requireState 14 = .ok (.return_, 1) := by decide +kernel
set_option maxRecDepth 20000 in
theorem ggX7_requireRow_X7_isWithin : GoodIn wsX7_requireRow wsX7_isWithin := goodIn_r _ [4] (by decide +kernel) (by decide +kernel)
set_option maxRecDepth 20000 in
theorem gX7_requireRow_X7_isWithin : GoodIn wsX7_requireRow (va_wsS RX7 58 yX7_isWithin wsX7_isWithin) := goodIn_app (goodIn_of _ (by decide +kernel)) ggX7_requireRow_X7_isWithin
set_option maxRecDepth 20000 in
theorem ggX7_requireRow_X7_requireIndex : GoodIn wsX7_requireRow wsX7_requireIndex := goodIn_ca (goodIn_r _ [7, 8, 9] (by decide +kernel) (by decide +kernel)) (goodIn_sub (fun _ h => List.mem_cons_of_mem _ (List.mem_append_right _ h)) (by decide +kernel))
set_option maxRecDepth 20000 in
theorem gX7_requireRow_X7_requireIndex : GoodIn wsX7_requireRow (va_wsS RX7 185 yX7_requireIndex wsX7_requireIndex) := goodIn_app (goodIn_of _ (by decide +kernel)) ggX7_requireRow_X7_requireIndex
theorem dX7_requireRow_0 : decode cX7_requireRow 0 = .ok (.iload_n 0, 1) := by decide +kernel
theorem dX7_requireRow_1 : decode cX7_requireRow 1 = .ok (.bipush 15, 2) := by decide +kernel
theorem dX7_requireRow_3 : decode cX7_requireRow 3 = .ok (.invokestatic 58, 3) := by decide +kernel
theorem dX7_requireRow_6 : decode cX7_requireRow 6 = .ok (.invokestatic 185, 3) := by decide +kernel
theorem dX7_requireRow_9 : decode cX7_requireRow 9 = .ok (.return_, 1) := by decide +kernel
set_option maxRecDepth 20000 in
theorem ggX7_requireColumn_X7_isWithin : GoodIn wsX7_requireColumn wsX7_isWithin := goodIn_r _ [4] (by decide +kernel) (by decide +kernel)
set_option maxRecDepth 20000 in
theorem gX7_requireColumn_X7_isWithin : GoodIn wsX7_requireColumn (va_wsS RX7 58 yX7_isWithin wsX7_isWithin) := goodIn_app (goodIn_of _ (by decide +kernel)) ggX7_requireColumn_X7_isWithin
set_option maxRecDepth 20000 in
theorem ggX7_requireColumn_X7_requireIndex : GoodIn wsX7_requireColumn wsX7_requireIndex := goodIn_ca (goodIn_r _ [7, 8, 9] (by decide +kernel) (by decide +kernel)) (goodIn_sub (fun _ h => List.mem_cons_of_mem _ (List.mem_append_right _ h)) (by decide +kernel))
set_option maxRecDepth 20000 in
theorem gX7_requireColumn_X7_requireIndex : GoodIn wsX7_requireColumn (va_wsS RX7 185 yX7_requireIndex wsX7_requireIndex) := goodIn_app (goodIn_of _ (by decide +kernel)) ggX7_requireColumn_X7_requireIndex
theorem dX7_requireColumn_0 : decode cX7_requireColumn 0 = .ok (.iload_n 0, 1) := by decide +kernel
theorem dX7_requireColumn_1 : decode cX7_requireColumn 1 = .ok (.iconst 3, 1) := by decide +kernel
theorem dX7_requireColumn_2 : decode cX7_requireColumn 2 = .ok (.invokestatic 58, 3) := by decide +kernel
theorem dX7_requireColumn_5 : decode cX7_requireColumn 5 = .ok (.invokestatic 185, 3) := by decide +kernel
theorem dX7_requireColumn_8 : decode cX7_requireColumn 8 = .ok (.return_, 1) := by decide +kernel
set_option maxRecDepth 20000 in
theorem ggX7_requireDeletion_X7_isWithin : GoodIn wsX7_requireDeletion wsX7_isWithin := goodIn_r _ [4] (by decide +kernel) (by decide +kernel)
set_option maxRecDepth 20000 in
theorem gX7_requireDeletion_X7_isWithin : GoodIn wsX7_requireDeletion (va_wsS RX7 58 yX7_isWithin wsX7_isWithin) := goodIn_app (goodIn_of _ (by decide +kernel)) ggX7_requireDeletion_X7_isWithin
set_option maxRecDepth 20000 in
theorem ggX7_requireDeletion_X7_requireArgument : GoodIn wsX7_requireDeletion wsX7_requireArgument := goodIn_ca (goodIn_r _ [7, 8, 9] (by decide +kernel) (by decide +kernel)) (goodIn_sub (fun _ h => List.mem_cons_of_mem _ (List.mem_append_right _ h)) (by decide +kernel))
set_option maxRecDepth 20000 in
theorem gX7_requireDeletion_X7_requireArgument : GoodIn wsX7_requireDeletion (va_wsS RX7 62 yX7_requireArgument wsX7_requireArgument) := goodIn_app (goodIn_of _ (by decide +kernel)) ggX7_requireDeletion_X7_requireArgument
theorem dX7_requireDeletion_0 : decode cX7_requireDeletion 0 = .ok (.iload_n 0, 1) := by decide +kernel
theorem dX7_requireDeletion_1 : decode cX7_requireDeletion 1 = .ok (.bipush 7, 2) := by decide +kernel
theorem dX7_requireDeletion_3 : decode cX7_requireDeletion 3 = .ok (.invokestatic 58, 3) := by decide +kernel
theorem dX7_requireDeletion_6 : decode cX7_requireDeletion 6 = .ok (.invokestatic 62, 3) := by decide +kernel
theorem dX7_requireDeletion_9 : decode cX7_requireDeletion 9 = .ok (.iload_n 1, 1) := by decide +kernel
theorem dX7_requireDeletion_10 : decode cX7_requireDeletion 10 = .ok (.sipush 999, 3) := by decide +kernel
theorem dX7_requireDeletion_13 : decode cX7_requireDeletion 13 = .ok (.invokestatic 58, 3) := by decide +kernel
theorem dX7_requireDeletion_16 : decode cX7_requireDeletion 16 = .ok (.invokestatic 62, 3) := by decide +kernel
theorem dX7_requireDeletion_19 : decode cX7_requireDeletion 19 = .ok (.return_, 1) := by decide +kernel
set_option maxRecDepth 20000 in
theorem ggX7_requireTwoUp_X7_requireArgument : GoodIn wsX7_requireTwoUp wsX7_requireArgument := goodIn_ca (goodIn_r _ [4, 5, 6] (by decide +kernel) (by decide +kernel)) (goodIn_sub (fun _ h => List.mem_cons_of_mem _ (List.mem_append_left _ (List.mem_append_left _ (List.mem_append_right _ h)))) (by decide +kernel))
set_option maxRecDepth 20000 in
theorem gX7_requireTwoUp_X7_requireArgument : GoodIn wsX7_requireTwoUp (va_wsS RX7 62 yX7_requireArgument wsX7_requireArgument) := goodIn_app (goodIn_of _ (by decide +kernel)) ggX7_requireTwoUp_X7_requireArgument
set_option maxRecDepth 20000 in
theorem ggX7_requireTwoUp_X7_keeperOf : GoodIn wsX7_requireTwoUp wsX7_keeperOf := goodIn_ca (goodIn_r _ [10, 11, 12, 13, 3, 14, 15, 16, 17, 18, 19, 28, 29, 30, 31, 32, 33, 34] (by decide +kernel) (by decide +kernel)) (goodIn_sub (fun _ h => List.mem_cons_of_mem _ (List.mem_append_left _ (List.mem_append_right _ h))) (by decide +kernel))
set_option maxRecDepth 20000 in
theorem gX7_requireTwoUp_X7_keeperOf : GoodIn wsX7_requireTwoUp (wsV RX7 94 RX7 yX7_keeperOf wsX7_keeperOf) := goodIn_app (goodIn_of _ (by decide +kernel)) ggX7_requireTwoUp_X7_keeperOf
set_option maxRecDepth 20000 in
theorem ggX7_requireTwoUp_X7_requireState : GoodIn wsX7_requireTwoUp wsX7_requireState := goodIn_ca (goodIn_r _ [22, 23, 24] (by decide +kernel) (by decide +kernel)) (goodIn_sub (fun _ h => List.mem_cons_of_mem _ (List.mem_append_right _ h)) (by decide +kernel))
set_option maxRecDepth 20000 in
theorem gX7_requireTwoUp_X7_requireState : GoodIn wsX7_requireTwoUp (va_wsS RX7 91 yX7_requireState wsX7_requireState) := goodIn_app (goodIn_of _ (by decide +kernel)) ggX7_requireTwoUp_X7_requireState
theorem dX7_requireTwoUp_0 : decode cX7_requireTwoUp 0 = .ok (.iload_n 1, 1) := by decide +kernel
theorem dX7_requireTwoUp_1 : decode cX7_requireTwoUp 1 = .ok (.iload_n 2, 1) := by decide +kernel
theorem dX7_requireTwoUp_2 : decode cX7_requireTwoUp 2 = .ok (.if_icmp .eq 7, 3) := by decide +kernel
theorem dX7_requireTwoUp_5 : decode cX7_requireTwoUp 5 = .ok (.iconst 1, 1) := by decide +kernel
theorem dX7_requireTwoUp_6 : decode cX7_requireTwoUp 6 = .ok (.goto 4, 3) := by decide +kernel
theorem dX7_requireTwoUp_9 : decode cX7_requireTwoUp 9 = .ok (.iconst 0, 1) := by decide +kernel
theorem dX7_requireTwoUp_10 : decode cX7_requireTwoUp 10 = .ok (.invokestatic 62, 3) := by decide +kernel
theorem dX7_requireTwoUp_13 : decode cX7_requireTwoUp 13 = .ok (.aload_n 0, 1) := by decide +kernel
theorem dX7_requireTwoUp_14 : decode cX7_requireTwoUp 14 = .ok (.iload_n 1, 1) := by decide +kernel
theorem dX7_requireTwoUp_15 : decode cX7_requireTwoUp 15 = .ok (.invokevirtual 94, 3) := by decide +kernel
theorem dX7_requireTwoUp_18 : decode cX7_requireTwoUp 18 = .ok (.getfield 147, 3) := by decide +kernel
theorem dX7_requireTwoUp_21 : decode cX7_requireTwoUp 21 = .ok (.ifCond .eq 18, 3) := by decide +kernel
theorem dX7_requireTwoUp_24 : decode cX7_requireTwoUp 24 = .ok (.aload_n 0, 1) := by decide +kernel
theorem dX7_requireTwoUp_25 : decode cX7_requireTwoUp 25 = .ok (.iload_n 2, 1) := by decide +kernel
theorem dX7_requireTwoUp_26 : decode cX7_requireTwoUp 26 = .ok (.invokevirtual 94, 3) := by decide +kernel
theorem dX7_requireTwoUp_29 : decode cX7_requireTwoUp 29 = .ok (.getfield 147, 3) := by decide +kernel
theorem dX7_requireTwoUp_32 : decode cX7_requireTwoUp 32 = .ok (.ifCond .eq 7, 3) := by decide +kernel
theorem dX7_requireTwoUp_35 : decode cX7_requireTwoUp 35 = .ok (.iconst 1, 1) := by decide +kernel
theorem dX7_requireTwoUp_36 : decode cX7_requireTwoUp 36 = .ok (.goto 4, 3) := by decide +kernel
theorem dX7_requireTwoUp_39 : decode cX7_requireTwoUp 39 = .ok (.iconst 0, 1) := by decide +kernel
theorem dX7_requireTwoUp_40 : decode cX7_requireTwoUp 40 = .ok (.invokestatic 91, 3) := by decide +kernel
theorem dX7_requireTwoUp_43 : decode cX7_requireTwoUp 43 = .ok (.return_, 1) := by decide +kernel
set_option maxRecDepth 20000 in
theorem ggX7_keeperOf_X7_isWithin : GoodIn wsX7_keeperOf wsX7_isWithin := goodIn_r _ [5] (by decide +kernel) (by decide +kernel)
set_option maxRecDepth 20000 in
theorem gX7_keeperOf_X7_isWithin : GoodIn wsX7_keeperOf (va_wsS RX7 58 yX7_isWithin wsX7_isWithin) := goodIn_app (goodIn_of _ (by decide +kernel)) ggX7_keeperOf_X7_isWithin
set_option maxRecDepth 20000 in
theorem ggX7_keeperOf_X7_requireIndex : GoodIn wsX7_keeperOf wsX7_requireIndex := goodIn_ca (goodIn_r _ [8, 9, 10] (by decide +kernel) (by decide +kernel)) (goodIn_sub (fun _ h => List.mem_cons_of_mem _ (List.mem_append_right _ h)) (by decide +kernel))
set_option maxRecDepth 20000 in
theorem gX7_keeperOf_X7_requireIndex : GoodIn wsX7_keeperOf (va_wsS RX7 185 yX7_requireIndex wsX7_requireIndex) := goodIn_app (goodIn_of _ (by decide +kernel)) ggX7_keeperOf_X7_requireIndex
theorem dX7_keeperOf_0 : decode cX7_keeperOf 0 = .ok (.iload_n 1, 1) := by decide +kernel
theorem dX7_keeperOf_1 : decode cX7_keeperOf 1 = .ok (.iconst 2, 1) := by decide +kernel
theorem dX7_keeperOf_2 : decode cX7_keeperOf 2 = .ok (.invokestatic 58, 3) := by decide +kernel
theorem dX7_keeperOf_5 : decode cX7_keeperOf 5 = .ok (.invokestatic 185, 3) := by decide +kernel
theorem dX7_keeperOf_8 : decode cX7_keeperOf 8 = .ok (.aload_n 0, 1) := by decide +kernel
theorem dX7_keeperOf_9 : decode cX7_keeperOf 9 = .ok (.getfield 27, 3) := by decide +kernel
theorem dX7_keeperOf_12 : decode cX7_keeperOf 12 = .ok (.iload_n 1, 1) := by decide +kernel
theorem dX7_keeperOf_13 : decode cX7_keeperOf 13 = .ok (.aaload, 1) := by decide +kernel
theorem dX7_keeperOf_14 : decode cX7_keeperOf 14 = .ok (.areturn, 1) := by decide +kernel
set_option maxRecDepth 20000 in
theorem ggX7_tableOf_X7_keeperOf : GoodIn wsX7_tableOf wsX7_keeperOf := goodIn_ca (goodIn_r _ [5, 6, 7, 8, 4, 9, 10, 11, 12, 13, 14, 18, 19, 20, 21, 22, 23, 24] (by decide +kernel) (by decide +kernel)) (goodIn_sub (fun _ h => List.mem_cons_of_mem _ (List.mem_append_right _ h)) (by decide +kernel))
set_option maxRecDepth 20000 in
theorem gX7_tableOf_X7_keeperOf : GoodIn wsX7_tableOf (wsV RX7 94 RX7 yX7_keeperOf wsX7_keeperOf) := goodIn_app (goodIn_of _ (by decide +kernel)) ggX7_tableOf_X7_keeperOf
theorem dX7_tableOf_0 : decode cX7_tableOf 0 = .ok (.aload_n 0, 1) := by decide +kernel
theorem dX7_tableOf_1 : decode cX7_tableOf 1 = .ok (.iload_n 1, 1) := by decide +kernel
theorem dX7_tableOf_2 : decode cX7_tableOf 2 = .ok (.invokevirtual 94, 3) := by decide +kernel
theorem dX7_tableOf_5 : decode cX7_tableOf 5 = .ok (.getfield 151, 3) := by decide +kernel
theorem dX7_tableOf_8 : decode cX7_tableOf 8 = .ok (.areturn, 1) := by decide +kernel
theorem dX7_cellAt_0 : decode cX7_cellAt 0 = .ok (.iload_n 0, 1) := by decide +kernel
theorem dX7_cellAt_1 : decode cX7_cellAt 1 = .ok (.iconst 4, 1) := by decide +kernel
theorem dX7_cellAt_2 : decode cX7_cellAt 2 = .ok (.imul, 1) := by decide +kernel
theorem dX7_cellAt_3 : decode cX7_cellAt 3 = .ok (.iload_n 1, 1) := by decide +kernel
theorem dX7_cellAt_4 : decode cX7_cellAt 4 = .ok (.iadd, 1) := by decide +kernel
theorem dX7_cellAt_5 : decode cX7_cellAt 5 = .ok (.ireturn, 1) := by decide +kernel
theorem dX7_isInSet_0 : decode cX7_isInSet 0 = .ok (.iload_n 1, 1) := by decide +kernel
theorem dX7_isInSet_1 : decode cX7_isInSet 1 = .ok (.iload_n 0, 1) := by decide +kernel
theorem dX7_isInSet_2 : decode cX7_isInSet 2 = .ok (.ishr, 1) := by decide +kernel
theorem dX7_isInSet_3 : decode cX7_isInSet 3 = .ok (.iconst 1, 1) := by decide +kernel
theorem dX7_isInSet_4 : decode cX7_isInSet 4 = .ok (.iand, 1) := by decide +kernel
theorem dX7_isInSet_5 : decode cX7_isInSet 5 = .ok (.iconst 1, 1) := by decide +kernel
theorem dX7_isInSet_6 : decode cX7_isInSet 6 = .ok (.if_icmp .ne 7, 3) := by decide +kernel
theorem dX7_isInSet_9 : decode cX7_isInSet 9 = .ok (.iconst 1, 1) := by decide +kernel
theorem dX7_isInSet_10 : decode cX7_isInSet 10 = .ok (.goto 4, 3) := by decide +kernel
theorem dX7_isInSet_13 : decode cX7_isInSet 13 = .ok (.iconst 0, 1) := by decide +kernel
theorem dX7_isInSet_14 : decode cX7_isInSet 14 = .ok (.ireturn, 1) := by decide +kernel
set_option maxRecDepth 20000 in
theorem ggX7_send_X2_goTo : GoodIn wsX7_send wsX2_goTo := goodIn_r _ [8, 9, 10, 11, 12, 13, 14, 15, 16, 17, 18, 19, 20, 21, 22, 23, 24, 25, 26, 27, 28, 29, 30, 31, 129, 130, 131, 132, 133, 134, 135, 136, 137, 138] (by decide +kernel) (by decide +kernel)
set_option maxRecDepth 20000 in
theorem gX7_send_X2_goTo_u213X2 : GoodIn wsX7_send (va_wsU RX7 213 RX2 "WideCell$Change" ⟨"WideCell$Change", "goTo", "(LWideCell$Table;)V"⟩ yX2_goTo wsX2_goTo) := goodIn_app (goodIn_of _ (by decide +kernel)) ggX7_send_X2_goTo
set_option maxRecDepth 20000 in
theorem ggX7_send_X6_goTo : GoodIn wsX7_send wsX6_goTo := goodIn_r _ [35, 36, 37, 38, 39, 40, 41, 16, 42, 43, 44, 45, 46, 47, 48, 139, 140, 141, 133, 134, 135, 136, 137, 138] (by decide +kernel) (by decide +kernel)
set_option maxRecDepth 20000 in
theorem gX7_send_X6_goTo_u213X6 : GoodIn wsX7_send (va_wsU RX7 213 RX6 "WideCell$Change" ⟨"WideCell$Change", "goTo", "(LWideCell$Table;)V"⟩ yX6_goTo wsX6_goTo) := goodIn_app (goodIn_of _ (by decide +kernel)) ggX7_send_X6_goTo
set_option maxRecDepth 20000 in
theorem ggX7_send_X7_isInSet : GoodIn wsX7_send wsX7_isInSet := goodIn_r _ [52] (by decide +kernel) (by decide +kernel)
set_option maxRecDepth 20000 in
theorem gX7_send_X7_isInSet : GoodIn wsX7_send (va_wsS RX7 134 yX7_isInSet wsX7_isInSet) := goodIn_app (goodIn_of _ (by decide +kernel)) ggX7_send_X7_isInSet
set_option maxRecDepth 20000 in
theorem ggX7_send_X3_receive : GoodIn wsX7_send wsX3_receive := goodIn_r _ [57, 58, 59, 60, 61, 4, 5, 6, 7, 8, 9, 10, 11, 12, 13, 14, 15, 16, 17, 18, 19, 20, 21, 22, 23, 24, 25, 26, 27, 28, 29, 30, 31, 32, 33, 34, 35, 36, 37, 38, 39, 40, 41, 42, 43, 44, 45, 46, 47, 48, 62, 63, 64, 65, 66, 67, 68, 69, 70, 71, 72, 73, 74, 75, 76, 77, 78, 79, 80, 81, 82, 83, 84, 85, 86, 87, 88, 89, 90, 91, 92, 93, 94, 95, 96, 97, 98, 99, 100, 101, 102, 103, 104, 105, 106, 107, 108, 109, 110, 111, 112, 113, 114, 115, 116, 117, 118, 119, 120, 121, 142, 143, 144, 129, 130, 131, 132, 133, 134, 135, 136, 137, 138, 139, 140, 141, 145, 146, 147] (by decide +kernel) (by decide +kernel)
set_option maxRecDepth 20000 in
theorem gX7_send_X3_receive : GoodIn wsX7_send (wsV RX7 218 RX3 yX3_receive wsX3_receive) := goodIn_app (goodIn_of _ (by decide +kernel)) ggX7_send_X3_receive
theorem dX7_send_0 : decode cX7_send 0 = .ok (.aload_n 2, 1) := by decide +kernel
theorem dX7_send_1 : decode cX7_send 1 = .ok (.aload_n 0, 1) := by decide +kernel
theorem dX7_send_2 : decode cX7_send 2 = .ok (.getfield 21, 3) := by decide +kernel
theorem dX7_send_5 : decode cX7_send 5 = .ok (.invokevirtual 213, 3) := by decide +kernel
theorem dX7_send_8 : decode cX7_send 8 = .ok (.iconst 0, 1) := by decide +kernel
theorem dX7_send_9 : decode cX7_send 9 = .ok (.istore_n 3, 1) := by decide +kernel
theorem dX7_send_10 : decode cX7_send 10 = .ok (.iconst 0, 1) := by decide +kernel
theorem dX7_send_11 : decode cX7_send 11 = .ok (.istore 4, 2) := by decide +kernel
theorem dX7_send_13 : decode cX7_send 13 = .ok (.iload 4, 2) := by decide +kernel
theorem dX7_send_15 : decode cX7_send 15 = .ok (.iconst 3, 1) := by decide +kernel
theorem dX7_send_16 : decode cX7_send 16 = .ok (.if_icmp .ge 35, 3) := by decide +kernel
theorem dX7_send_19 : decode cX7_send 19 = .ok (.iload 4, 2) := by decide +kernel
theorem dX7_send_21 : decode cX7_send 21 = .ok (.iload_n 1, 1) := by decide +kernel
theorem dX7_send_22 : decode cX7_send 22 = .ok (.invokestatic 134, 3) := by decide +kernel
theorem dX7_send_25 : decode cX7_send 25 = .ok (.ifCond .eq 20, 3) := by decide +kernel
theorem dX7_send_28 : decode cX7_send 28 = .ok (.aload_n 0, 1) := by decide +kernel
theorem dX7_send_29 : decode cX7_send 29 = .ok (.getfield 27, 3) := by decide +kernel
theorem dX7_send_32 : decode cX7_send 32 = .ok (.iload 4, 2) := by decide +kernel
theorem dX7_send_34 : decode cX7_send 34 = .ok (.aaload, 1) := by decide +kernel
theorem dX7_send_35 : decode cX7_send 35 = .ok (.aload_n 2, 1) := by decide +kernel
theorem dX7_send_36 : decode cX7_send 36 = .ok (.invokevirtual 218, 3) := by decide +kernel
theorem dX7_send_39 : decode cX7_send 39 = .ok (.ifCond .eq 6, 3) := by decide +kernel
theorem dX7_send_42 : decode cX7_send 42 = .ok (.iinc 3 1, 3) := by decide +kernel
theorem dX7_send_45 : decode cX7_send 45 = .ok (.iinc 4 1, 3) := by decide +kernel
theorem dX7_send_48 : decode cX7_send 48 = .ok (.goto (-35), 3) := by decide +kernel
theorem dX7_send_51 : decode cX7_send 51 = .ok (.iload_n 3, 1) := by decide +kernel
theorem dX7_send_52 : decode cX7_send 52 = .ok (.ireturn, 1) := by decide +kernel
theorem dJ6_bitCount_0f7a4_0 : decode cJ6_bitCount_0f7a4 0 = .ok (.iload_n 0, 1) := by decide +kernel
theorem dJ6_bitCount_0f7a4_1 : decode cJ6_bitCount_0f7a4 1 = .ok (.iload_n 0, 1) := by decide +kernel
theorem dJ6_bitCount_0f7a4_2 : decode cJ6_bitCount_0f7a4 2 = .ok (.iconst 1, 1) := by decide +kernel
theorem dJ6_bitCount_0f7a4_3 : decode cJ6_bitCount_0f7a4 3 = .ok (.iushr, 1) := by decide +kernel
theorem dJ6_bitCount_0f7a4_4 : decode cJ6_bitCount_0f7a4 4 = .ok (.ldc_w 265, 3) := by decide +kernel
theorem dJ6_bitCount_0f7a4_7 : decode cJ6_bitCount_0f7a4 7 = .ok (.iand, 1) := by decide +kernel
theorem dJ6_bitCount_0f7a4_8 : decode cJ6_bitCount_0f7a4 8 = .ok (.isub, 1) := by decide +kernel
theorem dJ6_bitCount_0f7a4_9 : decode cJ6_bitCount_0f7a4 9 = .ok (.istore_n 0, 1) := by decide +kernel
theorem dJ6_bitCount_0f7a4_10 : decode cJ6_bitCount_0f7a4 10 = .ok (.iload_n 0, 1) := by decide +kernel
theorem dJ6_bitCount_0f7a4_11 : decode cJ6_bitCount_0f7a4 11 = .ok (.ldc_w 266, 3) := by decide +kernel
theorem dJ6_bitCount_0f7a4_14 : decode cJ6_bitCount_0f7a4 14 = .ok (.iand, 1) := by decide +kernel
theorem dJ6_bitCount_0f7a4_15 : decode cJ6_bitCount_0f7a4 15 = .ok (.iload_n 0, 1) := by decide +kernel
theorem dJ6_bitCount_0f7a4_16 : decode cJ6_bitCount_0f7a4 16 = .ok (.iconst 2, 1) := by decide +kernel
theorem dJ6_bitCount_0f7a4_17 : decode cJ6_bitCount_0f7a4 17 = .ok (.iushr, 1) := by decide +kernel
theorem dJ6_bitCount_0f7a4_18 : decode cJ6_bitCount_0f7a4 18 = .ok (.ldc_w 266, 3) := by decide +kernel
theorem dJ6_bitCount_0f7a4_21 : decode cJ6_bitCount_0f7a4 21 = .ok (.iand, 1) := by decide +kernel
theorem dJ6_bitCount_0f7a4_22 : decode cJ6_bitCount_0f7a4 22 = .ok (.iadd, 1) := by decide +kernel
theorem dJ6_bitCount_0f7a4_23 : decode cJ6_bitCount_0f7a4 23 = .ok (.istore_n 0, 1) := by decide +kernel
theorem dJ6_bitCount_0f7a4_24 : decode cJ6_bitCount_0f7a4 24 = .ok (.iload_n 0, 1) := by decide +kernel
theorem dJ6_bitCount_0f7a4_25 : decode cJ6_bitCount_0f7a4 25 = .ok (.iload_n 0, 1) := by decide +kernel
theorem dJ6_bitCount_0f7a4_26 : decode cJ6_bitCount_0f7a4 26 = .ok (.iconst 4, 1) := by decide +kernel
theorem dJ6_bitCount_0f7a4_27 : decode cJ6_bitCount_0f7a4 27 = .ok (.iushr, 1) := by decide +kernel
theorem dJ6_bitCount_0f7a4_28 : decode cJ6_bitCount_0f7a4 28 = .ok (.iadd, 1) := by decide +kernel
theorem dJ6_bitCount_0f7a4_29 : decode cJ6_bitCount_0f7a4 29 = .ok (.ldc_w 267, 3) := by decide +kernel
theorem dJ6_bitCount_0f7a4_32 : decode cJ6_bitCount_0f7a4 32 = .ok (.iand, 1) := by decide +kernel
theorem dJ6_bitCount_0f7a4_33 : decode cJ6_bitCount_0f7a4 33 = .ok (.istore_n 0, 1) := by decide +kernel
theorem dJ6_bitCount_0f7a4_34 : decode cJ6_bitCount_0f7a4 34 = .ok (.iload_n 0, 1) := by decide +kernel
theorem dJ6_bitCount_0f7a4_35 : decode cJ6_bitCount_0f7a4 35 = .ok (.iload_n 0, 1) := by decide +kernel
theorem dJ6_bitCount_0f7a4_36 : decode cJ6_bitCount_0f7a4 36 = .ok (.bipush 8, 2) := by decide +kernel
theorem dJ6_bitCount_0f7a4_38 : decode cJ6_bitCount_0f7a4 38 = .ok (.iushr, 1) := by decide +kernel
theorem dJ6_bitCount_0f7a4_39 : decode cJ6_bitCount_0f7a4 39 = .ok (.iadd, 1) := by decide +kernel
theorem dJ6_bitCount_0f7a4_40 : decode cJ6_bitCount_0f7a4 40 = .ok (.istore_n 0, 1) := by decide +kernel
theorem dJ6_bitCount_0f7a4_41 : decode cJ6_bitCount_0f7a4 41 = .ok (.iload_n 0, 1) := by decide +kernel
theorem dJ6_bitCount_0f7a4_42 : decode cJ6_bitCount_0f7a4 42 = .ok (.iload_n 0, 1) := by decide +kernel
theorem dJ6_bitCount_0f7a4_43 : decode cJ6_bitCount_0f7a4 43 = .ok (.bipush 16, 2) := by decide +kernel
theorem dJ6_bitCount_0f7a4_45 : decode cJ6_bitCount_0f7a4 45 = .ok (.iushr, 1) := by decide +kernel
theorem dJ6_bitCount_0f7a4_46 : decode cJ6_bitCount_0f7a4 46 = .ok (.iadd, 1) := by decide +kernel
theorem dJ6_bitCount_0f7a4_47 : decode cJ6_bitCount_0f7a4 47 = .ok (.istore_n 0, 1) := by decide +kernel
theorem dJ6_bitCount_0f7a4_48 : decode cJ6_bitCount_0f7a4 48 = .ok (.iload_n 0, 1) := by decide +kernel
theorem dJ6_bitCount_0f7a4_49 : decode cJ6_bitCount_0f7a4 49 = .ok (.bipush 63, 2) := by decide +kernel
theorem dJ6_bitCount_0f7a4_51 : decode cJ6_bitCount_0f7a4 51 = .ok (.iand, 1) := by decide +kernel
theorem dJ6_bitCount_0f7a4_52 : decode cJ6_bitCount_0f7a4 52 = .ok (.ireturn, 1) := by decide +kernel
theorem dJ9_max_7cf53_0 : decode cJ9_max_7cf53 0 = .ok (.iload_n 0, 1) := by decide +kernel
theorem dJ9_max_7cf53_1 : decode cJ9_max_7cf53 1 = .ok (.iload_n 1, 1) := by decide +kernel
theorem dJ9_max_7cf53_2 : decode cJ9_max_7cf53 2 = .ok (.if_icmp .lt 7, 3) := by decide +kernel
theorem dJ9_max_7cf53_5 : decode cJ9_max_7cf53 5 = .ok (.iload_n 0, 1) := by decide +kernel
theorem dJ9_max_7cf53_6 : decode cJ9_max_7cf53 6 = .ok (.goto 4, 3) := by decide +kernel
theorem dJ9_max_7cf53_9 : decode cJ9_max_7cf53 9 = .ok (.iload_n 1, 1) := by decide +kernel
theorem dJ9_max_7cf53_10 : decode cJ9_max_7cf53 10 = .ok (.ireturn, 1) := by decide +kernel
theorem dJ9_min_7cf53_0 : decode cJ9_min_7cf53 0 = .ok (.iload_n 0, 1) := by decide +kernel
theorem dJ9_min_7cf53_1 : decode cJ9_min_7cf53 1 = .ok (.iload_n 1, 1) := by decide +kernel
theorem dJ9_min_7cf53_2 : decode cJ9_min_7cf53 2 = .ok (.if_icmp .gt 7, 3) := by decide +kernel
theorem dJ9_min_7cf53_5 : decode cJ9_min_7cf53 5 = .ok (.iload_n 0, 1) := by decide +kernel
theorem dJ9_min_7cf53_6 : decode cJ9_min_7cf53 6 = .ok (.goto 4, 3) := by decide +kernel
theorem dJ9_min_7cf53_9 : decode cJ9_min_7cf53 9 = .ok (.iload_n 1, 1) := by decide +kernel
theorem dJ9_min_7cf53_10 : decode cJ9_min_7cf53 10 = .ok (.ireturn, 1) := by decide +kernel
theorem dJxa1e45_init_da8c8_0 : decode cJxa1e45_init_da8c8 0 = .ok (.aload_n 0, 1) := by decide +kernel
theorem dJxa1e45_init_da8c8_1 : decode cJxa1e45_init_da8c8 1 = .ok (.invokespecial 1, 3) := by decide +kernel
theorem dJxa1e45_init_da8c8_4 : decode cJxa1e45_init_da8c8 4 = .ok (.return_, 1) := by decide +kernel
set_option maxRecDepth 20000 in
theorem ggJxc12de_init_da8c8_Jxa1e45_init_da8c8 : GoodIn wsJxc12de_init_da8c8 wsJxa1e45_init_da8c8 := goodIn_r _ [5, 6, 7, 8] (by decide +kernel) (by decide +kernel)
set_option maxRecDepth 20000 in
theorem gJxc12de_init_da8c8_Jxa1e45_init_da8c8 : GoodIn wsJxc12de_init_da8c8 (wsJxa1e45_init_da8c8) := ggJxc12de_init_da8c8_Jxa1e45_init_da8c8
theorem dJxc12de_init_da8c8_0 : decode cJxc12de_init_da8c8 0 = .ok (.aload_n 0, 1) := by decide +kernel
theorem dJxc12de_init_da8c8_1 : decode cJxc12de_init_da8c8 1 = .ok (.invokespecial 1, 3) := by decide +kernel
theorem dJxc12de_init_da8c8_4 : decode cJxc12de_init_da8c8 4 = .ok (.aload_n 0, 1) := by decide +kernel
theorem dJxc12de_init_da8c8_5 : decode cJxc12de_init_da8c8 5 = .ok (.iconst 0, 1) := by decide +kernel
theorem dJxc12de_init_da8c8_6 : decode cJxc12de_init_da8c8 6 = .ok (.putfield 7, 3) := by decide +kernel
theorem dJxc12de_init_da8c8_9 : decode cJxc12de_init_da8c8 9 = .ok (.return_, 1) := by decide +kernel
set_option maxRecDepth 20000 in
theorem ggJx4a65c_init_da8c8_Jxc12de_init_da8c8 : GoodIn wsJx4a65c_init_da8c8 wsJxc12de_init_da8c8 := goodIn_r _ [6, 7, 8, 9, 10, 11, 12, 13, 14, 15, 16, 17] (by decide +kernel) (by decide +kernel)
set_option maxRecDepth 20000 in
theorem gJx4a65c_init_da8c8_Jxc12de_init_da8c8 : GoodIn wsJx4a65c_init_da8c8 (wsJxc12de_init_da8c8) := ggJx4a65c_init_da8c8_Jxc12de_init_da8c8
theorem dJx4a65c_init_da8c8_0 : decode cJx4a65c_init_da8c8 0 = .ok (.aload_n 0, 1) := by decide +kernel
