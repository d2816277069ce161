theorem dX0_init_0 : decode cX0_init 0 = .ok (.aload_n 0, 1) := by decide +kernel
theorem dX0_init_1 : decode cX0_init 1 = .ok (.invokespecial 1, 3) := by decide +kernel
theorem dX0_init_4 : decode cX0_init 4 = .ok (.return_, 1) := by decide +kernel
theorem dX1_init_0 : decode cX1_init 0 = .ok (.aload_n 0, 1) := by decide +kernel
theorem dX1_init_1 : decode cX1_init 1 = .ok (.invokespecial 3, 3) := by decide +kernel
theorem dX1_init_4 : decode cX1_init 4 = .ok (.aload_n 0, 1) := by decide +kernel
theorem dX1_init_5 : decode cX1_init 5 = .ok (.bipush 32, 2) := by decide +kernel
theorem dX1_init_7 : decode cX1_init 7 = .ok (.newarray .int, 2) := by decide +kernel
theorem dX1_init_9 : decode cX1_init 9 = .ok (.putfield 9, 3) := by decide +kernel
theorem dX1_init_12 : decode cX1_init 12 = .ok (.aload_n 0, 1) := by decide +kernel
theorem dX1_init_13 : decode cX1_init 13 = .ok (.bipush 32, 2) := by decide +kernel
theorem dX1_init_15 : decode cX1_init 15 = .ok (.newarray .int, 2) := by decide +kernel
theorem dX1_init_17 : decode cX1_init 17 = .ok (.putfield 15, 3) := by decide +kernel
theorem dX1_init_20 : decode cX1_init 20 = .ok (.aload_n 0, 1) := by decide +kernel
theorem dX1_init_21 : decode cX1_init 21 = .ok (.bipush 32, 2) := by decide +kernel
theorem dX1_init_23 : decode cX1_init 23 = .ok (.newarray .boolean, 2) := by decide +kernel
theorem dX1_init_25 : decode cX1_init 25 = .ok (.putfield 18, 3) := by decide +kernel
theorem dX1_init_28 : decode cX1_init 28 = .ok (.return_, 1) := by decide +kernel
set_option maxRecDepth 20000 in
theorem ggX1_makeSums_X5_rowSum : GoodIn wsX1_makeSums wsX5_rowSum := goodIn_r _ [6, 7, 8, 9, 10, 11, 5, 12, 13, 14, 15, 16, 17, 18, 19, 20, 21, 22, 23, 24, 25, 26, 27, 28, 29, 30, 31, 32, 33, 34, 35, 36, 37, 38, 39, 40, 41, 42, 43] (by decide +kernel) (by decide +kernel)
set_option maxRecDepth 20000 in
theorem gX1_makeSums_X5_rowSum : GoodIn wsX1_makeSums (wsV RX1 22 RX5 yX5_rowSum wsX5_rowSum) := goodIn_app (goodIn_of _ (by decide +kernel)) ggX1_makeSums_X5_rowSum
theorem dX1_makeSums_0 : decode cX1_makeSums 0 = .ok (.iconst 0, 1) := by decide +kernel
theorem dX1_makeSums_1 : decode cX1_makeSums 1 = .ok (.istore_n 2, 1) := by decide +kernel
theorem dX1_makeSums_2 : decode cX1_makeSums 2 = .ok (.iload_n 2, 1) := by decide +kernel
theorem dX1_makeSums_3 : decode cX1_makeSums 3 = .ok (.bipush 16, 2) := by decide +kernel
theorem dX1_makeSums_5 : decode cX1_makeSums 5 = .ok (.if_icmp .ge 20, 3) := by decide +kernel
theorem dX1_makeSums_8 : decode cX1_makeSums 8 = .ok (.aload_n 1, 1) := by decide +kernel
theorem dX1_makeSums_9 : decode cX1_makeSums 9 = .ok (.bipush 16, 2) := by decide +kernel
theorem dX1_makeSums_11 : decode cX1_makeSums 11 = .ok (.iload_n 2, 1) := by decide +kernel
theorem dX1_makeSums_12 : decode cX1_makeSums 12 = .ok (.iadd, 1) := by decide +kernel
theorem dX1_makeSums_13 : decode cX1_makeSums 13 = .ok (.aload_n 0, 1) := by decide +kernel
theorem dX1_makeSums_14 : decode cX1_makeSums 14 = .ok (.iload_n 2, 1) := by decide +kernel
theorem dX1_makeSums_15 : decode cX1_makeSums 15 = .ok (.invokevirtual 22, 3) := by decide +kernel
theorem dX1_makeSums_18 : decode cX1_makeSums 18 = .ok (.iastore, 1) := by decide +kernel
theorem dX1_makeSums_19 : decode cX1_makeSums 19 = .ok (.iinc 2 1, 3) := by decide +kernel
theorem dX1_makeSums_22 : decode cX1_makeSums 22 = .ok (.goto (-20), 3) := by decide +kernel
theorem dX1_makeSums_25 : decode cX1_makeSums 25 = .ok (.bipush 15, 2) := by decide +kernel
theorem dX1_makeSums_27 : decode cX1_makeSums 27 = .ok (.istore_n 2, 1) := by decide +kernel
theorem dX1_makeSums_28 : decode cX1_makeSums 28 = .ok (.iload_n 2, 1) := by decide +kernel
theorem dX1_makeSums_29 : decode cX1_makeSums 29 = .ok (.iconst 1, 1) := by decide +kernel
theorem dX1_makeSums_30 : decode cX1_makeSums 30 = .ok (.if_icmp .lt 28, 3) := by decide +kernel
theorem dX1_makeSums_33 : decode cX1_makeSums 33 = .ok (.aload_n 1, 1) := by decide +kernel
theorem dX1_makeSums_34 : decode cX1_makeSums 34 = .ok (.iload_n 2, 1) := by decide +kernel
theorem dX1_makeSums_35 : decode cX1_makeSums 35 = .ok (.aload_n 1, 1) := by decide +kernel
theorem dX1_makeSums_36 : decode cX1_makeSums 36 = .ok (.iconst 2, 1) := by decide +kernel
theorem dX1_makeSums_37 : decode cX1_makeSums 37 = .ok (.iload_n 2, 1) := by decide +kernel
theorem dX1_makeSums_38 : decode cX1_makeSums 38 = .ok (.imul, 1) := by decide +kernel
theorem dX1_makeSums_39 : decode cX1_makeSums 39 = .ok (.iaload, 1) := by decide +kernel
theorem dX1_makeSums_40 : decode cX1_makeSums 40 = .ok (.aload_n 1, 1) := by decide +kernel
theorem dX1_makeSums_41 : decode cX1_makeSums 41 = .ok (.iconst 2, 1) := by decide +kernel
theorem dX1_makeSums_42 : decode cX1_makeSums 42 = .ok (.iload_n 2, 1) := by decide +kernel
theorem dX1_makeSums_43 : decode cX1_makeSums 43 = .ok (.imul, 1) := by decide +kernel
theorem dX1_makeSums_44 : decode cX1_makeSums 44 = .ok (.iconst 1, 1) := by decide +kernel
theorem dX1_makeSums_45 : decode cX1_makeSums 45 = .ok (.iadd, 1) := by decide +kernel
theorem dX1_makeSums_46 : decode cX1_makeSums 46 = .ok (.iaload, 1) := by decide +kernel
theorem dX1_makeSums_47 : decode cX1_makeSums 47 = .ok (.iadd, 1) := by decide +kernel
theorem dX1_makeSums_48 : decode cX1_makeSums 48 = .ok (.ldc 28, 2) := by decide +kernel
theorem dX1_makeSums_50 : decode cX1_makeSums 50 = .ok (.irem, 1) := by decide +kernel
theorem dX1_makeSums_51 : decode cX1_makeSums 51 = .ok (.iastore, 1) := by decide +kernel
theorem dX1_makeSums_52 : decode cX1_makeSums 52 = .ok (.iinc 2 (-1), 3) := by decide +kernel
theorem dX1_makeSums_55 : decode cX1_makeSums 55 = .ok (.goto (-27), 3) := by decide +kernel
theorem dX1_makeSums_58 : decode cX1_makeSums 58 = .ok (.return_, 1) := by decide +kernel
set_option maxRecDepth 20000 in
theorem ggX1_nodeSum_X1_makeSums : GoodIn wsX1_nodeSum wsX1_makeSums := goodIn_r _ [5, 6, 7, 8, 9, 10, 11, 12, 13, 14, 15, 16, 17, 18, 19, 20, 21, 22, 23, 24, 25, 26, 27, 28, 29, 30, 31, 32, 33, 34, 35, 36, 37, 38, 39, 40, 44, 45, 46, 47, 48, 49, 50, 51] (by decide +kernel) (by decide +kernel)
set_option maxRecDepth 20000 in
theorem gX1_nodeSum_X1_makeSums : GoodIn wsX1_nodeSum (va_wsS RX1 29 yX1_makeSums wsX1_makeSums) := goodIn_app (goodIn_of _ (by decide +kernel)) ggX1_nodeSum_X1_makeSums
theorem dX1_nodeSum_0 : decode cX1_nodeSum 0 = .ok (.aload_n 1, 1) := by decide +kernel
theorem dX1_nodeSum_1 : decode cX1_nodeSum 1 = .ok (.aload_n 0, 1) := by decide +kernel
theorem dX1_nodeSum_2 : decode cX1_nodeSum 2 = .ok (.getfield 9, 3) := by decide +kernel
theorem dX1_nodeSum_5 : decode cX1_nodeSum 5 = .ok (.invokestatic 29, 3) := by decide +kernel
theorem dX1_nodeSum_8 : decode cX1_nodeSum 8 = .ok (.aload_n 0, 1) := by decide +kernel
theorem dX1_nodeSum_9 : decode cX1_nodeSum 9 = .ok (.getfield 9, 3) := by decide +kernel
theorem dX1_nodeSum_12 : decode cX1_nodeSum 12 = .ok (.iload_n 2, 1) := by decide +kernel
theorem dX1_nodeSum_13 : decode cX1_nodeSum 13 = .ok (.iaload, 1) := by decide +kernel
theorem dX1_nodeSum_14 : decode cX1_nodeSum 14 = .ok (.ireturn, 1) := by decide +kernel
set_option maxRecDepth 20000 in
theorem ggX1_compareNodes_X1_makeSums : GoodIn wsX1_compareNodes wsX1_makeSums := goodIn_r _ [7, 8, 9, 10, 11, 12, 13, 14, 15, 16, 17, 18, 19, 20, 21, 22, 23, 24, 25, 26, 27, 28, 29, 30, 31, 32, 33, 34, 35, 36, 37, 38, 39, 40, 41, 42, 46, 47, 48, 49, 50, 51, 52, 53] (by decide +kernel) (by decide +kernel)
set_option maxRecDepth 20000 in
theorem gX1_compareNodes_X1_makeSums : GoodIn wsX1_compareNodes (va_wsS RX1 29 yX1_makeSums wsX1_makeSums) := goodIn_app (goodIn_of _ (by decide +kernel)) ggX1_compareNodes_X1_makeSums
theorem dX1_compareNodes_0 : decode cX1_compareNodes 0 = .ok (.aload_n 1, 1) := by decide +kernel
theorem dX1_compareNodes_1 : decode cX1_compareNodes 1 = .ok (.aload_n 0, 1) := by decide +kernel
theorem dX1_compareNodes_2 : decode cX1_compareNodes 2 = .ok (.getfield 9, 3) := by decide +kernel
theorem dX1_compareNodes_5 : decode cX1_compareNodes 5 = .ok (.invokestatic 29, 3) := by decide +kernel
theorem dX1_compareNodes_8 : decode cX1_compareNodes 8 = .ok (.aload_n 2, 1) := by decide +kernel
theorem dX1_compareNodes_9 : decode cX1_compareNodes 9 = .ok (.aload_n 0, 1) := by decide +kernel
theorem dX1_compareNodes_10 : decode cX1_compareNodes 10 = .ok (.getfield 15, 3) := by decide +kernel
theorem dX1_compareNodes_13 : decode cX1_compareNodes 13 = .ok (.invokestatic 29, 3) := by decide +kernel
theorem dX1_compareNodes_16 : decode cX1_compareNodes 16 = .ok (.iconst 0, 1) := by decide +kernel
theorem dX1_compareNodes_17 : decode cX1_compareNodes 17 = .ok (.istore_n 3, 1) := by decide +kernel
theorem dX1_compareNodes_18 : decode cX1_compareNodes 18 = .ok (.iconst 1, 1) := by decide +kernel
theorem dX1_compareNodes_19 : decode cX1_compareNodes 19 = .ok (.istore 4, 2) := by decide +kernel
theorem dX1_compareNodes_21 : decode cX1_compareNodes 21 = .ok (.iload 4, 2) := by decide +kernel
theorem dX1_compareNodes_23 : decode cX1_compareNodes 23 = .ok (.bipush 32, 2) := by decide +kernel
theorem dX1_compareNodes_25 : decode cX1_compareNodes 25 = .ok (.if_icmp .ge 76, 3) := by decide +kernel
theorem dX1_compareNodes_28 : decode cX1_compareNodes 28 = .ok (.iload 4, 2) := by decide +kernel
theorem dX1_compareNodes_30 : decode cX1_compareNodes 30 = .ok (.iconst 1, 1) := by decide +kernel
theorem dX1_compareNodes_31 : decode cX1_compareNodes 31 = .ok (.if_icmp .eq 15, 3) := by decide +kernel
theorem dX1_compareNodes_34 : decode cX1_compareNodes 34 = .ok (.aload_n 0, 1) := by decide +kernel
theorem dX1_compareNodes_35 : decode cX1_compareNodes 35 = .ok (.getfield 18, 3) := by decide +kernel
theorem dX1_compareNodes_38 : decode cX1_compareNodes 38 = .ok (.iload 4, 2) := by decide +kernel
theorem dX1_compareNodes_40 : decode cX1_compareNodes 40 = .ok (.iconst 2, 1) := by decide +kernel
theorem dX1_compareNodes_41 : decode cX1_compareNodes 41 = .ok (.idiv, 1) := by decide +kernel
theorem dX1_compareNodes_42 : decode cX1_compareNodes 42 = .ok (.baload, 1) := by decide +kernel
theorem dX1_compareNodes_43 : decode cX1_compareNodes 43 = .ok (.ifCond .eq 7, 3) := by decide +kernel
theorem dX1_compareNodes_46 : decode cX1_compareNodes 46 = .ok (.iconst 1, 1) := by decide +kernel
theorem dX1_compareNodes_47 : decode cX1_compareNodes 47 = .ok (.goto 4, 3) := by decide +kernel
theorem dX1_compareNodes_50 : decode cX1_compareNodes 50 = .ok (.iconst 0, 1) := by decide +kernel
theorem dX1_compareNodes_51 : decode cX1_compareNodes 51 = .ok (.istore 5, 2) := by decide +kernel
theorem dX1_compareNodes_53 : decode cX1_compareNodes 53 = .ok (.aload_n 0, 1) := by decide +kernel
theorem dX1_compareNodes_54 : decode cX1_compareNodes 54 = .ok (.getfield 18, 3) := by decide +kernel
theorem dX1_compareNodes_57 : decode cX1_compareNodes 57 = .ok (.iload 4, 2) := by decide +kernel
theorem dX1_compareNodes_59 : decode cX1_compareNodes 59 = .ok (.iload 5, 2) := by decide +kernel
theorem dX1_compareNodes_61 : decode cX1_compareNodes 61 = .ok (.ifCond .eq 24, 3) := by decide +kernel
theorem dX1_compareNodes_64 : decode cX1_compareNodes 64 = .ok (.aload_n 0, 1) := by decide +kernel
theorem dX1_compareNodes_65 : decode cX1_compareNodes 65 = .ok (.getfield 9, 3) := by decide +kernel
theorem dX1_compareNodes_68 : decode cX1_compareNodes 68 = .ok (.iload 4, 2) := by decide +kernel
theorem dX1_compareNodes_70 : decode cX1_compareNodes 70 = .ok (.iaload, 1) := by decide +kernel
theorem dX1_compareNodes_71 : decode cX1_compareNodes 71 = .ok (.aload_n 0, 1) := by decide +kernel
theorem dX1_compareNodes_72 : decode cX1_compareNodes 72 = .ok (.getfield 15, 3) := by decide +kernel
theorem dX1_compareNodes_75 : decode cX1_compareNodes 75 = .ok (.iload 4, 2) := by decide +kernel
theorem dX1_compareNodes_77 : decode cX1_compareNodes 77 = .ok (.iaload, 1) := by decide +kernel
theorem dX1_compareNodes_78 : decode cX1_compareNodes 78 = .ok (.if_icmp .eq 7, 3) := by decide +kernel
theorem dX1_compareNodes_81 : decode cX1_compareNodes 81 = .ok (.iconst 1, 1) := by decide +kernel
theorem dX1_compareNodes_82 : decode cX1_compareNodes 82 = .ok (.goto 4, 3) := by decide +kernel
theorem dX1_compareNodes_85 : decode cX1_compareNodes 85 = .ok (.iconst 0, 1) := by decide +kernel
theorem dX1_compareNodes_86 : decode cX1_compareNodes 86 = .ok (.bastore, 1) := by decide +kernel
theorem dX1_compareNodes_87 : decode cX1_compareNodes 87 = .ok (.iload 5, 2) := by decide +kernel
theorem dX1_compareNodes_89 : decode cX1_compareNodes 89 = .ok (.ifCond .eq 6, 3) := by decide +kernel
theorem dX1_compareNodes_92 : decode cX1_compareNodes 92 = .ok (.iinc 3 1, 3) := by decide +kernel
theorem dX1_compareNodes_95 : decode cX1_compareNodes 95 = .ok (.iinc 4 1, 3) := by decide +kernel
theorem dX1_compareNodes_98 : decode cX1_compareNodes 98 = .ok (.goto (-77), 3) := by decide +kernel
theorem dX1_compareNodes_101 : decode cX1_compareNodes 101 = .ok (.iload_n 3, 1) := by decide +kernel
theorem dX1_compareNodes_102 : decode cX1_compareNodes 102 = .ok (.ireturn, 1) := by decide +kernel
theorem dX1_unlikeRows_0 : decode cX1_unlikeRows 0 = .ok (.iconst 0, 1) := by decide +kernel
theorem dX1_unlikeRows_1 : decode cX1_unlikeRows 1 = .ok (.istore_n 1, 1) := by decide +kernel
theorem dX1_unlikeRows_2 : decode cX1_unlikeRows 2 = .ok (.iconst 0, 1) := by decide +kernel
theorem dX1_unlikeRows_3 : decode cX1_unlikeRows 3 = .ok (.istore_n 2, 1) := by decide +kernel
theorem dX1_unlikeRows_4 : decode cX1_unlikeRows 4 = .ok (.iload_n 2, 1) := by decide +kernel
theorem dX1_unlikeRows_5 : decode cX1_unlikeRows 5 = .ok (.bipush 16, 2) := by decide +kernel
theorem dX1_unlikeRows_7 : decode cX1_unlikeRows 7 = .ok (.if_icmp .ge 27, 3) := by decide +kernel
theorem dX1_unlikeRows_10 : decode cX1_unlikeRows 10 = .ok (.aload_n 0, 1) := by decide +kernel
theorem dX1_unlikeRows_11 : decode cX1_unlikeRows 11 = .ok (.getfield 18, 3) := by decide +kernel
theorem dX1_unlikeRows_14 : decode cX1_unlikeRows 14 = .ok (.bipush 16, 2) := by decide +kernel
theorem dX1_unlikeRows_16 : decode cX1_unlikeRows 16 = .ok (.iload_n 2, 1) := by decide +kernel
theorem dX1_unlikeRows_17 : decode cX1_unlikeRows 17 = .ok (.iadd, 1) := by decide +kernel
theorem dX1_unlikeRows_18 : decode cX1_unlikeRows 18 = .ok (.baload, 1) := by decide +kernel
theorem dX1_unlikeRows_19 : decode cX1_unlikeRows 19 = .ok (.ifCond .eq 9, 3) := by decide +kernel
theorem dX1_unlikeRows_22 : decode cX1_unlikeRows 22 = .ok (.iload_n 1, 1) := by decide +kernel
theorem dX1_unlikeRows_23 : decode cX1_unlikeRows 23 = .ok (.iconst 1, 1) := by decide +kernel
theorem dX1_unlikeRows_24 : decode cX1_unlikeRows 24 = .ok (.iload_n 2, 1) := by decide +kernel
theorem dX1_unlikeRows_25 : decode cX1_unlikeRows 25 = .ok (.ishl, 1) := by decide +kernel
theorem dX1_unlikeRows_26 : decode cX1_unlikeRows 26 = .ok (.ior, 1) := by decide +kernel
theorem dX1_unlikeRows_27 : decode cX1_unlikeRows 27 = .ok (.istore_n 1, 1) := by decide +kernel
theorem dX1_unlikeRows_28 : decode cX1_unlikeRows 28 = .ok (.iinc 2 1, 3) := by decide +kernel
theorem dX1_unlikeRows_31 : decode cX1_unlikeRows 31 = .ok (.goto (-27), 3) := by decide +kernel
theorem dX1_unlikeRows_34 : decode cX1_unlikeRows 34 = .ok (.iload_n 1, 1) := by decide +kernel
theorem dX1_unlikeRows_35 : decode cX1_unlikeRows 35 = .ok (.ireturn, 1) := by decide +kernel
set_option maxRecDepth 20000 in
theorem ggX2_init_X0_init : GoodIn wsX2_init wsX0_init := goodIn_r _ [7, 8, 9, 10] (by decide +kernel) (by decide +kernel)
set_option maxRecDepth 20000 in
theorem gX2_init_X0_init_n1 : GoodIn wsX2_init (wsX0_init) := ggX2_init_X0_init
theorem dX2_init_0 : decode cX2_init 0 = .ok (.aload_n 0, 1) := by decide +kernel
theorem dX2_init_1 : decode cX2_init 1 = .ok (.invokespecial 1, 3) := by decide +kernel
theorem dX2_init_4 : decode cX2_init 4 = .ok (.aload_n 0, 1) := by decide +kernel
theorem dX2_init_5 : decode cX2_init 5 = .ok (.iload_n 1, 1) := by decide +kernel
theorem dX2_init_6 : decode cX2_init 6 = .ok (.putfield 7, 3) := by decide +kernel
theorem dX2_init_9 : decode cX2_init 9 = .ok (.aload_n 0, 1) := by decide +kernel
theorem dX2_init_10 : decode cX2_init 10 = .ok (.iload_n 2, 1) := by decide +kernel
theorem dX2_init_11 : decode cX2_init 11 = .ok (.putfield 13, 3) := by decide +kernel
theorem dX2_init_14 : decode cX2_init 14 = .ok (.aload_n 0, 1) := by decide +kernel
theorem dX2_init_15 : decode cX2_init 15 = .ok (.iload_n 3, 1) := by decide +kernel
theorem dX2_init_16 : decode cX2_init 16 = .ok (.putfield 16, 3) := by decide +kernel
theorem dX2_init_19 : decode cX2_init 19 = .ok (.aload_n 0, 1) := by decide +kernel
theorem dX2_init_20 : decode cX2_init 20 = .ok (.iload 4, 2) := by decide +kernel
theorem dX2_init_22 : decode cX2_init 22 = .ok (.putfield 19, 3) := by decide +kernel
theorem dX2_init_25 : decode cX2_init 25 = .ok (.return_, 1) := by decide +kernel
set_option maxRecDepth 20000 in
theorem ggX2_goTo_X5_takeEntry : GoodIn wsX2_goTo wsX5_takeEntry := goodIn_r _ [9, 10, 11, 12, 8, 13, 14, 15, 16, 17, 18, 19, 20, 21, 22, 23, 28, 29, 30, 31, 32, 33] (by decide +kernel) (by decide +kernel)
set_option maxRecDepth 20000 in
theorem gX2_goTo_X5_takeEntry : GoodIn wsX2_goTo (wsV RX2 22 RX5 yX5_takeEntry wsX5_takeEntry) := goodIn_app (goodIn_of _ (by decide +kernel)) ggX2_goTo_X5_takeEntry
theorem dX2_goTo_0 : decode cX2_goTo 0 = .ok (.aload_n 1, 1) := by decide +kernel
theorem dX2_goTo_1 : decode cX2_goTo 1 = .ok (.aload_n 0, 1) := by decide +kernel
theorem dX2_goTo_2 : decode cX2_goTo 2 = .ok (.getfield 7, 3) := by decide +kernel
theorem dX2_goTo_5 : decode cX2_goTo 5 = .ok (.aload_n 0, 1) := by decide +kernel
theorem dX2_goTo_6 : decode cX2_goTo 6 = .ok (.getfield 13, 3) := by decide +kernel
theorem dX2_goTo_9 : decode cX2_goTo 9 = .ok (.aload_n 0, 1) := by decide +kernel
theorem dX2_goTo_10 : decode cX2_goTo 10 = .ok (.getfield 16, 3) := by decide +kernel
theorem dX2_goTo_13 : decode cX2_goTo 13 = .ok (.aload_n 0, 1) := by decide +kernel
theorem dX2_goTo_14 : decode cX2_goTo 14 = .ok (.getfield 19, 3) := by decide +kernel
theorem dX2_goTo_17 : decode cX2_goTo 17 = .ok (.invokevirtual 22, 3) := by decide +kernel
theorem dX2_goTo_20 : decode cX2_goTo 20 = .ok (.return_, 1) := by decide +kernel
set_option maxRecDepth 20000 in
theorem ggX3_init_Jx4a65c_init_da8c8 : GoodIn wsX3_init wsJx4a65c_init_da8c8 := goodIn_r _ [12, 13, 14, 15, 16, 17, 18, 19, 20, 21, 22, 23, 24, 2, 3, 25, 26, 27] (by decide +kernel) (by decide +kernel)
set_option maxRecDepth 20000 in
theorem gX3_init_Jx4a65c_init_da8c8 : GoodIn wsX3_init (wsJx4a65c_init_da8c8) := ggX3_init_Jx4a65c_init_da8c8
theorem dX3_init_0 : decode cX3_init 0 = .ok (.aload_n 0, 1) := by decide +kernel
theorem dX3_init_1 : decode cX3_init 1 = .ok (.invokespecial 3, 3) := by decide +kernel
theorem dX3_init_4 : decode cX3_init 4 = .ok (.aload_n 0, 1) := by decide +kernel
theorem dX3_init_5 : decode cX3_init 5 = .ok (.new 9, 3) := by decide +kernel
theorem dX3_init_8 : decode cX3_init 8 = .ok (.dup, 1) := by decide +kernel
theorem dX3_init_9 : decode cX3_init 9 = .ok (.invokespecial 11, 3) := by decide +kernel
theorem dX3_init_12 : decode cX3_init 12 = .ok (.putfield 12, 3) := by decide +kernel
theorem dX3_init_15 : decode cX3_init 15 = .ok (.aload_n 0, 1) := by decide +kernel
theorem dX3_init_16 : decode cX3_init 16 = .ok (.iconst 1, 1) := by decide +kernel
theorem dX3_init_17 : decode cX3_init 17 = .ok (.putfield 18, 3) := by decide +kernel
theorem dX3_init_20 : decode cX3_init 20 = .ok (.aload_n 0, 1) := by decide +kernel
theorem dX3_init_21 : decode cX3_init 21 = .ok (.aload_n 1, 1) := by decide +kernel
theorem dX3_init_22 : decode cX3_init 22 = .ok (.putfield 22, 3) := by decide +kernel
theorem dX3_init_25 : decode cX3_init 25 = .ok (.return_, 1) := by decide +kernel
set_option maxRecDepth 20000 in
theorem ggX3_receive_X2_goTo : GoodIn wsX3_receive wsX2_goTo := goodIn_r _ [9, 10, 11, 12, 13, 14, 15, 16, 17, 18, 19, 20, 21, 22, 23, 24, 25, 26, 27, 28, 29, 30, 31, 32, 113, 114, 115, 116, 117, 118, 119, 120, 121, 122] (by decide +kernel) (by decide +kernel)
set_option maxRecDepth 20000 in
theorem gX3_receive_X2_goTo_u26X2 : GoodIn wsX3_receive (va_wsU RX3 26 RX2 "WideCell$Change" ⟨"WideCell$Change", "goTo", "(LWideCell$Table;)V"⟩ yX2_goTo wsX2_goTo) := goodIn_app (goodIn_of _ (by decide +kernel)) ggX3_receive_X2_goTo
set_option maxRecDepth 20000 in
theorem ggX3_receive_X6_goTo : GoodIn wsX3_receive wsX6_goTo := goodIn_r _ [36, 37, 38, 39, 40, 41, 42, 17, 43, 44, 45, 46, 47, 48, 49, 123, 124, 125, 117, 118, 119, 120, 121, 122] (by decide +kernel) (by decide +kernel)
set_option maxRecDepth 20000 in
theorem gX3_receive_X6_goTo_u26X6 : GoodIn wsX3_receive (va_wsU RX3 26 RX6 "WideCell$Change" ⟨"WideCell$Change", "goTo", "(LWideCell$Table;)V"⟩ yX6_goTo wsX6_goTo) := goodIn_app (goodIn_of _ (by decide +kernel)) ggX3_receive_X6_goTo
set_option maxRecDepth 20000 in
theorem ggX3_receive_Jx4a65c_size_8abf5 : GoodIn wsX3_receive wsJx4a65c_size_8abf5 := goodIn_r _ [54, 55, 126, 127, 128] (by decide +kernel) (by decide +kernel)
set_option maxRecDepth 20000 in
theorem gX3_receive_Jx4a65c_size_8abf5 : GoodIn wsX3_receive (wsV RX3 32 RJx4a65c yJx4a65c_size_8abf5 wsJx4a65c_size_8abf5) := goodIn_app (goodIn_of _ (by decide +kernel)) ggX3_receive_Jx4a65c_size_8abf5
set_option maxRecDepth 20000 in
theorem ggX3_receive_Jx4a65c_add_9ea2d : GoodIn wsX3_receive wsJx4a65c_add_9ea2d := goodIn_r _ [59, 60, 61, 62, 55, 63, 64, 65, 53, 66, 67, 68, 69, 70, 71, 72, 73, 74, 75, 76, 77, 78, 79, 80, 81, 82, 83, 84, 85, 86, 87, 88, 89, 90, 91, 92, 93, 94, 95, 96, 97, 98, 99, 100, 101, 102, 103, 104, 105, 106, 107, 108, 109, 126, 127, 128] (by decide +kernel) (by decide +kernel)
set_option maxRecDepth 20000 in
theorem gX3_receive_Jx4a65c_add_9ea2d : GoodIn wsX3_receive (wsV RX3 36 RJx4a65c yJx4a65c_add_9ea2d wsJx4a65c_add_9ea2d) := goodIn_app (goodIn_of _ (by decide +kernel)) ggX3_receive_Jx4a65c_add_9ea2d
theorem dX3_receive_0 : decode cX3_receive 0 = .ok (.aload_n 0, 1) := by decide +kernel
theorem dX3_receive_1 : decode cX3_receive 1 = .ok (.getfield 18, 3) := by decide +kernel
theorem dX3_receive_4 : decode cX3_receive 4 = .ok (.ifCond .eq 14, 3) := by decide +kernel
theorem dX3_receive_7 : decode cX3_receive 7 = .ok (.aload_n 1, 1) := by decide +kernel
theorem dX3_receive_8 : decode cX3_receive 8 = .ok (.aload_n 0, 1) := by decide +kernel
theorem dX3_receive_9 : decode cX3_receive 9 = .ok (.getfield 22, 3) := by decide +kernel
theorem dX3_receive_12 : decode cX3_receive 12 = .ok (.invokevirtual 26, 3) := by decide +kernel
theorem dX3_receive_15 : decode cX3_receive 15 = .ok (.goto 24, 3) := by decide +kernel
theorem dX3_receive_18 : decode cX3_receive 18 = .ok (.aload_n 0, 1) := by decide +kernel
theorem dX3_receive_19 : decode cX3_receive 19 = .ok (.getfield 12, 3) := by decide +kernel
theorem dX3_receive_22 : decode cX3_receive 22 = .ok (.invokevirtual 32, 3) := by decide +kernel
theorem dX3_receive_25 : decode cX3_receive 25 = .ok (.bipush 10, 2) := by decide +kernel
theorem dX3_receive_27 : decode cX3_receive 27 = .ok (.if_icmp .ge 12, 3) := by decide +kernel
theorem dX3_receive_30 : decode cX3_receive 30 = .ok (.aload_n 0, 1) := by decide +kernel
theorem dX3_receive_31 : decode cX3_receive 31 = .ok (.getfield 12, 3) := by decide +kernel
theorem dX3_receive_34 : decode cX3_receive 34 = .ok (.aload_n 1, 1) := by decide +kernel
theorem dX3_receive_35 : decode cX3_receive 35 = .ok (.invokevirtual 36, 3) := by decide +kernel
theorem dX3_receive_38 : decode cX3_receive 38 = .ok (.pop, 1) := by decide +kernel
theorem dX3_receive_39 : decode cX3_receive 39 = .ok (.aload_n 0, 1) := by decide +kernel
theorem dX3_receive_40 : decode cX3_receive 40 = .ok (.getfield 18, 3) := by decide +kernel
theorem dX3_receive_43 : decode cX3_receive 43 = .ok (.ireturn, 1) := by decide +kernel
set_option maxRecDepth 20000 in
theorem ggX3_comeUp_Jx4a65c_size_8abf5 : GoodIn wsX3_comeUp wsJx4a65c_size_8abf5 := goodIn_r _ [9, 10, 88, 89, 90] (by decide +kernel) (by decide +kernel)
set_option maxRecDepth 20000 in
theorem gX3_comeUp_Jx4a65c_size_8abf5 : GoodIn wsX3_comeUp (wsV RX3 32 RJx4a65c yJx4a65c_size_8abf5 wsJx4a65c_size_8abf5) := goodIn_app (goodIn_of _ (by decide +kernel)) ggX3_comeUp_Jx4a65c_size_8abf5
set_option maxRecDepth 20000 in
theorem ggX3_comeUp_Jx4a65c_get_915e3 : GoodIn wsX3_comeUp wsJx4a65c_get_915e3 := goodIn_r _ [14, 10, 15, 16, 17, 18, 19, 20, 21, 22, 23, 24, 25, 8, 26, 27, 88, 89, 90] (by decide +kernel) (by decide +kernel)
set_option maxRecDepth 20000 in
theorem gX3_comeUp_Jx4a65c_get_915e3 : GoodIn wsX3_comeUp (wsV RX3 40 RJx4a65c yJx4a65c_get_915e3 wsJx4a65c_get_915e3) := goodIn_app (goodIn_of _ (by decide +kernel)) ggX3_comeUp_Jx4a65c_get_915e3
set_option maxRecDepth 20000 in
theorem ggX3_comeUp_X2_goTo : GoodIn wsX3_comeUp wsX2_goTo := goodIn_r _ [33, 34, 35, 36, 37, 38, 39, 40, 41, 42, 43, 44, 45, 46, 47, 48, 49, 50, 51, 52, 53, 54, 55, 56, 91, 92, 93, 94, 95, 96, 97, 98, 99, 100] (by decide +kernel) (by decide +kernel)
set_option maxRecDepth 20000 in
theorem gX3_comeUp_X2_goTo_u26X2 : GoodIn wsX3_comeUp (va_wsU RX3 26 RX2 "WideCell$Change" ⟨"WideCell$Change", "goTo", "(LWideCell$Table;)V"⟩ yX2_goTo wsX2_goTo) := goodIn_app (goodIn_of _ (by decide +kernel)) ggX3_comeUp_X2_goTo
set_option maxRecDepth 20000 in
theorem ggX3_comeUp_X6_goTo : GoodIn wsX3_comeUp wsX6_goTo := goodIn_r _ [60, 61, 62, 63, 64, 65, 66, 41, 67, 68, 69, 70, 71, 72, 73, 101, 102, 103, 95, 96, 97, 98, 99, 100] (by decide +kernel) (by decide +kernel)
set_option maxRecDepth 20000 in
theorem gX3_comeUp_X6_goTo_u26X6 : GoodIn wsX3_comeUp (va_wsU RX3 26 RX6 "WideCell$Change" ⟨"WideCell$Change", "goTo", "(LWideCell$Table;)V"⟩ yX6_goTo wsX6_goTo) := goodIn_app (goodIn_of _ (by decide +kernel)) ggX3_comeUp_X6_goTo
set_option maxRecDepth 20000 in
theorem ggX3_comeUp_X3_dropHints : GoodIn wsX3_comeUp wsX3_dropHints := goodIn_r _ [78, 2, 5, 6, 7, 8, 9, 10, 79, 80, 81, 82, 83, 84, 27, 85, 86, 87, 88, 89, 90] (by decide +kernel) (by decide +kernel)
set_option maxRecDepth 20000 in
theorem gX3_comeUp_X3_dropHints : GoodIn wsX3_comeUp (wsV RX3 44 RX3 yX3_dropHints wsX3_dropHints) := goodIn_app (goodIn_of _ (by decide +kernel)) ggX3_comeUp_X3_dropHints
theorem dX3_comeUp_0 : decode cX3_comeUp 0 = .ok (.aload_n 0, 1) := by decide +kernel
theorem dX3_comeUp_1 : decode cX3_comeUp 1 = .ok (.iconst 1, 1) := by decide +kernel
theorem dX3_comeUp_2 : decode cX3_comeUp 2 = .ok (.putfield 18, 3) := by decide +kernel
theorem dX3_comeUp_5 : decode cX3_comeUp 5 = .ok (.iconst 0, 1) := by decide +kernel
theorem dX3_comeUp_6 : decode cX3_comeUp 6 = .ok (.istore_n 1, 1) := by decide +kernel
theorem dX3_comeUp_7 : decode cX3_comeUp 7 = .ok (.iload_n 1, 1) := by decide +kernel
theorem dX3_comeUp_8 : decode cX3_comeUp 8 = .ok (.aload_n 0, 1) := by decide +kernel
theorem dX3_comeUp_9 : decode cX3_comeUp 9 = .ok (.getfield 12, 3) := by decide +kernel
theorem dX3_comeUp_12 : decode cX3_comeUp 12 = .ok (.invokevirtual 32, 3) := by decide +kernel
theorem dX3_comeUp_15 : decode cX3_comeUp 15 = .ok (.if_icmp .ge 27, 3) := by decide +kernel
theorem dX3_comeUp_18 : decode cX3_comeUp 18 = .ok (.aload_n 0, 1) := by decide +kernel
theorem dX3_comeUp_19 : decode cX3_comeUp 19 = .ok (.getfield 12, 3) := by decide +kernel
theorem dX3_comeUp_22 : decode cX3_comeUp 22 = .ok (.iload_n 1, 1) := by decide +kernel
theorem dX3_comeUp_23 : decode cX3_comeUp 23 = .ok (.invokevirtual 40, 3) := by decide +kernel
theorem dX3_comeUp_26 : decode cX3_comeUp 26 = .ok (.checkcast 27, 3) := by decide +kernel
theorem dX3_comeUp_29 : decode cX3_comeUp 29 = .ok (.aload_n 0, 1) := by decide +kernel
theorem dX3_comeUp_30 : decode cX3_comeUp 30 = .ok (.getfield 22, 3) := by decide +kernel
theorem dX3_comeUp_33 : decode cX3_comeUp 33 = .ok (.invokevirtual 26, 3) := by decide +kernel
theorem dX3_comeUp_36 : decode cX3_comeUp 36 = .ok (.iinc 1 1, 3) := by decide +kernel
theorem dX3_comeUp_39 : decode cX3_comeUp 39 = .ok (.goto (-32), 3) := by decide +kernel
theorem dX3_comeUp_42 : decode cX3_comeUp 42 = .ok (.aload_n 0, 1) := by decide +kernel
theorem dX3_comeUp_43 : decode cX3_comeUp 43 = .ok (.invokevirtual 44, 3) := by decide +kernel
theorem dX3_comeUp_46 : decode cX3_comeUp 46 = .ok (.ireturn, 1) := by decide +kernel
theorem dX3_goDown_0 : decode cX3_goDown 0 = .ok (.aload_n 0, 1) := by decide +kernel
theorem dX3_goDown_1 : decode cX3_goDown 1 = .ok (.iconst 0, 1) := by decide +kernel
theorem dX3_goDown_2 : decode cX3_goDown 2 = .ok (.putfield 18, 3) := by decide +kernel
theorem dX3_goDown_5 : decode cX3_goDown 5 = .ok (.iconst 0, 1) := by decide +kernel
theorem dX3_goDown_6 : decode cX3_goDown 6 = .ok (.ireturn, 1) := by decide +kernel
set_option maxRecDepth 20000 in
theorem ggX3_dropHints_Jx4a65c_size_8abf5 : GoodIn wsX3_dropHints wsJx4a65c_size_8abf5 := goodIn_r _ [6, 7, 18, 19, 20] (by decide +kernel) (by decide +kernel)
set_option maxRecDepth 20000 in
theorem gX3_dropHints_Jx4a65c_size_8abf5 : GoodIn wsX3_dropHints (wsV RX3 32 RJx4a65c yJx4a65c_size_8abf5 wsJx4a65c_size_8abf5) := goodIn_app (goodIn_of _ (by decide +kernel)) ggX3_dropHints_Jx4a65c_size_8abf5
set_option maxRecDepth 20000 in
theorem ggX3_dropHints_Jx4a65c_clear_da8c8 : GoodIn wsX3_dropHints wsJx4a65c_clear_da8c8 := goodIn_r _ [11, 12, 13, 14, 7, 18, 19, 20] (by decide +kernel) (by decide +kernel)
set_option maxRecDepth 20000 in
theorem gX3_dropHints_Jx4a65c_clear_da8c8 : GoodIn wsX3_dropHints (wsV RX3 47 RJx4a65c yJx4a65c_clear_da8c8 wsJx4a65c_clear_da8c8) := goodIn_app (goodIn_of _ (by decide +kernel)) ggX3_dropHints_Jx4a65c_clear_da8c8
theorem dX3_dropHints_0 : decode cX3_dropHints 0 = .ok (.aload_n 0, 1) := by decide +kernel
theorem dX3_dropHints_1 : decode cX3_dropHints 1 = .ok (.getfield 12, 3) := by decide +kernel
theorem dX3_dropHints_4 : decode cX3_dropHints 4 = .ok (.invokevirtual 32, 3) := by decide +kernel
theorem dX3_dropHints_7 : decode cX3_dropHints 7 = .ok (.istore_n 1, 1) := by decide +kernel
theorem dX3_dropHints_8 : decode cX3_dropHints 8 = .ok (.aload_n 0, 1) := by decide +kernel
theorem dX3_dropHints_9 : decode cX3_dropHints 9 = .ok (.getfield 12, 3) := by decide +kernel
theorem dX3_dropHints_12 : decode cX3_dropHints 12 = .ok (.invokevirtual 47, 3) := by decide +kernel
theorem dX3_dropHints_15 : decode cX3_dropHints 15 = .ok (.iload_n 1, 1) := by decide +kernel
theorem dX3_dropHints_16 : decode cX3_dropHints 16 = .ok (.ireturn, 1) := by decide +kernel
set_option maxRecDepth 20000 in
theorem ggX4_init_J7_fill_53178 : GoodIn wsX4_init wsJ7_fill_53178 := goodIn_r _ [10] (by decide +kernel) (by decide +kernel)
set_option maxRecDepth 20000 in
theorem gX4_init_J7_fill_53178 : GoodIn wsX4_init (va_wsS RX4 18 yJ7_fill_53178 wsJ7_fill_53178) := goodIn_app (goodIn_of _ (by decide +kernel)) ggX4_init_J7_fill_53178
theorem dX4_init_0 : decode cX4_init 0 = .ok (.aload_n 0, 1) := by decide +kernel
theorem dX4_init_1 : decode cX4_init 1 = .ok (.invokespecial 3, 3) := by decide +kernel
theorem dX4_init_4 : decode cX4_init 4 = .ok (.aload_n 0, 1) := by decide +kernel
theorem dX4_init_5 : decode cX4_init 5 = .ok (.bipush 8, 2) := by decide +kernel
theorem dX4_init_7 : decode cX4_init 7 = .ok (.newarray .int, 2) := by decide +kernel
theorem dX4_init_9 : decode cX4_init 9 = .ok (.putfield 9, 3) := by decide +kernel
theorem dX4_init_12 : decode cX4_init 12 = .ok (.aload_n 0, 1) := by decide +kernel
theorem dX4_init_13 : decode cX4_init 13 = .ok (.bipush 8, 2) := by decide +kernel
theorem dX4_init_15 : decode cX4_init 15 = .ok (.newarray .int, 2) := by decide +kernel
theorem dX4_init_17 : decode cX4_init 17 = .ok (.putfield 15, 3) := by decide +kernel
theorem dX4_init_20 : decode cX4_init 20 = .ok (.aload_n 0, 1) := by decide +kernel
theorem dX4_init_21 : decode cX4_init 21 = .ok (.getfield 9, 3) := by decide +kernel
theorem dX4_init_24 : decode cX4_init 24 = .ok (.iconst (-1), 1) := by decide +kernel
theorem dX4_init_25 : decode cX4_init 25 = .ok (.invokestatic 18, 3) := by decide +kernel
theorem dX4_init_28 : decode cX4_init 28 = .ok (.aload_n 0, 1) := by decide +kernel
theorem dX4_init_29 : decode cX4_init 29 = .ok (.getfield 15, 3) := by decide +kernel
theorem dX4_init_32 : decode cX4_init 32 = .ok (.iconst (-1), 1) := by decide +kernel
theorem dX4_init_33 : decode cX4_init 33 = .ok (.invokestatic 18, 3) := by decide +kernel
theorem dX4_init_36 : decode cX4_init 36 = .ok (.return_, 1) := by decide +kernel
theorem dX4_numberOf_0 : decode cX4_numberOf 0 = .ok (.iconst 0, 1) := by decide +kernel
theorem dX4_numberOf_1 : decode cX4_numberOf 1 = .ok (.istore_n 3, 1) := by decide +kernel
theorem dX4_numberOf_2 : decode cX4_numberOf 2 = .ok (.iload_n 3, 1) := by decide +kernel
theorem dX4_numberOf_3 : decode cX4_numberOf 3 = .ok (.bipush 8, 2) := by decide +kernel
theorem dX4_numberOf_5 : decode cX4_numberOf 5 = .ok (.if_icmp .ge 55, 3) := by decide +kernel
theorem dX4_numberOf_8 : decode cX4_numberOf 8 = .ok (.aload_n 0, 1) := by decide +kernel
theorem dX4_numberOf_9 : decode cX4_numberOf 9 = .ok (.getfield 9, 3) := by decide +kernel
theorem dX4_numberOf_12 : decode cX4_numberOf 12 = .ok (.iload_n 3, 1) := by decide +kernel
theorem dX4_numberOf_13 : decode cX4_numberOf 13 = .ok (.iaload, 1) := by decide +kernel
theorem dX4_numberOf_14 : decode cX4_numberOf 14 = .ok (.iconst (-1), 1) := by decide +kernel
theorem dX4_numberOf_15 : decode cX4_numberOf 15 = .ok (.if_icmp .ne 17, 3) := by decide +kernel
theorem dX4_numberOf_18 : decode cX4_numberOf 18 = .ok (.aload_n 0, 1) := by decide +kernel
theorem dX4_numberOf_19 : decode cX4_numberOf 19 = .ok (.getfield 9, 3) := by decide +kernel
theorem dX4_numberOf_22 : decode cX4_numberOf 22 = .ok (.iload_n 3, 1) := by decide +kernel
theorem dX4_numberOf_23 : decode cX4_numberOf 23 = .ok (.iload_n 1, 1) := by decide +kernel
theorem dX4_numberOf_24 : decode cX4_numberOf 24 = .ok (.iastore, 1) := by decide +kernel
theorem dX4_numberOf_25 : decode cX4_numberOf 25 = .ok (.aload_n 0, 1) := by decide +kernel
theorem dX4_numberOf_26 : decode cX4_numberOf 26 = .ok (.getfield 15, 3) := by decide +kernel
theorem dX4_numberOf_29 : decode cX4_numberOf 29 = .ok (.iload_n 3, 1) := by decide +kernel
theorem dX4_numberOf_30 : decode cX4_numberOf 30 = .ok (.iload_n 2, 1) := by decide +kernel
theorem dX4_numberOf_31 : decode cX4_numberOf 31 = .ok (.iastore, 1) := by decide +kernel
theorem dX4_numberOf_32 : decode cX4_numberOf 32 = .ok (.aload_n 0, 1) := by decide +kernel
theorem dX4_numberOf_33 : decode cX4_numberOf 33 = .ok (.getfield 9, 3) := by decide +kernel
theorem dX4_numberOf_36 : decode cX4_numberOf 36 = .ok (.iload_n 3, 1) := by decide +kernel
theorem dX4_numberOf_37 : decode cX4_numberOf 37 = .ok (.iaload, 1) := by decide +kernel
theorem dX4_numberOf_38 : decode cX4_numberOf 38 = .ok (.iload_n 1, 1) := by decide +kernel
theorem dX4_numberOf_39 : decode cX4_numberOf 39 = .ok (.if_icmp .ne 15, 3) := by decide +kernel
theorem dX4_numberOf_42 : decode cX4_numberOf 42 = .ok (.aload_n 0, 1) := by decide +kernel
theorem dX4_numberOf_43 : decode cX4_numberOf 43 = .ok (.getfield 15, 3) := by decide +kernel
theorem dX4_numberOf_46 : decode cX4_numberOf 46 = .ok (.iload_n 3, 1) := by decide +kernel
theorem dX4_numberOf_47 : decode cX4_numberOf 47 = .ok (.iaload, 1) := by decide +kernel
theorem dX4_numberOf_48 : decode cX4_numberOf 48 = .ok (.iload_n 2, 1) := by decide +kernel
theorem dX4_numberOf_49 : decode cX4_numberOf 49 = .ok (.if_icmp .ne 5, 3) := by decide +kernel
theorem dX4_numberOf_52 : decode cX4_numberOf 52 = .ok (.iload_n 3, 1) := by decide +kernel
theorem dX4_numberOf_53 : decode cX4_numberOf 53 = .ok (.ireturn, 1) := by decide +kernel
theorem dX4_numberOf_54 : decode cX4_numberOf 54 = .ok (.iinc 3 1, 3) := by decide +kernel
theorem dX4_numberOf_57 : decode cX4_numberOf 57 = .ok (.goto (-55), 3) := by decide +kernel
theorem dX4_numberOf_60 : decode cX4_numberOf 60 = .ok (.iconst (-1), 1) := by decide +kernel
theorem dX4_numberOf_61 : decode cX4_numberOf 61 = .ok (.ireturn, 1) := by decide +kernel
theorem dX4_has_0 : decode cX4_has 0 = .ok (.aload_n 0, 1) := by decide +kernel
theorem dX4_has_1 : decode cX4_has 1 = .ok (.getfield 9, 3) := by decide +kernel
theorem dX4_has_4 : decode cX4_has 4 = .ok (.iload_n 1, 1) := by decide +kernel
theorem dX4_has_5 : decode cX4_has 5 = .ok (.iaload, 1) := by decide +kernel
theorem dX4_has_6 : decode cX4_has 6 = .ok (.iload_n 2, 1) := by decide +kernel
theorem dX4_has_7 : decode cX4_has 7 = .ok (.if_icmp .gt 17, 3) := by decide +kernel
theorem dX4_has_10 : decode cX4_has 10 = .ok (.iload_n 2, 1) := by decide +kernel
theorem dX4_has_11 : decode cX4_has 11 = .ok (.aload_n 0, 1) := by decide +kernel
theorem dX4_has_12 : decode cX4_has 12 = .ok (.getfield 15, 3) := by decide +kernel
theorem dX4_has_15 : decode cX4_has 15 = .ok (.iload_n 1, 1) := by decide +kernel
theorem dX4_has_16 : decode cX4_has 16 = .ok (.iaload, 1) := by decide +kernel
theorem dX4_has_17 : decode cX4_has 17 = .ok (.if_icmp .gt 7, 3) := by decide +kernel
theorem dX4_has_20 : decode cX4_has 20 = .ok (.iconst 1, 1) := by decide +kernel
theorem dX4_has_21 : decode cX4_has 21 = .ok (.goto 4, 3) := by decide +kernel
theorem dX4_has_24 : decode cX4_has 24 = .ok (.iconst 0, 1) := by decide +kernel
theorem dX4_has_25 : decode cX4_has 25 = .ok (.ireturn, 1) := by decide +kernel
theorem dX4_partOfSum_0 : decode cX4_partOfSum 0 = .ok (.bipush 17, 2) := by decide +kernel
theorem dX4_partOfSum_2 : decode cX4_partOfSum 2 = .ok (.aload_n 0, 1) := by decide +kernel
theorem dX4_partOfSum_3 : decode cX4_partOfSum 3 = .ok (.getfield 9, 3) := by decide +kernel
theorem dX4_partOfSum_6 : decode cX4_partOfSum 6 = .ok (.iload_n 1, 1) := by decide +kernel
theorem dX4_partOfSum_7 : decode cX4_partOfSum 7 = .ok (.iaload, 1) := by decide +kernel
theorem dX4_partOfSum_8 : decode cX4_partOfSum 8 = .ok (.imul, 1) := by decide +kernel
theorem dX4_partOfSum_9 : decode cX4_partOfSum 9 = .ok (.bipush 19, 2) := by decide +kernel
theorem dX4_partOfSum_11 : decode cX4_partOfSum 11 = .ok (.aload_n 0, 1) := by decide +kernel
theorem dX4_partOfSum_12 : decode cX4_partOfSum 12 = .ok (.getfield 15, 3) := by decide +kernel
theorem dX4_partOfSum_15 : decode cX4_partOfSum 15 = .ok (.iload_n 1, 1) := by decide +kernel
theorem dX4_partOfSum_16 : decode cX4_partOfSum 16 = .ok (.iaload, 1) := by decide +kernel
theorem dX4_partOfSum_17 : decode cX4_partOfSum 17 = .ok (.imul, 1) := by decide +kernel
theorem dX4_partOfSum_18 : decode cX4_partOfSum 18 = .ok (.iadd, 1) := by decide +kernel
theorem dX4_partOfSum_19 : decode cX4_partOfSum 19 = .ok (.ireturn, 1) := by decide +kernel
set_option maxRecDepth 20000 in
theorem ggX5_init_J7_fill_53178 : GoodIn wsX5_init wsJ7_fill_53178 := goodIn_r _ [14] (by decide +kernel) (by decide +kernel)
set_option maxRecDepth 20000 in
theorem gX5_init_J7_fill_53178 : GoodIn wsX5_init (va_wsS RX5 31 yJ7_fill_53178 wsJ7_fill_53178) := goodIn_app (goodIn_of _ (by decide +kernel)) ggX5_init_J7_fill_53178
theorem dX5_init_0 : decode cX5_init 0 = .ok (.aload_n 0, 1) := by decide +kernel
theorem dX5_init_1 : decode cX5_init 1 = .ok (.invokespecial 3, 3) := by decide +kernel
theorem dX5_init_4 : decode cX5_init 4 = .ok (.aload_n 0, 1) := by decide +kernel
theorem dX5_init_5 : decode cX5_init 5 = .ok (.bipush 64, 2) := by decide +kernel
theorem dX5_init_7 : decode cX5_init 7 = .ok (.newarray .int, 2) := by decide +kernel
theorem dX5_init_9 : decode cX5_init 9 = .ok (.putfield 9, 3) := by decide +kernel
theorem dX5_init_12 : decode cX5_init 12 = .ok (.aload_n 0, 1) := by decide +kernel
theorem dX5_init_13 : decode cX5_init 13 = .ok (.bipush 64, 2) := by decide +kernel
theorem dX5_init_15 : decode cX5_init 15 = .ok (.newarray .int, 2) := by decide +kernel
theorem dX5_init_17 : decode cX5_init 17 = .ok (.putfield 15, 3) := by decide +kernel
theorem dX5_init_20 : decode cX5_init 20 = .ok (.aload_n 0, 1) := by decide +kernel
theorem dX5_init_21 : decode cX5_init 21 = .ok (.bipush 64, 2) := by decide +kernel
theorem dX5_init_23 : decode cX5_init 23 = .ok (.newarray .int, 2) := by decide +kernel
theorem dX5_init_25 : decode cX5_init 25 = .ok (.putfield 18, 3) := by decide +kernel
theorem dX5_init_28 : decode cX5_init 28 = .ok (.aload_n 0, 1) := by decide +kernel
theorem dX5_init_29 : decode cX5_init 29 = .ok (.bipush 92, 2) := by decide +kernel
theorem dX5_init_31 : decode cX5_init 31 = .ok (.newarray .int, 2) := by decide +kernel
theorem dX5_init_33 : decode cX5_init 33 = .ok (.putfield 21, 3) := by decide +kernel
theorem dX5_init_36 : decode cX5_init 36 = .ok (.aload_n 0, 1) := by decide +kernel
theorem dX5_init_37 : decode cX5_init 37 = .ok (.bipush 92, 2) := by decide +kernel
theorem dX5_init_39 : decode cX5_init 39 = .ok (.newarray .int, 2) := by decide +kernel
theorem dX5_init_41 : decode cX5_init 41 = .ok (.putfield 24, 3) := by decide +kernel
theorem dX5_init_44 : decode cX5_init 44 = .ok (.aload_n 0, 1) := by decide +kernel
theorem dX5_init_45 : decode cX5_init 45 = .ok (.aload_n 1, 1) := by decide +kernel
theorem dX5_init_46 : decode cX5_init 46 = .ok (.putfield 27, 3) := by decide +kernel
theorem dX5_init_49 : decode cX5_init 49 = .ok (.aload_n 0, 1) := by decide +kernel
theorem dX5_init_50 : decode cX5_init 50 = .ok (.getfield 9, 3) := by decide +kernel
theorem dX5_init_53 : decode cX5_init 53 = .ok (.iconst (-1), 1) := by decide +kernel
theorem dX5_init_54 : decode cX5_init 54 = .ok (.invokestatic 31, 3) := by decide +kernel
theorem dX5_init_57 : decode cX5_init 57 = .ok (.aload_n 0, 1) := by decide +kernel
theorem dX5_init_58 : decode cX5_init 58 = .ok (.getfield 21, 3) := by decide +kernel
theorem dX5_init_61 : decode cX5_init 61 = .ok (.iconst (-1), 1) := by decide +kernel
theorem dX5_init_62 : decode cX5_init 62 = .ok (.invokestatic 31, 3) := by decide +kernel
theorem dX5_init_65 : decode cX5_init 65 = .ok (.return_, 1) := by decide +kernel
set_option maxRecDepth 20000 in
theorem ggX5_takeEntry_X5_isBetterEntry : GoodIn wsX5_takeEntry wsX5_isBetterEntry := goodIn_r _ [5, 6, 7, 8, 9, 10, 4, 11, 16, 17, 18, 19, 20, 21] (by decide +kernel) (by decide +kernel)
set_option maxRecDepth 20000 in
theorem gX5_takeEntry_X5_isBetterEntry : GoodIn wsX5_takeEntry (wsV RX5 37 RX5 yX5_isBetterEntry wsX5_isBetterEntry) := goodIn_app (goodIn_of _ (by decide +kernel)) ggX5_takeEntry_X5_isBetterEntry
set_option maxRecDepth 20000 in
theorem ggX5_takeEntry_X5_putEntry : GoodIn wsX5_takeEntry wsX5_putEntry := goodIn_r _ [15, 6, 7, 8, 16, 17, 18, 19, 20, 21] (by decide +kernel) (by decide +kernel)
set_option maxRecDepth 20000 in
theorem gX5_takeEntry_X5_putEntry : GoodIn wsX5_takeEntry (wsV RX5 41 RX5 yX5_putEntry wsX5_putEntry) := goodIn_app (goodIn_of _ (by decide +kernel)) ggX5_takeEntry_X5_putEntry
theorem dX5_takeEntry_0 : decode cX5_takeEntry 0 = .ok (.aload_n 0, 1) := by decide +kernel
theorem dX5_takeEntry_1 : decode cX5_takeEntry 1 = .ok (.iload_n 1, 1) := by decide +kernel
theorem dX5_takeEntry_2 : decode cX5_takeEntry 2 = .ok (.iload_n 2, 1) := by decide +kernel
theorem dX5_takeEntry_3 : decode cX5_takeEntry 3 = .ok (.iload_n 3, 1) := by decide +kernel
theorem dX5_takeEntry_4 : decode cX5_takeEntry 4 = .ok (.iload 4, 2) := by decide +kernel
theorem dX5_takeEntry_6 : decode cX5_takeEntry 6 = .ok (.invokevirtual 37, 3) := by decide +kernel
theorem dX5_takeEntry_9 : decode cX5_takeEntry 9 = .ok (.ifCond .eq 12, 3) := by decide +kernel
theorem dX5_takeEntry_12 : decode cX5_takeEntry 12 = .ok (.aload_n 0, 1) := by decide +kernel
theorem dX5_takeEntry_13 : decode cX5_takeEntry 13 = .ok (.iload_n 1, 1) := by decide +kernel
theorem dX5_takeEntry_14 : decode cX5_takeEntry 14 = .ok (.iload_n 2, 1) := by decide +kernel
theorem dX5_takeEntry_15 : decode cX5_takeEntry 15 = .ok (.iload_n 3, 1) := by decide +kernel
theorem dX5_takeEntry_16 : decode cX5_takeEntry 16 = .ok (.iload 4, 2) := by decide +kernel
theorem dX5_takeEntry_18 : decode cX5_takeEntry 18 = .ok (.invokevirtual 41, 3) := by decide +kernel
theorem dX5_takeEntry_21 : decode cX5_takeEntry 21 = .ok (.return_, 1) := by decide +kernel
set_option maxRecDepth 20000 in
theorem ggX5_isBetterEntry_X5_endRank : GoodIn wsX5_isBetterEntry wsX5_endRank := goodIn_r _ [7] (by decide +kernel) (by decide +kernel)
set_option maxRecDepth 20000 in
theorem gX5_isBetterEntry_X5_endRank : GoodIn wsX5_isBetterEntry (va_wsS RX5 45 yX5_endRank wsX5_endRank) := goodIn_app (goodIn_of _ (by decide +kernel)) ggX5_isBetterEntry_X5_endRank
theorem dX5_isBetterEntry_0 : decode cX5_isBetterEntry 0 = .ok (.iload_n 3, 1) := by decide +kernel
theorem dX5_isBetterEntry_1 : decode cX5_isBetterEntry 1 = .ok (.aload_n 0, 1) := by decide +kernel
theorem dX5_isBetterEntry_2 : decode cX5_isBetterEntry 2 = .ok (.getfield 9, 3) := by decide +kernel
theorem dX5_isBetterEntry_5 : decode cX5_isBetterEntry 5 = .ok (.iload_n 1, 1) := by decide +kernel
theorem dX5_isBetterEntry_6 : decode cX5_isBetterEntry 6 = .ok (.iaload, 1) := by decide +kernel
theorem dX5_isBetterEntry_7 : decode cX5_isBetterEntry 7 = .ok (.if_icmp .eq 19, 3) := by decide +kernel
theorem dX5_isBetterEntry_10 : decode cX5_isBetterEntry 10 = .ok (.iload_n 3, 1) := by decide +kernel
theorem dX5_isBetterEntry_11 : decode cX5_isBetterEntry 11 = .ok (.aload_n 0, 1) := by decide +kernel
theorem dX5_isBetterEntry_12 : decode cX5_isBetterEntry 12 = .ok (.getfield 9, 3) := by decide +kernel
theorem dX5_isBetterEntry_15 : decode cX5_isBetterEntry 15 = .ok (.iload_n 1, 1) := by decide +kernel
theorem dX5_isBetterEntry_16 : decode cX5_isBetterEntry 16 = .ok (.iaload, 1) := by decide +kernel
theorem dX5_isBetterEntry_17 : decode cX5_isBetterEntry 17 = .ok (.if_icmp .le 7, 3) := by decide +kernel
theorem dX5_isBetterEntry_20 : decode cX5_isBetterEntry 20 = .ok (.iconst 1, 1) := by decide +kernel
theorem dX5_isBetterEntry_21 : decode cX5_isBetterEntry 21 = .ok (.goto 4, 3) := by decide +kernel
theorem dX5_isBetterEntry_24 : decode cX5_isBetterEntry 24 = .ok (.iconst 0, 1) := by decide +kernel
theorem dX5_isBetterEntry_25 : decode cX5_isBetterEntry 25 = .ok (.ireturn, 1) := by decide +kernel
theorem dX5_isBetterEntry_26 : decode cX5_isBetterEntry 26 = .ok (.iload_n 2, 1) := by decide +kernel
theorem dX5_isBetterEntry_27 : decode cX5_isBetterEntry 27 = .ok (.aload_n 0, 1) := by decide +kernel
theorem dX5_isBetterEntry_28 : decode cX5_isBetterEntry 28 = .ok (.getfield 15, 3) := by decide +kernel
theorem dX5_isBetterEntry_31 : decode cX5_isBetterEntry 31 = .ok (.iload_n 1, 1) := by decide +kernel
theorem dX5_isBetterEntry_32 : decode cX5_isBetterEntry 32 = .ok (.iaload, 1) := by decide +kernel
theorem dX5_isBetterEntry_33 : decode cX5_isBetterEntry 33 = .ok (.if_icmp .eq 19, 3) := by decide +kernel
theorem dX5_isBetterEntry_36 : decode cX5_isBetterEntry 36 = .ok (.iload_n 2, 1) := by decide +kernel
theorem dX5_isBetterEntry_37 : decode cX5_isBetterEntry 37 = .ok (.aload_n 0, 1) := by decide +kernel
theorem dX5_isBetterEntry_38 : decode cX5_isBetterEntry 38 = .ok (.getfield 15, 3) := by decide +kernel
theorem dX5_isBetterEntry_41 : decode cX5_isBetterEntry 41 = .ok (.iload_n 1, 1) := by decide +kernel
theorem dX5_isBetterEntry_42 : decode cX5_isBetterEntry 42 = .ok (.iaload, 1) := by decide +kernel
theorem dX5_isBetterEntry_43 : decode cX5_isBetterEntry 43 = .ok (.if_icmp .le 7, 3) := by decide +kernel
theorem dX5_isBetterEntry_46 : decode cX5_isBetterEntry 46 = .ok (.iconst 1, 1) := by decide +kernel
theorem dX5_isBetterEntry_47 : decode cX5_isBetterEntry 47 = .ok (.goto 4, 3) := by decide +kernel
theorem dX5_isBetterEntry_50 : decode cX5_isBetterEntry 50 = .ok (.iconst 0, 1) := by decide +kernel
theorem dX5_isBetterEntry_51 : decode cX5_isBetterEntry 51 = .ok (.ireturn, 1) := by decide +kernel
theorem dX5_isBetterEntry_52 : decode cX5_isBetterEntry 52 = .ok (.iload 4, 2) := by decide +kernel
theorem dX5_isBetterEntry_54 : decode cX5_isBetterEntry 54 = .ok (.invokestatic 45, 3) := by decide +kernel
theorem dX5_isBetterEntry_57 : decode cX5_isBetterEntry 57 = .ok (.aload_n 0, 1) := by decide +kernel
theorem dX5_isBetterEntry_58 : decode cX5_isBetterEntry 58 = .ok (.getfield 18, 3) := by decide +kernel
theorem dX5_isBetterEntry_61 : decode cX5_isBetterEntry 61 = .ok (.iload_n 1, 1) := by decide +kernel
theorem dX5_isBetterEntry_62 : decode cX5_isBetterEntry 62 = .ok (.iaload, 1) := by decide +kernel
theorem dX5_isBetterEntry_63 : decode cX5_isBetterEntry 63 = .ok (.invokestatic 45, 3) := by decide +kernel
theorem dX5_isBetterEntry_66 : decode cX5_isBetterEntry 66 = .ok (.if_icmp .le 7, 3) := by decide +kernel
theorem dX5_isBetterEntry_69 : decode cX5_isBetterEntry 69 = .ok (.iconst 1, 1) := by decide +kernel
theorem dX5_isBetterEntry_70 : decode cX5_isBetterEntry 70 = .ok (.goto 4, 3) := by decide +kernel
theorem dX5_isBetterEntry_73 : decode cX5_isBetterEntry 73 = .ok (.iconst 0, 1) := by decide +kernel
theorem dX5_isBetterEntry_74 : decode cX5_isBetterEntry 74 = .ok (.ireturn, 1) := by decide +kernel
theorem dX5_endRank_0 : decode cX5_endRank 0 = .ok (.iload_n 0, 1) := by decide +kernel
theorem dX5_endRank_1 : decode cX5_endRank 1 = .ok (.iconst (-1), 1) := by decide +kernel
theorem dX5_endRank_2 : decode cX5_endRank 2 = .ok (.if_icmp .ne 9, 3) := by decide +kernel
theorem dX5_endRank_5 : decode cX5_endRank 5 = .ok (.sipush 11001, 3) := by decide +kernel
theorem dX5_endRank_8 : decode cX5_endRank 8 = .ok (.goto 4, 3) := by decide +kernel
theorem dX5_endRank_11 : decode cX5_endRank 11 = .ok (.iload_n 0, 1) := by decide +kernel
theorem dX5_endRank_12 : decode cX5_endRank 12 = .ok (.ireturn, 1) := by decide +kernel
theorem dX5_putEntry_0 : decode cX5_putEntry 0 = .ok (.aload_n 0, 1) := by decide +kernel
theorem dX5_putEntry_1 : decode cX5_putEntry 1 = .ok (.getfield 9, 3) := by decide +kernel
theorem dX5_putEntry_4 : decode cX5_putEntry 4 = .ok (.iload_n 1, 1) := by decide +kernel
theorem dX5_putEntry_5 : decode cX5_putEntry 5 = .ok (.iload_n 3, 1) := by decide +kernel
theorem dX5_putEntry_6 : decode cX5_putEntry 6 = .ok (.iastore, 1) := by decide +kernel
theorem dX5_putEntry_7 : decode cX5_putEntry 7 = .ok (.aload_n 0, 1) := by decide +kernel
theorem dX5_putEntry_8 : decode cX5_putEntry 8 = .ok (.getfield 15, 3) := by decide +kernel
theorem dX5_putEntry_11 : decode cX5_putEntry 11 = .ok (.iload_n 1, 1) := by decide +kernel
theorem dX5_putEntry_12 : decode cX5_putEntry 12 = .ok (.iload_n 2, 1) := by decide +kernel
theorem dX5_putEntry_13 : decode cX5_putEntry 13 = .ok (.iastore, 1) := by decide +kernel
theorem dX5_putEntry_14 : decode cX5_putEntry 14 = .ok (.aload_n 0, 1) := by decide +kernel
theorem dX5_putEntry_15 : decode cX5_putEntry 15 = .ok (.getfield 18, 3) := by decide +kernel
theorem dX5_putEntry_18 : decode cX5_putEntry 18 = .ok (.iload_n 1, 1) := by decide +kernel
theorem dX5_putEntry_19 : decode cX5_putEntry 19 = .ok (.iload 4, 2) := by decide +kernel
theorem dX5_putEntry_21 : decode cX5_putEntry 21 = .ok (.iastore, 1) := by decide +kernel
theorem dX5_putEntry_22 : decode cX5_putEntry 22 = .ok (.return_, 1) := by decide +kernel
set_option maxRecDepth 20000 in
theorem ggX5_takeTombstone_X5_putTombstone : GoodIn wsX5_takeTombstone wsX5_putTombstone := goodIn_r _ [7, 1, 2, 8, 9, 10, 11, 12, 13] (by decide +kernel) (by decide +kernel)
set_option maxRecDepth 20000 in
theorem gX5_takeTombstone_X5_putTombstone : GoodIn wsX5_takeTombstone (wsV RX5 49 RX5 yX5_putTombstone wsX5_putTombstone) := goodIn_app (goodIn_of _ (by decide +kernel)) ggX5_takeTombstone_X5_putTombstone
theorem dX5_takeTombstone_0 : decode cX5_takeTombstone 0 = .ok (.iload_n 2, 1) := by decide +kernel
theorem dX5_takeTombstone_1 : decode cX5_takeTombstone 1 = .ok (.aload_n 0, 1) := by decide +kernel
theorem dX5_takeTombstone_2 : decode cX5_takeTombstone 2 = .ok (.getfield 21, 3) := by decide +kernel
theorem dX5_takeTombstone_5 : decode cX5_takeTombstone 5 = .ok (.iload_n 1, 1) := by decide +kernel
theorem dX5_takeTombstone_6 : decode cX5_takeTombstone 6 = .ok (.iaload, 1) := by decide +kernel
theorem dX5_takeTombstone_7 : decode cX5_takeTombstone 7 = .ok (.if_icmp .ne 21, 3) := by decide +kernel
theorem dX5_takeTombstone_10 : decode cX5_takeTombstone 10 = .ok (.iload_n 3, 1) := by decide +kernel
theorem dX5_takeTombstone_11 : decode cX5_takeTombstone 11 = .ok (.aload_n 0, 1) := by decide +kernel
theorem dX5_takeTombstone_12 : decode cX5_takeTombstone 12 = .ok (.getfield 24, 3) := by decide +kernel
theorem dX5_takeTombstone_15 : decode cX5_takeTombstone 15 = .ok (.iload_n 1, 1) := by decide +kernel
theorem dX5_takeTombstone_16 : decode cX5_takeTombstone 16 = .ok (.iaload, 1) := by decide +kernel
theorem dX5_takeTombstone_17 : decode cX5_takeTombstone 17 = .ok (.if_icmp .le 7, 3) := by decide +kernel
theorem dX5_takeTombstone_20 : decode cX5_takeTombstone 20 = .ok (.iconst 1, 1) := by decide +kernel
theorem dX5_takeTombstone_21 : decode cX5_takeTombstone 21 = .ok (.goto 22, 3) := by decide +kernel
theorem dX5_takeTombstone_24 : decode cX5_takeTombstone 24 = .ok (.iconst 0, 1) := by decide +kernel
theorem dX5_takeTombstone_25 : decode cX5_takeTombstone 25 = .ok (.goto 18, 3) := by decide +kernel
theorem dX5_takeTombstone_28 : decode cX5_takeTombstone 28 = .ok (.iload_n 2, 1) := by decide +kernel
theorem dX5_takeTombstone_29 : decode cX5_takeTombstone 29 = .ok (.aload_n 0, 1) := by decide +kernel
theorem dX5_takeTombstone_30 : decode cX5_takeTombstone 30 = .ok (.getfield 21, 3) := by decide +kernel
theorem dX5_takeTombstone_33 : decode cX5_takeTombstone 33 = .ok (.iload_n 1, 1) := by decide +kernel
theorem dX5_takeTombstone_34 : decode cX5_takeTombstone 34 = .ok (.iaload, 1) := by decide +kernel
theorem dX5_takeTombstone_35 : decode cX5_takeTombstone 35 = .ok (.if_icmp .le 7, 3) := by decide +kernel
theorem dX5_takeTombstone_38 : decode cX5_takeTombstone 38 = .ok (.iconst 1, 1) := by decide +kernel
theorem dX5_takeTombstone_39 : decode cX5_takeTombstone 39 = .ok (.goto 4, 3) := by decide +kernel
theorem dX5_takeTombstone_42 : decode cX5_takeTombstone 42 = .ok (.iconst 0, 1) := by decide +kernel
theorem dX5_takeTombstone_43 : decode cX5_takeTombstone 43 = .ok (.istore 4, 2) := by decide +kernel
theorem dX5_takeTombstone_45 : decode cX5_takeTombstone 45 = .ok (.iload 4, 2) := by decide +kernel
theorem dX5_takeTombstone_47 : decode cX5_takeTombstone 47 = .ok (.ifCond .eq 10, 3) := by decide +kernel
theorem dX5_takeTombstone_50 : decode cX5_takeTombstone 50 = .ok (.aload_n 0, 1) := by decide +kernel
theorem dX5_takeTombstone_51 : decode cX5_takeTombstone 51 = .ok (.iload_n 1, 1) := by decide +kernel
theorem dX5_takeTombstone_52 : decode cX5_takeTombstone 52 = .ok (.iload_n 2, 1) := by decide +kernel
theorem dX5_takeTombstone_53 : decode cX5_takeTombstone 53 = .ok (.iload_n 3, 1) := by decide +kernel
theorem dX5_takeTombstone_54 : decode cX5_takeTombstone 54 = .ok (.invokevirtual 49, 3) := by decide +kernel
theorem dX5_takeTombstone_57 : decode cX5_takeTombstone 57 = .ok (.return_, 1) := by decide +kernel
theorem dX5_putTombstone_0 : decode cX5_putTombstone 0 = .ok (.aload_n 0, 1) := by decide +kernel
theorem dX5_putTombstone_1 : decode cX5_putTombstone 1 = .ok (.getfield 21, 3) := by decide +kernel
theorem dX5_putTombstone_4 : decode cX5_putTombstone 4 = .ok (.iload_n 1, 1) := by decide +kernel
theorem dX5_putTombstone_5 : decode cX5_putTombstone 5 = .ok (.iload_n 2, 1) := by decide +kernel
theorem dX5_putTombstone_6 : decode cX5_putTombstone 6 = .ok (.iastore, 1) := by decide +kernel
theorem dX5_putTombstone_7 : decode cX5_putTombstone 7 = .ok (.aload_n 0, 1) := by decide +kernel
theorem dX5_putTombstone_8 : decode cX5_putTombstone 8 = .ok (.getfield 24, 3) := by decide +kernel
theorem dX5_putTombstone_11 : decode cX5_putTombstone 11 = .ok (.iload_n 1, 1) := by decide +kernel
theorem dX5_putTombstone_12 : decode cX5_putTombstone 12 = .ok (.iload_n 3, 1) := by decide +kernel
theorem dX5_putTombstone_13 : decode cX5_putTombstone 13 = .ok (.iastore, 1) := by decide +kernel
theorem dX5_putTombstone_14 : decode cX5_putTombstone 14 = .ok (.return_, 1) := by decide +kernel
set_option maxRecDepth 20000 in
theorem ggX5_coverPlace_X7_cellAt : GoodIn wsX5_coverPlace wsX7_cellAt := goodIn_r _ [4] (by decide +kernel) (by decide +kernel)
set_option maxRecDepth 20000 in
theorem gX5_coverPlace_X7_cellAt_n53 : GoodIn wsX5_coverPlace (wsX7_cellAt) := ggX5_coverPlace_X7_cellAt
set_option maxRecDepth 20000 in
theorem ggX5_coverPlace_X4_has : GoodIn wsX5_coverPlace wsX4_has := goodIn_r _ [9, 10, 11, 18, 19] (by decide +kernel) (by decide +kernel)
set_option maxRecDepth 20000 in
theorem gX5_coverPlace_X4_has : GoodIn wsX5_coverPlace (wsV RX5 57 RX4 yX4_has wsX4_has) := goodIn_app (goodIn_of _ (by decide +kernel)) ggX5_coverPlace_X4_has
theorem dX5_coverPlace_0 : decode cX5_coverPlace 0 = .ok (.iload_n 3, 1) := by decide +kernel
theorem dX5_coverPlace_1 : decode cX5_coverPlace 1 = .ok (.tableswitch 43 0 2 #[27, 33, 38], 27) := by decide +kernel
theorem dX5_coverPlace_28 : decode cX5_coverPlace 28 = .ok (.iload_n 1, 1) := by decide +kernel
theorem dX5_coverPlace_29 : decode cX5_coverPlace 29 = .ok (.iload_n 2, 1) := by decide +kernel
theorem dX5_coverPlace_30 : decode cX5_coverPlace 30 = .ok (.invokestatic 53, 3) := by decide +kernel
theorem dX5_coverPlace_33 : decode cX5_coverPlace 33 = .ok (.ireturn, 1) := by decide +kernel
theorem dX5_coverPlace_34 : decode cX5_coverPlace 34 = .ok (.bipush 64, 2) := by decide +kernel
theorem dX5_coverPlace_36 : decode cX5_coverPlace 36 = .ok (.iload_n 2, 1) := by decide +kernel
theorem dX5_coverPlace_37 : decode cX5_coverPlace 37 = .ok (.iadd, 1) := by decide +kernel
theorem dX5_coverPlace_38 : decode cX5_coverPlace 38 = .ok (.ireturn, 1) := by decide +kernel
theorem dX5_coverPlace_39 : decode cX5_coverPlace 39 = .ok (.bipush 68, 2) := by decide +kernel
theorem dX5_coverPlace_41 : decode cX5_coverPlace 41 = .ok (.iload_n 1, 1) := by decide +kernel
theorem dX5_coverPlace_42 : decode cX5_coverPlace 42 = .ok (.iadd, 1) := by decide +kernel
theorem dX5_coverPlace_43 : decode cX5_coverPlace 43 = .ok (.ireturn, 1) := by decide +kernel
theorem dX5_coverPlace_44 : decode cX5_coverPlace 44 = .ok (.iload_n 3, 1) := by decide +kernel
theorem dX5_coverPlace_45 : decode cX5_coverPlace 45 = .ok (.iconst 3, 1) := by decide +kernel
theorem dX5_coverPlace_46 : decode cX5_coverPlace 46 = .ok (.isub, 1) := by decide +kernel
theorem dX5_coverPlace_47 : decode cX5_coverPlace 47 = .ok (.istore 4, 2) := by decide +kernel
theorem dX5_coverPlace_49 : decode cX5_coverPlace 49 = .ok (.aload_n 0, 1) := by decide +kernel
theorem dX5_coverPlace_50 : decode cX5_coverPlace 50 = .ok (.getfield 27, 3) := by decide +kernel
theorem dX5_coverPlace_53 : decode cX5_coverPlace 53 = .ok (.iload 4, 2) := by decide +kernel
theorem dX5_coverPlace_55 : decode cX5_coverPlace 55 = .ok (.iload_n 1, 1) := by decide +kernel
theorem dX5_coverPlace_56 : decode cX5_coverPlace 56 = .ok (.invokevirtual 57, 3) := by decide +kernel
theorem dX5_coverPlace_59 : decode cX5_coverPlace 59 = .ok (.ifCond .eq 11, 3) := by decide +kernel
theorem dX5_coverPlace_62 : decode cX5_coverPlace 62 = .ok (.bipush 84, 2) := by decide +kernel
theorem dX5_coverPlace_64 : decode cX5_coverPlace 64 = .ok (.iload 4, 2) := by decide +kernel
theorem dX5_coverPlace_66 : decode cX5_coverPlace 66 = .ok (.iadd, 1) := by decide +kernel
theorem dX5_coverPlace_67 : decode cX5_coverPlace 67 = .ok (.goto 4, 3) := by decide +kernel
theorem dX5_coverPlace_70 : decode cX5_coverPlace 70 = .ok (.iconst (-1), 1) := by decide +kernel
theorem dX5_coverPlace_71 : decode cX5_coverPlace 71 = .ok (.ireturn, 1) := by decide +kernel
set_option maxRecDepth 20000 in
theorem ggX5_greatestBurial_X5_coverPlace : GoodIn wsX5_greatestBurial wsX5_coverPlace := goodIn_r _ [10, 11, 12, 13, 14, 15, 16, 17, 18, 19, 20, 21, 22, 23, 24, 25, 26, 27, 28, 29] (by decide +kernel) (by decide +kernel)
set_option maxRecDepth 20000 in
theorem gX5_greatestBurial_X5_coverPlace : GoodIn wsX5_greatestBurial (wsV RX5 63 RX5 yX5_coverPlace wsX5_coverPlace) := goodIn_app (goodIn_of _ (by decide +kernel)) ggX5_greatestBurial_X5_coverPlace
theorem dX5_greatestBurial_0 : decode cX5_greatestBurial 0 = .ok (.iconst (-1), 1) := by decide +kernel
theorem dX5_greatestBurial_1 : decode cX5_greatestBurial 1 = .ok (.istore_n 3, 1) := by decide +kernel
theorem dX5_greatestBurial_2 : decode cX5_greatestBurial 2 = .ok (.iconst 0, 1) := by decide +kernel
theorem dX5_greatestBurial_3 : decode cX5_greatestBurial 3 = .ok (.istore 4, 2) := by decide +kernel
theorem dX5_greatestBurial_5 : decode cX5_greatestBurial 5 = .ok (.iload 4, 2) := by decide +kernel
theorem dX5_greatestBurial_7 : decode cX5_greatestBurial 7 = .ok (.bipush 11, 2) := by decide +kernel
theorem dX5_greatestBurial_9 : decode cX5_greatestBurial 9 = .ok (.if_icmp .ge 37, 3) := by decide +kernel
theorem dX5_greatestBurial_12 : decode cX5_greatestBurial 12 = .ok (.aload_n 0, 1) := by decide +kernel
theorem dX5_greatestBurial_13 : decode cX5_greatestBurial 13 = .ok (.iload_n 1, 1) := by decide +kernel
theorem dX5_greatestBurial_14 : decode cX5_greatestBurial 14 = .ok (.iload_n 2, 1) := by decide +kernel
theorem dX5_greatestBurial_15 : decode cX5_greatestBurial 15 = .ok (.iload 4, 2) := by decide +kernel
theorem dX5_greatestBurial_17 : decode cX5_greatestBurial 17 = .ok (.invokevirtual 63, 3) := by decide +kernel
theorem dX5_greatestBurial_20 : decode cX5_greatestBurial 20 = .ok (.istore 5, 2) := by decide +kernel
theorem dX5_greatestBurial_22 : decode cX5_greatestBurial 22 = .ok (.iload 5, 2) := by decide +kernel
theorem dX5_greatestBurial_24 : decode cX5_greatestBurial 24 = .ok (.iconst (-1), 1) := by decide +kernel
theorem dX5_greatestBurial_25 : decode cX5_greatestBurial 25 = .ok (.if_icmp .eq 15, 3) := by decide +kernel
theorem dX5_greatestBurial_28 : decode cX5_greatestBurial 28 = .ok (.iload_n 3, 1) := by decide +kernel
theorem dX5_greatestBurial_29 : decode cX5_greatestBurial 29 = .ok (.aload_n 0, 1) := by decide +kernel
theorem dX5_greatestBurial_30 : decode cX5_greatestBurial 30 = .ok (.getfield 21, 3) := by decide +kernel
theorem dX5_greatestBurial_33 : decode cX5_greatestBurial 33 = .ok (.iload 5, 2) := by decide +kernel
theorem dX5_greatestBurial_35 : decode cX5_greatestBurial 35 = .ok (.iaload, 1) := by decide +kernel
theorem dX5_greatestBurial_36 : decode cX5_greatestBurial 36 = .ok (.invokestatic 67, 3) := by decide +kernel
theorem dX5_greatestBurial_39 : decode cX5_greatestBurial 39 = .ok (.istore_n 3, 1) := by decide +kernel
theorem dX5_greatestBurial_40 : decode cX5_greatestBurial 40 = .ok (.iinc 4 1, 3) := by decide +kernel
theorem dX5_greatestBurial_43 : decode cX5_greatestBurial 43 = .ok (.goto (-38), 3) := by decide +kernel
theorem dX5_greatestBurial_46 : decode cX5_greatestBurial 46 = .ok (.iload_n 3, 1) := by decide +kernel
theorem dX5_greatestBurial_47 : decode cX5_greatestBurial 47 = .ok (.ireturn, 1) := by decide +kernel
set_option maxRecDepth 20000 in
theorem ggX5_isCovered_X5_greatestBurial : GoodIn wsX5_isCovered wsX5_greatestBurial := goodIn_r _ [6, 7, 8, 9, 10, 11, 12, 13, 14, 5, 15, 16, 17, 18, 19, 20, 21, 22, 23, 24, 25, 26, 27, 28, 29, 30, 31, 32, 33, 34] (by decide +kernel) (by decide +kernel)
set_option maxRecDepth 20000 in
theorem gX5_isCovered_X5_greatestBurial : GoodIn wsX5_isCovered (wsV RX5 72 RX5 yX5_greatestBurial wsX5_greatestBurial) := goodIn_app (goodIn_of _ (by decide +kernel)) ggX5_isCovered_X5_greatestBurial
set_option maxRecDepth 20000 in
theorem ggX5_isCovered_X7_cellAt : GoodIn wsX5_isCovered wsX7_cellAt := goodIn_r _ [19] (by decide +kernel) (by decide +kernel)
set_option maxRecDepth 20000 in
theorem gX5_isCovered_X7_cellAt_n53 : GoodIn wsX5_isCovered (wsX7_cellAt) := ggX5_isCovered_X7_cellAt
theorem dX5_isCovered_0 : decode cX5_isCovered 0 = .ok (.aload_n 0, 1) := by decide +kernel
theorem dX5_isCovered_1 : decode cX5_isCovered 1 = .ok (.iload_n 1, 1) := by decide +kernel
theorem dX5_isCovered_2 : decode cX5_isCovered 2 = .ok (.iload_n 2, 1) := by decide +kernel
theorem dX5_isCovered_3 : decode cX5_isCovered 3 = .ok (.invokevirtual 72, 3) := by decide +kernel
theorem dX5_isCovered_6 : decode cX5_isCovered 6 = .ok (.aload_n 0, 1) := by decide +kernel
theorem dX5_isCovered_7 : decode cX5_isCovered 7 = .ok (.getfield 9, 3) := by decide +kernel
theorem dX5_isCovered_10 : decode cX5_isCovered 10 = .ok (.iload_n 1, 1) := by decide +kernel
theorem dX5_isCovered_11 : decode cX5_isCovered 11 = .ok (.iload_n 2, 1) := by decide +kernel
theorem dX5_isCovered_12 : decode cX5_isCovered 12 = .ok (.invokestatic 53, 3) := by decide +kernel
theorem dX5_isCovered_15 : decode cX5_isCovered 15 = .ok (.iaload, 1) := by decide +kernel
theorem dX5_isCovered_16 : decode cX5_isCovered 16 = .ok (.if_icmp .lt 7, 3) := by decide +kernel
theorem dX5_isCovered_19 : decode cX5_isCovered 19 = .ok (.iconst 1, 1) := by decide +kernel
theorem dX5_isCovered_20 : decode cX5_isCovered 20 = .ok (.goto 4, 3) := by decide +kernel
theorem dX5_isCovered_23 : decode cX5_isCovered 23 = .ok (.iconst 0, 1) := by decide +kernel
theorem dX5_isCovered_24 : decode cX5_isCovered 24 = .ok (.ireturn, 1) := by decide +kernel
set_option maxRecDepth 20000 in
theorem ggX5_visibleValue_X7_cellAt : GoodIn wsX5_visibleValue wsX7_cellAt := goodIn_r _ [6] (by decide +kernel) (by decide +kernel)
set_option maxRecDepth 20000 in
theorem gX5_visibleValue_X7_cellAt_n53 : GoodIn wsX5_visibleValue (wsX7_cellAt) := ggX5_visibleValue_X7_cellAt
set_option maxRecDepth 20000 in
theorem ggX5_visibleValue_X5_endRank : GoodIn wsX5_visibleValue wsX5_endRank := goodIn_r _ [10] (by decide +kernel) (by decide +kernel)
set_option maxRecDepth 20000 in
theorem gX5_visibleValue_X5_endRank : GoodIn wsX5_visibleValue (va_wsS RX5 45 yX5_endRank wsX5_endRank) := goodIn_app (goodIn_of _ (by decide +kernel)) ggX5_visibleValue_X5_endRank
set_option maxRecDepth 20000 in
theorem ggX5_visibleValue_X5_isCovered : GoodIn wsX5_visibleValue wsX5_isCovered := goodIn_r _ [14, 1, 15, 16, 17, 9, 18, 19, 20, 21, 22, 23, 24, 25, 26, 27, 28, 4, 5, 6, 29, 30, 31, 32, 33, 34, 35, 36, 37, 38, 39, 40, 41, 42, 43] (by decide +kernel) (by decide +kernel)
set_option maxRecDepth 20000 in
theorem gX5_visibleValue_X5_isCovered : GoodIn wsX5_visibleValue (wsV RX5 75 RX5 yX5_isCovered wsX5_isCovered) := goodIn_app (goodIn_of _ (by decide +kernel)) ggX5_visibleValue_X5_isCovered
theorem dX5_visibleValue_0 : decode cX5_visibleValue 0 = .ok (.iload_n 1, 1) := by decide +kernel
theorem dX5_visibleValue_1 : decode cX5_visibleValue 1 = .ok (.iload_n 2, 1) := by decide +kernel
theorem dX5_visibleValue_2 : decode cX5_visibleValue 2 = .ok (.invokestatic 53, 3) := by decide +kernel
theorem dX5_visibleValue_5 : decode cX5_visibleValue 5 = .ok (.istore 4, 2) := by decide +kernel
theorem dX5_visibleValue_7 : decode cX5_visibleValue 7 = .ok (.aload_n 0, 1) := by decide +kernel
theorem dX5_visibleValue_8 : decode cX5_visibleValue 8 = .ok (.getfield 9, 3) := by decide +kernel
theorem dX5_visibleValue_11 : decode cX5_visibleValue 11 = .ok (.iload 4, 2) := by decide +kernel
theorem dX5_visibleValue_13 : decode cX5_visibleValue 13 = .ok (.iaload, 1) := by decide +kernel
theorem dX5_visibleValue_14 : decode cX5_visibleValue 14 = .ok (.iconst (-1), 1) := by decide +kernel
theorem dX5_visibleValue_15 : decode cX5_visibleValue 15 = .ok (.if_icmp .eq 21, 3) := by decide +kernel
theorem dX5_visibleValue_18 : decode cX5_visibleValue 18 = .ok (.aload_n 0, 1) := by decide +kernel
theorem dX5_visibleValue_19 : decode cX5_visibleValue 19 = .ok (.getfield 18, 3) := by decide +kernel
theorem dX5_visibleValue_22 : decode cX5_visibleValue 22 = .ok (.iload 4, 2) := by decide +kernel
theorem dX5_visibleValue_24 : decode cX5_visibleValue 24 = .ok (.iaload, 1) := by decide +kernel
theorem dX5_visibleValue_25 : decode cX5_visibleValue 25 = .ok (.invokestatic 45, 3) := by decide +kernel
theorem dX5_visibleValue_28 : decode cX5_visibleValue 28 = .ok (.iload_n 3, 1) := by decide +kernel
theorem dX5_visibleValue_29 : decode cX5_visibleValue 29 = .ok (.if_icmp .le 7, 3) := by decide +kernel
theorem dX5_visibleValue_32 : decode cX5_visibleValue 32 = .ok (.iconst 1, 1) := by decide +kernel
theorem dX5_visibleValue_33 : decode cX5_visibleValue 33 = .ok (.goto 4, 3) := by decide +kernel
theorem dX5_visibleValue_36 : decode cX5_visibleValue 36 = .ok (.iconst 0, 1) := by decide +kernel
theorem dX5_visibleValue_37 : decode cX5_visibleValue 37 = .ok (.istore 5, 2) := by decide +kernel
theorem dX5_visibleValue_39 : decode cX5_visibleValue 39 = .ok (.iload 5, 2) := by decide +kernel
theorem dX5_visibleValue_41 : decode cX5_visibleValue 41 = .ok (.ifCond .eq 22, 3) := by decide +kernel
theorem dX5_visibleValue_44 : decode cX5_visibleValue 44 = .ok (.aload_n 0, 1) := by decide +kernel
theorem dX5_visibleValue_45 : decode cX5_visibleValue 45 = .ok (.iload_n 1, 1) := by decide +kernel
theorem dX5_visibleValue_46 : decode cX5_visibleValue 46 = .ok (.iload_n 2, 1) := by decide +kernel
theorem dX5_visibleValue_47 : decode cX5_visibleValue 47 = .ok (.invokevirtual 75, 3) := by decide +kernel
theorem dX5_visibleValue_50 : decode cX5_visibleValue 50 = .ok (.ifCond .ne 13, 3) := by decide +kernel
theorem dX5_visibleValue_53 : decode cX5_visibleValue 53 = .ok (.aload_n 0, 1) := by decide +kernel
theorem dX5_visibleValue_54 : decode cX5_visibleValue 54 = .ok (.getfield 15, 3) := by decide +kernel
theorem dX5_visibleValue_57 : decode cX5_visibleValue 57 = .ok (.iload 4, 2) := by decide +kernel
theorem dX5_visibleValue_59 : decode cX5_visibleValue 59 = .ok (.iaload, 1) := by decide +kernel
theorem dX5_visibleValue_60 : decode cX5_visibleValue 60 = .ok (.goto 4, 3) := by decide +kernel
theorem dX5_visibleValue_63 : decode cX5_visibleValue 63 = .ok (.iconst (-1), 1) := by decide +kernel
theorem dX5_visibleValue_64 : decode cX5_visibleValue 64 = .ok (.ireturn, 1) := by decide +kernel
set_option maxRecDepth 20000 in
theorem ggX5_takeTombstoneFrom_X5_takeTombstone : GoodIn wsX5_takeTombstoneFrom wsX5_takeTombstone := goodIn_r _ [7, 1, 2, 8, 9, 10, 6, 11, 12, 13, 14, 15, 16, 17] (by decide +kernel) (by decide +kernel)
set_option maxRecDepth 20000 in
theorem gX5_takeTombstoneFrom_X5_takeTombstone : GoodIn wsX5_takeTombstoneFrom (wsV RX5 78 RX5 yX5_takeTombstone wsX5_takeTombstone) := goodIn_app (goodIn_of _ (by decide +kernel)) ggX5_takeTombstoneFrom_X5_takeTombstone
theorem dX5_takeTombstoneFrom_0 : decode cX5_takeTombstoneFrom 0 = .ok (.aload_n 0, 1) := by decide +kernel
theorem dX5_takeTombstoneFrom_1 : decode cX5_takeTombstoneFrom 1 = .ok (.iload_n 2, 1) := by decide +kernel
theorem dX5_takeTombstoneFrom_2 : decode cX5_takeTombstoneFrom 2 = .ok (.aload_n 1, 1) := by decide +kernel
theorem dX5_takeTombstoneFrom_3 : decode cX5_takeTombstoneFrom 3 = .ok (.getfield 21, 3) := by decide +kernel
theorem dX5_takeTombstoneFrom_6 : decode cX5_takeTombstoneFrom 6 = .ok (.iload_n 2, 1) := by decide +kernel
theorem dX5_takeTombstoneFrom_7 : decode cX5_takeTombstoneFrom 7 = .ok (.iaload, 1) := by decide +kernel
theorem dX5_takeTombstoneFrom_8 : decode cX5_takeTombstoneFrom 8 = .ok (.aload_n 1, 1) := by decide +kernel
theorem dX5_takeTombstoneFrom_9 : decode cX5_takeTombstoneFrom 9 = .ok (.getfield 24, 3) := by decide +kernel
theorem dX5_takeTombstoneFrom_12 : decode cX5_takeTombstoneFrom 12 = .ok (.iload_n 2, 1) := by decide +kernel
theorem dX5_takeTombstoneFrom_13 : decode cX5_takeTombstoneFrom 13 = .ok (.iaload, 1) := by decide +kernel
theorem dX5_takeTombstoneFrom_14 : decode cX5_takeTombstoneFrom 14 = .ok (.invokevirtual 78, 3) := by decide +kernel
theorem dX5_takeTombstoneFrom_17 : decode cX5_takeTombstoneFrom 17 = .ok (.return_, 1) := by decide +kernel
set_option maxRecDepth 20000 in
theorem ggX5_takeCellFrom_X7_cellAt : GoodIn wsX5_takeCellFrom wsX7_cellAt := goodIn_r _ [6] (by decide +kernel) (by decide +kernel)
set_option maxRecDepth 20000 in
theorem gX5_takeCellFrom_X7_cellAt_n53 : GoodIn wsX5_takeCellFrom (wsX7_cellAt) := ggX5_takeCellFrom_X7_cellAt
set_option maxRecDepth 20000 in
theorem ggX5_takeCellFrom_X5_takeEntry : GoodIn wsX5_takeCellFrom wsX5_takeEntry := goodIn_r _ [11, 12, 13, 14, 10, 15, 2, 1, 3, 16, 17, 18, 19, 20, 21, 22, 49, 50, 51, 52, 53, 54] (by decide +kernel) (by decide +kernel)
set_option maxRecDepth 20000 in
theorem gX5_takeCellFrom_X5_takeEntry : GoodIn wsX5_takeCellFrom (wsV RX5 81 RX5 yX5_takeEntry wsX5_takeEntry) := goodIn_app (goodIn_of _ (by decide +kernel)) ggX5_takeCellFrom_X5_takeEntry
set_option maxRecDepth 20000 in
theorem ggX5_takeCellFrom_X5_coverPlace : GoodIn wsX5_takeCellFrom wsX5_coverPlace := goodIn_r _ [26, 27, 4, 5, 6, 28, 29, 30, 31, 32, 33, 34, 49, 50, 51, 52, 53, 54, 55, 56] (by decide +kernel) (by decide +kernel)
set_option maxRecDepth 20000 in
theorem gX5_takeCellFrom_X5_coverPlace : GoodIn wsX5_takeCellFrom (wsV RX5 63 RX5 yX5_coverPlace wsX5_coverPlace) := goodIn_app (goodIn_of _ (by decide +kernel)) ggX5_takeCellFrom_X5_coverPlace
set_option maxRecDepth 20000 in
theorem ggX5_takeCellFrom_X5_takeTombstoneFrom : GoodIn wsX5_takeCellFrom wsX5_takeTombstoneFrom := goodIn_r _ [38, 39, 40, 41, 42, 43, 10, 44, 45, 46, 47, 48, 49, 50, 51, 52, 53, 54] (by decide +kernel) (by decide +kernel)
set_option maxRecDepth 20000 in
theorem gX5_takeCellFrom_X5_takeTombstoneFrom : GoodIn wsX5_takeCellFrom (wsV RX5 84 RX5 yX5_takeTombstoneFrom wsX5_takeTombstoneFrom) := goodIn_app (goodIn_of _ (by decide +kernel)) ggX5_takeCellFrom_X5_takeTombstoneFrom
theorem dX5_takeCellFrom_0 : decode cX5_takeCellFrom 0 = .ok (.iload_n 2, 1) := by decide +kernel
theorem dX5_takeCellFrom_1 : decode cX5_takeCellFrom 1 = .ok (.iload_n 3, 1) := by decide +kernel
theorem dX5_takeCellFrom_2 : decode cX5_takeCellFrom 2 = .ok (.invokestatic 53, 3) := by decide +kernel
theorem dX5_takeCellFrom_5 : decode cX5_takeCellFrom 5 = .ok (.istore 4, 2) := by decide +kernel
theorem dX5_takeCellFrom_7 : decode cX5_takeCellFrom 7 = .ok (.aload_n 0, 1) := by decide +kernel
theorem dX5_takeCellFrom_8 : decode cX5_takeCellFrom 8 = .ok (.iload 4, 2) := by decide +kernel
theorem dX5_takeCellFrom_10 : decode cX5_takeCellFrom 10 = .ok (.aload_n 1, 1) := by decide +kernel
theorem dX5_takeCellFrom_11 : decode cX5_takeCellFrom 11 = .ok (.getfield 15, 3) := by decide +kernel
theorem dX5_takeCellFrom_14 : decode cX5_takeCellFrom 14 = .ok (.iload 4, 2) := by decide +kernel
theorem dX5_takeCellFrom_16 : decode cX5_takeCellFrom 16 = .ok (.iaload, 1) := by decide +kernel
theorem dX5_takeCellFrom_17 : decode cX5_takeCellFrom 17 = .ok (.aload_n 1, 1) := by decide +kernel
theorem dX5_takeCellFrom_18 : decode cX5_takeCellFrom 18 = .ok (.getfield 9, 3) := by decide +kernel
theorem dX5_takeCellFrom_21 : decode cX5_takeCellFrom 21 = .ok (.iload 4, 2) := by decide +kernel
theorem dX5_takeCellFrom_23 : decode cX5_takeCellFrom 23 = .ok (.iaload, 1) := by decide +kernel
theorem dX5_takeCellFrom_24 : decode cX5_takeCellFrom 24 = .ok (.aload_n 1, 1) := by decide +kernel
theorem dX5_takeCellFrom_25 : decode cX5_takeCellFrom 25 = .ok (.getfield 18, 3) := by decide +kernel
theorem dX5_takeCellFrom_28 : decode cX5_takeCellFrom 28 = .ok (.iload 4, 2) := by decide +kernel
theorem dX5_takeCellFrom_30 : decode cX5_takeCellFrom 30 = .ok (.iaload, 1) := by decide +kernel
theorem dX5_takeCellFrom_31 : decode cX5_takeCellFrom 31 = .ok (.invokevirtual 81, 3) := by decide +kernel
theorem dX5_takeCellFrom_34 : decode cX5_takeCellFrom 34 = .ok (.iconst 0, 1) := by decide +kernel
theorem dX5_takeCellFrom_35 : decode cX5_takeCellFrom 35 = .ok (.istore 5, 2) := by decide +kernel
theorem dX5_takeCellFrom_37 : decode cX5_takeCellFrom 37 = .ok (.iload 5, 2) := by decide +kernel
theorem dX5_takeCellFrom_39 : decode cX5_takeCellFrom 39 = .ok (.bipush 11, 2) := by decide +kernel
theorem dX5_takeCellFrom_41 : decode cX5_takeCellFrom 41 = .ok (.if_icmp .ge 32, 3) := by decide +kernel
theorem dX5_takeCellFrom_44 : decode cX5_takeCellFrom 44 = .ok (.aload_n 0, 1) := by decide +kernel
theorem dX5_takeCellFrom_45 : decode cX5_takeCellFrom 45 = .ok (.iload_n 2, 1) := by decide +kernel
theorem dX5_takeCellFrom_46 : decode cX5_takeCellFrom 46 = .ok (.iload_n 3, 1) := by decide +kernel
theorem dX5_takeCellFrom_47 : decode cX5_takeCellFrom 47 = .ok (.iload 5, 2) := by decide +kernel
theorem dX5_takeCellFrom_49 : decode cX5_takeCellFrom 49 = .ok (.invokevirtual 63, 3) := by decide +kernel
theorem dX5_takeCellFrom_52 : decode cX5_takeCellFrom 52 = .ok (.istore 6, 2) := by decide +kernel
theorem dX5_takeCellFrom_54 : decode cX5_takeCellFrom 54 = .ok (.iload 6, 2) := by decide +kernel
theorem dX5_takeCellFrom_56 : decode cX5_takeCellFrom 56 = .ok (.iconst (-1), 1) := by decide +kernel
theorem dX5_takeCellFrom_57 : decode cX5_takeCellFrom 57 = .ok (.if_icmp .eq 10, 3) := by decide +kernel
theorem dX5_takeCellFrom_60 : decode cX5_takeCellFrom 60 = .ok (.aload_n 0, 1) := by decide +kernel
theorem dX5_takeCellFrom_61 : decode cX5_takeCellFrom 61 = .ok (.aload_n 1, 1) := by decide +kernel
theorem dX5_takeCellFrom_62 : decode cX5_takeCellFrom 62 = .ok (.iload 6, 2) := by decide +kernel
theorem dX5_takeCellFrom_64 : decode cX5_takeCellFrom 64 = .ok (.invokevirtual 84, 3) := by decide +kernel
theorem dX5_takeCellFrom_67 : decode cX5_takeCellFrom 67 = .ok (.iinc 5 1, 3) := by decide +kernel
theorem dX5_takeCellFrom_70 : decode cX5_takeCellFrom 70 = .ok (.goto (-33), 3) := by decide +kernel
theorem dX5_takeCellFrom_73 : decode cX5_takeCellFrom 73 = .ok (.return_, 1) := by decide +kernel
set_option maxRecDepth 20000 in
theorem ggX5_takeRowFrom_X5_takeCellFrom : GoodIn wsX5_takeRowFrom wsX5_takeCellFrom := goodIn_r _ [5, 6, 7, 8, 9, 10, 11, 12, 13, 14, 4, 15, 16, 17, 18, 19, 20, 21, 22, 23, 24, 25, 26, 27, 28, 29, 30, 31, 32, 33, 34, 35, 36, 37, 38, 39, 40, 41, 42, 43, 44, 45, 46, 47, 48, 49, 50, 51, 52, 53, 54, 55, 56, 57, 58, 59, 60] (by decide +kernel) (by decide +kernel)
set_option maxRecDepth 20000 in
theorem gX5_takeRowFrom_X5_takeCellFrom : GoodIn wsX5_takeRowFrom (wsV RX5 88 RX5 yX5_takeCellFrom wsX5_takeCellFrom) := goodIn_app (goodIn_of _ (by decide +kernel)) ggX5_takeRowFrom_X5_takeCellFrom
theorem dX5_takeRowFrom_0 : decode cX5_takeRowFrom 0 = .ok (.iconst 0, 1) := by decide +kernel
theorem dX5_takeRowFrom_1 : decode cX5_takeRowFrom 1 = .ok (.istore_n 3, 1) := by decide +kernel
theorem dX5_takeRowFrom_2 : decode cX5_takeRowFrom 2 = .ok (.iload_n 3, 1) := by decide +kernel
theorem dX5_takeRowFrom_3 : decode cX5_takeRowFrom 3 = .ok (.iconst 4, 1) := by decide +kernel
theorem dX5_takeRowFrom_4 : decode cX5_takeRowFrom 4 = .ok (.if_icmp .ge 16, 3) := by decide +kernel
theorem dX5_takeRowFrom_7 : decode cX5_takeRowFrom 7 = .ok (.aload_n 0, 1) := by decide +kernel
theorem dX5_takeRowFrom_8 : decode cX5_takeRowFrom 8 = .ok (.aload_n 1, 1) := by decide +kernel
theorem dX5_takeRowFrom_9 : decode cX5_takeRowFrom 9 = .ok (.iload_n 2, 1) := by decide +kernel
theorem dX5_takeRowFrom_10 : decode cX5_takeRowFrom 10 = .ok (.iload_n 3, 1) := by decide +kernel
theorem dX5_takeRowFrom_11 : decode cX5_takeRowFrom 11 = .ok (.invokevirtual 88, 3) := by decide +kernel
theorem dX5_takeRowFrom_14 : decode cX5_takeRowFrom 14 = .ok (.iinc 3 1, 3) := by decide +kernel
theorem dX5_takeRowFrom_17 : decode cX5_takeRowFrom 17 = .ok (.goto (-15), 3) := by decide +kernel
theorem dX5_takeRowFrom_20 : decode cX5_takeRowFrom 20 = .ok (.return_, 1) := by decide +kernel
theorem dX5_hasSameEntry_0 : decode cX5_hasSameEntry 0 = .ok (.aload_n 0, 1) := by decide +kernel
theorem dX5_hasSameEntry_1 : decode cX5_hasSameEntry 1 = .ok (.getfield 9, 3) := by decide +kernel
theorem dX5_hasSameEntry_4 : decode cX5_hasSameEntry 4 = .ok (.iload_n 1, 1) := by decide +kernel
theorem dX5_hasSameEntry_5 : decode cX5_hasSameEntry 5 = .ok (.iaload, 1) := by decide +kernel
theorem dX5_hasSameEntry_6 : decode cX5_hasSameEntry 6 = .ok (.aload_n 2, 1) := by decide +kernel
theorem dX5_hasSameEntry_7 : decode cX5_hasSameEntry 7 = .ok (.getfield 9, 3) := by decide +kernel
theorem dX5_hasSameEntry_10 : decode cX5_hasSameEntry 10 = .ok (.iload_n 1, 1) := by decide +kernel
theorem dX5_hasSameEntry_11 : decode cX5_hasSameEntry 11 = .ok (.iaload, 1) := by decide +kernel
theorem dX5_hasSameEntry_12 : decode cX5_hasSameEntry 12 = .ok (.if_icmp .ne 37, 3) := by decide +kernel
theorem dX5_hasSameEntry_15 : decode cX5_hasSameEntry 15 = .ok (.aload_n 0, 1) := by decide +kernel
theorem dX5_hasSameEntry_16 : decode cX5_hasSameEntry 16 = .ok (.getfield 15, 3) := by decide +kernel
theorem dX5_hasSameEntry_19 : decode cX5_hasSameEntry 19 = .ok (.iload_n 1, 1) := by decide +kernel
theorem dX5_hasSameEntry_20 : decode cX5_hasSameEntry 20 = .ok (.iaload, 1) := by decide +kernel
theorem dX5_hasSameEntry_21 : decode cX5_hasSameEntry 21 = .ok (.aload_n 2, 1) := by decide +kernel
theorem dX5_hasSameEntry_22 : decode cX5_hasSameEntry 22 = .ok (.getfield 15, 3) := by decide +kernel
theorem dX5_hasSameEntry_25 : decode cX5_hasSameEntry 25 = .ok (.iload_n 1, 1) := by decide +kernel
theorem dX5_hasSameEntry_26 : decode cX5_hasSameEntry 26 = .ok (.iaload, 1) := by decide +kernel
theorem dX5_hasSameEntry_27 : decode cX5_hasSameEntry 27 = .ok (.if_icmp .ne 22, 3) := by decide +kernel
theorem dX5_hasSameEntry_30 : decode cX5_hasSameEntry 30 = .ok (.aload_n 0, 1) := by decide +kernel
theorem dX5_hasSameEntry_31 : decode cX5_hasSameEntry 31 = .ok (.getfield 18, 3) := by decide +kernel
theorem dX5_hasSameEntry_34 : decode cX5_hasSameEntry 34 = .ok (.iload_n 1, 1) := by decide +kernel
theorem dX5_hasSameEntry_35 : decode cX5_hasSameEntry 35 = .ok (.iaload, 1) := by decide +kernel
theorem dX5_hasSameEntry_36 : decode cX5_hasSameEntry 36 = .ok (.aload_n 2, 1) := by decide +kernel
theorem dX5_hasSameEntry_37 : decode cX5_hasSameEntry 37 = .ok (.getfield 18, 3) := by decide +kernel
theorem dX5_hasSameEntry_40 : decode cX5_hasSameEntry 40 = .ok (.iload_n 1, 1) := by decide +kernel
theorem dX5_hasSameEntry_41 : decode cX5_hasSameEntry 41 = .ok (.iaload, 1) := by decide +kernel
theorem dX5_hasSameEntry_42 : decode cX5_hasSameEntry 42 = .ok (.if_icmp .ne 7, 3) := by decide +kernel
theorem dX5_hasSameEntry_45 : decode cX5_hasSameEntry 45 = .ok (.iconst 1, 1) := by decide +kernel
theorem dX5_hasSameEntry_46 : decode cX5_hasSameEntry 46 = .ok (.goto 4, 3) := by decide +kernel
theorem dX5_hasSameEntry_49 : decode cX5_hasSameEntry 49 = .ok (.iconst 0, 1) := by decide +kernel
theorem dX5_hasSameEntry_50 : decode cX5_hasSameEntry 50 = .ok (.ireturn, 1) := by decide +kernel
theorem dX5_hasSameTombstone_0 : decode cX5_hasSameTombstone 0 = .ok (.aload_n 0, 1) := by decide +kernel
theorem dX5_hasSameTombstone_1 : decode cX5_hasSameTombstone 1 = .ok (.getfield 21, 3) := by decide +kernel
theorem dX5_hasSameTombstone_4 : decode cX5_hasSameTombstone 4 = .ok (.iload_n 1, 1) := by decide +kernel
theorem dX5_hasSameTombstone_5 : decode cX5_hasSameTombstone 5 = .ok (.iaload, 1) := by decide +kernel
theorem dX5_hasSameTombstone_6 : decode cX5_hasSameTombstone 6 = .ok (.aload_n 2, 1) := by decide +kernel
theorem dX5_hasSameTombstone_7 : decode cX5_hasSameTombstone 7 = .ok (.getfield 21, 3) := by decide +kernel
theorem dX5_hasSameTombstone_10 : decode cX5_hasSameTombstone 10 = .ok (.iload_n 1, 1) := by decide +kernel
theorem dX5_hasSameTombstone_11 : decode cX5_hasSameTombstone 11 = .ok (.iaload, 1) := by decide +kernel
theorem dX5_hasSameTombstone_12 : decode cX5_hasSameTombstone 12 = .ok (.if_icmp .ne 22, 3) := by decide +kernel
theorem dX5_hasSameTombstone_15 : decode cX5_hasSameTombstone 15 = .ok (.aload_n 0, 1) := by decide +kernel
theorem dX5_hasSameTombstone_16 : decode cX5_hasSameTombstone 16 = .ok (.getfield 24, 3) := by decide +kernel
theorem dX5_hasSameTombstone_19 : decode cX5_hasSameTombstone 19 = .ok (.iload_n 1, 1) := by decide +kernel
theorem dX5_hasSameTombstone_20 : decode cX5_hasSameTombstone 20 = .ok (.iaload, 1) := by decide +kernel
theorem dX5_hasSameTombstone_21 : decode cX5_hasSameTombstone 21 = .ok (.aload_n 2, 1) := by decide +kernel
theorem dX5_hasSameTombstone_22 : decode cX5_hasSameTombstone 22 = .ok (.getfield 24, 3) := by decide +kernel
theorem dX5_hasSameTombstone_25 : decode cX5_hasSameTombstone 25 = .ok (.iload_n 1, 1) := by decide +kernel
theorem dX5_hasSameTombstone_26 : decode cX5_hasSameTombstone 26 = .ok (.iaload, 1) := by decide +kernel
theorem dX5_hasSameTombstone_27 : decode cX5_hasSameTombstone 27 = .ok (.if_icmp .ne 7, 3) := by decide +kernel
theorem dX5_hasSameTombstone_30 : decode cX5_hasSameTombstone 30 = .ok (.iconst 1, 1) := by decide +kernel
theorem dX5_hasSameTombstone_31 : decode cX5_hasSameTombstone 31 = .ok (.goto 4, 3) := by decide +kernel
theorem dX5_hasSameTombstone_34 : decode cX5_hasSameTombstone 34 = .ok (.iconst 0, 1) := by decide +kernel
theorem dX5_hasSameTombstone_35 : decode cX5_hasSameTombstone 35 = .ok (.ireturn, 1) := by decide +kernel
set_option maxRecDepth 20000 in
theorem ggX5_hasSameFor_X7_cellAt : GoodIn wsX5_hasSameFor wsX7_cellAt := goodIn_r _ [3] (by decide +kernel) (by decide +kernel)
set_option maxRecDepth 20000 in
theorem gX5_hasSameFor_X7_cellAt_n53 : GoodIn wsX5_hasSameFor (wsX7_cellAt) := ggX5_hasSameFor_X7_cellAt
set_option maxRecDepth 20000 in
theorem ggX5_hasSameFor_X5_hasSameEntry : GoodIn wsX5_hasSameFor wsX5_hasSameEntry := goodIn_r _ [8, 9, 10, 11, 30, 31, 32, 33, 34, 35] (by decide +kernel) (by decide +kernel)
set_option maxRecDepth 20000 in
theorem gX5_hasSameFor_X5_hasSameEntry : GoodIn wsX5_hasSameFor (wsV RX5 92 RX5 yX5_hasSameEntry wsX5_hasSameEntry) := goodIn_app (goodIn_of _ (by decide +kernel)) ggX5_hasSameFor_X5_hasSameEntry
set_option maxRecDepth 20000 in
theorem ggX5_hasSameFor_X5_coverPlace : GoodIn wsX5_hasSameFor wsX5_coverPlace := goodIn_r _ [15, 16, 1, 2, 3, 17, 18, 19, 20, 21, 22, 23, 30, 31, 32, 33, 34, 35, 36, 37] (by decide +kernel) (by decide +kernel)
set_option maxRecDepth 20000 in
theorem gX5_hasSameFor_X5_coverPlace : GoodIn wsX5_hasSameFor (wsV RX5 63 RX5 yX5_coverPlace wsX5_coverPlace) := goodIn_app (goodIn_of _ (by decide +kernel)) ggX5_hasSameFor_X5_coverPlace
set_option maxRecDepth 20000 in
theorem ggX5_hasSameFor_X5_hasSameTombstone : GoodIn wsX5_hasSameFor wsX5_hasSameTombstone := goodIn_r _ [27, 28, 29, 30, 31, 32, 33, 34, 35] (by decide +kernel) (by decide +kernel)
set_option maxRecDepth 20000 in
theorem gX5_hasSameFor_X5_hasSameTombstone : GoodIn wsX5_hasSameFor (wsV RX5 96 RX5 yX5_hasSameTombstone wsX5_hasSameTombstone) := goodIn_app (goodIn_of _ (by decide +kernel)) ggX5_hasSameFor_X5_hasSameTombstone
theorem dX5_hasSameFor_0 : decode cX5_hasSameFor 0 = .ok (.aload_n 0, 1) := by decide +kernel
theorem dX5_hasSameFor_1 : decode cX5_hasSameFor 1 = .ok (.iload_n 1, 1) := by decide +kernel
theorem dX5_hasSameFor_2 : decode cX5_hasSameFor 2 = .ok (.iload_n 2, 1) := by decide +kernel
theorem dX5_hasSameFor_3 : decode cX5_hasSameFor 3 = .ok (.invokestatic 53, 3) := by decide +kernel
theorem dX5_hasSameFor_6 : decode cX5_hasSameFor 6 = .ok (.aload_n 3, 1) := by decide +kernel
theorem dX5_hasSameFor_7 : decode cX5_hasSameFor 7 = .ok (.invokevirtual 92, 3) := by decide +kernel
theorem dX5_hasSameFor_10 : decode cX5_hasSameFor 10 = .ok (.istore 4, 2) := by decide +kernel
theorem dX5_hasSameFor_12 : decode cX5_hasSameFor 12 = .ok (.iconst 0, 1) := by decide +kernel
theorem dX5_hasSameFor_13 : decode cX5_hasSameFor 13 = .ok (.istore 5, 2) := by decide +kernel
theorem dX5_hasSameFor_15 : decode cX5_hasSameFor 15 = .ok (.iload 5, 2) := by decide +kernel
theorem dX5_hasSameFor_17 : decode cX5_hasSameFor 17 = .ok (.bipush 11, 2) := by decide +kernel
theorem dX5_hasSameFor_19 : decode cX5_hasSameFor 19 = .ok (.if_icmp .ge 47, 3) := by decide +kernel
theorem dX5_hasSameFor_22 : decode cX5_hasSameFor 22 = .ok (.aload_n 0, 1) := by decide +kernel
theorem dX5_hasSameFor_23 : decode cX5_hasSameFor 23 = .ok (.iload_n 1, 1) := by decide +kernel
theorem dX5_hasSameFor_24 : decode cX5_hasSameFor 24 = .ok (.iload_n 2, 1) := by decide +kernel
theorem dX5_hasSameFor_25 : decode cX5_hasSameFor 25 = .ok (.iload 5, 2) := by decide +kernel
theorem dX5_hasSameFor_27 : decode cX5_hasSameFor 27 = .ok (.invokevirtual 63, 3) := by decide +kernel
theorem dX5_hasSameFor_30 : decode cX5_hasSameFor 30 = .ok (.istore 6, 2) := by decide +kernel
theorem dX5_hasSameFor_32 : decode cX5_hasSameFor 32 = .ok (.iload 4, 2) := by decide +kernel
theorem dX5_hasSameFor_34 : decode cX5_hasSameFor 34 = .ok (.ifCond .eq 23, 3) := by decide +kernel
theorem dX5_hasSameFor_37 : decode cX5_hasSameFor 37 = .ok (.iload 6, 2) := by decide +kernel
theorem dX5_hasSameFor_39 : decode cX5_hasSameFor 39 = .ok (.iconst (-1), 1) := by decide +kernel
theorem dX5_hasSameFor_40 : decode cX5_hasSameFor 40 = .ok (.if_icmp .eq 13, 3) := by decide +kernel
theorem dX5_hasSameFor_43 : decode cX5_hasSameFor 43 = .ok (.aload_n 0, 1) := by decide +kernel
theorem dX5_hasSameFor_44 : decode cX5_hasSameFor 44 = .ok (.iload 6, 2) := by decide +kernel
theorem dX5_hasSameFor_46 : decode cX5_hasSameFor 46 = .ok (.aload_n 3, 1) := by decide +kernel
theorem dX5_hasSameFor_47 : decode cX5_hasSameFor 47 = .ok (.invokevirtual 96, 3) := by decide +kernel
theorem dX5_hasSameFor_50 : decode cX5_hasSameFor 50 = .ok (.ifCond .eq 7, 3) := by decide +kernel
theorem dX5_hasSameFor_53 : decode cX5_hasSameFor 53 = .ok (.iconst 1, 1) := by decide +kernel
theorem dX5_hasSameFor_54 : decode cX5_hasSameFor 54 = .ok (.goto 4, 3) := by decide +kernel
theorem dX5_hasSameFor_57 : decode cX5_hasSameFor 57 = .ok (.iconst 0, 1) := by decide +kernel
theorem dX5_hasSameFor_58 : decode cX5_hasSameFor 58 = .ok (.istore 4, 2) := by decide +kernel
theorem dX5_hasSameFor_60 : decode cX5_hasSameFor 60 = .ok (.iinc 5 1, 3) := by decide +kernel
theorem dX5_hasSameFor_63 : decode cX5_hasSameFor 63 = .ok (.goto (-48), 3) := by decide +kernel
theorem dX5_hasSameFor_66 : decode cX5_hasSameFor 66 = .ok (.iload 4, 2) := by decide +kernel
theorem dX5_hasSameFor_68 : decode cX5_hasSameFor 68 = .ok (.ireturn, 1) := by decide +kernel
set_option maxRecDepth 20000 in
theorem ggX5_hasSameAs_X5_hasSameEntry : GoodIn wsX5_hasSameAs wsX5_hasSameEntry := goodIn_r _ [5, 6, 7, 8, 15, 16, 17, 18, 19, 20] (by decide +kernel) (by decide +kernel)
set_option maxRecDepth 20000 in
theorem gX5_hasSameAs_X5_hasSameEntry : GoodIn wsX5_hasSameAs (wsV RX5 92 RX5 yX5_hasSameEntry wsX5_hasSameEntry) := goodIn_app (goodIn_of _ (by decide +kernel)) ggX5_hasSameAs_X5_hasSameEntry
set_option maxRecDepth 20000 in
theorem ggX5_hasSameAs_X5_hasSameTombstone : GoodIn wsX5_hasSameAs wsX5_hasSameTombstone := goodIn_r _ [12, 13, 14, 15, 16, 17, 18, 19, 20] (by decide +kernel) (by decide +kernel)
set_option maxRecDepth 20000 in
theorem gX5_hasSameAs_X5_hasSameTombstone : GoodIn wsX5_hasSameAs (wsV RX5 96 RX5 yX5_hasSameTombstone wsX5_hasSameTombstone) := goodIn_app (goodIn_of _ (by decide +kernel)) ggX5_hasSameAs_X5_hasSameTombstone
theorem dX5_hasSameAs_0 : decode cX5_hasSameAs 0 = .ok (.iconst 1, 1) := by decide +kernel
theorem dX5_hasSameAs_1 : decode cX5_hasSameAs 1 = .ok (.istore_n 2, 1) := by decide +kernel
theorem dX5_hasSameAs_2 : decode cX5_hasSameAs 2 = .ok (.iconst 0, 1) := by decide +kernel
theorem dX5_hasSameAs_3 : decode cX5_hasSameAs 3 = .ok (.istore_n 3, 1) := by decide +kernel
theorem dX5_hasSameAs_4 : decode cX5_hasSameAs 4 = .ok (.iload_n 3, 1) := by decide +kernel
theorem dX5_hasSameAs_5 : decode cX5_hasSameAs 5 = .ok (.bipush 64, 2) := by decide +kernel
theorem dX5_hasSameAs_7 : decode cX5_hasSameAs 7 = .ok (.if_icmp .ge 28, 3) := by decide +kernel
theorem dX5_hasSameAs_10 : decode cX5_hasSameAs 10 = .ok (.iload_n 2, 1) := by decide +kernel
theorem dX5_hasSameAs_11 : decode cX5_hasSameAs 11 = .ok (.ifCond .eq 16, 3) := by decide +kernel
theorem dX5_hasSameAs_14 : decode cX5_hasSameAs 14 = .ok (.aload_n 0, 1) := by decide +kernel
theorem dX5_hasSameAs_15 : decode cX5_hasSameAs 15 = .ok (.iload_n 3, 1) := by decide +kernel
theorem dX5_hasSameAs_16 : decode cX5_hasSameAs 16 = .ok (.aload_n 1, 1) := by decide +kernel
theorem dX5_hasSameAs_17 : decode cX5_hasSameAs 17 = .ok (.invokevirtual 92, 3) := by decide +kernel
theorem dX5_hasSameAs_20 : decode cX5_hasSameAs 20 = .ok (.ifCond .eq 7, 3) := by decide +kernel
theorem dX5_hasSameAs_23 : decode cX5_hasSameAs 23 = .ok (.iconst 1, 1) := by decide +kernel
theorem dX5_hasSameAs_24 : decode cX5_hasSameAs 24 = .ok (.goto 4, 3) := by decide +kernel
theorem dX5_hasSameAs_27 : decode cX5_hasSameAs 27 = .ok (.iconst 0, 1) := by decide +kernel
theorem dX5_hasSameAs_28 : decode cX5_hasSameAs 28 = .ok (.istore_n 2, 1) := by decide +kernel
theorem dX5_hasSameAs_29 : decode cX5_hasSameAs 29 = .ok (.iinc 3 1, 3) := by decide +kernel
theorem dX5_hasSameAs_32 : decode cX5_hasSameAs 32 = .ok (.goto (-28), 3) := by decide +kernel
theorem dX5_hasSameAs_35 : decode cX5_hasSameAs 35 = .ok (.iconst 0, 1) := by decide +kernel
theorem dX5_hasSameAs_36 : decode cX5_hasSameAs 36 = .ok (.istore_n 3, 1) := by decide +kernel
theorem dX5_hasSameAs_37 : decode cX5_hasSameAs 37 = .ok (.iload_n 3, 1) := by decide +kernel
theorem dX5_hasSameAs_38 : decode cX5_hasSameAs 38 = .ok (.bipush 92, 2) := by decide +kernel
theorem dX5_hasSameAs_40 : decode cX5_hasSameAs 40 = .ok (.if_icmp .ge 28, 3) := by decide +kernel
theorem dX5_hasSameAs_43 : decode cX5_hasSameAs 43 = .ok (.iload_n 2, 1) := by decide +kernel
theorem dX5_hasSameAs_44 : decode cX5_hasSameAs 44 = .ok (.ifCond .eq 16, 3) := by decide +kernel
theorem dX5_hasSameAs_47 : decode cX5_hasSameAs 47 = .ok (.aload_n 0, 1) := by decide +kernel
theorem dX5_hasSameAs_48 : decode cX5_hasSameAs 48 = .ok (.iload_n 3, 1) := by decide +kernel
theorem dX5_hasSameAs_49 : decode cX5_hasSameAs 49 = .ok (.aload_n 1, 1) := by decide +kernel
theorem dX5_hasSameAs_50 : decode cX5_hasSameAs 50 = .ok (.invokevirtual 96, 3) := by decide +kernel
theorem dX5_hasSameAs_53 : decode cX5_hasSameAs 53 = .ok (.ifCond .eq 7, 3) := by decide +kernel
theorem dX5_hasSameAs_56 : decode cX5_hasSameAs 56 = .ok (.iconst 1, 1) := by decide +kernel
theorem dX5_hasSameAs_57 : decode cX5_hasSameAs 57 = .ok (.goto 4, 3) := by decide +kernel
theorem dX5_hasSameAs_60 : decode cX5_hasSameAs 60 = .ok (.iconst 0, 1) := by decide +kernel
theorem dX5_hasSameAs_61 : decode cX5_hasSameAs 61 = .ok (.istore_n 2, 1) := by decide +kernel
theorem dX5_hasSameAs_62 : decode cX5_hasSameAs 62 = .ok (.iinc 3 1, 3) := by decide +kernel
theorem dX5_hasSameAs_65 : decode cX5_hasSameAs 65 = .ok (.goto (-28), 3) := by decide +kernel
theorem dX5_hasSameAs_68 : decode cX5_hasSameAs 68 = .ok (.iload_n 2, 1) := by decide +kernel
theorem dX5_hasSameAs_69 : decode cX5_hasSameAs 69 = .ok (.ireturn, 1) := by decide +kernel
set_option maxRecDepth 20000 in
theorem ggX5_dropEntry_X5_putEntry : GoodIn wsX5_dropEntry wsX5_putEntry := goodIn_r _ [5, 6, 7, 8, 9, 10, 11, 12, 13, 14] (by decide +kernel) (by decide +kernel)
set_option maxRecDepth 20000 in
theorem gX5_dropEntry_X5_putEntry : GoodIn wsX5_dropEntry (wsV RX5 41 RX5 yX5_putEntry wsX5_putEntry) := goodIn_app (goodIn_of _ (by decide +kernel)) ggX5_dropEntry_X5_putEntry
theorem dX5_dropEntry_0 : decode cX5_dropEntry 0 = .ok (.aload_n 0, 1) := by decide +kernel
theorem dX5_dropEntry_1 : decode cX5_dropEntry 1 = .ok (.iload_n 1, 1) := by decide +kernel
theorem dX5_dropEntry_2 : decode cX5_dropEntry 2 = .ok (.iconst 0, 1) := by decide +kernel
theorem dX5_dropEntry_3 : decode cX5_dropEntry 3 = .ok (.iconst (-1), 1) := by decide +kernel
theorem dX5_dropEntry_4 : decode cX5_dropEntry 4 = .ok (.iconst 0, 1) := by decide +kernel
theorem dX5_dropEntry_5 : decode cX5_dropEntry 5 = .ok (.invokevirtual 41, 3) := by decide +kernel
theorem dX5_dropEntry_8 : decode cX5_dropEntry 8 = .ok (.return_, 1) := by decide +kernel
set_option maxRecDepth 20000 in
theorem ggX5_dropCovered_X7_cellAt : GoodIn wsX5_dropCovered wsX7_cellAt := goodIn_r _ [4] (by decide +kernel) (by decide +kernel)
set_option maxRecDepth 20000 in
theorem gX5_dropCovered_X7_cellAt_n53 : GoodIn wsX5_dropCovered (wsX7_cellAt) := ggX5_dropCovered_X7_cellAt
set_option maxRecDepth 20000 in
theorem ggX5_dropCovered_X5_isCovered : GoodIn wsX5_dropCovered wsX5_isCovered := goodIn_r _ [9, 1, 10, 11, 12, 8, 13, 14, 15, 16, 17, 18, 19, 20, 21, 22, 23, 2, 3, 4, 24, 25, 26, 27, 28, 29, 30, 41, 42, 43, 44, 45, 46, 47, 48] (by decide +kernel) (by decide +kernel)
set_option maxRecDepth 20000 in
theorem gX5_dropCovered_X5_isCovered : GoodIn wsX5_dropCovered (wsV RX5 75 RX5 yX5_isCovered wsX5_isCovered) := goodIn_app (goodIn_of _ (by decide +kernel)) ggX5_dropCovered_X5_isCovered
set_option maxRecDepth 20000 in
theorem ggX5_dropCovered_X5_dropEntry : GoodIn wsX5_dropCovered wsX5_dropEntry := goodIn_r _ [34, 35, 36, 37, 8, 38, 1, 39, 40, 41, 42, 43, 44, 45, 46] (by decide +kernel) (by decide +kernel)
set_option maxRecDepth 20000 in
theorem gX5_dropCovered_X5_dropEntry : GoodIn wsX5_dropCovered (wsV RX5 99 RX5 yX5_dropEntry wsX5_dropEntry) := goodIn_app (goodIn_of _ (by decide +kernel)) ggX5_dropCovered_X5_dropEntry
theorem dX5_dropCovered_0 : decode cX5_dropCovered 0 = .ok (.iconst 0, 1) := by decide +kernel
theorem dX5_dropCovered_1 : decode cX5_dropCovered 1 = .ok (.istore_n 1, 1) := by decide +kernel
theorem dX5_dropCovered_2 : decode cX5_dropCovered 2 = .ok (.iconst 0, 1) := by decide +kernel
theorem dX5_dropCovered_3 : decode cX5_dropCovered 3 = .ok (.istore_n 2, 1) := by decide +kernel
theorem dX5_dropCovered_4 : decode cX5_dropCovered 4 = .ok (.iload_n 2, 1) := by decide +kernel
theorem dX5_dropCovered_5 : decode cX5_dropCovered 5 = .ok (.bipush 16, 2) := by decide +kernel
theorem dX5_dropCovered_7 : decode cX5_dropCovered 7 = .ok (.if_icmp .ge 58, 3) := by decide +kernel
theorem dX5_dropCovered_10 : decode cX5_dropCovered 10 = .ok (.iconst 0, 1) := by decide +kernel
theorem dX5_dropCovered_11 : decode cX5_dropCovered 11 = .ok (.istore_n 3, 1) := by decide +kernel
theorem dX5_dropCovered_12 : decode cX5_dropCovered 12 = .ok (.iload_n 3, 1) := by decide +kernel
theorem dX5_dropCovered_13 : decode cX5_dropCovered 13 = .ok (.iconst 4, 1) := by decide +kernel
theorem dX5_dropCovered_14 : decode cX5_dropCovered 14 = .ok (.if_icmp .ge 45, 3) := by decide +kernel
theorem dX5_dropCovered_17 : decode cX5_dropCovered 17 = .ok (.iload_n 2, 1) := by decide +kernel
theorem dX5_dropCovered_18 : decode cX5_dropCovered 18 = .ok (.iload_n 3, 1) := by decide +kernel
theorem dX5_dropCovered_19 : decode cX5_dropCovered 19 = .ok (.invokestatic 53, 3) := by decide +kernel
theorem dX5_dropCovered_22 : decode cX5_dropCovered 22 = .ok (.istore 4, 2) := by decide +kernel
theorem dX5_dropCovered_24 : decode cX5_dropCovered 24 = .ok (.aload_n 0, 1) := by decide +kernel
theorem dX5_dropCovered_25 : decode cX5_dropCovered 25 = .ok (.getfield 9, 3) := by decide +kernel
theorem dX5_dropCovered_28 : decode cX5_dropCovered 28 = .ok (.iload 4, 2) := by decide +kernel
theorem dX5_dropCovered_30 : decode cX5_dropCovered 30 = .ok (.iaload, 1) := by decide +kernel
theorem dX5_dropCovered_31 : decode cX5_dropCovered 31 = .ok (.iconst (-1), 1) := by decide +kernel
theorem dX5_dropCovered_32 : decode cX5_dropCovered 32 = .ok (.if_icmp .eq 21, 3) := by decide +kernel
theorem dX5_dropCovered_35 : decode cX5_dropCovered 35 = .ok (.aload_n 0, 1) := by decide +kernel
theorem dX5_dropCovered_36 : decode cX5_dropCovered 36 = .ok (.iload_n 2, 1) := by decide +kernel
theorem dX5_dropCovered_37 : decode cX5_dropCovered 37 = .ok (.iload_n 3, 1) := by decide +kernel
theorem dX5_dropCovered_38 : decode cX5_dropCovered 38 = .ok (.invokevirtual 75, 3) := by decide +kernel
theorem dX5_dropCovered_41 : decode cX5_dropCovered 41 = .ok (.ifCond .eq 12, 3) := by decide +kernel
theorem dX5_dropCovered_44 : decode cX5_dropCovered 44 = .ok (.aload_n 0, 1) := by decide +kernel
theorem dX5_dropCovered_45 : decode cX5_dropCovered 45 = .ok (.iload 4, 2) := by decide +kernel
theorem dX5_dropCovered_47 : decode cX5_dropCovered 47 = .ok (.invokevirtual 99, 3) := by decide +kernel
theorem dX5_dropCovered_50 : decode cX5_dropCovered 50 = .ok (.iinc 1 1, 3) := by decide +kernel
theorem dX5_dropCovered_53 : decode cX5_dropCovered 53 = .ok (.iinc 3 1, 3) := by decide +kernel
theorem dX5_dropCovered_56 : decode cX5_dropCovered 56 = .ok (.goto (-44), 3) := by decide +kernel
theorem dX5_dropCovered_59 : decode cX5_dropCovered 59 = .ok (.iinc 2 1, 3) := by decide +kernel
theorem dX5_dropCovered_62 : decode cX5_dropCovered 62 = .ok (.goto (-58), 3) := by decide +kernel
theorem dX5_dropCovered_65 : decode cX5_dropCovered 65 = .ok (.iload_n 1, 1) := by decide +kernel
theorem dX5_dropCovered_66 : decode cX5_dropCovered 66 = .ok (.ireturn, 1) := by decide +kernel
set_option maxRecDepth 20000 in
theorem ggX5_dropTombstonesMadeBy_X5_putTombstone : GoodIn wsX5_dropTombstonesMadeBy wsX5_putTombstone := goodIn_r _ [7, 1, 2, 8, 9, 10, 11, 12, 13] (by decide +kernel) (by decide +kernel)
set_option maxRecDepth 20000 in
theorem gX5_dropTombstonesMadeBy_X5_putTombstone : GoodIn wsX5_dropTombstonesMadeBy (wsV RX5 49 RX5 yX5_putTombstone wsX5_putTombstone) := goodIn_app (goodIn_of _ (by decide +kernel)) ggX5_dropTombstonesMadeBy_X5_putTombstone
theorem dX5_dropTombstonesMadeBy_0 : decode cX5_dropTombstonesMadeBy 0 = .ok (.iconst 0, 1) := by decide +kernel
theorem dX5_dropTombstonesMadeBy_1 : decode cX5_dropTombstonesMadeBy 1 = .ok (.istore_n 2, 1) := by decide +kernel
theorem dX5_dropTombstonesMadeBy_2 : decode cX5_dropTombstonesMadeBy 2 = .ok (.iconst 0, 1) := by decide +kernel
theorem dX5_dropTombstonesMadeBy_3 : decode cX5_dropTombstonesMadeBy 3 = .ok (.istore_n 3, 1) := by decide +kernel
theorem dX5_dropTombstonesMadeBy_4 : decode cX5_dropTombstonesMadeBy 4 = .ok (.iload_n 3, 1) := by decide +kernel
theorem dX5_dropTombstonesMadeBy_5 : decode cX5_dropTombstonesMadeBy 5 = .ok (.bipush 92, 2) := by decide +kernel
theorem dX5_dropTombstonesMadeBy_7 : decode cX5_dropTombstonesMadeBy 7 = .ok (.if_icmp .ge 39, 3) := by decide +kernel
theorem dX5_dropTombstonesMadeBy_10 : decode cX5_dropTombstonesMadeBy 10 = .ok (.aload_n 0, 1) := by decide +kernel
theorem dX5_dropTombstonesMadeBy_11 : decode cX5_dropTombstonesMadeBy 11 = .ok (.getfield 21, 3) := by decide +kernel
theorem dX5_dropTombstonesMadeBy_14 : decode cX5_dropTombstonesMadeBy 14 = .ok (.iload_n 3, 1) := by decide +kernel
theorem dX5_dropTombstonesMadeBy_15 : decode cX5_dropTombstonesMadeBy 15 = .ok (.iaload, 1) := by decide +kernel
theorem dX5_dropTombstonesMadeBy_16 : decode cX5_dropTombstonesMadeBy 16 = .ok (.iconst (-1), 1) := by decide +kernel
theorem dX5_dropTombstonesMadeBy_17 : decode cX5_dropTombstonesMadeBy 17 = .ok (.if_icmp .eq 23, 3) := by decide +kernel
theorem dX5_dropTombstonesMadeBy_20 : decode cX5_dropTombstonesMadeBy 20 = .ok (.aload_n 0, 1) := by decide +kernel
theorem dX5_dropTombstonesMadeBy_21 : decode cX5_dropTombstonesMadeBy 21 = .ok (.getfield 24, 3) := by decide +kernel
theorem dX5_dropTombstonesMadeBy_24 : decode cX5_dropTombstonesMadeBy 24 = .ok (.iload_n 3, 1) := by decide +kernel
theorem dX5_dropTombstonesMadeBy_25 : decode cX5_dropTombstonesMadeBy 25 = .ok (.iaload, 1) := by decide +kernel
theorem dX5_dropTombstonesMadeBy_26 : decode cX5_dropTombstonesMadeBy 26 = .ok (.iload_n 1, 1) := by decide +kernel
theorem dX5_dropTombstonesMadeBy_27 : decode cX5_dropTombstonesMadeBy 27 = .ok (.if_icmp .gt 13, 3) := by decide +kernel
theorem dX5_dropTombstonesMadeBy_30 : decode cX5_dropTombstonesMadeBy 30 = .ok (.aload_n 0, 1) := by decide +kernel
theorem dX5_dropTombstonesMadeBy_31 : decode cX5_dropTombstonesMadeBy 31 = .ok (.iload_n 3, 1) := by decide +kernel
theorem dX5_dropTombstonesMadeBy_32 : decode cX5_dropTombstonesMadeBy 32 = .ok (.iconst (-1), 1) := by decide +kernel
theorem dX5_dropTombstonesMadeBy_33 : decode cX5_dropTombstonesMadeBy 33 = .ok (.iconst 0, 1) := by decide +kernel
theorem dX5_dropTombstonesMadeBy_34 : decode cX5_dropTombstonesMadeBy 34 = .ok (.invokevirtual 49, 3) := by decide +kernel
theorem dX5_dropTombstonesMadeBy_37 : decode cX5_dropTombstonesMadeBy 37 = .ok (.iinc 2 1, 3) := by decide +kernel
theorem dX5_dropTombstonesMadeBy_40 : decode cX5_dropTombstonesMadeBy 40 = .ok (.iinc 3 1, 3) := by decide +kernel
theorem dX5_dropTombstonesMadeBy_43 : decode cX5_dropTombstonesMadeBy 43 = .ok (.goto (-39), 3) := by decide +kernel
theorem dX5_dropTombstonesMadeBy_46 : decode cX5_dropTombstonesMadeBy 46 = .ok (.iload_n 2, 1) := by decide +kernel
theorem dX5_dropTombstonesMadeBy_47 : decode cX5_dropTombstonesMadeBy 47 = .ok (.ireturn, 1) := by decide +kernel
set_option maxRecDepth 20000 in
theorem ggX5_dropEntriesEndedBy_X5_endRank : GoodIn wsX5_dropEntriesEndedBy wsX5_endRank := goodIn_r _ [6] (by decide +kernel) (by decide +kernel)
set_option maxRecDepth 20000 in
theorem gX5_dropEntriesEndedBy_X5_endRank : GoodIn wsX5_dropEntriesEndedBy (va_wsS RX5 45 yX5_endRank wsX5_endRank) := goodIn_app (goodIn_of _ (by decide +kernel)) ggX5_dropEntriesEndedBy_X5_endRank
set_option maxRecDepth 20000 in
theorem ggX5_dropEntriesEndedBy_X5_dropEntry : GoodIn wsX5_dropEntriesEndedBy wsX5_dropEntry := goodIn_r _ [10, 11, 12, 13, 5, 14, 1, 15, 2, 16, 17, 18, 19, 20, 21] (by decide +kernel) (by decide +kernel)
set_option maxRecDepth 20000 in
theorem gX5_dropEntriesEndedBy_X5_dropEntry : GoodIn wsX5_dropEntriesEndedBy (wsV RX5 99 RX5 yX5_dropEntry wsX5_dropEntry) := goodIn_app (goodIn_of _ (by decide +kernel)) ggX5_dropEntriesEndedBy_X5_dropEntry
theorem dX5_dropEntriesEndedBy_0 : decode cX5_dropEntriesEndedBy 0 = .ok (.iconst 0, 1) := by decide +kernel
theorem dX5_dropEntriesEndedBy_1 : decode cX5_dropEntriesEndedBy 1 = .ok (.istore_n 2, 1) := by decide +kernel
theorem dX5_dropEntriesEndedBy_2 : decode cX5_dropEntriesEndedBy 2 = .ok (.iconst 0, 1) := by decide +kernel
theorem dX5_dropEntriesEndedBy_3 : decode cX5_dropEntriesEndedBy 3 = .ok (.istore_n 3, 1) := by decide +kernel
theorem dX5_dropEntriesEndedBy_4 : decode cX5_dropEntriesEndedBy 4 = .ok (.iload_n 3, 1) := by decide +kernel
theorem dX5_dropEntriesEndedBy_5 : decode cX5_dropEntriesEndedBy 5 = .ok (.bipush 64, 2) := by decide +kernel
theorem dX5_dropEntriesEndedBy_7 : decode cX5_dropEntriesEndedBy 7 = .ok (.if_icmp .ge 40, 3) := by decide +kernel
theorem dX5_dropEntriesEndedBy_10 : decode cX5_dropEntriesEndedBy 10 = .ok (.aload_n 0, 1) := by decide +kernel
theorem dX5_dropEntriesEndedBy_11 : decode cX5_dropEntriesEndedBy 11 = .ok (.getfield 9, 3) := by decide +kernel
theorem dX5_dropEntriesEndedBy_14 : decode cX5_dropEntriesEndedBy 14 = .ok (.iload_n 3, 1) := by decide +kernel
theorem dX5_dropEntriesEndedBy_15 : decode cX5_dropEntriesEndedBy 15 = .ok (.iaload, 1) := by decide +kernel
theorem dX5_dropEntriesEndedBy_16 : decode cX5_dropEntriesEndedBy 16 = .ok (.iconst (-1), 1) := by decide +kernel
theorem dX5_dropEntriesEndedBy_17 : decode cX5_dropEntriesEndedBy 17 = .ok (.if_icmp .eq 24, 3) := by decide +kernel
theorem dX5_dropEntriesEndedBy_20 : decode cX5_dropEntriesEndedBy 20 = .ok (.aload_n 0, 1) := by decide +kernel
theorem dX5_dropEntriesEndedBy_21 : decode cX5_dropEntriesEndedBy 21 = .ok (.getfield 18, 3) := by decide +kernel
theorem dX5_dropEntriesEndedBy_24 : decode cX5_dropEntriesEndedBy 24 = .ok (.iload_n 3, 1) := by decide +kernel
theorem dX5_dropEntriesEndedBy_25 : decode cX5_dropEntriesEndedBy 25 = .ok (.iaload, 1) := by decide +kernel
theorem dX5_dropEntriesEndedBy_26 : decode cX5_dropEntriesEndedBy 26 = .ok (.invokestatic 45, 3) := by decide +kernel
theorem dX5_dropEntriesEndedBy_29 : decode cX5_dropEntriesEndedBy 29 = .ok (.iload_n 1, 1) := by decide +kernel
theorem dX5_dropEntriesEndedBy_30 : decode cX5_dropEntriesEndedBy 30 = .ok (.if_icmp .gt 11, 3) := by decide +kernel
theorem dX5_dropEntriesEndedBy_33 : decode cX5_dropEntriesEndedBy 33 = .ok (.aload_n 0, 1) := by decide +kernel
theorem dX5_dropEntriesEndedBy_34 : decode cX5_dropEntriesEndedBy 34 = .ok (.iload_n 3, 1) := by decide +kernel
theorem dX5_dropEntriesEndedBy_35 : decode cX5_dropEntriesEndedBy 35 = .ok (.invokevirtual 99, 3) := by decide +kernel
theorem dX5_dropEntriesEndedBy_38 : decode cX5_dropEntriesEndedBy 38 = .ok (.iinc 2 1, 3) := by decide +kernel
theorem dX5_dropEntriesEndedBy_41 : decode cX5_dropEntriesEndedBy 41 = .ok (.iinc 3 1, 3) := by decide +kernel
theorem dX5_dropEntriesEndedBy_44 : decode cX5_dropEntriesEndedBy 44 = .ok (.goto (-40), 3) := by decide +kernel
theorem dX5_dropEntriesEndedBy_47 : decode cX5_dropEntriesEndedBy 47 = .ok (.iload_n 2, 1) := by decide +kernel
theorem dX5_dropEntriesEndedBy_48 : decode cX5_dropEntriesEndedBy 48 = .ok (.ireturn, 1) := by decide +kernel
theorem dX5_countEntries_0 : decode cX5_countEntries 0 = .ok (.iconst 0, 1) := by decide +kernel
theorem dX5_countEntries_1 : decode cX5_countEntries 1 = .ok (.istore_n 1, 1) := by decide +kernel
theorem dX5_countEntries_2 : decode cX5_countEntries 2 = .ok (.iconst 0, 1) := by decide +kernel
theorem dX5_countEntries_3 : decode cX5_countEntries 3 = .ok (.istore_n 2, 1) := by decide +kernel
theorem dX5_countEntries_4 : decode cX5_countEntries 4 = .ok (.iload_n 2, 1) := by decide +kernel
theorem dX5_countEntries_5 : decode cX5_countEntries 5 = .ok (.bipush 64, 2) := by decide +kernel
theorem dX5_countEntries_7 : decode cX5_countEntries 7 = .ok (.if_icmp .ge 22, 3) := by decide +kernel
theorem dX5_countEntries_10 : decode cX5_countEntries 10 = .ok (.aload_n 0, 1) := by decide +kernel
theorem dX5_countEntries_11 : decode cX5_countEntries 11 = .ok (.getfield 9, 3) := by decide +kernel
theorem dX5_countEntries_14 : decode cX5_countEntries 14 = .ok (.iload_n 2, 1) := by decide +kernel
theorem dX5_countEntries_15 : decode cX5_countEntries 15 = .ok (.iaload, 1) := by decide +kernel
theorem dX5_countEntries_16 : decode cX5_countEntries 16 = .ok (.iconst (-1), 1) := by decide +kernel
theorem dX5_countEntries_17 : decode cX5_countEntries 17 = .ok (.if_icmp .eq 6, 3) := by decide +kernel
theorem dX5_countEntries_20 : decode cX5_countEntries 20 = .ok (.iinc 1 1, 3) := by decide +kernel
theorem dX5_countEntries_23 : decode cX5_countEntries 23 = .ok (.iinc 2 1, 3) := by decide +kernel
theorem dX5_countEntries_26 : decode cX5_countEntries 26 = .ok (.goto (-22), 3) := by decide +kernel
theorem dX5_countEntries_29 : decode cX5_countEntries 29 = .ok (.iload_n 1, 1) := by decide +kernel
theorem dX5_countEntries_30 : decode cX5_countEntries 30 = .ok (.ireturn, 1) := by decide +kernel
theorem dX5_firstPlace_0 : decode cX5_firstPlace 0 = .ok (.iload_n 0, 1) := by decide +kernel
theorem dX5_firstPlace_1 : decode cX5_firstPlace 1 = .ok (.tableswitch 42 0 3 #[31, 33, 36, 39], 31) := by decide +kernel
theorem dX5_firstPlace_32 : decode cX5_firstPlace 32 = .ok (.iconst 0, 1) := by decide +kernel
theorem dX5_firstPlace_33 : decode cX5_firstPlace 33 = .ok (.ireturn, 1) := by decide +kernel
theorem dX5_firstPlace_34 : decode cX5_firstPlace 34 = .ok (.bipush 64, 2) := by decide +kernel
theorem dX5_firstPlace_36 : decode cX5_firstPlace 36 = .ok (.ireturn, 1) := by decide +kernel
theorem dX5_firstPlace_37 : decode cX5_firstPlace 37 = .ok (.bipush 68, 2) := by decide +kernel
theorem dX5_firstPlace_39 : decode cX5_firstPlace 39 = .ok (.ireturn, 1) := by decide +kernel
theorem dX5_firstPlace_40 : decode cX5_firstPlace 40 = .ok (.bipush 84, 2) := by decide +kernel
theorem dX5_firstPlace_42 : decode cX5_firstPlace 42 = .ok (.ireturn, 1) := by decide +kernel
theorem dX5_firstPlace_43 : decode cX5_firstPlace 43 = .ok (.bipush 92, 2) := by decide +kernel
theorem dX5_firstPlace_45 : decode cX5_firstPlace 45 = .ok (.ireturn, 1) := by decide +kernel
set_option maxRecDepth 20000 in
theorem ggX5_countTombstones_X5_firstPlace : GoodIn wsX5_countTombstones wsX5_firstPlace := goodIn_r _ [5] (by decide +kernel) (by decide +kernel)
set_option maxRecDepth 20000 in
theorem gX5_countTombstones_X5_firstPlace : GoodIn wsX5_countTombstones (va_wsS RX5 103 yX5_firstPlace wsX5_firstPlace) := goodIn_app (goodIn_of _ (by decide +kernel)) ggX5_countTombstones_X5_firstPlace
theorem dX5_countTombstones_0 : decode cX5_countTombstones 0 = .ok (.iload_n 1, 1) := by decide +kernel
theorem dX5_countTombstones_1 : decode cX5_countTombstones 1 = .ok (.invokestatic 103, 3) := by decide +kernel
theorem dX5_countTombstones_4 : decode cX5_countTombstones 4 = .ok (.istore_n 2, 1) := by decide +kernel
theorem dX5_countTombstones_5 : decode cX5_countTombstones 5 = .ok (.iload_n 1, 1) := by decide +kernel
theorem dX5_countTombstones_6 : decode cX5_countTombstones 6 = .ok (.iconst 1, 1) := by decide +kernel
theorem dX5_countTombstones_7 : decode cX5_countTombstones 7 = .ok (.iadd, 1) := by decide +kernel
theorem dX5_countTombstones_8 : decode cX5_countTombstones 8 = .ok (.invokestatic 103, 3) := by decide +kernel
theorem dX5_countTombstones_11 : decode cX5_countTombstones 11 = .ok (.istore_n 3, 1) := by decide +kernel
theorem dX5_countTombstones_12 : decode cX5_countTombstones 12 = .ok (.iconst 0, 1) := by decide +kernel
theorem dX5_countTombstones_13 : decode cX5_countTombstones 13 = .ok (.istore 4, 2) := by decide +kernel
theorem dX5_countTombstones_15 : decode cX5_countTombstones 15 = .ok (.iload_n 2, 1) := by decide +kernel
theorem dX5_countTombstones_16 : decode cX5_countTombstones 16 = .ok (.istore 5, 2) := by decide +kernel
theorem dX5_countTombstones_18 : decode cX5_countTombstones 18 = .ok (.iload 5, 2) := by decide +kernel
theorem dX5_countTombstones_20 : decode cX5_countTombstones 20 = .ok (.iload_n 3, 1) := by decide +kernel
theorem dX5_countTombstones_21 : decode cX5_countTombstones 21 = .ok (.if_icmp .ge 23, 3) := by decide +kernel
theorem dX5_countTombstones_24 : decode cX5_countTombstones 24 = .ok (.aload_n 0, 1) := by decide +kernel
theorem dX5_countTombstones_25 : decode cX5_countTombstones 25 = .ok (.getfield 21, 3) := by decide +kernel
theorem dX5_countTombstones_28 : decode cX5_countTombstones 28 = .ok (.iload 5, 2) := by decide +kernel
theorem dX5_countTombstones_30 : decode cX5_countTombstones 30 = .ok (.iaload, 1) := by decide +kernel
theorem dX5_countTombstones_31 : decode cX5_countTombstones 31 = .ok (.iconst (-1), 1) := by decide +kernel
theorem dX5_countTombstones_32 : decode cX5_countTombstones 32 = .ok (.if_icmp .eq 6, 3) := by decide +kernel
theorem dX5_countTombstones_35 : decode cX5_countTombstones 35 = .ok (.iinc 4 1, 3) := by decide +kernel
theorem dX5_countTombstones_38 : decode cX5_countTombstones 38 = .ok (.iinc 5 1, 3) := by decide +kernel
theorem dX5_countTombstones_41 : decode cX5_countTombstones 41 = .ok (.goto (-23), 3) := by decide +kernel
theorem dX5_countTombstones_44 : decode cX5_countTombstones 44 = .ok (.iload 4, 2) := by decide +kernel
theorem dX5_countTombstones_46 : decode cX5_countTombstones 46 = .ok (.ireturn, 1) := by decide +kernel
set_option maxRecDepth 20000 in
theorem ggX5_rowSum_X5_tombstonePart : GoodIn wsX5_rowSum wsX5_tombstonePart := goodIn_r _ [7, 8, 9, 31, 32, 33, 34, 35, 36] (by decide +kernel) (by decide +kernel)
set_option maxRecDepth 20000 in
theorem gX5_rowSum_X5_tombstonePart : GoodIn wsX5_rowSum (wsV RX5 106 RX5 yX5_tombstonePart wsX5_tombstonePart) := goodIn_app (goodIn_of _ (by decide +kernel)) ggX5_rowSum_X5_tombstonePart
set_option maxRecDepth 20000 in
theorem ggX5_rowSum_X7_cellAt : GoodIn wsX5_rowSum wsX7_cellAt := goodIn_r _ [12] (by decide +kernel) (by decide +kernel)
set_option maxRecDepth 20000 in
theorem gX5_rowSum_X7_cellAt_n53 : GoodIn wsX5_rowSum (wsX7_cellAt) := ggX5_rowSum_X7_cellAt
set_option maxRecDepth 20000 in
theorem ggX5_rowSum_X5_entryPart : GoodIn wsX5_rowSum wsX5_entryPart := goodIn_r _ [16, 17, 18, 19, 31, 32, 33, 34, 35, 36] (by decide +kernel) (by decide +kernel)
set_option maxRecDepth 20000 in
theorem gX5_rowSum_X5_entryPart : GoodIn wsX5_rowSum (wsV RX5 109 RX5 yX5_entryPart wsX5_entryPart) := goodIn_app (goodIn_of _ (by decide +kernel)) ggX5_rowSum_X5_entryPart
set_option maxRecDepth 20000 in
theorem ggX5_rowSum_X4_has : GoodIn wsX5_rowSum wsX4_has := goodIn_r _ [24, 25, 26, 37, 38] (by decide +kernel) (by decide +kernel)
set_option maxRecDepth 20000 in
theorem gX5_rowSum_X4_has : GoodIn wsX5_rowSum (wsV RX5 57 RX4 yX4_has wsX4_has) := goodIn_app (goodIn_of _ (by decide +kernel)) ggX5_rowSum_X4_has
set_option maxRecDepth 20000 in
theorem ggX5_rowSum_X4_partOfSum : GoodIn wsX5_rowSum wsX4_partOfSum := goodIn_r _ [30, 25, 26, 37, 38] (by decide +kernel) (by decide +kernel)
set_option maxRecDepth 20000 in
theorem gX5_rowSum_X4_partOfSum : GoodIn wsX5_rowSum (wsV RX5 112 RX4 yX4_partOfSum wsX4_partOfSum) := goodIn_app (goodIn_of _ (by decide +kernel)) ggX5_rowSum_X4_partOfSum
theorem dX5_rowSum_0 : decode cX5_rowSum 0 = .ok (.aload_n 0, 1) := by decide +kernel
theorem dX5_rowSum_1 : decode cX5_rowSum 1 = .ok (.bipush 68, 2) := by decide +kernel
theorem dX5_rowSum_3 : decode cX5_rowSum 3 = .ok (.iload_n 1, 1) := by decide +kernel
theorem dX5_rowSum_4 : decode cX5_rowSum 4 = .ok (.iadd, 1) := by decide +kernel
theorem dX5_rowSum_5 : decode cX5_rowSum 5 = .ok (.bipush 7, 2) := by decide +kernel
theorem dX5_rowSum_7 : decode cX5_rowSum 7 = .ok (.invokevirtual 106, 3) := by decide +kernel
theorem dX5_rowSum_10 : decode cX5_rowSum 10 = .ok (.istore_n 2, 1) := by decide +kernel
theorem dX5_rowSum_11 : decode cX5_rowSum 11 = .ok (.iconst 0, 1) := by decide +kernel
theorem dX5_rowSum_12 : decode cX5_rowSum 12 = .ok (.istore_n 3, 1) := by decide +kernel
theorem dX5_rowSum_13 : decode cX5_rowSum 13 = .ok (.iload_n 3, 1) := by decide +kernel
theorem dX5_rowSum_14 : decode cX5_rowSum 14 = .ok (.iconst 4, 1) := by decide +kernel
theorem dX5_rowSum_15 : decode cX5_rowSum 15 = .ok (.if_icmp .ge 52, 3) := by decide +kernel
theorem dX5_rowSum_18 : decode cX5_rowSum 18 = .ok (.iload_n 1, 1) := by decide +kernel
theorem dX5_rowSum_19 : decode cX5_rowSum 19 = .ok (.iload_n 3, 1) := by decide +kernel
theorem dX5_rowSum_20 : decode cX5_rowSum 20 = .ok (.invokestatic 53, 3) := by decide +kernel
theorem dX5_rowSum_23 : decode cX5_rowSum 23 = .ok (.istore 4, 2) := by decide +kernel
theorem dX5_rowSum_25 : decode cX5_rowSum 25 = .ok (.iload_n 2, 1) := by decide +kernel
theorem dX5_rowSum_26 : decode cX5_rowSum 26 = .ok (.aload_n 0, 1) := by decide +kernel
theorem dX5_rowSum_27 : decode cX5_rowSum 27 = .ok (.iload 4, 2) := by decide +kernel
theorem dX5_rowSum_29 : decode cX5_rowSum 29 = .ok (.iload_n 3, 1) := by decide +kernel
theorem dX5_rowSum_30 : decode cX5_rowSum 30 = .ok (.invokevirtual 109, 3) := by decide +kernel
theorem dX5_rowSum_33 : decode cX5_rowSum 33 = .ok (.iadd, 1) := by decide +kernel
theorem dX5_rowSum_34 : decode cX5_rowSum 34 = .ok (.istore_n 2, 1) := by decide +kernel
theorem dX5_rowSum_35 : decode cX5_rowSum 35 = .ok (.iload_n 2, 1) := by decide +kernel
theorem dX5_rowSum_36 : decode cX5_rowSum 36 = .ok (.aload_n 0, 1) := by decide +kernel
theorem dX5_rowSum_37 : decode cX5_rowSum 37 = .ok (.iload 4, 2) := by decide +kernel
theorem dX5_rowSum_39 : decode cX5_rowSum 39 = .ok (.iconst 3, 1) := by decide +kernel
theorem dX5_rowSum_40 : decode cX5_rowSum 40 = .ok (.iload_n 3, 1) := by decide +kernel
theorem dX5_rowSum_41 : decode cX5_rowSum 41 = .ok (.iadd, 1) := by decide +kernel
theorem dX5_rowSum_42 : decode cX5_rowSum 42 = .ok (.invokevirtual 106, 3) := by decide +kernel
theorem dX5_rowSum_45 : decode cX5_rowSum 45 = .ok (.iadd, 1) := by decide +kernel
theorem dX5_rowSum_46 : decode cX5_rowSum 46 = .ok (.istore_n 2, 1) := by decide +kernel
theorem dX5_rowSum_47 : decode cX5_rowSum 47 = .ok (.iload_n 2, 1) := by decide +kernel
theorem dX5_rowSum_48 : decode cX5_rowSum 48 = .ok (.aload_n 0, 1) := by decide +kernel
theorem dX5_rowSum_49 : decode cX5_rowSum 49 = .ok (.bipush 64, 2) := by decide +kernel
theorem dX5_rowSum_51 : decode cX5_rowSum 51 = .ok (.iload_n 3, 1) := by decide +kernel
theorem dX5_rowSum_52 : decode cX5_rowSum 52 = .ok (.iadd, 1) := by decide +kernel
theorem dX5_rowSum_53 : decode cX5_rowSum 53 = .ok (.iconst 5, 1) := by decide +kernel
theorem dX5_rowSum_54 : decode cX5_rowSum 54 = .ok (.iload_n 3, 1) := by decide +kernel
theorem dX5_rowSum_55 : decode cX5_rowSum 55 = .ok (.iadd, 1) := by decide +kernel
theorem dX5_rowSum_56 : decode cX5_rowSum 56 = .ok (.invokevirtual 106, 3) := by decide +kernel
theorem dX5_rowSum_59 : decode cX5_rowSum 59 = .ok (.iadd, 1) := by decide +kernel
theorem dX5_rowSum_60 : decode cX5_rowSum 60 = .ok (.istore_n 2, 1) := by decide +kernel
theorem dX5_rowSum_61 : decode cX5_rowSum 61 = .ok (.iinc 3 1, 3) := by decide +kernel
theorem dX5_rowSum_64 : decode cX5_rowSum 64 = .ok (.goto (-51), 3) := by decide +kernel
theorem dX5_rowSum_67 : decode cX5_rowSum 67 = .ok (.iconst 0, 1) := by decide +kernel
theorem dX5_rowSum_68 : decode cX5_rowSum 68 = .ok (.istore_n 3, 1) := by decide +kernel
theorem dX5_rowSum_69 : decode cX5_rowSum 69 = .ok (.iload_n 3, 1) := by decide +kernel
theorem dX5_rowSum_70 : decode cX5_rowSum 70 = .ok (.bipush 8, 2) := by decide +kernel
theorem dX5_rowSum_72 : decode cX5_rowSum 72 = .ok (.if_icmp .ge 43, 3) := by decide +kernel
theorem dX5_rowSum_75 : decode cX5_rowSum 75 = .ok (.aload_n 0, 1) := by decide +kernel
theorem dX5_rowSum_76 : decode cX5_rowSum 76 = .ok (.getfield 27, 3) := by decide +kernel
theorem dX5_rowSum_79 : decode cX5_rowSum 79 = .ok (.iload_n 3, 1) := by decide +kernel
theorem dX5_rowSum_80 : decode cX5_rowSum 80 = .ok (.iload_n 1, 1) := by decide +kernel
theorem dX5_rowSum_81 : decode cX5_rowSum 81 = .ok (.invokevirtual 57, 3) := by decide +kernel
theorem dX5_rowSum_84 : decode cX5_rowSum 84 = .ok (.ifCond .eq 25, 3) := by decide +kernel
theorem dX5_rowSum_87 : decode cX5_rowSum 87 = .ok (.iload_n 2, 1) := by decide +kernel
theorem dX5_rowSum_88 : decode cX5_rowSum 88 = .ok (.aload_n 0, 1) := by decide +kernel
theorem dX5_rowSum_89 : decode cX5_rowSum 89 = .ok (.bipush 84, 2) := by decide +kernel
theorem dX5_rowSum_91 : decode cX5_rowSum 91 = .ok (.iload_n 3, 1) := by decide +kernel
theorem dX5_rowSum_92 : decode cX5_rowSum 92 = .ok (.iadd, 1) := by decide +kernel
theorem dX5_rowSum_93 : decode cX5_rowSum 93 = .ok (.bipush 11, 2) := by decide +kernel
theorem dX5_rowSum_95 : decode cX5_rowSum 95 = .ok (.aload_n 0, 1) := by decide +kernel
theorem dX5_rowSum_96 : decode cX5_rowSum 96 = .ok (.getfield 27, 3) := by decide +kernel
theorem dX5_rowSum_99 : decode cX5_rowSum 99 = .ok (.iload_n 3, 1) := by decide +kernel
theorem dX5_rowSum_100 : decode cX5_rowSum 100 = .ok (.invokevirtual 112, 3) := by decide +kernel
theorem dX5_rowSum_103 : decode cX5_rowSum 103 = .ok (.iadd, 1) := by decide +kernel
theorem dX5_rowSum_104 : decode cX5_rowSum 104 = .ok (.invokevirtual 106, 3) := by decide +kernel
theorem dX5_rowSum_107 : decode cX5_rowSum 107 = .ok (.iadd, 1) := by decide +kernel
theorem dX5_rowSum_108 : decode cX5_rowSum 108 = .ok (.istore_n 2, 1) := by decide +kernel
theorem dX5_rowSum_109 : decode cX5_rowSum 109 = .ok (.iinc 3 1, 3) := by decide +kernel
theorem dX5_rowSum_112 : decode cX5_rowSum 112 = .ok (.goto (-43), 3) := by decide +kernel
theorem dX5_rowSum_115 : decode cX5_rowSum 115 = .ok (.iload_n 2, 1) := by decide +kernel
theorem dX5_rowSum_116 : decode cX5_rowSum 116 = .ok (.ldc 115, 2) := by decide +kernel
theorem dX5_rowSum_118 : decode cX5_rowSum 118 = .ok (.irem, 1) := by decide +kernel
theorem dX5_rowSum_119 : decode cX5_rowSum 119 = .ok (.ireturn, 1) := by decide +kernel
