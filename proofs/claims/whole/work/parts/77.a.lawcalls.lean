set_option maxRecDepth 20000 in
theorem ggL_write_X7_write : GoodIn wsL_write wsX7_write := goodIn_ca (goodIn_ca (goodIn_r _ [7, 8, 9, 10, 11, 12, 13, 6, 14, 15, 16, 17, 18, 19, 20, 21, 22, 23, 24, 25, 26, 27, 28, 29, 30, 31, 32, 33, 34, 35, 36, 37, 38, 39, 40, 41, 42, 43, 44, 45, 46, 47, 48, 49, 50, 51, 52, 53, 54, 55, 56, 57, 58, 59, 60, 61, 62, 63, 64, 65, 66, 67, 68, 69, 70, 71, 72, 73, 74, 75, 76, 77, 78, 79, 80, 81, 82, 83, 84, 85, 86, 87, 88, 89, 90, 91, 92, 93, 94, 95, 96, 97, 98, 99, 100, 101, 102, 103, 104, 105, 106, 107, 108, 109, 110, 111, 112, 113, 114, 115, 116, 117, 118, 119, 120, 121, 122, 123, 124, 125, 126, 127, 128, 129, 130, 131, 132, 133, 134, 135, 136, 137, 138, 139, 140, 141, 142, 143, 144, 145, 146, 147, 148, 149, 150, 151, 152, 153, 154, 155, 156, 157, 158, 159, 160, 161, 162, 163, 164, 165, 166, 167, 168, 169, 170, 171, 172, 173, 174, 175, 176, 177, 178, 179, 180, 181, 182, 183, 184, 185, 186, 187, 188, 189, 190, 191] (by decide +kernel) (by decide +kernel)) (goodIn_sub (fun _ h => List.mem_cons_of_mem _ (List.mem_append_left _ (List.mem_append_right _ h))) (by decide +kernel))) (goodIn_sub (fun _ h => List.mem_cons_of_mem _ (List.mem_append_right _ h)) (by decide +kernel))
set_option maxRecDepth 20000 in
theorem gL_write_X7_write : GoodIn wsL_write (wsV RL 7 RX7 yX7_write wsX7_write) := goodIn_app (goodIn_of _ (by decide +kernel)) ggL_write_X7_write
theorem dL_write_0 : decode cL_write 0 = .ok (.aload 7, 2) := by decide +kernel
theorem dL_write_2 : decode cL_write 2 = .ok (.iconst 0, 1) := by decide +kernel
theorem dL_write_3 : decode cL_write 3 = .ok (.aload_n 0, 1) := by decide +kernel
theorem dL_write_4 : decode cL_write 4 = .ok (.iload_n 1, 1) := by decide +kernel
theorem dL_write_5 : decode cL_write 5 = .ok (.iload_n 2, 1) := by decide +kernel
theorem dL_write_6 : decode cL_write 6 = .ok (.iload_n 3, 1) := by decide +kernel
theorem dL_write_7 : decode cL_write 7 = .ok (.iload 4, 2) := by decide +kernel
theorem dL_write_9 : decode cL_write 9 = .ok (.iload 5, 2) := by decide +kernel
theorem dL_write_11 : decode cL_write 11 = .ok (.iload 6, 2) := by decide +kernel
theorem dL_write_13 : decode cL_write 13 = .ok (.invokevirtual 7, 3) := by decide +kernel
theorem dL_write_16 : decode cL_write 16 = .ok (.i2l, 1) := by decide +kernel
theorem dL_write_17 : decode cL_write 17 = .ok (.lastore, 1) := by decide +kernel
theorem dL_write_18 : decode cL_write 18 = .ok (.goto 11, 3) := by decide +kernel
theorem dL_write_21 : decode cL_write 21 = .ok (.astore 8, 2) := by decide +kernel
theorem dL_write_23 : decode cL_write 23 = .ok (.iconst 1, 1) := by decide +kernel
theorem dL_write_24 : decode cL_write 24 = .ok (.ireturn, 1) := by decide +kernel
theorem dL_write_25 : decode cL_write 25 = .ok (.astore 8, 2) := by decide +kernel
theorem dL_write_27 : decode cL_write 27 = .ok (.iconst 2, 1) := by decide +kernel
theorem dL_write_28 : decode cL_write 28 = .ok (.ireturn, 1) := by decide +kernel
theorem dL_write_29 : decode cL_write 29 = .ok (.iconst 0, 1) := by decide +kernel
theorem dL_write_30 : decode cL_write 30 = .ok (.ireturn, 1) := by decide +kernel
set_option maxRecDepth 20000 in
theorem ggL_deleteCell_X7_deleteCell : GoodIn wsL_deleteCell wsX7_deleteCell := goodIn_ca (goodIn_ca (goodIn_r _ [7, 8, 9, 10, 11, 12, 13, 6, 14, 15, 16, 17, 18, 19, 20, 21, 22, 23, 24, 25, 26, 27, 28, 29, 30, 31, 32, 33, 34, 35, 36, 37, 38, 39, 40, 41, 42, 43, 44, 45, 46, 47, 48, 49, 50, 51, 52, 53, 54, 55, 56, 57, 58, 59, 60, 61, 62, 63, 64, 65, 66, 67, 68, 69, 70, 71, 72, 73, 74, 75, 76, 77, 78, 79, 80, 81, 82, 83, 84, 85, 86, 87, 88, 89, 90, 91, 92, 93, 94, 95, 96, 97, 98, 99, 100, 101, 102, 103, 104, 105, 106, 107, 108, 109, 110, 111, 112, 113, 114, 115, 116, 117, 118, 119, 120, 121, 122, 123, 124, 125, 126, 127, 128, 129, 130, 131, 132, 133, 134, 135, 136, 137, 138, 139, 140, 141, 142, 143, 144, 145, 146, 147, 148, 149, 150, 151, 152, 153, 154, 155, 156, 157, 158, 159, 160, 161, 162, 163, 164, 165, 166, 167, 168, 169, 170, 171, 172, 173, 174, 175, 176, 177, 178, 179, 180, 181, 182, 183, 184, 185, 186, 187, 188, 189, 190, 191, 192, 193, 194] (by decide +kernel) (by decide +kernel)) (goodIn_sub (fun _ h => List.mem_cons_of_mem _ (List.mem_append_left _ (List.mem_append_right _ h))) (by decide +kernel))) (goodIn_sub (fun _ h => List.mem_cons_of_mem _ (List.mem_append_right _ h)) (by decide +kernel))
set_option maxRecDepth 20000 in
theorem gL_deleteCell_X7_deleteCell : GoodIn wsL_deleteCell (wsV RL 17 RX7 yX7_deleteCell wsX7_deleteCell) := goodIn_app (goodIn_of _ (by decide +kernel)) ggL_deleteCell_X7_deleteCell
theorem dL_deleteCell_0 : decode cL_deleteCell 0 = .ok (.aload 5, 2) := by decide +kernel
theorem dL_deleteCell_2 : decode cL_deleteCell 2 = .ok (.iconst 0, 1) := by decide +kernel
theorem dL_deleteCell_3 : decode cL_deleteCell 3 = .ok (.aload_n 0, 1) := by decide +kernel
theorem dL_deleteCell_4 : decode cL_deleteCell 4 = .ok (.iload_n 1, 1) := by decide +kernel
theorem dL_deleteCell_5 : decode cL_deleteCell 5 = .ok (.iload_n 2, 1) := by decide +kernel
theorem dL_deleteCell_6 : decode cL_deleteCell 6 = .ok (.iload_n 3, 1) := by decide +kernel
theorem dL_deleteCell_7 : decode cL_deleteCell 7 = .ok (.iload 4, 2) := by decide +kernel
theorem dL_deleteCell_9 : decode cL_deleteCell 9 = .ok (.invokevirtual 17, 3) := by decide +kernel
theorem dL_deleteCell_12 : decode cL_deleteCell 12 = .ok (.i2l, 1) := by decide +kernel
theorem dL_deleteCell_13 : decode cL_deleteCell 13 = .ok (.lastore, 1) := by decide +kernel
theorem dL_deleteCell_14 : decode cL_deleteCell 14 = .ok (.goto 11, 3) := by decide +kernel
theorem dL_deleteCell_17 : decode cL_deleteCell 17 = .ok (.astore 6, 2) := by decide +kernel
theorem dL_deleteCell_19 : decode cL_deleteCell 19 = .ok (.iconst 1, 1) := by decide +kernel
theorem dL_deleteCell_20 : decode cL_deleteCell 20 = .ok (.ireturn, 1) := by decide +kernel
theorem dL_deleteCell_21 : decode cL_deleteCell 21 = .ok (.astore 6, 2) := by decide +kernel
theorem dL_deleteCell_23 : decode cL_deleteCell 23 = .ok (.iconst 2, 1) := by decide +kernel
theorem dL_deleteCell_24 : decode cL_deleteCell 24 = .ok (.ireturn, 1) := by decide +kernel
theorem dL_deleteCell_25 : decode cL_deleteCell 25 = .ok (.iconst 0, 1) := by decide +kernel
theorem dL_deleteCell_26 : decode cL_deleteCell 26 = .ok (.ireturn, 1) := by decide +kernel
set_option maxRecDepth 20000 in
theorem ggL_deleteColumn_X7_deleteColumn : GoodIn wsL_deleteColumn wsX7_deleteColumn := goodIn_ca (goodIn_ca (goodIn_r _ [7, 8, 9, 10, 11, 12, 13, 6, 14, 15, 16, 17, 18, 19, 20, 21, 22, 23, 24, 25, 26, 27, 28, 29, 30, 31, 32, 33, 34, 35, 36, 37, 38, 39, 40, 41, 42, 43, 44, 45, 46, 47, 48, 49, 50, 51, 52, 53, 54, 55, 56, 57, 58, 59, 60, 61, 62, 63, 64, 65, 66, 67, 68, 69, 70, 71, 72, 73, 74, 75, 76, 77, 78, 79, 80, 81, 82, 83, 84, 85, 86, 87, 88, 89, 90, 91, 92, 93, 94, 95, 96, 97, 98, 99, 100, 101, 102, 103, 104, 105, 106, 107, 108, 109, 110, 111, 112, 113, 114, 115, 116, 117, 118, 119, 120, 121, 122, 123, 124, 125, 126, 127, 128, 129, 130, 131, 132, 133, 134, 135, 136, 137, 138, 139, 140, 141, 142, 143, 144, 145, 146, 147, 148, 149, 150, 151, 152, 153, 154, 155, 156, 157, 158, 159, 160, 161, 162, 163, 164, 165, 166, 167, 168, 169, 170, 171, 172, 173, 174, 175, 176, 177, 178, 179, 180, 181, 182, 183, 184, 185, 186, 187, 188] (by decide +kernel) (by decide +kernel)) (goodIn_sub (fun _ h => List.mem_cons_of_mem _ (List.mem_append_left _ (List.mem_append_right _ h))) (by decide +kernel))) (goodIn_sub (fun _ h => List.mem_cons_of_mem _ (List.mem_append_right _ h)) (by decide +kernel))
set_option maxRecDepth 20000 in
theorem gL_deleteColumn_X7_deleteColumn : GoodIn wsL_deleteColumn (wsV RL 21 RX7 yX7_deleteColumn wsX7_deleteColumn) := goodIn_app (goodIn_of _ (by decide +kernel)) ggL_deleteColumn_X7_deleteColumn
theorem dL_deleteColumn_0 : decode cL_deleteColumn 0 = .ok (.aload 4, 2) := by decide +kernel
theorem dL_deleteColumn_2 : decode cL_deleteColumn 2 = .ok (.iconst 0, 1) := by decide +kernel
theorem dL_deleteColumn_3 : decode cL_deleteColumn 3 = .ok (.aload_n 0, 1) := by decide +kernel
theorem dL_deleteColumn_4 : decode cL_deleteColumn 4 = .ok (.iload_n 1, 1) := by decide +kernel
theorem dL_deleteColumn_5 : decode cL_deleteColumn 5 = .ok (.iload_n 2, 1) := by decide +kernel
theorem dL_deleteColumn_6 : decode cL_deleteColumn 6 = .ok (.iload_n 3, 1) := by decide +kernel
theorem dL_deleteColumn_7 : decode cL_deleteColumn 7 = .ok (.invokevirtual 21, 3) := by decide +kernel
theorem dL_deleteColumn_10 : decode cL_deleteColumn 10 = .ok (.i2l, 1) := by decide +kernel
theorem dL_deleteColumn_11 : decode cL_deleteColumn 11 = .ok (.lastore, 1) := by decide +kernel
theorem dL_deleteColumn_12 : decode cL_deleteColumn 12 = .ok (.goto 11, 3) := by decide +kernel
theorem dL_deleteColumn_15 : decode cL_deleteColumn 15 = .ok (.astore 5, 2) := by decide +kernel
theorem dL_deleteColumn_17 : decode cL_deleteColumn 17 = .ok (.iconst 1, 1) := by decide +kernel
theorem dL_deleteColumn_18 : decode cL_deleteColumn 18 = .ok (.ireturn, 1) := by decide +kernel
theorem dL_deleteColumn_19 : decode cL_deleteColumn 19 = .ok (.astore 5, 2) := by decide +kernel
theorem dL_deleteColumn_21 : decode cL_deleteColumn 21 = .ok (.iconst 2, 1) := by decide +kernel
theorem dL_deleteColumn_22 : decode cL_deleteColumn 22 = .ok (.ireturn, 1) := by decide +kernel
theorem dL_deleteColumn_23 : decode cL_deleteColumn 23 = .ok (.iconst 0, 1) := by decide +kernel
theorem dL_deleteColumn_24 : decode cL_deleteColumn 24 = .ok (.ireturn, 1) := by decide +kernel
set_option maxRecDepth 20000 in
theorem ggL_deleteRow_X7_deleteRow : GoodIn wsL_deleteRow wsX7_deleteRow := goodIn_ca (goodIn_ca (goodIn_r _ [7, 8, 9, 10, 11, 12, 13, 6, 14, 15, 16, 17, 18, 19, 20, 21, 22, 23, 24, 25, 26, 27, 28, 29, 30, 31, 32, 33, 34, 35, 36, 37, 38, 39, 40, 41, 42, 43, 44, 45, 46, 47, 48, 49, 50, 51, 52, 53, 54, 55, 56, 57, 58, 59, 60, 61, 62, 63, 64, 65, 66, 67, 68, 69, 70, 71, 72, 73, 74, 75, 76, 77, 78, 79, 80, 81, 82, 83, 84, 85, 86, 87, 88, 89, 90, 91, 92, 93, 94, 95, 96, 97, 98, 99, 100, 101, 102, 103, 104, 105, 106, 107, 108, 109, 110, 111, 112, 113, 114, 115, 116, 117, 118, 119, 120, 121, 122, 123, 124, 125, 126, 127, 128, 129, 130, 131, 132, 133, 134, 135, 136, 137, 138, 139, 140, 141, 142, 143, 144, 145, 146, 147, 148, 149, 150, 151, 152, 153, 154, 155, 156, 157, 158, 159, 160, 161, 162, 163, 164, 165, 166, 167, 168, 169, 170, 171, 172, 173, 174, 175, 176, 177, 178, 179, 180, 181, 182, 183, 184, 185, 186, 187, 188] (by decide +kernel) (by decide +kernel)) (goodIn_sub (fun _ h => List.mem_cons_of_mem _ (List.mem_append_left _ (List.mem_append_right _ h))) (by decide +kernel))) (goodIn_sub (fun _ h => List.mem_cons_of_mem _ (List.mem_append_right _ h)) (by decide +kernel))
set_option maxRecDepth 20000 in
theorem gL_deleteRow_X7_deleteRow : GoodIn wsL_deleteRow (wsV RL 25 RX7 yX7_deleteRow wsX7_deleteRow) := goodIn_app (goodIn_of _ (by decide +kernel)) ggL_deleteRow_X7_deleteRow
theorem dL_deleteRow_0 : decode cL_deleteRow 0 = .ok (.aload 4, 2) := by decide +kernel
theorem dL_deleteRow_2 : decode cL_deleteRow 2 = .ok (.iconst 0, 1) := by decide +kernel
theorem dL_deleteRow_3 : decode cL_deleteRow 3 = .ok (.aload_n 0, 1) := by decide +kernel
theorem dL_deleteRow_4 : decode cL_deleteRow 4 = .ok (.iload_n 1, 1) := by decide +kernel
theorem dL_deleteRow_5 : decode cL_deleteRow 5 = .ok (.iload_n 2, 1) := by decide +kernel
theorem dL_deleteRow_6 : decode cL_deleteRow 6 = .ok (.iload_n 3, 1) := by decide +kernel
theorem dL_deleteRow_7 : decode cL_deleteRow 7 = .ok (.invokevirtual 25, 3) := by decide +kernel
theorem dL_deleteRow_10 : decode cL_deleteRow 10 = .ok (.i2l, 1) := by decide +kernel
theorem dL_deleteRow_11 : decode cL_deleteRow 11 = .ok (.lastore, 1) := by decide +kernel
theorem dL_deleteRow_12 : decode cL_deleteRow 12 = .ok (.goto 11, 3) := by decide +kernel
theorem dL_deleteRow_15 : decode cL_deleteRow 15 = .ok (.astore 5, 2) := by decide +kernel
theorem dL_deleteRow_17 : decode cL_deleteRow 17 = .ok (.iconst 1, 1) := by decide +kernel
theorem dL_deleteRow_18 : decode cL_deleteRow 18 = .ok (.ireturn, 1) := by decide +kernel
theorem dL_deleteRow_19 : decode cL_deleteRow 19 = .ok (.astore 5, 2) := by decide +kernel
theorem dL_deleteRow_21 : decode cL_deleteRow 21 = .ok (.iconst 2, 1) := by decide +kernel
theorem dL_deleteRow_22 : decode cL_deleteRow 22 = .ok (.ireturn, 1) := by decide +kernel
theorem dL_deleteRow_23 : decode cL_deleteRow 23 = .ok (.iconst 0, 1) := by decide +kernel
theorem dL_deleteRow_24 : decode cL_deleteRow 24 = .ok (.ireturn, 1) := by decide +kernel
set_option maxRecDepth 20000 in
theorem ggL_deleteRange_X7_deleteRange : GoodIn wsL_deleteRange wsX7_deleteRange := goodIn_ca (goodIn_ca (goodIn_ca (goodIn_r _ [8, 9, 10, 11, 12, 13, 14, 15, 7, 16, 17, 18, 19, 20, 21, 22, 23, 24, 25, 26, 27, 28, 29, 30, 31, 32, 33, 34, 35, 36, 37, 38, 39, 40, 41, 42, 43, 44, 45, 46, 47, 48, 49, 50, 51, 52, 53, 54, 55, 56, 57, 58, 59, 60, 61, 62, 63, 64, 65, 66, 67, 68, 69, 70, 71, 72, 73, 74, 75, 76, 77, 78, 79, 80, 81, 82, 83, 84, 85, 86, 87, 88, 89, 90, 91, 92, 93, 94, 95, 96, 97, 98, 99, 100, 101, 102, 103, 104, 105, 106, 107, 108, 109, 110, 111, 112, 113, 114, 115, 116, 117, 118, 119, 120, 121, 122, 123, 124, 125, 126, 127, 128, 129, 130, 131, 132, 133, 134, 135, 136, 137, 138, 139, 140, 141, 142, 143, 144, 145, 146, 147, 148, 149, 150, 151, 152, 153, 154, 155, 156, 157, 158, 159, 160, 161, 162, 163, 164, 165, 166, 167, 168, 169, 170, 171, 172, 173, 174, 175, 176, 177, 178, 179, 180, 181, 182, 183, 184, 185, 186, 187, 188, 189, 190, 191, 192, 193, 194, 195, 196, 197, 198, 199, 200, 201, 202, 203, 204] (by decide +kernel) (by decide +kernel)) (goodIn_sub (fun _ h => List.mem_cons_of_mem _ (List.mem_append_left _ (List.mem_append_left _ (List.mem_append_right _ h)))) (by decide +kernel))) (goodIn_sub (fun _ h => List.mem_cons_of_mem _ (List.mem_append_left _ (List.mem_append_right _ h))) (by decide +kernel))) (goodIn_sub (fun _ h => List.mem_cons_of_mem _ (List.mem_append_right _ h)) (by decide +kernel))
set_option maxRecDepth 20000 in
theorem gL_deleteRange_X7_deleteRange : GoodIn wsL_deleteRange (wsV RL 28 RX7 yX7_deleteRange wsX7_deleteRange) := goodIn_app (goodIn_of _ (by decide +kernel)) ggL_deleteRange_X7_deleteRange
theorem dL_deleteRange_0 : decode cL_deleteRange 0 = .ok (.aload 5, 2) := by decide +kernel
theorem dL_deleteRange_2 : decode cL_deleteRange 2 = .ok (.iconst 0, 1) := by decide +kernel
theorem dL_deleteRange_3 : decode cL_deleteRange 3 = .ok (.aload_n 0, 1) := by decide +kernel
theorem dL_deleteRange_4 : decode cL_deleteRange 4 = .ok (.iload_n 1, 1) := by decide +kernel
theorem dL_deleteRange_5 : decode cL_deleteRange 5 = .ok (.iload_n 2, 1) := by decide +kernel
theorem dL_deleteRange_6 : decode cL_deleteRange 6 = .ok (.iload_n 3, 1) := by decide +kernel
theorem dL_deleteRange_7 : decode cL_deleteRange 7 = .ok (.iload 4, 2) := by decide +kernel
theorem dL_deleteRange_9 : decode cL_deleteRange 9 = .ok (.invokevirtual 28, 3) := by decide +kernel
theorem dL_deleteRange_12 : decode cL_deleteRange 12 = .ok (.i2l, 1) := by decide +kernel
theorem dL_deleteRange_13 : decode cL_deleteRange 13 = .ok (.lastore, 1) := by decide +kernel
theorem dL_deleteRange_14 : decode cL_deleteRange 14 = .ok (.goto 15, 3) := by decide +kernel
theorem dL_deleteRange_17 : decode cL_deleteRange 17 = .ok (.astore 6, 2) := by decide +kernel
theorem dL_deleteRange_19 : decode cL_deleteRange 19 = .ok (.iconst 1, 1) := by decide +kernel
theorem dL_deleteRange_20 : decode cL_deleteRange 20 = .ok (.ireturn, 1) := by decide +kernel
theorem dL_deleteRange_21 : decode cL_deleteRange 21 = .ok (.astore 6, 2) := by decide +kernel
theorem dL_deleteRange_23 : decode cL_deleteRange 23 = .ok (.iconst 2, 1) := by decide +kernel
theorem dL_deleteRange_24 : decode cL_deleteRange 24 = .ok (.ireturn, 1) := by decide +kernel
theorem dL_deleteRange_25 : decode cL_deleteRange 25 = .ok (.astore 6, 2) := by decide +kernel
theorem dL_deleteRange_27 : decode cL_deleteRange 27 = .ok (.iconst 3, 1) := by decide +kernel
theorem dL_deleteRange_28 : decode cL_deleteRange 28 = .ok (.ireturn, 1) := by decide +kernel
theorem dL_deleteRange_29 : decode cL_deleteRange 29 = .ok (.iconst 0, 1) := by decide +kernel
theorem dL_deleteRange_30 : decode cL_deleteRange 30 = .ok (.ireturn, 1) := by decide +kernel
set_option maxRecDepth 20000 in
theorem ggL_setUp_X7_setUp : GoodIn wsL_setUp wsX7_setUp := goodIn_ca (goodIn_r _ [6, 7, 8, 9, 5, 10, 11, 12, 13, 14, 15, 16, 17, 18, 19, 20, 21, 22, 23, 24, 25, 26, 27, 28, 29, 30, 31, 32, 33, 34, 35, 36, 37, 38, 39, 40, 41, 42, 43, 44, 45, 46, 47, 48, 49, 50, 51, 52, 53, 54, 55, 56, 57, 58, 59, 60, 61, 62, 63, 64, 65, 66, 67, 68, 69, 70, 71, 72, 73, 74, 75, 76, 77, 78, 79, 80, 81, 82, 83, 84, 85, 86, 87, 88, 89, 90, 91, 92, 93, 94, 95, 96, 97, 98, 99, 100, 101, 102, 103, 104, 105, 106, 107, 108, 109, 110, 111, 112, 113, 114, 115, 116, 117, 118, 119, 120, 121, 122, 123, 124, 125, 126, 127, 128, 129, 130, 131, 132, 133, 134, 135, 136, 137] (by decide +kernel) (by decide +kernel)) (goodIn_sub (fun _ h => List.mem_cons_of_mem _ (List.mem_append_right _ h)) (by decide +kernel))
set_option maxRecDepth 20000 in
theorem gL_setUp_X7_setUp : GoodIn wsL_setUp (wsV RL 33 RX7 yX7_setUp wsX7_setUp) := goodIn_app (goodIn_of _ (by decide +kernel)) ggL_setUp_X7_setUp
theorem dL_setUp_0 : decode cL_setUp 0 = .ok (.aload_n 3, 1) := by decide +kernel
theorem dL_setUp_1 : decode cL_setUp 1 = .ok (.iconst 0, 1) := by decide +kernel
theorem dL_setUp_2 : decode cL_setUp 2 = .ok (.aload_n 0, 1) := by decide +kernel
theorem dL_setUp_3 : decode cL_setUp 3 = .ok (.iload_n 1, 1) := by decide +kernel
theorem dL_setUp_4 : decode cL_setUp 4 = .ok (.iload_n 2, 1) := by decide +kernel
theorem dL_setUp_5 : decode cL_setUp 5 = .ok (.invokevirtual 33, 3) := by decide +kernel
theorem dL_setUp_8 : decode cL_setUp 8 = .ok (.i2l, 1) := by decide +kernel
theorem dL_setUp_9 : decode cL_setUp 9 = .ok (.lastore, 1) := by decide +kernel
theorem dL_setUp_10 : decode cL_setUp 10 = .ok (.goto 7, 3) := by decide +kernel
theorem dL_setUp_13 : decode cL_setUp 13 = .ok (.astore 4, 2) := by decide +kernel
theorem dL_setUp_15 : decode cL_setUp 15 = .ok (.iconst 1, 1) := by decide +kernel
theorem dL_setUp_16 : decode cL_setUp 16 = .ok (.ireturn, 1) := by decide +kernel
theorem dL_setUp_17 : decode cL_setUp 17 = .ok (.iconst 0, 1) := by decide +kernel
theorem dL_setUp_18 : decode cL_setUp 18 = .ok (.ireturn, 1) := by decide +kernel
set_option maxRecDepth 20000 in
theorem ggL_loseHints_X7_loseHints : GoodIn wsL_loseHints wsX7_loseHints := goodIn_ca (goodIn_r _ [6, 7, 8, 9, 5, 10, 11, 12, 13, 14, 15, 16, 17, 18, 19, 20, 21, 22, 23, 24, 25, 26, 27, 28, 29, 30, 31, 32, 33, 34, 35, 36, 37, 38, 39, 40, 41, 42, 43, 44, 45, 46, 47, 48, 49, 50, 51] (by decide +kernel) (by decide +kernel)) (goodIn_sub (fun _ h => List.mem_cons_of_mem _ (List.mem_append_right _ h)) (by decide +kernel))
set_option maxRecDepth 20000 in
theorem gL_loseHints_X7_loseHints : GoodIn wsL_loseHints (wsV RL 37 RX7 yX7_loseHints wsX7_loseHints) := goodIn_app (goodIn_of _ (by decide +kernel)) ggL_loseHints_X7_loseHints
theorem dL_loseHints_0 : decode cL_loseHints 0 = .ok (.aload_n 2, 1) := by decide +kernel
theorem dL_loseHints_1 : decode cL_loseHints 1 = .ok (.iconst 0, 1) := by decide +kernel
theorem dL_loseHints_2 : decode cL_loseHints 2 = .ok (.aload_n 0, 1) := by decide +kernel
theorem dL_loseHints_3 : decode cL_loseHints 3 = .ok (.iload_n 1, 1) := by decide +kernel
theorem dL_loseHints_4 : decode cL_loseHints 4 = .ok (.invokevirtual 37, 3) := by decide +kernel
theorem dL_loseHints_7 : decode cL_loseHints 7 = .ok (.i2l, 1) := by decide +kernel
theorem dL_loseHints_8 : decode cL_loseHints 8 = .ok (.lastore, 1) := by decide +kernel
theorem dL_loseHints_9 : decode cL_loseHints 9 = .ok (.goto 6, 3) := by decide +kernel
theorem dL_loseHints_12 : decode cL_loseHints 12 = .ok (.astore_n 3, 1) := by decide +kernel
theorem dL_loseHints_13 : decode cL_loseHints 13 = .ok (.iconst 1, 1) := by decide +kernel
theorem dL_loseHints_14 : decode cL_loseHints 14 = .ok (.ireturn, 1) := by decide +kernel
theorem dL_loseHints_15 : decode cL_loseHints 15 = .ok (.iconst 0, 1) := by decide +kernel
theorem dL_loseHints_16 : decode cL_loseHints 16 = .ok (.ireturn, 1) := by decide +kernel
set_option maxRecDepth 20000 in
theorem ggL_pass_X7_pass : GoodIn wsL_pass wsX7_pass := goodIn_ca (goodIn_ca (goodIn_r _ [7, 8, 9, 10, 6, 11, 12, 13, 14, 15, 16, 17, 18, 19, 20, 21, 22, 23, 24, 25] (by decide +kernel) (by decide +kernel)) (goodIn_sub (fun _ h => List.mem_cons_of_mem _ (List.mem_append_left _ (List.mem_append_right _ h))) (by decide +kernel))) (goodIn_sub (fun _ h => List.mem_cons_of_mem _ (List.mem_append_right _ h)) (by decide +kernel))
set_option maxRecDepth 20000 in
theorem gL_pass_X7_pass : GoodIn wsL_pass (wsV RL 41 RX7 yX7_pass wsX7_pass) := goodIn_app (goodIn_of _ (by decide +kernel)) ggL_pass_X7_pass
theorem dL_pass_0 : decode cL_pass 0 = .ok (.aload_n 2, 1) := by decide +kernel
theorem dL_pass_1 : decode cL_pass 1 = .ok (.iconst 0, 1) := by decide +kernel
theorem dL_pass_2 : decode cL_pass 2 = .ok (.aload_n 0, 1) := by decide +kernel
theorem dL_pass_3 : decode cL_pass 3 = .ok (.iload_n 1, 1) := by decide +kernel
theorem dL_pass_4 : decode cL_pass 4 = .ok (.invokevirtual 41, 3) := by decide +kernel
theorem dL_pass_7 : decode cL_pass 7 = .ok (.i2l, 1) := by decide +kernel
theorem dL_pass_8 : decode cL_pass 8 = .ok (.lastore, 1) := by decide +kernel
theorem dL_pass_9 : decode cL_pass 9 = .ok (.goto 9, 3) := by decide +kernel
theorem dL_pass_12 : decode cL_pass 12 = .ok (.astore_n 3, 1) := by decide +kernel
theorem dL_pass_13 : decode cL_pass 13 = .ok (.iconst 1, 1) := by decide +kernel
theorem dL_pass_14 : decode cL_pass 14 = .ok (.ireturn, 1) := by decide +kernel
theorem dL_pass_15 : decode cL_pass 15 = .ok (.astore_n 3, 1) := by decide +kernel
theorem dL_pass_16 : decode cL_pass 16 = .ok (.iconst 2, 1) := by decide +kernel
theorem dL_pass_17 : decode cL_pass 17 = .ok (.ireturn, 1) := by decide +kernel
theorem dL_pass_18 : decode cL_pass 18 = .ok (.iconst 0, 1) := by decide +kernel
theorem dL_pass_19 : decode cL_pass 19 = .ok (.ireturn, 1) := by decide +kernel
set_option maxRecDepth 20000 in
theorem ggL_setGrace_X7_setGrace : GoodIn wsL_setGrace wsX7_setGrace := goodIn_ca (goodIn_r _ [6, 7, 8, 9, 5, 10, 11, 12, 13, 14, 15, 16, 17, 18, 19, 20, 21, 22] (by decide +kernel) (by decide +kernel)) (goodIn_sub (fun _ h => List.mem_cons_of_mem _ (List.mem_append_right _ h)) (by decide +kernel))
set_option maxRecDepth 20000 in
theorem gL_setGrace_X7_setGrace : GoodIn wsL_setGrace (wsV RL 44 RX7 yX7_setGrace wsX7_setGrace) := goodIn_app (goodIn_of _ (by decide +kernel)) ggL_setGrace_X7_setGrace
theorem dL_setGrace_0 : decode cL_setGrace 0 = .ok (.aload_n 2, 1) := by decide +kernel
theorem dL_setGrace_1 : decode cL_setGrace 1 = .ok (.iconst 0, 1) := by decide +kernel
theorem dL_setGrace_2 : decode cL_setGrace 2 = .ok (.aload_n 0, 1) := by decide +kernel
theorem dL_setGrace_3 : decode cL_setGrace 3 = .ok (.iload_n 1, 1) := by decide +kernel
theorem dL_setGrace_4 : decode cL_setGrace 4 = .ok (.invokevirtual 44, 3) := by decide +kernel
theorem dL_setGrace_7 : decode cL_setGrace 7 = .ok (.i2l, 1) := by decide +kernel
theorem dL_setGrace_8 : decode cL_setGrace 8 = .ok (.lastore, 1) := by decide +kernel
theorem dL_setGrace_9 : decode cL_setGrace 9 = .ok (.goto 6, 3) := by decide +kernel
theorem dL_setGrace_12 : decode cL_setGrace 12 = .ok (.astore_n 3, 1) := by decide +kernel
theorem dL_setGrace_13 : decode cL_setGrace 13 = .ok (.iconst 1, 1) := by decide +kernel
theorem dL_setGrace_14 : decode cL_setGrace 14 = .ok (.ireturn, 1) := by decide +kernel
theorem dL_setGrace_15 : decode cL_setGrace 15 = .ok (.iconst 0, 1) := by decide +kernel
theorem dL_setGrace_16 : decode cL_setGrace 16 = .ok (.ireturn, 1) := by decide +kernel
set_option maxRecDepth 20000 in
theorem ggL_read_X7_read : GoodIn wsL_read wsX7_read := goodIn_ca (goodIn_ca (goodIn_ca (goodIn_r _ [8, 9, 10, 11, 12, 13, 7, 14, 15, 16, 17, 18, 19, 20, 21, 22, 23, 24, 25, 26, 27, 28, 29, 30, 31, 32, 33, 34, 35, 36, 37, 38, 39, 40, 41, 42, 43, 44, 45, 46, 47, 48, 49, 50, 51, 52, 53, 54, 55, 56, 57, 58, 59, 60, 61, 62, 63, 64, 65, 66, 67, 68, 69, 70, 71, 72, 73, 74, 75, 76, 77, 78, 79, 80, 81, 82, 83, 84, 85, 86, 87, 88, 89, 90, 91, 92, 93, 94, 95, 96, 97, 98, 99, 100, 101, 102, 103, 104, 105, 106, 107, 108, 109, 110, 111, 112, 113, 114, 115, 116, 117, 118, 119, 120, 121, 122, 123, 124, 125, 126, 127, 128, 129, 130, 131, 132, 133, 134, 135, 136, 137, 138, 139, 140, 141, 142, 143, 144] (by decide +kernel) (by decide +kernel)) (goodIn_sub (fun _ h => List.mem_cons_of_mem _ (List.mem_append_left _ (List.mem_append_left _ (List.mem_append_right _ h)))) (by decide +kernel))) (goodIn_sub (fun _ h => List.mem_cons_of_mem _ (List.mem_append_left _ (List.mem_append_right _ h))) (by decide +kernel))) (goodIn_sub (fun _ h => List.mem_cons_of_mem _ (List.mem_append_right _ h)) (by decide +kernel))
set_option maxRecDepth 20000 in
theorem gL_read_X7_read : GoodIn wsL_read (wsV RL 47 RX7 yX7_read wsX7_read) := goodIn_app (goodIn_of _ (by decide +kernel)) ggL_read_X7_read
theorem dL_read_0 : decode cL_read 0 = .ok (.aload 5, 2) := by decide +kernel
theorem dL_read_2 : decode cL_read 2 = .ok (.iconst 0, 1) := by decide +kernel
theorem dL_read_3 : decode cL_read 3 = .ok (.aload_n 0, 1) := by decide +kernel
theorem dL_read_4 : decode cL_read 4 = .ok (.iload_n 1, 1) := by decide +kernel
theorem dL_read_5 : decode cL_read 5 = .ok (.iload_n 2, 1) := by decide +kernel
theorem dL_read_6 : decode cL_read 6 = .ok (.iload_n 3, 1) := by decide +kernel
theorem dL_read_7 : decode cL_read 7 = .ok (.iload 4, 2) := by decide +kernel
theorem dL_read_9 : decode cL_read 9 = .ok (.invokevirtual 47, 3) := by decide +kernel
theorem dL_read_12 : decode cL_read 12 = .ok (.i2l, 1) := by decide +kernel
theorem dL_read_13 : decode cL_read 13 = .ok (.lastore, 1) := by decide +kernel
theorem dL_read_14 : decode cL_read 14 = .ok (.goto 15, 3) := by decide +kernel
theorem dL_read_17 : decode cL_read 17 = .ok (.astore 6, 2) := by decide +kernel
theorem dL_read_19 : decode cL_read 19 = .ok (.iconst 1, 1) := by decide +kernel
theorem dL_read_20 : decode cL_read 20 = .ok (.ireturn, 1) := by decide +kernel
theorem dL_read_21 : decode cL_read 21 = .ok (.astore 6, 2) := by decide +kernel
theorem dL_read_23 : decode cL_read 23 = .ok (.iconst 2, 1) := by decide +kernel
theorem dL_read_24 : decode cL_read 24 = .ok (.ireturn, 1) := by decide +kernel
theorem dL_read_25 : decode cL_read 25 = .ok (.astore 6, 2) := by decide +kernel
theorem dL_read_27 : decode cL_read 27 = .ok (.iconst 3, 1) := by decide +kernel
theorem dL_read_28 : decode cL_read 28 = .ok (.ireturn, 1) := by decide +kernel
theorem dL_read_29 : decode cL_read 29 = .ok (.iconst 0, 1) := by decide +kernel
theorem dL_read_30 : decode cL_read 30 = .ok (.ireturn, 1) := by decide +kernel
set_option maxRecDepth 20000 in
theorem ggL_makeAlike_X7_makeAlike : GoodIn wsL_makeAlike wsX7_makeAlike := goodIn_ca (goodIn_ca (goodIn_ca (goodIn_r _ [8, 9, 10, 11, 12, 7, 13, 14, 15, 16, 17, 18, 19, 20, 21, 22, 23, 24, 25, 26, 27, 28, 29, 30, 31, 32, 33, 34, 35, 36, 37, 38, 39, 40, 41, 42, 43, 44, 45, 46, 47, 48, 49, 50, 51, 52, 53, 54, 55, 56, 57, 58, 59, 60, 61, 62, 63, 64, 65, 66, 67, 68, 69, 70, 71, 72, 73, 74, 75, 76, 77, 78, 79, 80, 81, 82, 83, 84, 85, 86, 87, 88, 89, 90, 91, 92, 93, 94, 95, 96, 97, 98, 99, 100, 101, 102, 103, 104, 105, 106, 107, 108, 109, 110, 111, 112, 113, 114, 115, 116, 117, 118, 119, 120, 121, 122, 123, 124, 125, 126, 127, 128, 129, 130, 131, 132, 133, 134, 135, 136, 137, 138, 139, 140, 141, 142, 143, 144, 145, 146, 147, 148, 149, 150, 151, 152, 153, 154, 155, 156, 157, 158, 159] (by decide +kernel) (by decide +kernel)) (goodIn_sub (fun _ h => List.mem_cons_of_mem _ (List.mem_append_left _ (List.mem_append_left _ (List.mem_append_right _ h)))) (by decide +kernel))) (goodIn_sub (fun _ h => List.mem_cons_of_mem _ (List.mem_append_left _ (List.mem_append_right _ h))) (by decide +kernel))) (goodIn_sub (fun _ h => List.mem_cons_of_mem _ (List.mem_append_right _ h)) (by decide +kernel))
set_option maxRecDepth 20000 in
theorem gL_makeAlike_X7_makeAlike : GoodIn wsL_makeAlike (wsV RL 50 RX7 yX7_makeAlike wsX7_makeAlike) := goodIn_app (goodIn_of _ (by decide +kernel)) ggL_makeAlike_X7_makeAlike
theorem dL_makeAlike_0 : decode cL_makeAlike 0 = .ok (.aload_n 3, 1) := by decide +kernel
theorem dL_makeAlike_1 : decode cL_makeAlike 1 = .ok (.iconst 0, 1) := by decide +kernel
theorem dL_makeAlike_2 : decode cL_makeAlike 2 = .ok (.aload_n 0, 1) := by decide +kernel
theorem dL_makeAlike_3 : decode cL_makeAlike 3 = .ok (.iload_n 1, 1) := by decide +kernel
theorem dL_makeAlike_4 : decode cL_makeAlike 4 = .ok (.iload_n 2, 1) := by decide +kernel
theorem dL_makeAlike_5 : decode cL_makeAlike 5 = .ok (.invokevirtual 50, 3) := by decide +kernel
theorem dL_makeAlike_8 : decode cL_makeAlike 8 = .ok (.i2l, 1) := by decide +kernel
theorem dL_makeAlike_9 : decode cL_makeAlike 9 = .ok (.lastore, 1) := by decide +kernel
theorem dL_makeAlike_10 : decode cL_makeAlike 10 = .ok (.goto 15, 3) := by decide +kernel
theorem dL_makeAlike_13 : decode cL_makeAlike 13 = .ok (.astore 4, 2) := by decide +kernel
theorem dL_makeAlike_15 : decode cL_makeAlike 15 = .ok (.iconst 1, 1) := by decide +kernel
theorem dL_makeAlike_16 : decode cL_makeAlike 16 = .ok (.ireturn, 1) := by decide +kernel
theorem dL_makeAlike_17 : decode cL_makeAlike 17 = .ok (.astore 4, 2) := by decide +kernel
theorem dL_makeAlike_19 : decode cL_makeAlike 19 = .ok (.iconst 2, 1) := by decide +kernel
theorem dL_makeAlike_20 : decode cL_makeAlike 20 = .ok (.ireturn, 1) := by decide +kernel
theorem dL_makeAlike_21 : decode cL_makeAlike 21 = .ok (.astore 4, 2) := by decide +kernel
theorem dL_makeAlike_23 : decode cL_makeAlike 23 = .ok (.iconst 3, 1) := by decide +kernel
theorem dL_makeAlike_24 : decode cL_makeAlike 24 = .ok (.ireturn, 1) := by decide +kernel
theorem dL_makeAlike_25 : decode cL_makeAlike 25 = .ok (.iconst 0, 1) := by decide +kernel
theorem dL_makeAlike_26 : decode cL_makeAlike 26 = .ok (.ireturn, 1) := by decide +kernel
set_option maxRecDepth 20000 in
theorem ggL_clean_X7_clean : GoodIn wsL_clean wsX7_clean := goodIn_ca (goodIn_ca (goodIn_r _ [7, 8, 9, 10, 11, 12, 6, 13, 14, 15, 16, 17, 18, 19, 20, 21, 22, 23, 24, 25, 26, 27, 28, 29, 30, 31, 32, 33, 34, 35, 36, 37, 38, 39, 40, 41, 42, 43, 44, 45, 46, 47, 48, 49, 50, 51, 52, 53, 54, 55, 56, 57, 58, 59, 60, 61, 62, 63, 64, 65, 66, 67, 68, 69, 70, 71, 72, 73, 74, 75, 76, 77, 78, 79, 80, 81, 82, 83, 84, 85, 86, 87, 88, 89, 90, 91, 92, 93, 94, 95, 96, 97, 98, 99, 100, 101, 102, 103, 104] (by decide +kernel) (by decide +kernel)) (goodIn_sub (fun _ h => List.mem_cons_of_mem _ (List.mem_append_left _ (List.mem_append_right _ h))) (by decide +kernel))) (goodIn_sub (fun _ h => List.mem_cons_of_mem _ (List.mem_append_right _ h)) (by decide +kernel))
set_option maxRecDepth 20000 in
theorem gL_clean_X7_clean : GoodIn wsL_clean (wsV RL 54 RX7 yX7_clean wsX7_clean) := goodIn_app (goodIn_of _ (by decide +kernel)) ggL_clean_X7_clean
theorem dL_clean_0 : decode cL_clean 0 = .ok (.aload_n 2, 1) := by decide +kernel
theorem dL_clean_1 : decode cL_clean 1 = .ok (.iconst 0, 1) := by decide +kernel
theorem dL_clean_2 : decode cL_clean 2 = .ok (.aload_n 0, 1) := by decide +kernel
theorem dL_clean_3 : decode cL_clean 3 = .ok (.iload_n 1, 1) := by decide +kernel
theorem dL_clean_4 : decode cL_clean 4 = .ok (.invokevirtual 54, 3) := by decide +kernel
theorem dL_clean_7 : decode cL_clean 7 = .ok (.i2l, 1) := by decide +kernel
theorem dL_clean_8 : decode cL_clean 8 = .ok (.lastore, 1) := by decide +kernel
theorem dL_clean_9 : decode cL_clean 9 = .ok (.goto 9, 3) := by decide +kernel
theorem dL_clean_12 : decode cL_clean 12 = .ok (.astore_n 3, 1) := by decide +kernel
theorem dL_clean_13 : decode cL_clean 13 = .ok (.iconst 1, 1) := by decide +kernel
theorem dL_clean_14 : decode cL_clean 14 = .ok (.ireturn, 1) := by decide +kernel
theorem dL_clean_15 : decode cL_clean 15 = .ok (.astore_n 3, 1) := by decide +kernel
theorem dL_clean_16 : decode cL_clean 16 = .ok (.iconst 2, 1) := by decide +kernel
theorem dL_clean_17 : decode cL_clean 17 = .ok (.ireturn, 1) := by decide +kernel
theorem dL_clean_18 : decode cL_clean 18 = .ok (.iconst 0, 1) := by decide +kernel
theorem dL_clean_19 : decode cL_clean 19 = .ok (.ireturn, 1) := by decide +kernel
set_option maxRecDepth 20000 in
theorem ggL_isUp_X7_isUp : GoodIn wsL_isUp wsX7_isUp := goodIn_ca (goodIn_r _ [6, 7, 8, 9, 5, 10, 11, 12, 13, 14, 15, 16, 17, 18, 19, 20, 21, 22, 23, 24, 25, 26, 27, 28, 29] (by decide +kernel) (by decide +kernel)) (goodIn_sub (fun _ h => List.mem_cons_of_mem _ (List.mem_append_right _ h)) (by decide +kernel))
set_option maxRecDepth 20000 in
theorem gL_isUp_X7_isUp : GoodIn wsL_isUp (wsV RL 57 RX7 yX7_isUp wsX7_isUp) := goodIn_app (goodIn_of _ (by decide +kernel)) ggL_isUp_X7_isUp
theorem dL_isUp_0 : decode cL_isUp 0 = .ok (.aload_n 2, 1) := by decide +kernel
theorem dL_isUp_1 : decode cL_isUp 1 = .ok (.iconst 0, 1) := by decide +kernel
theorem dL_isUp_2 : decode cL_isUp 2 = .ok (.aload_n 0, 1) := by decide +kernel
theorem dL_isUp_3 : decode cL_isUp 3 = .ok (.iload_n 1, 1) := by decide +kernel
theorem dL_isUp_4 : decode cL_isUp 4 = .ok (.invokevirtual 57, 3) := by decide +kernel
theorem dL_isUp_7 : decode cL_isUp 7 = .ok (.ifCond .eq 7, 3) := by decide +kernel
theorem dL_isUp_10 : decode cL_isUp 10 = .ok (.lconst 1, 1) := by decide +kernel
theorem dL_isUp_11 : decode cL_isUp 11 = .ok (.goto 4, 3) := by decide +kernel
theorem dL_isUp_14 : decode cL_isUp 14 = .ok (.lconst 0, 1) := by decide +kernel
theorem dL_isUp_15 : decode cL_isUp 15 = .ok (.lastore, 1) := by decide +kernel
theorem dL_isUp_16 : decode cL_isUp 16 = .ok (.goto 6, 3) := by decide +kernel
theorem dL_isUp_19 : decode cL_isUp 19 = .ok (.astore_n 3, 1) := by decide +kernel
theorem dL_isUp_20 : decode cL_isUp 20 = .ok (.iconst 1, 1) := by decide +kernel
theorem dL_isUp_21 : decode cL_isUp 21 = .ok (.ireturn, 1) := by decide +kernel
theorem dL_isUp_22 : decode cL_isUp 22 = .ok (.iconst 0, 1) := by decide +kernel
theorem dL_isUp_23 : decode cL_isUp 23 = .ok (.ireturn, 1) := by decide +kernel
set_option maxRecDepth 20000 in
theorem ggL_hints_X7_hints : GoodIn wsL_hints wsX7_hints := goodIn_ca (goodIn_r _ [6, 7, 8, 9, 5, 10, 11, 12, 13, 14, 15, 16, 17, 18, 19, 20, 21, 22, 23, 24, 25, 26, 27, 28, 29, 30, 31, 32, 33, 34, 35, 36, 37, 38] (by decide +kernel) (by decide +kernel)) (goodIn_sub (fun _ h => List.mem_cons_of_mem _ (List.mem_append_right _ h)) (by decide +kernel))
set_option maxRecDepth 20000 in
theorem gL_hints_X7_hints : GoodIn wsL_hints (wsV RL 61 RX7 yX7_hints wsX7_hints) := goodIn_app (goodIn_of _ (by decide +kernel)) ggL_hints_X7_hints
theorem dL_hints_0 : decode cL_hints 0 = .ok (.aload_n 2, 1) := by decide +kernel
theorem dL_hints_1 : decode cL_hints 1 = .ok (.iconst 0, 1) := by decide +kernel
theorem dL_hints_2 : decode cL_hints 2 = .ok (.aload_n 0, 1) := by decide +kernel
theorem dL_hints_3 : decode cL_hints 3 = .ok (.iload_n 1, 1) := by decide +kernel
theorem dL_hints_4 : decode cL_hints 4 = .ok (.invokevirtual 61, 3) := by decide +kernel
theorem dL_hints_7 : decode cL_hints 7 = .ok (.i2l, 1) := by decide +kernel
theorem dL_hints_8 : decode cL_hints 8 = .ok (.lastore, 1) := by decide +kernel
theorem dL_hints_9 : decode cL_hints 9 = .ok (.goto 6, 3) := by decide +kernel
theorem dL_hints_12 : decode cL_hints 12 = .ok (.astore_n 3, 1) := by decide +kernel
theorem dL_hints_13 : decode cL_hints 13 = .ok (.iconst 1, 1) := by decide +kernel
theorem dL_hints_14 : decode cL_hints 14 = .ok (.ireturn, 1) := by decide +kernel
theorem dL_hints_15 : decode cL_hints 15 = .ok (.iconst 0, 1) := by decide +kernel
theorem dL_hints_16 : decode cL_hints 16 = .ok (.ireturn, 1) := by decide +kernel
set_option maxRecDepth 20000 in
theorem ggL_valueAt_X7_valueAt : GoodIn wsL_valueAt wsX7_valueAt := goodIn_ca (goodIn_r _ [6, 7, 8, 9, 10, 5, 11, 12, 13, 14, 15, 16, 17, 18, 19, 20, 21, 22, 23, 24, 25, 26, 27, 28, 29, 30, 31, 32, 33, 34, 35, 36, 37, 38, 39, 40, 41, 42, 43, 44, 45, 46, 47, 48, 49, 50, 51, 52, 53, 54, 55, 56, 57, 58, 59, 60, 61, 62, 63, 64, 65, 66, 67, 68, 69, 70, 71, 72, 73, 74, 75, 76, 77, 78, 79, 80, 81, 82, 83, 84, 85, 86] (by decide +kernel) (by decide +kernel)) (goodIn_sub (fun _ h => List.mem_cons_of_mem _ (List.mem_append_right _ h)) (by decide +kernel))
set_option maxRecDepth 20000 in
theorem gL_valueAt_X7_valueAt : GoodIn wsL_valueAt (wsV RL 64 RX7 yX7_valueAt wsX7_valueAt) := goodIn_app (goodIn_of _ (by decide +kernel)) ggL_valueAt_X7_valueAt
theorem dL_valueAt_0 : decode cL_valueAt 0 = .ok (.aload 4, 2) := by decide +kernel
theorem dL_valueAt_2 : decode cL_valueAt 2 = .ok (.iconst 0, 1) := by decide +kernel
theorem dL_valueAt_3 : decode cL_valueAt 3 = .ok (.aload_n 0, 1) := by decide +kernel
theorem dL_valueAt_4 : decode cL_valueAt 4 = .ok (.iload_n 1, 1) := by decide +kernel
theorem dL_valueAt_5 : decode cL_valueAt 5 = .ok (.iload_n 2, 1) := by decide +kernel
theorem dL_valueAt_6 : decode cL_valueAt 6 = .ok (.iload_n 3, 1) := by decide +kernel
theorem dL_valueAt_7 : decode cL_valueAt 7 = .ok (.invokevirtual 64, 3) := by decide +kernel
theorem dL_valueAt_10 : decode cL_valueAt 10 = .ok (.i2l, 1) := by decide +kernel
theorem dL_valueAt_11 : decode cL_valueAt 11 = .ok (.lastore, 1) := by decide +kernel
theorem dL_valueAt_12 : decode cL_valueAt 12 = .ok (.goto 7, 3) := by decide +kernel
theorem dL_valueAt_15 : decode cL_valueAt 15 = .ok (.astore 5, 2) := by decide +kernel
theorem dL_valueAt_17 : decode cL_valueAt 17 = .ok (.iconst 1, 1) := by decide +kernel
theorem dL_valueAt_18 : decode cL_valueAt 18 = .ok (.ireturn, 1) := by decide +kernel
theorem dL_valueAt_19 : decode cL_valueAt 19 = .ok (.iconst 0, 1) := by decide +kernel
theorem dL_valueAt_20 : decode cL_valueAt 20 = .ok (.ireturn, 1) := by decide +kernel
set_option maxRecDepth 20000 in
theorem ggL_stampAt_X7_stampAt : GoodIn wsL_stampAt wsX7_stampAt := goodIn_ca (goodIn_r _ [6, 7, 8, 9, 5, 10, 11, 12, 13, 14, 15, 16, 17, 18, 19, 20, 21, 22, 23, 24, 25, 26, 27, 28, 29, 30, 31, 32, 33, 34, 35, 36, 37, 38, 39, 40, 41, 42, 43, 44, 45, 46, 47, 48] (by decide +kernel) (by decide +kernel)) (goodIn_sub (fun _ h => List.mem_cons_of_mem _ (List.mem_append_right _ h)) (by decide +kernel))
set_option maxRecDepth 20000 in
theorem gL_stampAt_X7_stampAt : GoodIn wsL_stampAt (wsV RL 67 RX7 yX7_stampAt wsX7_stampAt) := goodIn_app (goodIn_of _ (by decide +kernel)) ggL_stampAt_X7_stampAt
theorem dL_stampAt_0 : decode cL_stampAt 0 = .ok (.aload 4, 2) := by decide +kernel
theorem dL_stampAt_2 : decode cL_stampAt 2 = .ok (.iconst 0, 1) := by decide +kernel
theorem dL_stampAt_3 : decode cL_stampAt 3 = .ok (.aload_n 0, 1) := by decide +kernel
theorem dL_stampAt_4 : decode cL_stampAt 4 = .ok (.iload_n 1, 1) := by decide +kernel
theorem dL_stampAt_5 : decode cL_stampAt 5 = .ok (.iload_n 2, 1) := by decide +kernel
theorem dL_stampAt_6 : decode cL_stampAt 6 = .ok (.iload_n 3, 1) := by decide +kernel
theorem dL_stampAt_7 : decode cL_stampAt 7 = .ok (.invokevirtual 67, 3) := by decide +kernel
theorem dL_stampAt_10 : decode cL_stampAt 10 = .ok (.i2l, 1) := by decide +kernel
theorem dL_stampAt_11 : decode cL_stampAt 11 = .ok (.lastore, 1) := by decide +kernel
theorem dL_stampAt_12 : decode cL_stampAt 12 = .ok (.goto 7, 3) := by decide +kernel
theorem dL_stampAt_15 : decode cL_stampAt 15 = .ok (.astore 5, 2) := by decide +kernel
theorem dL_stampAt_17 : decode cL_stampAt 17 = .ok (.iconst 1, 1) := by decide +kernel
theorem dL_stampAt_18 : decode cL_stampAt 18 = .ok (.ireturn, 1) := by decide +kernel
theorem dL_stampAt_19 : decode cL_stampAt 19 = .ok (.iconst 0, 1) := by decide +kernel
theorem dL_stampAt_20 : decode cL_stampAt 20 = .ok (.ireturn, 1) := by decide +kernel
set_option maxRecDepth 20000 in
theorem ggL_buriedBy_X7_buriedBy : GoodIn wsL_buriedBy wsX7_buriedBy := goodIn_ca (goodIn_r _ [6, 7, 8, 9, 5, 10, 11, 12, 13, 14, 15, 16, 17, 18, 19, 20, 21, 22, 23, 24, 25, 26, 27, 28, 29, 30, 31, 32, 33, 34, 35, 36, 37, 38, 39, 40, 41, 42, 43, 44, 45, 46, 47, 48, 49, 50, 51, 52, 53, 54, 55, 56, 57, 58, 59, 60, 61, 62, 63, 64, 65, 66, 67, 68, 69, 70, 71] (by decide +kernel) (by decide +kernel)) (goodIn_sub (fun _ h => List.mem_cons_of_mem _ (List.mem_append_right _ h)) (by decide +kernel))
set_option maxRecDepth 20000 in
theorem gL_buriedBy_X7_buriedBy : GoodIn wsL_buriedBy (wsV RL 70 RX7 yX7_buriedBy wsX7_buriedBy) := goodIn_app (goodIn_of _ (by decide +kernel)) ggL_buriedBy_X7_buriedBy
theorem dL_buriedBy_0 : decode cL_buriedBy 0 = .ok (.aload 4, 2) := by decide +kernel
theorem dL_buriedBy_2 : decode cL_buriedBy 2 = .ok (.iconst 0, 1) := by decide +kernel
theorem dL_buriedBy_3 : decode cL_buriedBy 3 = .ok (.aload_n 0, 1) := by decide +kernel
theorem dL_buriedBy_4 : decode cL_buriedBy 4 = .ok (.iload_n 1, 1) := by decide +kernel
theorem dL_buriedBy_5 : decode cL_buriedBy 5 = .ok (.iload_n 2, 1) := by decide +kernel
theorem dL_buriedBy_6 : decode cL_buriedBy 6 = .ok (.iload_n 3, 1) := by decide +kernel
theorem dL_buriedBy_7 : decode cL_buriedBy 7 = .ok (.invokevirtual 70, 3) := by decide +kernel
theorem dL_buriedBy_10 : decode cL_buriedBy 10 = .ok (.i2l, 1) := by decide +kernel
theorem dL_buriedBy_11 : decode cL_buriedBy 11 = .ok (.lastore, 1) := by decide +kernel
theorem dL_buriedBy_12 : decode cL_buriedBy 12 = .ok (.goto 7, 3) := by decide +kernel
theorem dL_buriedBy_15 : decode cL_buriedBy 15 = .ok (.astore 5, 2) := by decide +kernel
theorem dL_buriedBy_17 : decode cL_buriedBy 17 = .ok (.iconst 1, 1) := by decide +kernel
theorem dL_buriedBy_18 : decode cL_buriedBy 18 = .ok (.ireturn, 1) := by decide +kernel
theorem dL_buriedBy_19 : decode cL_buriedBy 19 = .ok (.iconst 0, 1) := by decide +kernel
theorem dL_buriedBy_20 : decode cL_buriedBy 20 = .ok (.ireturn, 1) := by decide +kernel
set_option maxRecDepth 20000 in
theorem ggL_tombstones_X7_tombstones : GoodIn wsL_tombstones wsX7_tombstones := goodIn_ca (goodIn_ca (goodIn_r _ [7, 8, 9, 10, 6, 11, 12, 13, 14, 15, 16, 17, 18, 19, 20, 21, 22, 23, 24, 25, 26, 27, 28, 29, 30, 31, 32, 33, 34, 35, 36, 37, 38, 39, 40, 41, 42, 43, 44, 45, 46, 47, 48, 49, 50, 51, 52, 53, 54] (by decide +kernel) (by decide +kernel)) (goodIn_sub (fun _ h => List.mem_cons_of_mem _ (List.mem_append_left _ (List.mem_append_right _ h))) (by decide +kernel))) (goodIn_sub (fun _ h => List.mem_cons_of_mem _ (List.mem_append_right _ h)) (by decide +kernel))
set_option maxRecDepth 20000 in
theorem gL_tombstones_X7_tombstones : GoodIn wsL_tombstones (wsV RL 73 RX7 yX7_tombstones wsX7_tombstones) := goodIn_app (goodIn_of _ (by decide +kernel)) ggL_tombstones_X7_tombstones
theorem dL_tombstones_0 : decode cL_tombstones 0 = .ok (.aload_n 3, 1) := by decide +kernel
theorem dL_tombstones_1 : decode cL_tombstones 1 = .ok (.iconst 0, 1) := by decide +kernel
theorem dL_tombstones_2 : decode cL_tombstones 2 = .ok (.aload_n 0, 1) := by decide +kernel
theorem dL_tombstones_3 : decode cL_tombstones 3 = .ok (.iload_n 1, 1) := by decide +kernel
theorem dL_tombstones_4 : decode cL_tombstones 4 = .ok (.iload_n 2, 1) := by decide +kernel
theorem dL_tombstones_5 : decode cL_tombstones 5 = .ok (.invokevirtual 73, 3) := by decide +kernel
theorem dL_tombstones_8 : decode cL_tombstones 8 = .ok (.i2l, 1) := by decide +kernel
theorem dL_tombstones_9 : decode cL_tombstones 9 = .ok (.lastore, 1) := by decide +kernel
theorem dL_tombstones_10 : decode cL_tombstones 10 = .ok (.goto 11, 3) := by decide +kernel
theorem dL_tombstones_13 : decode cL_tombstones 13 = .ok (.astore 4, 2) := by decide +kernel
theorem dL_tombstones_15 : decode cL_tombstones 15 = .ok (.iconst 1, 1) := by decide +kernel
theorem dL_tombstones_16 : decode cL_tombstones 16 = .ok (.ireturn, 1) := by decide +kernel
theorem dL_tombstones_17 : decode cL_tombstones 17 = .ok (.astore 4, 2) := by decide +kernel
theorem dL_tombstones_19 : decode cL_tombstones 19 = .ok (.iconst 2, 1) := by decide +kernel
theorem dL_tombstones_20 : decode cL_tombstones 20 = .ok (.ireturn, 1) := by decide +kernel
theorem dL_tombstones_21 : decode cL_tombstones 21 = .ok (.iconst 0, 1) := by decide +kernel
theorem dL_tombstones_22 : decode cL_tombstones 22 = .ok (.ireturn, 1) := by decide +kernel
set_option maxRecDepth 20000 in
theorem ggL_entries_X7_entries : GoodIn wsL_entries wsX7_entries := goodIn_ca (goodIn_r _ [6, 7, 8, 9, 5, 10, 11, 12, 13, 14, 15, 16, 17, 18, 19, 20, 21, 22, 23, 24, 25, 26, 27, 28, 29, 30, 31, 32, 33, 34, 35, 36, 37, 38, 39, 40, 41, 42, 43, 44, 45] (by decide +kernel) (by decide +kernel)) (goodIn_sub (fun _ h => List.mem_cons_of_mem _ (List.mem_append_right _ h)) (by decide +kernel))
set_option maxRecDepth 20000 in
theorem gL_entries_X7_entries : GoodIn wsL_entries (wsV RL 76 RX7 yX7_entries wsX7_entries) := goodIn_app (goodIn_of _ (by decide +kernel)) ggL_entries_X7_entries
theorem dL_entries_0 : decode cL_entries 0 = .ok (.aload_n 2, 1) := by decide +kernel
theorem dL_entries_1 : decode cL_entries 1 = .ok (.iconst 0, 1) := by decide +kernel
theorem dL_entries_2 : decode cL_entries 2 = .ok (.aload_n 0, 1) := by decide +kernel
theorem dL_entries_3 : decode cL_entries 3 = .ok (.iload_n 1, 1) := by decide +kernel
theorem dL_entries_4 : decode cL_entries 4 = .ok (.invokevirtual 76, 3) := by decide +kernel
theorem dL_entries_7 : decode cL_entries 7 = .ok (.i2l, 1) := by decide +kernel
theorem dL_entries_8 : decode cL_entries 8 = .ok (.lastore, 1) := by decide +kernel
theorem dL_entries_9 : decode cL_entries 9 = .ok (.goto 6, 3) := by decide +kernel
theorem dL_entries_12 : decode cL_entries 12 = .ok (.astore_n 3, 1) := by decide +kernel
theorem dL_entries_13 : decode cL_entries 13 = .ok (.iconst 1, 1) := by decide +kernel
theorem dL_entries_14 : decode cL_entries 14 = .ok (.ireturn, 1) := by decide +kernel
theorem dL_entries_15 : decode cL_entries 15 = .ok (.iconst 0, 1) := by decide +kernel
theorem dL_entries_16 : decode cL_entries 16 = .ok (.ireturn, 1) := by decide +kernel
set_option maxRecDepth 20000 in
theorem ggL_ideal_X7_ideal : GoodIn wsL_ideal wsX7_ideal := goodIn_ca (goodIn_r _ [6, 7, 8, 9, 10, 5, 11, 12, 13, 14, 15, 16, 17, 18, 19, 20, 21, 22, 23, 24, 25, 26, 27, 28, 29, 30, 31, 32, 33, 34, 35, 36, 37, 38, 39, 40, 41, 42, 43, 44, 45, 46, 47, 48, 49, 50, 51, 52, 53, 54, 55, 56, 57, 58, 59, 60, 61, 62, 63, 64, 65, 66, 67, 68, 69, 70, 71, 72, 73, 74, 75] (by decide +kernel) (by decide +kernel)) (goodIn_sub (fun _ h => List.mem_cons_of_mem _ (List.mem_append_right _ h)) (by decide +kernel))
set_option maxRecDepth 20000 in
theorem gL_ideal_X7_ideal : GoodIn wsL_ideal (wsV RL 79 RX7 yX7_ideal wsX7_ideal) := goodIn_app (goodIn_of _ (by decide +kernel)) ggL_ideal_X7_ideal
theorem dL_ideal_0 : decode cL_ideal 0 = .ok (.aload_n 3, 1) := by decide +kernel
theorem dL_ideal_1 : decode cL_ideal 1 = .ok (.iconst 0, 1) := by decide +kernel
theorem dL_ideal_2 : decode cL_ideal 2 = .ok (.aload_n 0, 1) := by decide +kernel
theorem dL_ideal_3 : decode cL_ideal 3 = .ok (.iload_n 1, 1) := by decide +kernel
theorem dL_ideal_4 : decode cL_ideal 4 = .ok (.iload_n 2, 1) := by decide +kernel
theorem dL_ideal_5 : decode cL_ideal 5 = .ok (.invokevirtual 79, 3) := by decide +kernel
theorem dL_ideal_8 : decode cL_ideal 8 = .ok (.i2l, 1) := by decide +kernel
theorem dL_ideal_9 : decode cL_ideal 9 = .ok (.lastore, 1) := by decide +kernel
theorem dL_ideal_10 : decode cL_ideal 10 = .ok (.goto 7, 3) := by decide +kernel
theorem dL_ideal_13 : decode cL_ideal 13 = .ok (.astore 4, 2) := by decide +kernel
theorem dL_ideal_15 : decode cL_ideal 15 = .ok (.iconst 1, 1) := by decide +kernel
theorem dL_ideal_16 : decode cL_ideal 16 = .ok (.ireturn, 1) := by decide +kernel
theorem dL_ideal_17 : decode cL_ideal 17 = .ok (.iconst 0, 1) := by decide +kernel
theorem dL_ideal_18 : decode cL_ideal 18 = .ok (.ireturn, 1) := by decide +kernel
set_option maxRecDepth 20000 in
theorem ggL_sumOf_X7_sumOf : GoodIn wsL_sumOf wsX7_sumOf := goodIn_ca (goodIn_r _ [6, 7, 8, 9, 10, 5, 11, 12, 13, 14, 15, 16, 17, 18, 19, 20, 21, 22, 23, 24, 25, 26, 27, 28, 29, 30, 31, 32, 33, 34, 35, 36, 37, 38, 39, 40, 41, 42, 43, 44, 45, 46, 47, 48, 49, 50, 51, 52, 53, 54, 55, 56, 57, 58, 59, 60, 61, 62, 63, 64, 65, 66, 67, 68, 69, 70, 71, 72, 73, 74, 75, 76, 77, 78, 79, 80, 81, 82, 83, 84, 85, 86, 87, 88] (by decide +kernel) (by decide +kernel)) (goodIn_sub (fun _ h => List.mem_cons_of_mem _ (List.mem_append_right _ h)) (by decide +kernel))
set_option maxRecDepth 20000 in
theorem gL_sumOf_X7_sumOf : GoodIn wsL_sumOf (wsV RL 82 RX7 yX7_sumOf wsX7_sumOf) := goodIn_app (goodIn_of _ (by decide +kernel)) ggL_sumOf_X7_sumOf
theorem dL_sumOf_0 : decode cL_sumOf 0 = .ok (.aload 4, 2) := by decide +kernel
theorem dL_sumOf_2 : decode cL_sumOf 2 = .ok (.iconst 0, 1) := by decide +kernel
theorem dL_sumOf_3 : decode cL_sumOf 3 = .ok (.aload_n 0, 1) := by decide +kernel
theorem dL_sumOf_4 : decode cL_sumOf 4 = .ok (.iload_n 1, 1) := by decide +kernel
theorem dL_sumOf_5 : decode cL_sumOf 5 = .ok (.iload_n 2, 1) := by decide +kernel
theorem dL_sumOf_6 : decode cL_sumOf 6 = .ok (.iload_n 3, 1) := by decide +kernel
theorem dL_sumOf_7 : decode cL_sumOf 7 = .ok (.invokevirtual 82, 3) := by decide +kernel
theorem dL_sumOf_10 : decode cL_sumOf 10 = .ok (.i2l, 1) := by decide +kernel
theorem dL_sumOf_11 : decode cL_sumOf 11 = .ok (.lastore, 1) := by decide +kernel
theorem dL_sumOf_12 : decode cL_sumOf 12 = .ok (.goto 7, 3) := by decide +kernel
theorem dL_sumOf_15 : decode cL_sumOf 15 = .ok (.astore 5, 2) := by decide +kernel
theorem dL_sumOf_17 : decode cL_sumOf 17 = .ok (.iconst 1, 1) := by decide +kernel
theorem dL_sumOf_18 : decode cL_sumOf 18 = .ok (.ireturn, 1) := by decide +kernel
theorem dL_sumOf_19 : decode cL_sumOf 19 = .ok (.iconst 0, 1) := by decide +kernel
theorem dL_sumOf_20 : decode cL_sumOf 20 = .ok (.ireturn, 1) := by decide +kernel
set_option maxRecDepth 20000 in
theorem ggL_compared_X7_compared : GoodIn wsL_compared wsX7_compared := goodIn_ca (goodIn_r _ [6, 7, 8, 9, 10, 5, 11, 12, 13, 14, 15, 16, 17, 18, 19, 20, 21, 22, 23, 24, 25, 26, 27, 28, 29, 30, 31, 32, 33, 34, 35, 36, 37, 38, 39, 40, 41, 42, 43, 44, 45, 46, 47, 48, 49, 50, 51, 52, 53, 54, 55, 56, 57, 58, 59, 60, 61, 62, 63, 64, 65, 66, 67, 68, 69, 70, 71, 72, 73, 74, 75, 76, 77, 78, 79, 80, 81, 82, 83, 84, 85, 86, 87, 88, 89, 90] (by decide +kernel) (by decide +kernel)) (goodIn_sub (fun _ h => List.mem_cons_of_mem _ (List.mem_append_right _ h)) (by decide +kernel))
set_option maxRecDepth 20000 in
theorem gL_compared_X7_compared : GoodIn wsL_compared (wsV RL 85 RX7 yX7_compared wsX7_compared) := goodIn_app (goodIn_of _ (by decide +kernel)) ggL_compared_X7_compared
theorem dL_compared_0 : decode cL_compared 0 = .ok (.aload_n 3, 1) := by decide +kernel
theorem dL_compared_1 : decode cL_compared 1 = .ok (.iconst 0, 1) := by decide +kernel
theorem dL_compared_2 : decode cL_compared 2 = .ok (.aload_n 0, 1) := by decide +kernel
theorem dL_compared_3 : decode cL_compared 3 = .ok (.iload_n 1, 1) := by decide +kernel
theorem dL_compared_4 : decode cL_compared 4 = .ok (.iload_n 2, 1) := by decide +kernel
theorem dL_compared_5 : decode cL_compared 5 = .ok (.invokevirtual 85, 3) := by decide +kernel
theorem dL_compared_8 : decode cL_compared 8 = .ok (.i2l, 1) := by decide +kernel
theorem dL_compared_9 : decode cL_compared 9 = .ok (.lastore, 1) := by decide +kernel
theorem dL_compared_10 : decode cL_compared 10 = .ok (.goto 7, 3) := by decide +kernel
theorem dL_compared_13 : decode cL_compared 13 = .ok (.astore 4, 2) := by decide +kernel
theorem dL_compared_15 : decode cL_compared 15 = .ok (.iconst 1, 1) := by decide +kernel
theorem dL_compared_16 : decode cL_compared 16 = .ok (.ireturn, 1) := by decide +kernel
theorem dL_compared_17 : decode cL_compared 17 = .ok (.iconst 0, 1) := by decide +kernel
theorem dL_compared_18 : decode cL_compared 18 = .ok (.ireturn, 1) := by decide +kernel
set_option maxRecDepth 20000 in
theorem ggL_unlike_X7_unlike : GoodIn wsL_unlike wsX7_unlike := goodIn_ca (goodIn_r _ [6, 7, 8, 9, 10, 5, 11, 12, 13, 14, 15, 16, 17, 18, 19, 20, 21, 22, 23, 24, 25, 26, 27, 28, 29, 30, 31, 32, 33, 34, 35, 36, 37, 38, 39, 40, 41, 42, 43, 44, 45, 46, 47, 48, 49, 50, 51, 52, 53, 54, 55, 56, 57, 58, 59, 60, 61, 62, 63, 64, 65, 66, 67, 68, 69, 70, 71, 72, 73, 74, 75, 76, 77, 78, 79, 80, 81, 82, 83, 84, 85, 86, 87, 88, 89, 90, 91, 92, 93, 94] (by decide +kernel) (by decide +kernel)) (goodIn_sub (fun _ h => List.mem_cons_of_mem _ (List.mem_append_right _ h)) (by decide +kernel))
set_option maxRecDepth 20000 in
theorem gL_unlike_X7_unlike : GoodIn wsL_unlike (wsV RL 88 RX7 yX7_unlike wsX7_unlike) := goodIn_app (goodIn_of _ (by decide +kernel)) ggL_unlike_X7_unlike
theorem dL_unlike_0 : decode cL_unlike 0 = .ok (.aload_n 3, 1) := by decide +kernel
theorem dL_unlike_1 : decode cL_unlike 1 = .ok (.iconst 0, 1) := by decide +kernel
theorem dL_unlike_2 : decode cL_unlike 2 = .ok (.aload_n 0, 1) := by decide +kernel
theorem dL_unlike_3 : decode cL_unlike 3 = .ok (.iload_n 1, 1) := by decide +kernel
theorem dL_unlike_4 : decode cL_unlike 4 = .ok (.iload_n 2, 1) := by decide +kernel
theorem dL_unlike_5 : decode cL_unlike 5 = .ok (.invokevirtual 88, 3) := by decide +kernel
theorem dL_unlike_8 : decode cL_unlike 8 = .ok (.i2l, 1) := by decide +kernel
theorem dL_unlike_9 : decode cL_unlike 9 = .ok (.lastore, 1) := by decide +kernel
theorem dL_unlike_10 : decode cL_unlike 10 = .ok (.goto 7, 3) := by decide +kernel
theorem dL_unlike_13 : decode cL_unlike 13 = .ok (.astore 4, 2) := by decide +kernel
theorem dL_unlike_15 : decode cL_unlike 15 = .ok (.iconst 1, 1) := by decide +kernel
theorem dL_unlike_16 : decode cL_unlike 16 = .ok (.ireturn, 1) := by decide +kernel
theorem dL_unlike_17 : decode cL_unlike 17 = .ok (.iconst 0, 1) := by decide +kernel
theorem dL_unlike_18 : decode cL_unlike 18 = .ok (.ireturn, 1) := by decide +kernel
set_option maxRecDepth 20000 in
theorem ggL_areAlike_X7_areAlike : GoodIn wsL_areAlike wsX7_areAlike := goodIn_ca (goodIn_r _ [6, 7, 8, 9, 5, 10, 11, 12, 13, 14, 15, 16, 17, 18, 19, 20, 21, 22, 23, 24, 25, 26, 27, 28, 29, 30, 31, 32, 33, 34, 35, 36, 37, 38, 39, 40, 41, 42, 43, 44, 45, 46, 47, 48, 49, 50, 51, 52, 53, 54, 55, 56, 57] (by decide +kernel) (by decide +kernel)) (goodIn_sub (fun _ h => List.mem_cons_of_mem _ (List.mem_append_right _ h)) (by decide +kernel))
set_option maxRecDepth 20000 in
theorem gL_areAlike_X7_areAlike : GoodIn wsL_areAlike (wsV RL 91 RX7 yX7_areAlike wsX7_areAlike) := goodIn_app (goodIn_of _ (by decide +kernel)) ggL_areAlike_X7_areAlike
theorem dL_areAlike_0 : decode cL_areAlike 0 = .ok (.aload_n 3, 1) := by decide +kernel
theorem dL_areAlike_1 : decode cL_areAlike 1 = .ok (.iconst 0, 1) := by decide +kernel
theorem dL_areAlike_2 : decode cL_areAlike 2 = .ok (.aload_n 0, 1) := by decide +kernel
theorem dL_areAlike_3 : decode cL_areAlike 3 = .ok (.iload_n 1, 1) := by decide +kernel
theorem dL_areAlike_4 : decode cL_areAlike 4 = .ok (.iload_n 2, 1) := by decide +kernel
theorem dL_areAlike_5 : decode cL_areAlike 5 = .ok (.invokevirtual 91, 3) := by decide +kernel
theorem dL_areAlike_8 : decode cL_areAlike 8 = .ok (.ifCond .eq 7, 3) := by decide +kernel
theorem dL_areAlike_11 : decode cL_areAlike 11 = .ok (.lconst 1, 1) := by decide +kernel
theorem dL_areAlike_12 : decode cL_areAlike 12 = .ok (.goto 4, 3) := by decide +kernel
theorem dL_areAlike_15 : decode cL_areAlike 15 = .ok (.lconst 0, 1) := by decide +kernel
theorem dL_areAlike_16 : decode cL_areAlike 16 = .ok (.lastore, 1) := by decide +kernel
theorem dL_areAlike_17 : decode cL_areAlike 17 = .ok (.goto 7, 3) := by decide +kernel
theorem dL_areAlike_20 : decode cL_areAlike 20 = .ok (.astore 4, 2) := by decide +kernel
theorem dL_areAlike_22 : decode cL_areAlike 22 = .ok (.iconst 1, 1) := by decide +kernel
theorem dL_areAlike_23 : decode cL_areAlike 23 = .ok (.ireturn, 1) := by decide +kernel
theorem dL_areAlike_24 : decode cL_areAlike 24 = .ok (.iconst 0, 1) := by decide +kernel
theorem dL_areAlike_25 : decode cL_areAlike 25 = .ok (.ireturn, 1) := by decide +kernel
set_option maxRecDepth 20000 in
theorem ggL_law_X7_init : GoodIn wsL_law wsX7_init := goodIn_r _ [9, 10, 11, 12, 13, 14, 15, 16, 17, 18, 19, 20, 21, 22, 23, 24, 25, 26, 27, 28, 29, 30, 31, 32, 33, 34, 35, 36, 37, 38, 39, 40, 41, 42, 43, 44, 45, 46, 47, 48, 49, 50, 51, 52, 53, 54, 55, 56, 57, 58, 59, 60, 61, 62, 63, 64, 65, 66, 67, 68, 69, 70, 71, 72, 73, 74, 75, 76, 77, 78, 79, 80, 81, 82, 83, 84, 85, 838, 839, 812, 813, 814, 815, 816, 817, 818, 840, 841, 842, 843, 844, 845, 846, 847, 848, 849, 850, 851, 852, 853, 854] (by decide +kernel) (by decide +kernel)
set_option maxRecDepth 20000 in
theorem gL_law_X7_init : GoodIn wsL_law (wsX7_init) := ggL_law_X7_init
set_option maxRecDepth 20000 in
theorem ggL_law_X8_init : GoodIn wsL_law wsX8_init := goodIn_r _ [88, 89, 11, 12, 36, 90, 91, 92, 93, 94, 95, 96, 84, 97, 98, 99, 100, 101, 102, 103, 819, 820, 821, 822, 823, 824, 825, 826, 827, 828, 829, 830, 831, 832, 833, 834, 835, 836, 837] (by decide +kernel) (by decide +kernel)
set_option maxRecDepth 20000 in
theorem gL_law_X8_init : GoodIn wsL_law (wsX8_init) := ggL_law_X8_init
set_option maxRecDepth 20000 in
theorem ggL_law_L_write : GoodIn wsL_law wsL_write := goodIn_ca (goodIn_ca (goodIn_r _ [107, 108, 109, 110, 111, 112, 2, 113, 29, 114, 115, 116, 117, 118, 119, 120, 121, 122, 123, 124, 125, 126, 127, 128, 129, 130, 131, 132, 133, 134, 135, 136, 137, 138, 139, 140, 141, 142, 143, 144, 145, 146, 147, 148, 149, 11, 12, 150, 151, 152, 153, 20, 22, 154, 155, 156, 157, 158, 159, 160, 161, 19, 162, 163, 164, 165, 166, 47, 48, 49, 167, 168, 169, 170, 171, 172, 173, 174, 175, 176, 177, 178, 179, 180, 181, 182, 183, 184, 50, 51, 185, 186, 187, 188, 189, 190, 191, 192, 193, 194, 24, 195, 62, 63, 61, 196, 197, 198, 199, 60, 200, 201, 202, 203, 204, 205, 206, 207, 68, 208, 209, 210, 211, 212, 213, 214, 215, 216, 217, 218, 219, 67, 220, 221, 222, 223, 224, 225, 226, 227, 228, 229, 230, 231, 232, 233, 234, 235, 41, 236, 237, 238, 239, 240, 241, 242, 243, 244, 245, 246, 247, 248, 249, 250, 251, 252, 812, 813, 814, 815, 816, 817, 818, 855, 856, 857, 858, 840, 841, 842, 843, 844, 845, 859, 860, 861, 846, 847, 848, 852, 853, 854] (by decide +kernel) (by decide +kernel)) (goodIn_sub (fun _ h => List.mem_append_left _ (List.mem_append_left _ (List.mem_append_right _ h))) (by decide +kernel))) (goodIn_sub (fun _ h => List.mem_append_left _ (List.mem_append_right _ h)) (by decide +kernel))
set_option maxRecDepth 20000 in
theorem gL_law_L_write : GoodIn wsL_law (va_wsS RL 99 yL_write wsL_write) := goodIn_app (goodIn_of _ (by decide +kernel)) ggL_law_L_write
set_option maxRecDepth 20000 in
theorem ggL_law_X8_write : GoodIn wsL_law wsX8_write := goodIn_r _ [256, 257, 258, 259, 5, 260, 261, 262, 263, 264, 265, 266, 267, 268, 269, 270, 271, 272, 97, 273, 274, 275, 276, 98, 99, 100, 101, 102, 277, 278, 279, 280, 90, 91, 92, 281, 282, 283, 284, 285, 286, 287, 93, 94, 819, 820, 821, 822, 823, 824, 825, 826, 827, 828, 829, 830, 831, 832, 833, 834, 835, 836, 837] (by decide +kernel) (by decide +kernel)
set_option maxRecDepth 20000 in
theorem gL_law_X8_write : GoodIn wsL_law (wsV RL 104 RX8 yX8_write wsX8_write) := goodIn_app (goodIn_of _ (by decide +kernel)) ggL_law_X8_write
set_option maxRecDepth 20000 in
theorem ggL_law_X8_thrown : GoodIn wsL_law wsX8_thrown := goodIn_r _ [291, 268, 819, 820, 821, 822, 823, 824, 825, 826, 827, 828, 829, 830, 831, 832, 833, 834, 835, 836, 837] (by decide +kernel) (by decide +kernel)
set_option maxRecDepth 20000 in
theorem gL_law_X8_thrown : GoodIn wsL_law (wsV RL 105 RX8 yX8_thrown wsX8_thrown) := goodIn_app (goodIn_of _ (by decide +kernel)) ggL_law_X8_thrown
set_option maxRecDepth 20000 in
theorem ggL_law_L_deleteCell : GoodIn wsL_law wsL_deleteCell := goodIn_ca (goodIn_ca (goodIn_r _ [294, 108, 109, 295, 296, 297, 2, 298, 299, 300, 176, 29, 117, 118, 119, 120, 121, 122, 123, 124, 125, 126, 127, 128, 129, 130, 301, 302, 303, 131, 132, 133, 134, 135, 136, 137, 138, 304, 305, 306, 178, 179, 180, 146, 147, 148, 149, 11, 12, 150, 151, 152, 153, 20, 22, 154, 155, 156, 157, 116, 158, 142, 143, 144, 145, 159, 160, 161, 19, 162, 163, 164, 165, 166, 47, 48, 49, 167, 168, 169, 170, 171, 172, 173, 174, 175, 177, 181, 182, 183, 184, 50, 51, 185, 186, 187, 188, 189, 190, 191, 192, 193, 194, 24, 195, 62, 63, 61, 196, 197, 198, 199, 60, 200, 201, 202, 203, 204, 205, 206, 207, 68, 208, 209, 210, 211, 212, 213, 214, 215, 216, 217, 218, 219, 67, 220, 221, 222, 223, 224, 225, 226, 227, 228, 229, 230, 231, 232, 233, 234, 235, 41, 236, 237, 238, 239, 240, 241, 242, 243, 244, 245, 246, 247, 248, 249, 250, 251, 252, 859, 860, 861, 812, 813, 814, 815, 816, 817, 818, 855, 856, 857, 858, 840, 841, 842, 843, 844, 845, 846, 847, 848, 852, 853, 854] (by decide +kernel) (by decide +kernel)) (goodIn_sub (fun _ h => List.mem_append_left _ (List.mem_append_left _ (List.mem_append_right _ h))) (by decide +kernel))) (goodIn_sub (fun _ h => List.mem_append_left _ (List.mem_append_right _ h)) (by decide +kernel))
set_option maxRecDepth 20000 in
theorem gL_law_L_deleteCell : GoodIn wsL_law (va_wsS RL 109 yL_deleteCell wsL_deleteCell) := goodIn_app (goodIn_of _ (by decide +kernel)) ggL_law_L_deleteCell
set_option maxRecDepth 20000 in
theorem ggL_law_X8_deleteCell : GoodIn wsL_law wsX8_deleteCell := goodIn_r _ [310, 261, 262, 5, 263, 258, 259, 260, 311, 312, 313, 314, 257, 264, 265, 266, 267, 268, 269, 270, 271, 272, 97, 273, 274, 275, 276, 98, 99, 100, 101, 102, 277, 278, 279, 280, 90, 91, 92, 281, 282, 283, 284, 285, 286, 287, 93, 94, 819, 820, 821, 822, 823, 824, 825, 826, 827, 828, 829, 830, 831, 832, 833, 834, 835, 836, 837] (by decide +kernel) (by decide +kernel)
set_option maxRecDepth 20000 in
theorem gL_law_X8_deleteCell : GoodIn wsL_law (wsV RL 112 RX8 yX8_deleteCell wsX8_deleteCell) := goodIn_app (goodIn_of _ (by decide +kernel)) ggL_law_X8_deleteCell
set_option maxRecDepth 20000 in
theorem ggL_law_L_deleteColumn : GoodIn wsL_law wsL_deleteColumn := goodIn_ca (goodIn_ca (goodIn_r _ [317, 108, 109, 318, 319, 320, 2, 321, 299, 300, 176, 29, 128, 129, 130, 120, 121, 122, 123, 124, 125, 126, 127, 301, 302, 303, 131, 132, 133, 134, 135, 304, 305, 306, 178, 179, 180, 146, 147, 148, 149, 11, 12, 150, 151, 152, 153, 20, 22, 154, 155, 156, 157, 116, 158, 142, 143, 144, 145, 159, 160, 161, 19, 162, 163, 164, 165, 166, 47, 48, 49, 167, 168, 169, 170, 171, 172, 173, 174, 175, 177, 181, 182, 183, 184, 50, 51, 185, 186, 187, 188, 189, 190, 191, 192, 193, 194, 24, 195, 62, 63, 61, 196, 197, 198, 199, 60, 200, 201, 202, 203, 204, 205, 206, 207, 68, 208, 209, 210, 211, 212, 213, 214, 215, 216, 217, 218, 219, 67, 220, 221, 222, 223, 224, 225, 226, 227, 228, 229, 230, 231, 232, 233, 234, 235, 41, 236, 237, 238, 239, 240, 241, 242, 243, 244, 245, 246, 247, 248, 249, 250, 251, 252, 859, 860, 861, 812, 813, 814, 815, 816, 817, 818, 855, 856, 857, 858, 840, 841, 842, 843, 844, 845, 846, 847, 848, 852, 853, 854] (by decide +kernel) (by decide +kernel)) (goodIn_sub (fun _ h => List.mem_append_left _ (List.mem_append_left _ (List.mem_append_right _ h))) (by decide +kernel))) (goodIn_sub (fun _ h => List.mem_append_left _ (List.mem_append_right _ h)) (by decide +kernel))
set_option maxRecDepth 20000 in
theorem gL_law_L_deleteColumn : GoodIn wsL_law (va_wsS RL 113 yL_deleteColumn wsL_deleteColumn) := goodIn_app (goodIn_of _ (by decide +kernel)) ggL_law_L_deleteColumn
set_option maxRecDepth 20000 in
theorem ggL_law_X8_deleteColumn : GoodIn wsL_law wsX8_deleteColumn := goodIn_r _ [325, 258, 259, 5, 260, 311, 312, 313, 314, 257, 264, 265, 266, 267, 268, 269, 270, 271, 272, 97, 273, 274, 275, 276, 98, 99, 100, 101, 102, 277, 278, 279, 280, 90, 91, 92, 281, 282, 283, 284, 285, 286, 287, 93, 94, 819, 820, 821, 822, 823, 824, 825, 826, 827, 828, 829, 830, 831, 832, 833, 834, 835, 836, 837] (by decide +kernel) (by decide +kernel)
set_option maxRecDepth 20000 in
theorem gL_law_X8_deleteColumn : GoodIn wsL_law (wsV RL 116 RX8 yX8_deleteColumn wsX8_deleteColumn) := goodIn_app (goodIn_of _ (by decide +kernel)) ggL_law_X8_deleteColumn
set_option maxRecDepth 20000 in
theorem ggL_law_L_deleteRow : GoodIn wsL_law wsL_deleteRow := goodIn_ca (goodIn_ca (goodIn_r _ [328, 108, 109, 329, 330, 331, 2, 332, 299, 300, 176, 29, 117, 118, 119, 120, 121, 122, 123, 124, 125, 126, 127, 301, 302, 303, 131, 132, 133, 134, 135, 304, 305, 306, 178, 179, 180, 146, 147, 148, 149, 11, 12, 150, 151, 152, 153, 20, 22, 154, 155, 156, 157, 116, 158, 142, 143, 144, 145, 159, 160, 161, 19, 162, 163, 164, 165, 166, 47, 48, 49, 167, 168, 169, 170, 171, 172, 173, 174, 175, 177, 181, 182, 183, 184, 50, 51, 185, 186, 187, 188, 189, 190, 191, 192, 193, 194, 24, 195, 62, 63, 61, 196, 197, 198, 199, 60, 200, 201, 202, 203, 204, 205, 206, 207, 68, 208, 209, 210, 211, 212, 213, 214, 215, 216, 217, 218, 219, 67, 220, 221, 222, 223, 224, 225, 226, 227, 228, 229, 230, 231, 232, 233, 234, 235, 41, 236, 237, 238, 239, 240, 241, 242, 243, 244, 245, 246, 247, 248, 249, 250, 251, 252, 859, 860, 861, 812, 813, 814, 815, 816, 817, 818, 855, 856, 857, 858, 840, 841, 842, 843, 844, 845, 846, 847, 848, 852, 853, 854] (by decide +kernel) (by decide +kernel)) (goodIn_sub (fun _ h => List.mem_append_left _ (List.mem_append_left _ (List.mem_append_right _ h))) (by decide +kernel))) (goodIn_sub (fun _ h => List.mem_append_left _ (List.mem_append_right _ h)) (by decide +kernel))
set_option maxRecDepth 20000 in
theorem gL_law_L_deleteRow : GoodIn wsL_law (va_wsS RL 117 yL_deleteRow wsL_deleteRow) := goodIn_app (goodIn_of _ (by decide +kernel)) ggL_law_L_deleteRow
set_option maxRecDepth 20000 in
theorem ggL_law_X8_deleteRow : GoodIn wsL_law wsX8_deleteRow := goodIn_r _ [336, 258, 259, 5, 260, 311, 312, 313, 314, 257, 264, 265, 266, 267, 268, 269, 270, 271, 272, 97, 273, 274, 275, 276, 98, 99, 100, 101, 102, 277, 278, 279, 280, 90, 91, 92, 281, 282, 283, 284, 285, 286, 287, 93, 94, 819, 820, 821, 822, 823, 824, 825, 826, 827, 828, 829, 830, 831, 832, 833, 834, 835, 836, 837] (by decide +kernel) (by decide +kernel)
set_option maxRecDepth 20000 in
theorem gL_law_X8_deleteRow : GoodIn wsL_law (wsV RL 119 RX8 yX8_deleteRow wsX8_deleteRow) := goodIn_app (goodIn_of _ (by decide +kernel)) ggL_law_X8_deleteRow
set_option maxRecDepth 20000 in
theorem ggL_law_L_deleteRange : GoodIn wsL_law wsL_deleteRange := goodIn_ca (goodIn_ca (goodIn_ca (goodIn_r _ [339, 108, 109, 340, 341, 342, 343, 2, 344, 16, 299, 300, 176, 29, 117, 118, 119, 120, 121, 122, 123, 124, 125, 126, 127, 301, 302, 303, 131, 132, 133, 134, 135, 345, 346, 347, 15, 348, 37, 38, 349, 350, 351, 352, 353, 304, 305, 306, 178, 179, 180, 146, 147, 148, 149, 11, 12, 150, 151, 152, 153, 20, 22, 154, 155, 156, 157, 116, 158, 142, 143, 144, 145, 159, 160, 161, 19, 162, 163, 164, 165, 166, 47, 48, 49, 167, 168, 169, 170, 171, 172, 173, 174, 175, 177, 181, 182, 183, 184, 50, 51, 185, 186, 187, 188, 189, 190, 191, 192, 193, 194, 24, 195, 62, 63, 61, 196, 197, 198, 199, 60, 200, 201, 202, 203, 204, 205, 206, 207, 68, 208, 209, 210, 211, 212, 213, 214, 215, 216, 217, 218, 219, 67, 220, 221, 222, 223, 224, 225, 226, 227, 228, 229, 230, 231, 232, 233, 234, 235, 41, 236, 237, 238, 239, 240, 241, 242, 243, 244, 245, 246, 247, 248, 249, 250, 251, 252, 812, 813, 814, 815, 816, 817, 818, 859, 860, 861, 838, 839, 855, 856, 857, 858, 840, 841, 842, 843, 844, 845, 846, 847, 848, 852, 853, 854] (by decide +kernel) (by decide +kernel)) (goodIn_sub (fun _ h => List.mem_append_left _ (List.mem_append_left _ (List.mem_append_right _ h))) (by decide +kernel))) (goodIn_sub (fun _ h => List.mem_append_left _ (List.mem_append_right _ h)) (by decide +kernel))) (goodIn_sub (fun _ h => List.mem_append_right _ h) (by decide +kernel))
set_option maxRecDepth 20000 in
theorem gL_law_L_deleteRange : GoodIn wsL_law (va_wsS RL 120 yL_deleteRange wsL_deleteRange) := goodIn_app (goodIn_of _ (by decide +kernel)) ggL_law_L_deleteRange
set_option maxRecDepth 20000 in
theorem ggL_law_X8_deleteRange : GoodIn wsL_law wsX8_deleteRange := goodIn_r _ [357, 358, 95, 96, 258, 259, 5, 260, 264, 265, 266, 267, 268, 311, 312, 313, 314, 257, 269, 270, 271, 272, 97, 273, 274, 275, 276, 98, 99, 100, 101, 102, 277, 278, 279, 280, 90, 91, 92, 281, 282, 283, 284, 285, 286, 287, 93, 94, 819, 820, 821, 822, 823, 824, 825, 826, 827, 828, 829, 830, 831, 832, 833, 834, 835, 836, 837] (by decide +kernel) (by decide +kernel)
set_option maxRecDepth 20000 in
theorem gL_law_X8_deleteRange : GoodIn wsL_law (wsV RL 122 RX8 yX8_deleteRange wsX8_deleteRange) := goodIn_app (goodIn_of _ (by decide +kernel)) ggL_law_X8_deleteRange
set_option maxRecDepth 20000 in
theorem ggL_law_L_setUp : GoodIn wsL_law wsL_setUp := goodIn_ca (goodIn_r _ [361, 108, 362, 363, 364, 2, 365, 366, 367, 368, 369, 22, 120, 121, 122, 123, 124, 125, 126, 127, 370, 371, 372, 24, 373, 62, 61, 374, 63, 197, 198, 199, 60, 200, 201, 375, 376, 377, 378, 379, 380, 381, 382, 383, 384, 385, 386, 387, 388, 389, 390, 68, 196, 155, 156, 157, 116, 158, 142, 143, 144, 145, 159, 160, 161, 19, 162, 163, 164, 165, 166, 47, 48, 49, 167, 168, 169, 170, 171, 172, 173, 174, 175, 176, 177, 178, 179, 180, 181, 182, 183, 184, 50, 51, 185, 186, 187, 188, 391, 392, 393, 394, 395, 396, 397, 398, 206, 207, 399, 400, 401, 402, 812, 813, 814, 815, 816, 817, 818, 846, 847, 848, 852, 853, 854, 855, 856, 857, 858, 840, 841, 842, 843, 844, 845, 859, 860, 861] (by decide +kernel) (by decide +kernel)) (goodIn_sub (fun _ h => List.mem_append_left _ (List.mem_append_left _ (List.mem_append_right _ h))) (by decide +kernel))
set_option maxRecDepth 20000 in
theorem gL_law_L_setUp : GoodIn wsL_law (va_wsS RL 123 yL_setUp wsL_setUp) := goodIn_app (goodIn_of _ (by decide +kernel)) ggL_law_L_setUp
set_option maxRecDepth 20000 in
theorem ggL_law_X8_setUp : GoodIn wsL_law wsX8_setUp := goodIn_r _ [406, 97, 98, 99, 100, 101, 102, 407, 408, 5, 409, 258, 259, 260, 264, 265, 266, 267, 268, 273, 274, 275, 276, 277, 278, 279, 280, 90, 91, 92, 281, 282, 283, 284, 285, 286, 287, 93, 94, 819, 820, 821, 822, 823, 824, 825, 826, 827, 828, 829, 830, 831, 832, 833, 834, 835, 836, 837] (by decide +kernel) (by decide +kernel)
set_option maxRecDepth 20000 in
theorem gL_law_X8_setUp : GoodIn wsL_law (wsV RL 126 RX8 yX8_setUp wsX8_setUp) := goodIn_app (goodIn_of _ (by decide +kernel)) ggL_law_X8_setUp
set_option maxRecDepth 20000 in
theorem ggL_law_L_loseHints : GoodIn wsL_law wsL_loseHints := goodIn_ca (goodIn_r _ [412, 108, 413, 414, 415, 2, 416, 366, 367, 368, 369, 22, 120, 121, 122, 123, 124, 125, 126, 127, 417, 392, 393, 24, 394, 61, 197, 198, 199, 60, 200, 201, 395, 396, 397, 398, 206, 207, 68, 812, 813, 814, 815, 816, 817, 818, 846, 847, 848, 852, 853, 854] (by decide +kernel) (by decide +kernel)) (goodIn_sub (fun _ h => List.mem_append_left _ (List.mem_append_left _ (List.mem_append_right _ h))) (by decide +kernel))
set_option maxRecDepth 20000 in
theorem gL_law_L_loseHints : GoodIn wsL_law (va_wsS RL 127 yL_loseHints wsL_loseHints) := goodIn_app (goodIn_of _ (by decide +kernel)) ggL_law_L_loseHints
set_option maxRecDepth 20000 in
theorem ggL_law_X8_loseHints : GoodIn wsL_law wsX8_loseHints := goodIn_r _ [421, 98, 407, 408, 5, 409, 258, 259, 260, 264, 265, 266, 267, 268, 819, 820, 821, 822, 823, 824, 825, 826, 827, 828, 829, 830, 831, 832, 833, 834, 835, 836, 837] (by decide +kernel) (by decide +kernel)
set_option maxRecDepth 20000 in
theorem gL_law_X8_loseHints : GoodIn wsL_law (wsV RL 130 RX8 yX8_loseHints wsX8_loseHints) := goodIn_app (goodIn_of _ (by decide +kernel)) ggL_law_X8_loseHints
set_option maxRecDepth 20000 in
theorem ggL_law_L_pass : GoodIn wsL_law wsL_pass := goodIn_ca (goodIn_ca (goodIn_r _ [424, 109, 340, 425, 426, 427, 2, 428, 29, 131, 132, 133, 134, 135, 349, 350, 351, 352, 353, 812, 813, 814, 815, 816, 817, 818] (by decide +kernel) (by decide +kernel)) (goodIn_sub (fun _ h => List.mem_append_left _ (List.mem_append_right _ h)) (by decide +kernel))) (goodIn_sub (fun _ h => List.mem_append_right _ h) (by decide +kernel))
set_option maxRecDepth 20000 in
theorem gL_law_L_pass : GoodIn wsL_law (va_wsS RL 131 yL_pass wsL_pass) := goodIn_app (goodIn_of _ (by decide +kernel)) ggL_law_L_pass
set_option maxRecDepth 20000 in
theorem ggL_law_X8_pass : GoodIn wsL_law wsX8_pass := goodIn_r _ [432, 257, 258, 259, 5, 260, 264, 265, 266, 267, 268, 819, 820, 821, 822, 823, 824, 825, 826, 827, 828, 829, 830, 831, 832, 833, 834, 835, 836, 837] (by decide +kernel) (by decide +kernel)
set_option maxRecDepth 20000 in
theorem gL_law_X8_pass : GoodIn wsL_law (wsV RL 133 RX8 yX8_pass wsX8_pass) := goodIn_app (goodIn_of _ (by decide +kernel)) ggL_law_X8_pass
set_option maxRecDepth 20000 in
theorem ggL_law_L_setGrace : GoodIn wsL_law wsL_setGrace := goodIn_ca (goodIn_r _ [435, 109, 436, 437, 438, 2, 439, 30, 120, 121, 122, 131, 132, 133, 134, 135, 812, 813, 814, 815, 816, 817, 818] (by decide +kernel) (by decide +kernel)) (goodIn_sub (fun _ h => List.mem_append_left _ (List.mem_append_right _ h)) (by decide +kernel))
set_option maxRecDepth 20000 in
theorem gL_law_L_setGrace : GoodIn wsL_law (va_wsS RL 134 yL_setGrace wsL_setGrace) := goodIn_app (goodIn_of _ (by decide +kernel)) ggL_law_L_setGrace
set_option maxRecDepth 20000 in
theorem ggL_law_X8_setGrace : GoodIn wsL_law wsX8_setGrace := goodIn_r _ [443, 103, 258, 259, 5, 260, 264, 265, 266, 267, 268, 819, 820, 821, 822, 823, 824, 825, 826, 827, 828, 829, 830, 831, 832, 833, 834, 835, 836, 837] (by decide +kernel) (by decide +kernel)
set_option maxRecDepth 20000 in
theorem gL_law_X8_setGrace : GoodIn wsL_law (wsV RL 136 RX8 yX8_setGrace wsX8_setGrace) := goodIn_app (goodIn_of _ (by decide +kernel)) ggL_law_X8_setGrace
set_option maxRecDepth 20000 in
theorem ggL_law_L_read : GoodIn wsL_law wsL_read := goodIn_ca (goodIn_ca (goodIn_ca (goodIn_r _ [446, 108, 109, 340, 447, 448, 449, 2, 450, 31, 29, 451, 452, 453, 454, 366, 367, 368, 369, 22, 120, 121, 122, 123, 124, 125, 126, 127, 117, 118, 119, 128, 129, 130, 455, 456, 457, 458, 131, 132, 133, 134, 135, 349, 350, 351, 352, 353, 459, 460, 461, 19, 462, 137, 138, 463, 464, 465, 466, 47, 48, 49, 467, 468, 469, 470, 52, 471, 472, 473, 15, 474, 37, 38, 475, 476, 477, 478, 50, 51, 479, 480, 481, 482, 483, 160, 161, 162, 163, 164, 165, 166, 167, 168, 169, 170, 171, 172, 173, 484, 485, 486, 487, 488, 182, 183, 184, 185, 186, 187, 188, 489, 490, 491, 492, 493, 494, 495, 496, 497, 498, 499, 500, 501, 221, 222, 223, 812, 813, 814, 815, 816, 817, 818, 846, 847, 848, 840, 841, 842, 843, 844, 845, 838, 839] (by decide +kernel) (by decide +kernel)) (goodIn_sub (fun _ h => List.mem_append_left _ (List.mem_append_left _ (List.mem_append_right _ h))) (by decide +kernel))) (goodIn_sub (fun _ h => List.mem_append_left _ (List.mem_append_right _ h)) (by decide +kernel))) (goodIn_sub (fun _ h => List.mem_append_right _ h) (by decide +kernel))
set_option maxRecDepth 20000 in
theorem gL_law_L_read : GoodIn wsL_law (va_wsS RL 137 yL_read wsL_read) := goodIn_app (goodIn_of _ (by decide +kernel)) ggL_law_L_read
set_option maxRecDepth 20000 in
theorem ggL_law_X8_read : GoodIn wsL_law wsX8_read := goodIn_r _ [505, 97, 506, 407, 408, 5, 409, 258, 259, 260, 261, 262, 263, 264, 265, 266, 267, 268, 507, 508, 509, 510, 90, 91, 92, 511, 512, 513, 514, 277, 278, 279, 280, 281, 282, 283, 515, 516, 517, 518, 358, 95, 96, 519, 520, 521, 522, 93, 94, 523, 524, 525, 526, 284, 285, 286, 287, 527, 528, 529, 530, 257, 531, 532, 533, 534, 819, 820, 821, 822, 823, 824, 825, 826, 827, 828, 829, 830, 831, 832, 833, 834, 835, 836, 837] (by decide +kernel) (by decide +kernel)
set_option maxRecDepth 20000 in
theorem gL_law_X8_read : GoodIn wsL_law (wsV RL 139 RX8 yX8_read wsX8_read) := goodIn_app (goodIn_of _ (by decide +kernel)) ggL_law_X8_read
set_option maxRecDepth 20000 in
theorem ggL_law_L_makeAlike : GoodIn wsL_law wsL_makeAlike := goodIn_ca (goodIn_ca (goodIn_ca (goodIn_r _ [537, 108, 109, 340, 538, 539, 540, 2, 541, 28, 451, 452, 453, 454, 366, 367, 368, 369, 22, 120, 121, 122, 123, 124, 125, 126, 127, 455, 456, 457, 458, 131, 132, 133, 134, 135, 349, 350, 351, 352, 353, 542, 543, 544, 27, 545, 82, 83, 85, 546, 547, 548, 549, 550, 551, 552, 19, 553, 52, 554, 555, 556, 557, 558, 50, 51, 137, 138, 559, 560, 561, 562, 47, 49, 48, 471, 472, 473, 15, 474, 37, 38, 563, 564, 565, 566, 567, 568, 569, 570, 189, 190, 191, 571, 572, 573, 574, 575, 480, 481, 482, 483, 160, 161, 162, 163, 164, 165, 166, 167, 168, 169, 170, 171, 172, 173, 467, 468, 469, 470, 484, 485, 486, 487, 488, 182, 183, 184, 185, 186, 187, 188, 576, 577, 578, 579, 580, 581, 582, 812, 813, 814, 815, 816, 817, 818, 846, 847, 848, 849, 850, 851, 840, 841, 842, 843, 844, 845, 838, 839] (by decide +kernel) (by decide +kernel)) (goodIn_sub (fun _ h => List.mem_append_left _ (List.mem_append_left _ (List.mem_append_right _ h))) (by decide +kernel))) (goodIn_sub (fun _ h => List.mem_append_left _ (List.mem_append_right _ h)) (by decide +kernel))) (goodIn_sub (fun _ h => List.mem_append_right _ h) (by decide +kernel))
set_option maxRecDepth 20000 in
theorem gL_law_L_makeAlike : GoodIn wsL_law (va_wsS RL 140 yL_makeAlike wsL_makeAlike) := goodIn_app (goodIn_of _ (by decide +kernel)) ggL_law_L_makeAlike
set_option maxRecDepth 20000 in
theorem ggL_law_X8_makeAlike : GoodIn wsL_law wsX8_makeAlike := goodIn_r _ [586, 97, 407, 408, 5, 409, 258, 259, 260, 264, 265, 266, 267, 268, 587, 588, 589, 590, 591, 592, 593, 594, 595, 596, 597, 598, 599, 600, 90, 91, 92, 93, 95, 96, 94, 601, 602, 603, 604, 515, 516, 517, 518, 358, 511, 512, 513, 514, 277, 278, 279, 280, 281, 282, 283, 523, 524, 525, 526, 284, 285, 286, 287, 819, 820, 821, 822, 823, 824, 825, 826, 827, 828, 829, 830, 831, 832, 833, 834, 835, 836, 837] (by decide +kernel) (by decide +kernel)
set_option maxRecDepth 20000 in
theorem gL_law_X8_makeAlike : GoodIn wsL_law (wsV RL 143 RX8 yX8_makeAlike wsX8_makeAlike) := goodIn_app (goodIn_of _ (by decide +kernel)) ggL_law_X8_makeAlike
set_option maxRecDepth 20000 in
theorem ggL_law_L_clean : GoodIn wsL_law wsL_clean := goodIn_ca (goodIn_ca (goodIn_r _ [607, 108, 340, 608, 609, 610, 2, 611, 29, 30, 366, 367, 368, 369, 22, 120, 121, 122, 123, 124, 125, 126, 127, 349, 350, 351, 352, 353, 612, 613, 614, 19, 615, 47, 137, 138, 493, 494, 495, 496, 497, 498, 499, 500, 50, 501, 221, 222, 223, 467, 468, 469, 470, 52, 471, 472, 473, 15, 474, 37, 38, 616, 617, 618, 619, 170, 171, 172, 173, 48, 49, 620, 621, 622, 623, 51, 185, 186, 187, 188, 624, 625, 626, 627, 167, 168, 169, 846, 847, 848, 812, 813, 814, 815, 816, 817, 818, 840, 841, 842, 843, 844, 845, 838, 839] (by decide +kernel) (by decide +kernel)) (goodIn_sub (fun _ h => List.mem_append_left _ (List.mem_append_left _ (List.mem_append_right _ h))) (by decide +kernel))) (goodIn_sub (fun _ h => List.mem_append_right _ h) (by decide +kernel))
set_option maxRecDepth 20000 in
theorem gL_law_L_clean : GoodIn wsL_law (va_wsS RL 144 yL_clean wsL_clean) := goodIn_app (goodIn_of _ (by decide +kernel)) ggL_law_L_clean
set_option maxRecDepth 20000 in
theorem ggL_law_X8_clean : GoodIn wsL_law wsX8_clean := goodIn_r _ [631, 97, 90, 93, 257, 94, 103, 92, 407, 408, 5, 409, 258, 259, 260, 264, 265, 266, 267, 268, 531, 532, 533, 534, 515, 516, 517, 518, 358, 95, 96, 819, 820, 821, 822, 823, 824, 825, 826, 827, 828, 829, 830, 831, 832, 833, 834, 835, 836, 837] (by decide +kernel) (by decide +kernel)
set_option maxRecDepth 20000 in
theorem gL_law_X8_clean : GoodIn wsL_law (wsV RL 146 RX8 yX8_clean wsX8_clean) := goodIn_app (goodIn_of _ (by decide +kernel)) ggL_law_X8_clean
set_option maxRecDepth 20000 in
theorem ggL_law_X7_time : GoodIn wsL_law wsX7_time := goodIn_r _ [635, 29, 812, 813, 814, 815, 816, 817, 818] (by decide +kernel) (by decide +kernel)
set_option maxRecDepth 20000 in
theorem gL_law_X7_time : GoodIn wsL_law (wsV RL 147 RX7 yX7_time wsX7_time) := goodIn_app (goodIn_of _ (by decide +kernel)) ggL_law_X7_time
set_option maxRecDepth 20000 in
theorem ggL_law_X8_time : GoodIn wsL_law wsX8_time := goodIn_r _ [639, 268, 257, 819, 820, 821, 822, 823, 824, 825, 826, 827, 828, 829, 830, 831, 832, 833, 834, 835, 836, 837] (by decide +kernel) (by decide +kernel)
set_option maxRecDepth 20000 in
theorem gL_law_X8_time : GoodIn wsL_law (wsV RL 150 RX8 yX8_time wsX8_time) := goodIn_app (goodIn_of _ (by decide +kernel)) ggL_law_X8_time
set_option maxRecDepth 20000 in
theorem ggL_law_L_isUp : GoodIn wsL_law wsL_isUp := goodIn_ca (goodIn_r _ [642, 108, 643, 644, 645, 2, 646, 366, 367, 368, 369, 22, 120, 121, 122, 123, 124, 125, 126, 127, 846, 847, 848, 812, 813, 814, 815, 816, 817, 818] (by decide +kernel) (by decide +kernel)) (goodIn_sub (fun _ h => List.mem_append_left _ (List.mem_append_left _ (List.mem_append_right _ h))) (by decide +kernel))
set_option maxRecDepth 20000 in
theorem gL_law_L_isUp : GoodIn wsL_law (va_wsS RL 151 yL_isUp wsL_isUp) := goodIn_app (goodIn_of _ (by decide +kernel)) ggL_law_L_isUp
set_option maxRecDepth 20000 in
theorem ggL_law_X8_isUp : GoodIn wsL_law wsX8_isUp := goodIn_r _ [650, 97, 651, 652, 653, 5, 654, 407, 408, 409, 258, 259, 260, 264, 265, 266, 267, 268, 819, 820, 821, 822, 823, 824, 825, 826, 827, 828, 829, 830, 831, 832, 833, 834, 835, 836, 837] (by decide +kernel) (by decide +kernel)
set_option maxRecDepth 20000 in
theorem gL_law_X8_isUp : GoodIn wsL_law (wsV RL 153 RX8 yX8_isUp wsX8_isUp) := goodIn_app (goodIn_of _ (by decide +kernel)) ggL_law_X8_isUp
set_option maxRecDepth 20000 in
theorem ggL_law_L_hints : GoodIn wsL_law wsL_hints := goodIn_ca (goodIn_r _ [657, 108, 658, 659, 660, 2, 661, 366, 367, 368, 369, 22, 120, 121, 122, 123, 124, 125, 126, 127, 662, 198, 199, 60, 200, 201, 846, 847, 848, 812, 813, 814, 815, 816, 817, 818, 852, 853, 854] (by decide +kernel) (by decide +kernel)) (goodIn_sub (fun _ h => List.mem_append_left _ (List.mem_append_left _ (List.mem_append_right _ h))) (by decide +kernel))
set_option maxRecDepth 20000 in
theorem gL_law_L_hints : GoodIn wsL_law (va_wsS RL 154 yL_hints wsL_hints) := goodIn_app (goodIn_of _ (by decide +kernel)) ggL_law_L_hints
set_option maxRecDepth 20000 in
theorem ggL_law_X8_hints : GoodIn wsL_law wsX8_hints := goodIn_r _ [666, 98, 651, 652, 653, 5, 654, 407, 408, 409, 258, 259, 260, 264, 265, 266, 267, 268, 819, 820, 821, 822, 823, 824, 825, 826, 827, 828, 829, 830, 831, 832, 833, 834, 835, 836, 837] (by decide +kernel) (by decide +kernel)
set_option maxRecDepth 20000 in
theorem gL_law_X8_hints : GoodIn wsL_law (wsV RL 156 RX8 yX8_hints wsX8_hints) := goodIn_app (goodIn_of _ (by decide +kernel)) ggL_law_X8_hints
set_option maxRecDepth 20000 in
theorem ggL_law_X7_repairs : GoodIn wsL_law wsX7_repairs := goodIn_r _ [670, 31, 812, 813, 814, 815, 816, 817, 818] (by decide +kernel) (by decide +kernel)
set_option maxRecDepth 20000 in
theorem gL_law_X7_repairs : GoodIn wsL_law (wsV RL 157 RX7 yX7_repairs wsX7_repairs) := goodIn_app (goodIn_of _ (by decide +kernel)) ggL_law_X7_repairs
set_option maxRecDepth 20000 in
theorem ggL_law_X8_repairs : GoodIn wsL_law wsX8_repairs := goodIn_r _ [674, 268, 506, 819, 820, 821, 822, 823, 824, 825, 826, 827, 828, 829, 830, 831, 832, 833, 834, 835, 836, 837] (by decide +kernel) (by decide +kernel)
set_option maxRecDepth 20000 in
theorem gL_law_X8_repairs : GoodIn wsL_law (wsV RL 160 RX8 yX8_repairs wsX8_repairs) := goodIn_app (goodIn_of _ (by decide +kernel)) ggL_law_X8_repairs
set_option maxRecDepth 20000 in
theorem ggL_law_L_valueAt : GoodIn wsL_law wsL_valueAt := goodIn_ca (goodIn_r _ [677, 108, 678, 679, 680, 2, 681, 29, 451, 452, 453, 454, 366, 367, 368, 369, 22, 120, 121, 122, 123, 124, 125, 126, 127, 117, 118, 119, 128, 129, 130, 489, 490, 491, 19, 492, 47, 49, 48, 137, 138, 167, 168, 169, 493, 494, 495, 496, 497, 498, 499, 500, 50, 501, 221, 222, 223, 467, 468, 469, 470, 52, 471, 472, 473, 15, 474, 37, 38, 812, 813, 814, 815, 816, 817, 818, 846, 847, 848, 840, 841, 842, 843, 844, 845, 838, 839] (by decide +kernel) (by decide +kernel)) (goodIn_sub (fun _ h => List.mem_append_left _ (List.mem_append_left _ (List.mem_append_right _ h))) (by decide +kernel))
set_option maxRecDepth 20000 in
theorem gL_law_L_valueAt : GoodIn wsL_law (va_wsS RL 161 yL_valueAt wsL_valueAt) := goodIn_app (goodIn_of _ (by decide +kernel)) ggL_law_L_valueAt
set_option maxRecDepth 20000 in
theorem ggL_law_X8_valueAt : GoodIn wsL_law wsX8_valueAt := goodIn_r _ [685, 686, 687, 688, 5, 689, 407, 408, 409, 258, 259, 260, 261, 262, 263, 264, 265, 266, 267, 268, 527, 528, 529, 530, 90, 92, 257, 91, 531, 532, 533, 534, 93, 515, 516, 517, 518, 358, 95, 96, 819, 820, 821, 822, 823, 824, 825, 826, 827, 828, 829, 830, 831, 832, 833, 834, 835, 836, 837] (by decide +kernel) (by decide +kernel)
set_option maxRecDepth 20000 in
theorem gL_law_X8_valueAt : GoodIn wsL_law (wsV RL 163 RX8 yX8_valueAt wsX8_valueAt) := goodIn_app (goodIn_of _ (by decide +kernel)) ggL_law_X8_valueAt
set_option maxRecDepth 20000 in
theorem ggL_law_L_stampAt : GoodIn wsL_law wsL_stampAt := goodIn_ca (goodIn_r _ [692, 108, 693, 694, 695, 2, 696, 451, 452, 453, 454, 366, 367, 368, 369, 22, 120, 121, 122, 123, 124, 125, 126, 127, 117, 118, 119, 128, 129, 130, 136, 137, 138, 840, 841, 842, 843, 844, 845, 846, 847, 848, 812, 813, 814, 815, 816, 817, 818] (by decide +kernel) (by decide +kernel)) (goodIn_sub (fun _ h => List.mem_append_left _ (List.mem_append_left _ (List.mem_append_right _ h))) (by decide +kernel))
set_option maxRecDepth 20000 in
theorem gL_law_L_stampAt : GoodIn wsL_law (va_wsS RL 164 yL_stampAt wsL_stampAt) := goodIn_app (goodIn_of _ (by decide +kernel)) ggL_law_L_stampAt
set_option maxRecDepth 20000 in
theorem ggL_law_X8_stampAt : GoodIn wsL_law wsX8_stampAt := goodIn_r _ [700, 90, 686, 687, 688, 5, 689, 407, 408, 409, 258, 259, 260, 261, 262, 263, 264, 265, 266, 267, 268, 819, 820, 821, 822, 823, 824, 825, 826, 827, 828, 829, 830, 831, 832, 833, 834, 835, 836, 837] (by decide +kernel) (by decide +kernel)
set_option maxRecDepth 20000 in
theorem gL_law_X8_stampAt : GoodIn wsL_law (wsV RL 166 RX8 yX8_stampAt wsX8_stampAt) := goodIn_app (goodIn_of _ (by decide +kernel)) ggL_law_X8_stampAt
set_option maxRecDepth 20000 in
theorem ggL_law_L_buriedBy : GoodIn wsL_law wsL_buriedBy := goodIn_ca (goodIn_r _ [703, 108, 704, 705, 706, 2, 707, 451, 452, 453, 454, 366, 367, 368, 369, 22, 120, 121, 122, 123, 124, 125, 126, 127, 117, 118, 119, 128, 129, 130, 708, 498, 499, 19, 500, 50, 501, 221, 222, 223, 467, 468, 469, 470, 52, 137, 138, 471, 472, 473, 15, 474, 37, 38, 846, 847, 848, 812, 813, 814, 815, 816, 817, 818, 840, 841, 842, 843, 844, 845, 838, 839] (by decide +kernel) (by decide +kernel)) (goodIn_sub (fun _ h => List.mem_append_left _ (List.mem_append_left _ (List.mem_append_right _ h))) (by decide +kernel))
set_option maxRecDepth 20000 in
theorem gL_law_L_buriedBy : GoodIn wsL_law (va_wsS RL 167 yL_buriedBy wsL_buriedBy) := goodIn_app (goodIn_of _ (by decide +kernel)) ggL_law_L_buriedBy
set_option maxRecDepth 20000 in
theorem ggL_law_X8_buriedBy : GoodIn wsL_law wsX8_buriedBy := goodIn_r _ [712, 686, 687, 688, 5, 689, 407, 408, 409, 258, 259, 260, 261, 262, 263, 264, 265, 266, 267, 268, 531, 532, 533, 534, 93, 515, 516, 517, 518, 358, 95, 96, 819, 820, 821, 822, 823, 824, 825, 826, 827, 828, 829, 830, 831, 832, 833, 834, 835, 836, 837] (by decide +kernel) (by decide +kernel)
set_option maxRecDepth 20000 in
theorem gL_law_X8_buriedBy : GoodIn wsL_law (wsV RL 169 RX8 yX8_buriedBy wsX8_buriedBy) := goodIn_app (goodIn_of _ (by decide +kernel)) ggL_law_X8_buriedBy
set_option maxRecDepth 20000 in
theorem ggL_law_L_tombstones : GoodIn wsL_law wsL_tombstones := goodIn_ca (goodIn_ca (goodIn_r _ [715, 108, 109, 716, 717, 718, 2, 719, 451, 452, 453, 454, 366, 367, 368, 369, 22, 120, 121, 122, 123, 124, 125, 126, 127, 131, 132, 133, 134, 135, 720, 721, 722, 19, 723, 50, 724, 725, 726, 846, 847, 848, 812, 813, 814, 815, 816, 817, 818, 840, 841, 842, 843, 844, 845] (by decide +kernel) (by decide +kernel)) (goodIn_sub (fun _ h => List.mem_append_left _ (List.mem_append_left _ (List.mem_append_right _ h))) (by decide +kernel))) (goodIn_sub (fun _ h => List.mem_append_left _ (List.mem_append_right _ h)) (by decide +kernel))
set_option maxRecDepth 20000 in
theorem gL_law_L_tombstones : GoodIn wsL_law (va_wsS RL 170 yL_tombstones wsL_tombstones) := goodIn_app (goodIn_of _ (by decide +kernel)) ggL_law_L_tombstones
set_option maxRecDepth 20000 in
theorem ggL_law_X8_tombstones : GoodIn wsL_law wsX8_tombstones := goodIn_r _ [730, 93, 407, 408, 5, 409, 258, 259, 260, 264, 265, 266, 267, 268, 731, 732, 733, 819, 820, 821, 822, 823, 824, 825, 826, 827, 828, 829, 830, 831, 832, 833, 834, 835, 836, 837] (by decide +kernel) (by decide +kernel)
set_option maxRecDepth 20000 in
theorem gL_law_X8_tombstones : GoodIn wsL_law (wsV RL 172 RX8 yX8_tombstones wsX8_tombstones) := goodIn_app (goodIn_of _ (by decide +kernel)) ggL_law_X8_tombstones
set_option maxRecDepth 20000 in
theorem ggL_law_L_entries : GoodIn wsL_law wsL_entries := goodIn_ca (goodIn_r _ [736, 108, 737, 738, 739, 2, 740, 451, 452, 453, 454, 366, 367, 368, 369, 22, 120, 121, 122, 123, 124, 125, 126, 127, 741, 742, 743, 19, 744, 47, 846, 847, 848, 812, 813, 814, 815, 816, 817, 818, 840, 841, 842, 843, 844, 845] (by decide +kernel) (by decide +kernel)) (goodIn_sub (fun _ h => List.mem_append_left _ (List.mem_append_left _ (List.mem_append_right _ h))) (by decide +kernel))
set_option maxRecDepth 20000 in
theorem gL_law_L_entries : GoodIn wsL_law (va_wsS RL 173 yL_entries wsL_entries) := goodIn_app (goodIn_of _ (by decide +kernel)) ggL_law_L_entries
set_option maxRecDepth 20000 in
theorem ggL_law_X8_entries : GoodIn wsL_law wsX8_entries := goodIn_r _ [748, 90, 651, 652, 653, 5, 654, 407, 408, 409, 258, 259, 260, 264, 265, 266, 267, 268, 819, 820, 821, 822, 823, 824, 825, 826, 827, 828, 829, 830, 831, 832, 833, 834, 835, 836, 837] (by decide +kernel) (by decide +kernel)
set_option maxRecDepth 20000 in
theorem gL_law_X8_entries : GoodIn wsL_law (wsV RL 175 RX8 yX8_entries wsX8_entries) := goodIn_app (goodIn_of _ (by decide +kernel)) ggL_law_X8_entries
set_option maxRecDepth 20000 in
theorem ggL_law_L_ideal : GoodIn wsL_law wsL_ideal := goodIn_ca (goodIn_r _ [751, 108, 752, 753, 754, 2, 755, 20, 29, 117, 118, 119, 120, 121, 122, 123, 124, 125, 126, 127, 128, 129, 130, 489, 490, 491, 19, 492, 47, 49, 48, 137, 138, 167, 168, 169, 493, 494, 495, 496, 497, 498, 499, 500, 50, 501, 221, 222, 223, 467, 468, 469, 470, 52, 471, 472, 473, 15, 474, 37, 38, 812, 813, 814, 815, 816, 817, 818, 840, 841, 842, 843, 844, 845, 838, 839] (by decide +kernel) (by decide +kernel)) (goodIn_sub (fun _ h => List.mem_append_left _ (List.mem_append_left _ (List.mem_append_right _ h))) (by decide +kernel))
set_option maxRecDepth 20000 in
theorem gL_law_L_ideal : GoodIn wsL_law (va_wsS RL 176 yL_ideal wsL_ideal) := goodIn_app (goodIn_of _ (by decide +kernel)) ggL_law_L_ideal
set_option maxRecDepth 20000 in
theorem ggL_law_X8_ideal : GoodIn wsL_law wsX8_ideal := goodIn_r _ [759, 261, 262, 5, 263, 258, 259, 260, 264, 265, 266, 267, 268, 527, 528, 529, 530, 90, 92, 257, 91, 531, 532, 533, 534, 93, 515, 516, 517, 518, 358, 95, 96, 819, 820, 821, 822, 823, 824, 825, 826, 827, 828, 829, 830, 831, 832, 833, 834, 835, 836, 837] (by decide +kernel) (by decide +kernel)
set_option maxRecDepth 20000 in
theorem gL_law_X8_ideal : GoodIn wsL_law (wsV RL 178 RX8 yX8_ideal wsX8_ideal) := goodIn_app (goodIn_of _ (by decide +kernel)) ggL_law_X8_ideal
set_option maxRecDepth 20000 in
theorem ggL_law_L_sumOf : GoodIn wsL_law wsL_sumOf := goodIn_ca (goodIn_r _ [762, 108, 763, 764, 765, 2, 766, 28, 451, 452, 453, 454, 366, 367, 368, 369, 22, 120, 121, 122, 123, 124, 125, 126, 127, 767, 768, 769, 27, 770, 82, 546, 547, 548, 549, 550, 551, 552, 19, 553, 52, 554, 555, 556, 557, 558, 50, 51, 137, 138, 559, 560, 561, 562, 47, 49, 48, 471, 472, 473, 15, 474, 37, 38, 563, 564, 565, 566, 812, 813, 814, 815, 816, 817, 818, 846, 847, 848, 849, 850, 851, 840, 841, 842, 843, 844, 845, 838, 839] (by decide +kernel) (by decide +kernel)) (goodIn_sub (fun _ h => List.mem_append_left _ (List.mem_append_left _ (List.mem_append_right _ h))) (by decide +kernel))
set_option maxRecDepth 20000 in
theorem gL_law_L_sumOf : GoodIn wsL_law (va_wsS RL 179 yL_sumOf wsL_sumOf) := goodIn_app (goodIn_of _ (by decide +kernel)) ggL_law_L_sumOf
set_option maxRecDepth 20000 in
theorem ggL_law_X8_sumOf : GoodIn wsL_law wsX8_sumOf := goodIn_r _ [774, 407, 408, 5, 409, 258, 259, 260, 264, 265, 266, 267, 268, 592, 593, 594, 595, 596, 597, 598, 599, 600, 90, 91, 92, 93, 95, 96, 94, 601, 602, 603, 604, 515, 516, 517, 518, 358, 819, 820, 821, 822, 823, 824, 825, 826, 827, 828, 829, 830, 831, 832, 833, 834, 835, 836, 837] (by decide +kernel) (by decide +kernel)
set_option maxRecDepth 20000 in
theorem gL_law_X8_sumOf : GoodIn wsL_law (wsV RL 181 RX8 yX8_sumOf wsX8_sumOf) := goodIn_app (goodIn_of _ (by decide +kernel)) ggL_law_X8_sumOf
set_option maxRecDepth 20000 in
theorem ggL_law_L_compared : GoodIn wsL_law wsL_compared := goodIn_ca (goodIn_r _ [777, 108, 778, 779, 780, 2, 781, 28, 451, 452, 453, 454, 366, 367, 368, 369, 22, 120, 121, 122, 123, 124, 125, 126, 127, 542, 543, 544, 27, 545, 82, 83, 85, 546, 547, 548, 549, 550, 551, 552, 19, 553, 52, 554, 555, 556, 557, 558, 50, 51, 137, 138, 559, 560, 561, 562, 47, 49, 48, 471, 472, 473, 15, 474, 37, 38, 563, 564, 565, 566, 812, 813, 814, 815, 816, 817, 818, 846, 847, 848, 849, 850, 851, 840, 841, 842, 843, 844, 845, 838, 839] (by decide +kernel) (by decide +kernel)) (goodIn_sub (fun _ h => List.mem_append_left _ (List.mem_append_left _ (List.mem_append_right _ h))) (by decide +kernel))
set_option maxRecDepth 20000 in
theorem gL_law_L_compared : GoodIn wsL_law (va_wsS RL 182 yL_compared wsL_compared) := goodIn_app (goodIn_of _ (by decide +kernel)) ggL_law_L_compared
set_option maxRecDepth 20000 in
theorem ggL_law_X8_compared : GoodIn wsL_law wsX8_compared := goodIn_r _ [785, 591, 407, 408, 5, 409, 258, 259, 260, 264, 265, 266, 267, 268, 587, 588, 589, 590, 592, 593, 594, 595, 596, 597, 598, 599, 600, 90, 91, 92, 93, 95, 96, 94, 601, 602, 603, 604, 515, 516, 517, 518, 358, 819, 820, 821, 822, 823, 824, 825, 826, 827, 828, 829, 830, 831, 832, 833, 834, 835, 836, 837] (by decide +kernel) (by decide +kernel)
set_option maxRecDepth 20000 in
theorem gL_law_X8_compared : GoodIn wsL_law (wsV RL 184 RX8 yX8_compared wsX8_compared) := goodIn_app (goodIn_of _ (by decide +kernel)) ggL_law_X8_compared
set_option maxRecDepth 20000 in
theorem ggL_law_L_unlike : GoodIn wsL_law wsL_unlike := goodIn_ca (goodIn_r _ [788, 108, 789, 790, 791, 2, 792, 28, 451, 452, 453, 454, 366, 367, 368, 369, 22, 120, 121, 122, 123, 124, 125, 126, 127, 542, 543, 544, 27, 545, 82, 83, 85, 546, 547, 548, 549, 550, 551, 552, 19, 553, 52, 554, 555, 556, 557, 558, 50, 51, 137, 138, 559, 560, 561, 562, 47, 49, 48, 471, 472, 473, 15, 474, 37, 38, 563, 564, 565, 566, 567, 568, 569, 570, 812, 813, 814, 815, 816, 817, 818, 846, 847, 848, 849, 850, 851, 840, 841, 842, 843, 844, 845, 838, 839] (by decide +kernel) (by decide +kernel)) (goodIn_sub (fun _ h => List.mem_append_left _ (List.mem_append_left _ (List.mem_append_right _ h))) (by decide +kernel))
set_option maxRecDepth 20000 in
theorem gL_law_L_unlike : GoodIn wsL_law (va_wsS RL 185 yL_unlike wsL_unlike) := goodIn_app (goodIn_of _ (by decide +kernel)) ggL_law_L_unlike
set_option maxRecDepth 20000 in
theorem ggL_law_X8_unlike : GoodIn wsL_law wsX8_unlike := goodIn_r _ [796, 407, 408, 5, 409, 258, 259, 260, 264, 265, 266, 267, 268, 587, 588, 589, 590, 591, 592, 593, 594, 595, 596, 597, 598, 599, 600, 90, 91, 92, 93, 95, 96, 94, 601, 602, 603, 604, 515, 516, 517, 518, 358, 819, 820, 821, 822, 823, 824, 825, 826, 827, 828, 829, 830, 831, 832, 833, 834, 835, 836, 837] (by decide +kernel) (by decide +kernel)
set_option maxRecDepth 20000 in
theorem gL_law_X8_unlike : GoodIn wsL_law (wsV RL 187 RX8 yX8_unlike wsX8_unlike) := goodIn_app (goodIn_of _ (by decide +kernel)) ggL_law_X8_unlike
set_option maxRecDepth 20000 in
theorem ggL_law_L_areAlike : GoodIn wsL_law wsL_areAlike := goodIn_ca (goodIn_r _ [799, 108, 800, 801, 802, 2, 803, 451, 452, 453, 454, 366, 367, 368, 369, 22, 120, 121, 122, 123, 124, 125, 126, 127, 804, 805, 806, 19, 807, 463, 464, 465, 466, 47, 48, 49, 475, 476, 477, 478, 50, 51, 846, 847, 848, 812, 813, 814, 815, 816, 817, 818, 840, 841, 842, 843, 844, 845] (by decide +kernel) (by decide +kernel)) (goodIn_sub (fun _ h => List.mem_append_left _ (List.mem_append_left _ (List.mem_append_right _ h))) (by decide +kernel))
set_option maxRecDepth 20000 in
theorem gL_law_L_areAlike : GoodIn wsL_law (va_wsS RL 188 yL_areAlike wsL_areAlike) := goodIn_app (goodIn_of _ (by decide +kernel)) ggL_law_L_areAlike
set_option maxRecDepth 20000 in
theorem ggL_law_X8_areAlike : GoodIn wsL_law wsX8_areAlike := goodIn_r _ [811, 407, 408, 5, 409, 258, 259, 260, 264, 265, 266, 267, 268, 507, 508, 509, 510, 90, 91, 92, 519, 520, 521, 522, 93, 94, 819, 820, 821, 822, 823, 824, 825, 826, 827, 828, 829, 830, 831, 832, 833, 834, 835, 836, 837] (by decide +kernel) (by decide +kernel)
set_option maxRecDepth 20000 in
theorem gL_law_X8_areAlike : GoodIn wsL_law (wsV RL 190 RX8 yX8_areAlike wsX8_areAlike) := goodIn_app (goodIn_of _ (by decide +kernel)) ggL_law_X8_areAlike
