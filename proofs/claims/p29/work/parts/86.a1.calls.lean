set_option maxRecDepth 20000 in
theorem ggL_isCopy_X7_isUp : GoodIn wsL_isCopy wsX7_isUp := goodIn_ca (goodIn_r _ [6, 7, 8, 9, 5, 10, 11, 12, 13, 14, 15, 16, 17, 18, 19, 150, 151, 152, 153, 154, 155, 156, 157, 158, 159] (by decide +kernel) (by decide +kernel)) (goodIn_sub (fun _ h => List.mem_cons_of_mem _ (List.mem_append_left _ (List.mem_append_right _ h))) (by decide +kernel))
set_option maxRecDepth 20000 in
theorem gL_isCopy_X7_isUp : GoodIn wsL_isCopy (wsV RL 28 RX7 yX7_isUp wsX7_isUp) := goodIn_app (goodIn_of _ (by decide +kernel)) ggL_isCopy_X7_isUp
set_option maxRecDepth 20000 in
theorem ggL_isCopy_X7_hints : GoodIn wsL_isCopy wsX7_hints := goodIn_ca (goodIn_r _ [23, 7, 8, 9, 5, 10, 11, 12, 13, 14, 15, 16, 17, 18, 19, 24, 25, 26, 27, 28, 29, 150, 151, 152, 153, 154, 155, 156, 157, 158, 159, 160, 161, 162] (by decide +kernel) (by decide +kernel)) (goodIn_sub (fun _ h => List.mem_cons_of_mem _ (List.mem_append_left _ (List.mem_append_right _ h))) (by decide +kernel))
set_option maxRecDepth 20000 in
theorem gL_isCopy_X7_hints : GoodIn wsL_isCopy (wsV RL 32 RX7 yX7_hints wsX7_hints) := goodIn_app (goodIn_of _ (by decide +kernel)) ggL_isCopy_X7_hints
set_option maxRecDepth 20000 in
theorem ggL_isCopy_X7_stampAt : GoodIn wsL_isCopy wsX7_stampAt := goodIn_ca (goodIn_r _ [33, 34, 35, 36, 5, 37, 7, 8, 9, 10, 11, 12, 13, 14, 15, 16, 17, 18, 19, 38, 39, 40, 41, 42, 43, 44, 45, 46, 163, 164, 165, 166, 167, 168, 150, 151, 152, 153, 154, 155, 156, 157, 158, 159] (by decide +kernel) (by decide +kernel)) (goodIn_sub (fun _ h => List.mem_cons_of_mem _ (List.mem_append_left _ (List.mem_append_right _ h))) (by decide +kernel))
set_option maxRecDepth 20000 in
theorem gL_isCopy_X7_stampAt : GoodIn wsL_isCopy (wsV RL 36 RX7 yX7_stampAt wsX7_stampAt) := goodIn_app (goodIn_of _ (by decide +kernel)) ggL_isCopy_X7_stampAt
set_option maxRecDepth 20000 in
theorem ggL_isCopy_X7_valueAt : GoodIn wsL_isCopy wsX7_valueAt := goodIn_ca (goodIn_r _ [50, 51, 34, 35, 36, 5, 37, 7, 8, 9, 10, 11, 12, 13, 14, 15, 16, 17, 18, 19, 38, 39, 40, 41, 42, 43, 52, 53, 54, 55, 56, 57, 58, 59, 45, 46, 60, 61, 62, 63, 64, 65, 66, 67, 68, 69, 70, 71, 72, 73, 74, 75, 76, 77, 78, 79, 80, 81, 82, 83, 84, 85, 86, 87, 153, 154, 155, 156, 157, 158, 159, 150, 151, 152, 163, 164, 165, 166, 167, 168, 169, 170] (by decide +kernel) (by decide +kernel)) (goodIn_sub (fun _ h => List.mem_cons_of_mem _ (List.mem_append_left _ (List.mem_append_right _ h))) (by decide +kernel))
set_option maxRecDepth 20000 in
theorem gL_isCopy_X7_valueAt : GoodIn wsL_isCopy (wsV RL 39 RX7 yX7_valueAt wsX7_valueAt) := goodIn_app (goodIn_of _ (by decide +kernel)) ggL_isCopy_X7_valueAt
set_option maxRecDepth 20000 in
theorem ggL_isCopy_X7_buriedBy : GoodIn wsL_isCopy wsX7_buriedBy := goodIn_ca (goodIn_r _ [91, 34, 35, 36, 5, 37, 7, 8, 9, 10, 11, 12, 13, 14, 15, 16, 17, 18, 19, 38, 39, 40, 41, 42, 43, 92, 68, 69, 55, 70, 71, 72, 73, 74, 75, 76, 77, 78, 79, 80, 45, 46, 81, 82, 83, 84, 85, 86, 87, 150, 151, 152, 153, 154, 155, 156, 157, 158, 159, 163, 164, 165, 166, 167, 168, 169, 170] (by decide +kernel) (by decide +kernel)) (goodIn_sub (fun _ h => List.mem_cons_of_mem _ (List.mem_append_left _ (List.mem_append_right _ h))) (by decide +kernel))
set_option maxRecDepth 20000 in
theorem gL_isCopy_X7_buriedBy : GoodIn wsL_isCopy (wsV RL 42 RX7 yX7_buriedBy wsX7_buriedBy) := goodIn_app (goodIn_of _ (by decide +kernel)) ggL_isCopy_X7_buriedBy
set_option maxRecDepth 20000 in
theorem ggL_isCopy_X7_sumOf : GoodIn wsL_isCopy wsX7_sumOf := goodIn_ca (goodIn_r _ [96, 97, 34, 35, 36, 5, 37, 7, 8, 9, 10, 11, 12, 13, 14, 15, 16, 17, 18, 19, 98, 99, 100, 101, 102, 103, 104, 105, 106, 107, 108, 109, 110, 55, 111, 80, 112, 113, 114, 115, 116, 71, 117, 45, 46, 118, 119, 120, 121, 57, 58, 59, 81, 82, 83, 84, 85, 86, 87, 122, 123, 124, 125, 153, 154, 155, 156, 157, 158, 159, 150, 151, 152, 171, 172, 173, 163, 164, 165, 166, 167, 168, 169, 170] (by decide +kernel) (by decide +kernel)) (goodIn_sub (fun _ h => List.mem_cons_of_mem _ (List.mem_append_left _ (List.mem_append_right _ h))) (by decide +kernel))
set_option maxRecDepth 20000 in
theorem gL_isCopy_X7_sumOf : GoodIn wsL_isCopy (wsV RL 45 RX7 yX7_sumOf wsX7_sumOf) := goodIn_app (goodIn_of _ (by decide +kernel)) ggL_isCopy_X7_sumOf
set_option maxRecDepth 20000 in
theorem ggL_isCopy_X7_tombstones : GoodIn wsL_isCopy wsX7_tombstones := goodIn_ca (goodIn_ca (goodIn_r _ [129, 34, 35, 36, 5, 37, 7, 8, 9, 10, 11, 12, 13, 14, 15, 16, 17, 18, 19, 130, 131, 132, 133, 134, 135, 136, 137, 55, 138, 71, 139, 140, 141, 150, 151, 152, 153, 154, 155, 156, 157, 158, 159, 163, 164, 165, 166, 167, 168] (by decide +kernel) (by decide +kernel)) (goodIn_sub (fun _ h => List.mem_cons_of_mem _ (List.mem_append_left _ (List.mem_append_right _ h))) (by decide +kernel))) (goodIn_sub (fun _ h => List.mem_cons_of_mem _ (List.mem_append_right _ h)) (by decide +kernel))
set_option maxRecDepth 20000 in
theorem gL_isCopy_X7_tombstones : GoodIn wsL_isCopy (wsV RL 49 RX7 yX7_tombstones wsX7_tombstones) := goodIn_app (goodIn_of _ (by decide +kernel)) ggL_isCopy_X7_tombstones
set_option maxRecDepth 20000 in
theorem ggL_isCopy_X7_entries : GoodIn wsL_isCopy wsX7_entries := goodIn_ca (goodIn_r _ [145, 34, 35, 36, 5, 37, 7, 8, 9, 10, 11, 12, 13, 14, 15, 16, 17, 18, 19, 146, 147, 148, 55, 149, 57, 150, 151, 152, 153, 154, 155, 156, 157, 158, 159, 163, 164, 165, 166, 167, 168] (by decide +kernel) (by decide +kernel)) (goodIn_sub (fun _ h => List.mem_cons_of_mem _ (List.mem_append_left _ (List.mem_append_right _ h))) (by decide +kernel))
set_option maxRecDepth 20000 in
theorem gL_isCopy_X7_entries : GoodIn wsL_isCopy (wsV RL 53 RX7 yX7_entries wsX7_entries) := goodIn_app (goodIn_of _ (by decide +kernel)) ggL_isCopy_X7_entries
