set_option maxRecDepth 20000 in
theorem ggL_isIdeal_X7_valueAt : GoodIn wsL_isIdeal wsX7_valueAt := goodIn_ca (goodIn_r _ [5, 6, 7, 8, 9, 4, 10, 11, 12, 13, 14, 15, 16, 17, 18, 19, 20, 21, 22, 23, 24, 25, 26, 27, 28, 29, 30, 31, 32, 33, 34, 35, 36, 37, 38, 39, 40, 41, 42, 43, 44, 45, 46, 47, 48, 49, 50, 51, 52, 53, 54, 55, 56, 57, 58, 59, 60, 61, 62, 63, 64, 65, 66, 67, 90, 91, 92, 93, 94, 95, 96, 97, 98, 99, 100, 101, 102, 103, 104, 105, 106, 107] (by decide +kernel) (by decide +kernel)) (goodIn_sub (fun _ h => List.mem_cons_of_mem _ (List.mem_append_right _ h)) (by decide +kernel))
set_option maxRecDepth 20000 in
theorem gL_isIdeal_X7_valueAt : GoodIn wsL_isIdeal (wsV RL 39 RX7 yX7_valueAt wsX7_valueAt) := goodIn_app (goodIn_of _ (by decide +kernel)) ggL_isIdeal_X7_valueAt
set_option maxRecDepth 20000 in
theorem ggL_isIdeal_X7_ideal : GoodIn wsL_isIdeal wsX7_ideal := goodIn_ca (goodIn_r _ [71, 72, 6, 24, 25, 4, 26, 16, 17, 18, 19, 20, 21, 22, 23, 27, 28, 29, 30, 31, 32, 33, 34, 35, 36, 37, 38, 39, 40, 41, 42, 43, 44, 45, 46, 47, 48, 49, 50, 51, 52, 53, 54, 55, 56, 57, 58, 59, 60, 61, 62, 63, 64, 65, 66, 67, 90, 91, 92, 93, 94, 95, 96, 100, 101, 102, 103, 104, 105, 106, 107] (by decide +kernel) (by decide +kernel)) (goodIn_sub (fun _ h => List.mem_cons_of_mem _ (List.mem_append_right _ h)) (by decide +kernel))
set_option maxRecDepth 20000 in
theorem gL_isIdeal_X7_ideal : GoodIn wsL_isIdeal (wsV RL 66 RX7 yX7_ideal wsX7_ideal) := goodIn_app (goodIn_of _ (by decide +kernel)) ggL_isIdeal_X7_ideal
set_option maxRecDepth 20000 in
theorem ggL_isIdeal_X7_areAlike : GoodIn wsL_isIdeal wsX7_areAlike := goodIn_ca (goodIn_r _ [76, 7, 8, 9, 4, 10, 11, 12, 13, 14, 15, 16, 17, 18, 19, 20, 21, 22, 23, 77, 78, 79, 33, 80, 81, 82, 83, 84, 35, 37, 36, 85, 86, 87, 88, 51, 89, 97, 98, 99, 90, 91, 92, 93, 94, 95, 96, 100, 101, 102, 103, 104, 105] (by decide +kernel) (by decide +kernel)) (goodIn_sub (fun _ h => List.mem_cons_of_mem _ (List.mem_append_right _ h)) (by decide +kernel))
set_option maxRecDepth 20000 in
theorem gL_isIdeal_X7_areAlike : GoodIn wsL_isIdeal (wsV RL 56 RX7 yX7_areAlike wsX7_areAlike) := goodIn_app (goodIn_of _ (by decide +kernel)) ggL_isIdeal_X7_areAlike
