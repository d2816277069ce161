set_option maxRecDepth 20000 in
theorem ggL_buries_L_copies : GoodIn wsL_buries wsL_copies := goodIn_r _ [5] (by decide +kernel) (by decide +kernel)
set_option maxRecDepth 20000 in
theorem gL_buries_L_copies : GoodIn wsL_buries (va_wsS RL 69 yL_copies wsL_copies) := goodIn_app (goodIn_of _ (by decide +kernel)) ggL_buries_L_copies
set_option maxRecDepth 20000 in
theorem ggL_buries_X7_buriedBy : GoodIn wsL_buries wsX7_buriedBy := goodIn_ca (goodIn_r _ [10, 11, 12, 13, 9, 14, 15, 16, 17, 18, 19, 20, 21, 22, 23, 24, 25, 26, 27, 28, 29, 30, 31, 32, 33, 34, 35, 36, 37, 38, 39, 40, 41, 42, 43, 44, 45, 46, 47, 48, 49, 50, 51, 52, 53, 54, 55, 56, 57, 233, 234, 235, 236, 237, 238, 239, 240, 241, 242, 243, 244, 245, 246, 247, 248, 249, 250] (by decide +kernel) (by decide +kernel)) (goodIn_sub (fun _ h => List.mem_cons_of_mem _ (List.mem_append_left _ (List.mem_append_left _ (List.mem_append_right _ h)))) (by decide +kernel))
set_option maxRecDepth 20000 in
theorem gL_buries_X7_buriedBy : GoodIn wsL_buries (wsV RL 42 RX7 yX7_buriedBy wsX7_buriedBy) := goodIn_app (goodIn_of _ (by decide +kernel)) ggL_buries_X7_buriedBy
set_option maxRecDepth 20000 in
theorem ggL_buries_L_deletes : GoodIn wsL_buries wsL_deletes := goodIn_ca (goodIn_ca (goodIn_ca (goodIn_r _ [60, 61, 62, 63, 64, 9, 65, 66, 67, 68, 69, 28, 29, 30, 20, 21, 22, 23, 24, 25, 26, 27, 31, 32, 33, 70, 71, 72, 73, 74, 75, 76, 77, 78, 49, 50, 79, 80, 81, 82, 83, 84, 85, 86, 87, 88, 89, 90, 91, 92, 93, 94, 95, 19, 96, 97, 98, 99, 100, 101, 102, 103, 104, 105, 106, 107, 108, 37, 109, 110, 111, 112, 113, 114, 115, 116, 117, 118, 119, 120, 121, 122, 123, 124, 125, 126, 127, 128, 129, 130, 39, 131, 132, 133, 134, 135, 136, 137, 138, 139, 140, 141, 142, 143, 144, 145, 146, 147, 148, 149, 150, 151, 152, 153, 154, 155, 156, 157, 158, 159, 160, 161, 162, 163, 164, 165, 166, 167, 168, 169, 170, 171, 172, 173, 174, 41, 42, 43, 175, 176, 177, 178, 179, 180, 181, 182, 183, 184, 185, 186, 187, 188, 189, 190, 191, 192, 193, 194, 195, 196, 197, 198, 199, 200, 201, 202, 203, 204, 205, 206, 207, 208, 209, 210, 211, 212, 213, 214, 215, 216, 217, 218, 219, 220, 54, 221, 56, 57, 222, 223, 224, 225, 226, 251, 252, 253, 236, 237, 238, 239, 240, 241, 242, 254, 255, 256, 257, 243, 244, 245, 246, 247, 248, 233, 234, 235, 258, 259, 260, 249, 250] (by decide +kernel) (by decide +kernel)) (goodIn_sub (fun _ h => List.mem_cons_of_mem _ (List.mem_append_left _ (List.mem_append_left _ (List.mem_append_right _ h)))) (by decide +kernel))) (goodIn_sub (fun _ h => List.mem_cons_of_mem _ (List.mem_append_left _ (List.mem_append_right _ h))) (by decide +kernel))) (goodIn_sub (fun _ h => List.mem_cons_of_mem _ (List.mem_append_right _ h)) (by decide +kernel))
set_option maxRecDepth 20000 in
theorem gL_buries_L_deletes : GoodIn wsL_buries (va_wsS RL 85 yL_deletes wsL_deletes) := goodIn_app (goodIn_of _ (by decide +kernel)) ggL_buries_L_deletes
set_option maxRecDepth 20000 in
theorem ggL_buries_L_many : GoodIn wsL_buries wsL_many := goodIn_r _ [229] (by decide +kernel) (by decide +kernel)
set_option maxRecDepth 20000 in
theorem gL_buries_L_many : GoodIn wsL_buries (va_wsS RL 79 yL_many wsL_many) := goodIn_app (goodIn_of _ (by decide +kernel)) ggL_buries_L_many
set_option maxRecDepth 20000 in
theorem ggL_buries_L_hints : GoodIn wsL_buries wsL_hints := goodIn_r _ [232] (by decide +kernel) (by decide +kernel)
set_option maxRecDepth 20000 in
theorem gL_buries_L_hints : GoodIn wsL_buries (va_wsS RL 82 yL_hints wsL_hints) := goodIn_app (goodIn_of _ (by decide +kernel)) ggL_buries_L_hints
