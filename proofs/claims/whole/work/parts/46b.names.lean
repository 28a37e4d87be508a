set_option maxRecDepth 20000 in
theorem ggL_law_X3_init : GoodIn wsL_law wsX3_init := goodIn_r _ [9, 10, 11, 12, 13, 14, 15, 16, 17, 18, 19, 20, 21, 22, 23, 24, 25, 26, 27, 28, 29, 30, 31, 32, 33, 34, 35, 36, 37, 38, 39, 40, 41, 42, 43, 44, 45, 46, 454, 455, 456, 440, 441, 442, 457, 458, 459, 460, 461, 462, 463, 464, 465, 466, 467, 468, 469] (by decide +kernel) (by decide +kernel)
set_option maxRecDepth 20000 in
theorem gL_law_X3_init : GoodIn wsL_law (wsX3_init) := ggL_law_X3_init
set_option maxRecDepth 20000 in
theorem ggL_law_X4_init : GoodIn wsL_law wsX4_init := goodIn_r _ [49, 50, 11, 12, 25, 51, 52, 53, 54, 55, 56, 443, 444, 445, 446, 447, 448, 449, 450, 451, 452, 453] (by decide +kernel) (by decide +kernel)
set_option maxRecDepth 20000 in
theorem gL_law_X4_init : GoodIn wsL_law (wsX4_init) := ggL_law_X4_init
set_option maxRecDepth 20000 in
theorem ggL_law_L_site : GoodIn wsL_law wsL_site := goodIn_ca (goodIn_ca (goodIn_r _ [60, 61, 62, 63, 64, 65, 2, 66, 67, 68, 69, 70, 16, 71, 21, 72, 73, 74, 75, 76, 77, 15, 78, 28, 26, 27, 79, 80, 81, 82, 83, 84, 85, 86, 440, 441, 442, 454, 455, 456] (by decide +kernel) (by decide +kernel)) (goodIn_sub (fun _ h => List.mem_append_left _ (List.mem_append_left _ (List.mem_append_left _ (List.mem_append_right _ h)))) (by decide +kernel))) (goodIn_sub (fun _ h => List.mem_append_left _ (List.mem_append_left _ (List.mem_append_right _ h))) (by decide +kernel))
set_option maxRecDepth 20000 in
theorem gL_law_L_site : GoodIn wsL_law (va_wsS RL 56 yL_site wsL_site) := goodIn_app (goodIn_of _ (by decide +kernel)) ggL_law_L_site
set_option maxRecDepth 20000 in
theorem ggL_law_X4_site : GoodIn wsL_law wsX4_site := goodIn_r _ [90, 91, 51, 52, 92, 93, 94, 5, 95, 96, 97, 98, 99, 100, 101, 102, 103, 104, 443, 444, 445, 446, 447, 448, 449, 450, 451, 452, 453] (by decide +kernel) (by decide +kernel)
set_option maxRecDepth 20000 in
theorem gL_law_X4_site : GoodIn wsL_law (wsV RL 61 RX4 yX4_site wsX4_site) := goodIn_app (goodIn_of _ (by decide +kernel)) ggL_law_X4_site
set_option maxRecDepth 20000 in
theorem ggL_law_X4_thrown : GoodIn wsL_law wsX4_thrown := goodIn_r _ [108, 104, 443, 444, 445, 446, 447, 448, 449, 450, 451, 452, 453] (by decide +kernel) (by decide +kernel)
set_option maxRecDepth 20000 in
theorem gL_law_X4_thrown : GoodIn wsL_law (wsV RL 62 RX4 yX4_thrown wsX4_thrown) := goodIn_app (goodIn_of _ (by decide +kernel)) ggL_law_X4_thrown
set_option maxRecDepth 20000 in
theorem ggL_law_L_remove : GoodIn wsL_law wsL_remove := goodIn_ca (goodIn_r _ [111, 61, 112, 113, 114, 2, 115, 21, 16, 116, 117, 118, 119, 67, 68, 71, 120, 121, 122, 15, 123, 28, 26, 27, 83, 84, 85, 86, 440, 441, 442, 454, 455, 456] (by decide +kernel) (by decide +kernel)) (goodIn_sub (fun _ h => List.mem_append_left _ (List.mem_append_left _ (List.mem_append_left _ (List.mem_append_right _ h)))) (by decide +kernel))
set_option maxRecDepth 20000 in
theorem gL_law_L_remove : GoodIn wsL_law (va_wsS RL 66 yL_remove wsL_remove) := goodIn_app (goodIn_of _ (by decide +kernel)) ggL_law_L_remove
set_option maxRecDepth 20000 in
theorem ggL_law_X4_remove : GoodIn wsL_law wsX4_remove := goodIn_r _ [127, 91, 51, 52, 92, 128, 129, 5, 130, 100, 101, 102, 103, 104, 443, 444, 445, 446, 447, 448, 449, 450, 451, 452, 453] (by decide +kernel) (by decide +kernel)
set_option maxRecDepth 20000 in
theorem gL_law_X4_remove : GoodIn wsL_law (wsV RL 69 RX4 yX4_remove wsX4_remove) := goodIn_app (goodIn_of _ (by decide +kernel)) ggL_law_X4_remove
set_option maxRecDepth 20000 in
theorem ggL_law_L_move : GoodIn wsL_law wsL_move := goodIn_ca (goodIn_r _ [133, 61, 134, 135, 136, 2, 137, 67, 68, 16, 21, 116, 117, 118, 119, 71, 72, 73, 74, 75, 76, 77, 15, 78, 28, 26, 27, 138, 84, 85, 86, 440, 441, 442, 454, 455, 456] (by decide +kernel) (by decide +kernel)) (goodIn_sub (fun _ h => List.mem_append_left _ (List.mem_append_left _ (List.mem_append_left _ (List.mem_append_right _ h)))) (by decide +kernel))
set_option maxRecDepth 20000 in
theorem gL_law_L_move : GoodIn wsL_law (va_wsS RL 70 yL_move wsL_move) := goodIn_app (goodIn_of _ (by decide +kernel)) ggL_law_L_move
set_option maxRecDepth 20000 in
theorem ggL_law_X4_move : GoodIn wsL_law wsX4_move := goodIn_r _ [142, 91, 51, 52, 92, 128, 129, 5, 130, 93, 94, 95, 96, 97, 98, 99, 100, 101, 102, 103, 104, 443, 444, 445, 446, 447, 448, 449, 450, 451, 452, 453] (by decide +kernel) (by decide +kernel)
set_option maxRecDepth 20000 in
theorem gL_law_X4_move : GoodIn wsL_law (wsV RL 73 RX4 yX4_move wsX4_move) := goodIn_app (goodIn_of _ (by decide +kernel)) ggL_law_X4_move
set_option maxRecDepth 20000 in
theorem ggL_law_X3_clear : GoodIn wsL_law wsX3_clear := goodIn_r _ [146, 21, 16, 147, 148, 149, 15, 150, 28, 440, 441, 442, 454, 455, 456] (by decide +kernel) (by decide +kernel)
set_option maxRecDepth 20000 in
theorem gL_law_X3_clear : GoodIn wsL_law (wsV RL 74 RX3 yX3_clear wsX3_clear) := goodIn_app (goodIn_of _ (by decide +kernel)) ggL_law_X3_clear
set_option maxRecDepth 20000 in
theorem ggL_law_X4_clear : GoodIn wsL_law wsX4_clear := goodIn_r _ [154, 104, 91, 92, 443, 444, 445, 446, 447, 448, 449, 450, 451, 452, 453] (by decide +kernel) (by decide +kernel)
set_option maxRecDepth 20000 in
theorem gL_law_X4_clear : GoodIn wsL_law (wsV RL 77 RX4 yX4_clear wsX4_clear) := goodIn_app (goodIn_of _ (by decide +kernel)) ggL_law_X4_clear
set_option maxRecDepth 20000 in
theorem ggL_law_L_where : GoodIn wsL_law wsL_where := goodIn_ca (goodIn_r _ [157, 61, 158, 159, 160, 2, 161, 67, 68, 16, 162, 163, 116, 117, 118, 119, 71, 440, 441, 442, 454, 455, 456] (by decide +kernel) (by decide +kernel)) (goodIn_sub (fun _ h => List.mem_append_left _ (List.mem_append_left _ (List.mem_append_left _ (List.mem_append_right _ h)))) (by decide +kernel))
set_option maxRecDepth 20000 in
theorem gL_law_L_where : GoodIn wsL_law (va_wsS RL 78 yL_where wsL_where) := goodIn_app (goodIn_of _ (by decide +kernel)) ggL_law_L_where
set_option maxRecDepth 20000 in
theorem ggL_law_X4_where : GoodIn wsL_law wsX4_where := goodIn_r _ [167, 91, 51, 52, 128, 129, 5, 130, 100, 101, 102, 103, 104, 443, 444, 445, 446, 447, 448, 449, 450, 451, 452, 453] (by decide +kernel) (by decide +kernel)
set_option maxRecDepth 20000 in
theorem gL_law_X4_where : GoodIn wsL_law (wsV RL 80 RX4 yX4_where wsX4_where) := goodIn_app (goodIn_of _ (by decide +kernel)) ggL_law_X4_where
set_option maxRecDepth 20000 in
theorem ggL_law_X3_cells : GoodIn wsL_law wsX3_cells := goodIn_r _ [171, 20, 172, 173, 174, 175, 2, 176, 21, 177, 178, 179, 19, 180, 40, 39, 43, 181, 182, 183, 184, 185, 186, 187, 188, 189, 36, 190, 191, 192, 15, 193, 26, 27, 194, 195, 196, 197, 198, 199, 200, 201, 202, 203, 204, 205, 206, 35, 207, 208, 209, 210, 211, 212, 213, 214, 215, 216, 217, 218, 219, 220, 221, 222, 223, 224, 225, 226, 227, 38, 228, 229, 230, 231, 37, 232, 233, 234, 235, 236, 237, 238, 239, 240, 241, 242, 243, 244, 245, 246, 247, 248, 249, 250, 251, 252, 253, 254, 42, 41, 255, 256, 257, 258, 259, 260, 261, 262, 440, 441, 442, 457, 458, 459, 460, 461, 462, 463, 464, 454, 455, 456, 465, 466, 467, 468, 469] (by decide +kernel) (by decide +kernel)
set_option maxRecDepth 20000 in
theorem gL_law_X3_cells : GoodIn wsL_law (wsV RL 81 RX3 yX3_cells wsX3_cells) := goodIn_app (goodIn_of _ (by decide +kernel)) ggL_law_X3_cells
