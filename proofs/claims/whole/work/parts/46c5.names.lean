set_option maxRecDepth 20000 in
theorem ggL_law_X4_nearest : GoodIn wsL_law wsX4_nearest := goodIn_r _ [439, 91, 51, 52, 93, 94, 5, 95, 100, 101, 102, 103, 104, 443, 444, 445, 446, 447, 448, 449, 450, 451, 452, 453] (by decide +kernel) (by decide +kernel)
set_option maxRecDepth 20000 in
theorem gL_law_X4_nearest : GoodIn wsL_law (wsV RL 103 RX4 yX4_nearest wsX4_nearest) := goodIn_app (goodIn_of _ (by decide +kernel)) ggL_law_X4_nearest
