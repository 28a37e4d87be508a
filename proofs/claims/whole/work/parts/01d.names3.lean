theorem dX3_init_0 : decode cX3_init 0 = .ok (.aload_n 0, 1) := by decide +kernel
theorem dX3_init_1 : decode cX3_init 1 = .ok (.invokespecial 3, 3) := by decide +kernel
theorem dX3_init_4 : decode cX3_init 4 = .ok (.aload_n 0, 1) := by decide +kernel
theorem dX3_init_5 : decode cX3_init 5 = .ok (.new 9, 3) := by decide +kernel
theorem dX3_init_8 : decode cX3_init 8 = .ok (.dup, 1) := by decide +kernel
theorem dX3_init_9 : decode cX3_init 9 = .ok (.invokespecial 11, 3) := by decide +kernel
theorem dX3_init_12 : decode cX3_init 12 = .ok (.putfield 12, 3) := by decide +kernel
theorem dX3_init_15 : decode cX3_init 15 = .ok (.aload_n 0, 1) := by decide +kernel
theorem dX3_init_16 : decode cX3_init 16 = .ok (.new 16, 3) := by decide +kernel
theorem dX3_init_19 : decode cX3_init 19 = .ok (.dup, 1) := by decide +kernel
theorem dX3_init_20 : decode cX3_init 20 = .ok (.aload_n 0, 1) := by decide +kernel
theorem dX3_init_21 : decode cX3_init 21 = .ok (.getfield 12, 3) := by decide +kernel
theorem dX3_init_24 : decode cX3_init 24 = .ok (.invokespecial 18, 3) := by decide +kernel
theorem dX3_init_27 : decode cX3_init 27 = .ok (.putfield 21, 3) := by decide +kernel
theorem dX3_init_30 : decode cX3_init 30 = .ok (.aload_n 0, 1) := by decide +kernel
theorem dX3_init_31 : decode cX3_init 31 = .ok (.iconst 0, 1) := by decide +kernel
theorem dX3_init_32 : decode cX3_init 32 = .ok (.putfield 25, 3) := by decide +kernel
theorem dX3_init_35 : decode cX3_init 35 = .ok (.return_, 1) := by decide +kernel
set_option maxRecDepth 20000 in
theorem ggX3_site_X3_requirePlace : GoodIn wsX3_site wsX3_requirePlace := goodIn_ca (goodIn_r _ [11, 1, 2] (by decide +kernel) (by decide +kernel)) (goodIn_sub (fun _ h => List.mem_cons_of_mem _ (List.mem_append_left _ (List.mem_append_right _ h))) (by decide +kernel))
set_option maxRecDepth 20000 in
theorem gX3_site_X3_requirePlace : GoodIn wsX3_site (va_wsS RX3 29 yX3_requirePlace wsX3_requirePlace) := goodIn_app (goodIn_of _ (by decide +kernel)) ggX3_site_X3_requirePlace
set_option maxRecDepth 20000 in
theorem ggX3_site_X2_numberAt : GoodIn wsX3_site wsX2_numberAt := goodIn_r _ [16, 17, 18, 19, 31, 32, 33] (by decide +kernel) (by decide +kernel)
set_option maxRecDepth 20000 in
theorem gX3_site_X2_numberAt : GoodIn wsX3_site (wsV RX3 33 RX2 yX2_numberAt wsX2_numberAt) := goodIn_app (goodIn_of _ (by decide +kernel)) ggX3_site_X2_numberAt
set_option maxRecDepth 20000 in
theorem ggX3_site_X2_append : GoodIn wsX3_site wsX2_append := goodIn_r _ [23, 17, 24, 25, 26, 15, 27, 18, 19, 31, 32, 33] (by decide +kernel) (by decide +kernel)
set_option maxRecDepth 20000 in
theorem gX3_site_X2_append : GoodIn wsX3_site (wsV RX3 53 RX2 yX2_append wsX2_append) := goodIn_app (goodIn_of _ (by decide +kernel)) ggX3_site_X2_append
theorem dX3_site_0 : decode cX3_site 0 = .ok (.iload_n 1, 1) := by decide +kernel
theorem dX3_site_1 : decode cX3_site 1 = .ok (.iload_n 2, 1) := by decide +kernel
theorem dX3_site_2 : decode cX3_site 2 = .ok (.invokestatic 29, 3) := by decide +kernel
theorem dX3_site_5 : decode cX3_site 5 = .ok (.aload_n 0, 1) := by decide +kernel
theorem dX3_site_6 : decode cX3_site 6 = .ok (.getfield 12, 3) := by decide +kernel
theorem dX3_site_9 : decode cX3_site 9 = .ok (.iload_n 1, 1) := by decide +kernel
theorem dX3_site_10 : decode cX3_site 10 = .ok (.iload_n 2, 1) := by decide +kernel
theorem dX3_site_11 : decode cX3_site 11 = .ok (.invokevirtual 33, 3) := by decide +kernel
theorem dX3_site_14 : decode cX3_site 14 = .ok (.iconst (-1), 1) := by decide +kernel
theorem dX3_site_15 : decode cX3_site 15 = .ok (.if_icmp .eq 13, 3) := by decide +kernel
theorem dX3_site_18 : decode cX3_site 18 = .ok (.new 37, 3) := by decide +kernel
theorem dX3_site_21 : decode cX3_site 21 = .ok (.dup, 1) := by decide +kernel
theorem dX3_site_22 : decode cX3_site 22 = .ok (.ldc 39, 2) := by decide +kernel
theorem dX3_site_24 : decode cX3_site 24 = .ok (.invokespecial 41, 3) := by decide +kernel
theorem dX3_site_27 : decode cX3_site 27 = .ok (.athrow, 1) := by decide +kernel
theorem dX3_site_28 : decode cX3_site 28 = .ok (.aload_n 0, 1) := by decide +kernel
theorem dX3_site_29 : decode cX3_site 29 = .ok (.getfield 12, 3) := by decide +kernel
theorem dX3_site_32 : decode cX3_site 32 = .ok (.getfield 44, 3) := by decide +kernel
theorem dX3_site_35 : decode cX3_site 35 = .ok (.bipush 20, 2) := by decide +kernel
theorem dX3_site_37 : decode cX3_site 37 = .ok (.if_icmp .lt 13, 3) := by decide +kernel
theorem dX3_site_40 : decode cX3_site 40 = .ok (.new 48, 3) := by decide +kernel
theorem dX3_site_43 : decode cX3_site 43 = .ok (.dup, 1) := by decide +kernel
theorem dX3_site_44 : decode cX3_site 44 = .ok (.ldc 50, 2) := by decide +kernel
theorem dX3_site_46 : decode cX3_site 46 = .ok (.invokespecial 52, 3) := by decide +kernel
theorem dX3_site_49 : decode cX3_site 49 = .ok (.athrow, 1) := by decide +kernel
theorem dX3_site_50 : decode cX3_site 50 = .ok (.aload_n 0, 1) := by decide +kernel
theorem dX3_site_51 : decode cX3_site 51 = .ok (.iconst 1, 1) := by decide +kernel
theorem dX3_site_52 : decode cX3_site 52 = .ok (.putfield 25, 3) := by decide +kernel
theorem dX3_site_55 : decode cX3_site 55 = .ok (.aload_n 0, 1) := by decide +kernel
theorem dX3_site_56 : decode cX3_site 56 = .ok (.getfield 12, 3) := by decide +kernel
theorem dX3_site_59 : decode cX3_site 59 = .ok (.iload_n 1, 1) := by decide +kernel
theorem dX3_site_60 : decode cX3_site 60 = .ok (.iload_n 2, 1) := by decide +kernel
theorem dX3_site_61 : decode cX3_site 61 = .ok (.invokevirtual 53, 3) := by decide +kernel
theorem dX3_site_64 : decode cX3_site 64 = .ok (.ireturn, 1) := by decide +kernel
set_option maxRecDepth 20000 in
theorem ggX3_remove_X3_requireSite : GoodIn wsX3_remove wsX3_requireSite := goodIn_ca (goodIn_r _ [7, 8, 9, 2, 10, 23, 24, 25, 26, 27, 28] (by decide +kernel) (by decide +kernel)) (goodIn_sub (fun _ h => List.mem_cons_of_mem _ (List.mem_append_right _ h)) (by decide +kernel))
set_option maxRecDepth 20000 in
theorem gX3_remove_X3_requireSite : GoodIn wsX3_remove (wsV RX3 56 RX3 yX3_requireSite wsX3_requireSite) := goodIn_app (goodIn_of _ (by decide +kernel)) ggX3_remove_X3_requireSite
set_option maxRecDepth 20000 in
theorem ggX3_remove_X2_drop : GoodIn wsX3_remove wsX2_drop := goodIn_r _ [15, 16, 17, 18, 19, 20, 21, 14, 22, 26, 27, 28] (by decide +kernel) (by decide +kernel)
set_option maxRecDepth 20000 in
theorem gX3_remove_X2_drop : GoodIn wsX3_remove (wsV RX3 60 RX2 yX2_drop wsX2_drop) := goodIn_app (goodIn_of _ (by decide +kernel)) ggX3_remove_X2_drop
theorem dX3_remove_0 : decode cX3_remove 0 = .ok (.aload_n 0, 1) := by decide +kernel
theorem dX3_remove_1 : decode cX3_remove 1 = .ok (.iload_n 1, 1) := by decide +kernel
theorem dX3_remove_2 : decode cX3_remove 2 = .ok (.invokevirtual 56, 3) := by decide +kernel
theorem dX3_remove_5 : decode cX3_remove 5 = .ok (.aload_n 0, 1) := by decide +kernel
theorem dX3_remove_6 : decode cX3_remove 6 = .ok (.iconst 1, 1) := by decide +kernel
theorem dX3_remove_7 : decode cX3_remove 7 = .ok (.putfield 25, 3) := by decide +kernel
theorem dX3_remove_10 : decode cX3_remove 10 = .ok (.aload_n 0, 1) := by decide +kernel
theorem dX3_remove_11 : decode cX3_remove 11 = .ok (.getfield 12, 3) := by decide +kernel
theorem dX3_remove_14 : decode cX3_remove 14 = .ok (.iload_n 1, 1) := by decide +kernel
theorem dX3_remove_15 : decode cX3_remove 15 = .ok (.invokevirtual 60, 3) := by decide +kernel
theorem dX3_remove_18 : decode cX3_remove 18 = .ok (.return_, 1) := by decide +kernel
set_option maxRecDepth 20000 in
theorem ggX3_move_X3_requireSite : GoodIn wsX3_move wsX3_requireSite := goodIn_ca (goodIn_r _ [9, 1, 2, 3, 10, 26, 27, 28, 29, 30, 31] (by decide +kernel) (by decide +kernel)) (goodIn_sub (fun _ h => List.mem_cons_of_mem _ (List.mem_append_right _ h)) (by decide +kernel))
set_option maxRecDepth 20000 in
theorem gX3_move_X3_requireSite : GoodIn wsX3_move (wsV RX3 56 RX3 yX3_requireSite wsX3_requireSite) := goodIn_app (goodIn_of _ (by decide +kernel)) ggX3_move_X3_requireSite
set_option maxRecDepth 20000 in
theorem ggX3_move_X3_requirePlace : GoodIn wsX3_move wsX3_requirePlace := goodIn_ca (goodIn_r _ [13, 1, 2] (by decide +kernel) (by decide +kernel)) (goodIn_sub (fun _ h => List.mem_cons_of_mem _ (List.mem_append_right _ h)) (by decide +kernel))
set_option maxRecDepth 20000 in
theorem gX3_move_X3_requirePlace : GoodIn wsX3_move (va_wsS RX3 29 yX3_requirePlace wsX3_requirePlace) := goodIn_app (goodIn_of _ (by decide +kernel)) ggX3_move_X3_requirePlace
set_option maxRecDepth 20000 in
theorem ggX3_move_X2_numberAt : GoodIn wsX3_move wsX2_numberAt := goodIn_r _ [18, 19, 20, 21, 29, 30, 31] (by decide +kernel) (by decide +kernel)
set_option maxRecDepth 20000 in
theorem gX3_move_X2_numberAt : GoodIn wsX3_move (wsV RX3 33 RX2 yX2_numberAt wsX2_numberAt) := goodIn_app (goodIn_of _ (by decide +kernel)) ggX3_move_X2_numberAt
set_option maxRecDepth 20000 in
theorem ggX3_move_X2_put : GoodIn wsX3_move wsX2_put := goodIn_r _ [25, 20, 21, 29, 30, 31] (by decide +kernel) (by decide +kernel)
set_option maxRecDepth 20000 in
theorem gX3_move_X2_put : GoodIn wsX3_move (wsV RX3 65 RX2 yX2_put wsX2_put) := goodIn_app (goodIn_of _ (by decide +kernel)) ggX3_move_X2_put
theorem dX3_move_0 : decode cX3_move 0 = .ok (.aload_n 0, 1) := by decide +kernel
theorem dX3_move_1 : decode cX3_move 1 = .ok (.iload_n 1, 1) := by decide +kernel
theorem dX3_move_2 : decode cX3_move 2 = .ok (.invokevirtual 56, 3) := by decide +kernel
theorem dX3_move_5 : decode cX3_move 5 = .ok (.iload_n 2, 1) := by decide +kernel
theorem dX3_move_6 : decode cX3_move 6 = .ok (.iload_n 3, 1) := by decide +kernel
theorem dX3_move_7 : decode cX3_move 7 = .ok (.invokestatic 29, 3) := by decide +kernel
theorem dX3_move_10 : decode cX3_move 10 = .ok (.aload_n 0, 1) := by decide +kernel
theorem dX3_move_11 : decode cX3_move 11 = .ok (.getfield 12, 3) := by decide +kernel
theorem dX3_move_14 : decode cX3_move 14 = .ok (.iload_n 2, 1) := by decide +kernel
theorem dX3_move_15 : decode cX3_move 15 = .ok (.iload_n 3, 1) := by decide +kernel
theorem dX3_move_16 : decode cX3_move 16 = .ok (.invokevirtual 33, 3) := by decide +kernel
theorem dX3_move_19 : decode cX3_move 19 = .ok (.istore 4, 2) := by decide +kernel
theorem dX3_move_21 : decode cX3_move 21 = .ok (.iload 4, 2) := by decide +kernel
theorem dX3_move_23 : decode cX3_move 23 = .ok (.iconst (-1), 1) := by decide +kernel
theorem dX3_move_24 : decode cX3_move 24 = .ok (.if_icmp .eq 19, 3) := by decide +kernel
theorem dX3_move_27 : decode cX3_move 27 = .ok (.iload 4, 2) := by decide +kernel
theorem dX3_move_29 : decode cX3_move 29 = .ok (.iload_n 1, 1) := by decide +kernel
theorem dX3_move_30 : decode cX3_move 30 = .ok (.if_icmp .eq 13, 3) := by decide +kernel
theorem dX3_move_33 : decode cX3_move 33 = .ok (.new 37, 3) := by decide +kernel
theorem dX3_move_36 : decode cX3_move 36 = .ok (.dup, 1) := by decide +kernel
theorem dX3_move_37 : decode cX3_move 37 = .ok (.ldc 63, 2) := by decide +kernel
theorem dX3_move_39 : decode cX3_move 39 = .ok (.invokespecial 41, 3) := by decide +kernel
theorem dX3_move_42 : decode cX3_move 42 = .ok (.athrow, 1) := by decide +kernel
theorem dX3_move_43 : decode cX3_move 43 = .ok (.aload_n 0, 1) := by decide +kernel
theorem dX3_move_44 : decode cX3_move 44 = .ok (.iconst 1, 1) := by decide +kernel
theorem dX3_move_45 : decode cX3_move 45 = .ok (.putfield 25, 3) := by decide +kernel
theorem dX3_move_48 : decode cX3_move 48 = .ok (.aload_n 0, 1) := by decide +kernel
theorem dX3_move_49 : decode cX3_move 49 = .ok (.getfield 12, 3) := by decide +kernel
theorem dX3_move_52 : decode cX3_move 52 = .ok (.iload_n 1, 1) := by decide +kernel
theorem dX3_move_53 : decode cX3_move 53 = .ok (.iload_n 2, 1) := by decide +kernel
theorem dX3_move_54 : decode cX3_move 54 = .ok (.iload_n 3, 1) := by decide +kernel
theorem dX3_move_55 : decode cX3_move 55 = .ok (.invokevirtual 65, 3) := by decide +kernel
theorem dX3_move_58 : decode cX3_move 58 = .ok (.return_, 1) := by decide +kernel
set_option maxRecDepth 20000 in
theorem ggX3_clear_X2_dropAll : GoodIn wsX3_clear wsX2_dropAll := goodIn_r _ [7, 8, 12, 13, 14] (by decide +kernel) (by decide +kernel)
set_option maxRecDepth 20000 in
theorem gX3_clear_X2_dropAll : GoodIn wsX3_clear (wsV RX3 69 RX2 yX2_dropAll wsX2_dropAll) := goodIn_app (goodIn_of _ (by decide +kernel)) ggX3_clear_X2_dropAll
theorem dX3_clear_0 : decode cX3_clear 0 = .ok (.aload_n 0, 1) := by decide +kernel
theorem dX3_clear_1 : decode cX3_clear 1 = .ok (.iconst 1, 1) := by decide +kernel
theorem dX3_clear_2 : decode cX3_clear 2 = .ok (.putfield 25, 3) := by decide +kernel
theorem dX3_clear_5 : decode cX3_clear 5 = .ok (.aload_n 0, 1) := by decide +kernel
theorem dX3_clear_6 : decode cX3_clear 6 = .ok (.getfield 12, 3) := by decide +kernel
theorem dX3_clear_9 : decode cX3_clear 9 = .ok (.invokevirtual 69, 3) := by decide +kernel
theorem dX3_clear_12 : decode cX3_clear 12 = .ok (.return_, 1) := by decide +kernel
set_option maxRecDepth 20000 in
theorem ggX3_where_X3_requireSite : GoodIn wsX3_where wsX3_requireSite := goodIn_ca (goodIn_r _ [10, 1, 2, 3, 11, 12, 13, 14, 15, 16, 17] (by decide +kernel) (by decide +kernel)) (goodIn_sub (fun _ h => List.mem_cons_of_mem _ (List.mem_append_right _ h)) (by decide +kernel))
set_option maxRecDepth 20000 in
theorem gX3_where_X3_requireSite : GoodIn wsX3_where (wsV RX3 56 RX3 yX3_requireSite wsX3_requireSite) := goodIn_app (goodIn_of _ (by decide +kernel)) ggX3_where_X3_requireSite
theorem dX3_where_0 : decode cX3_where 0 = .ok (.aload_n 0, 1) := by decide +kernel
theorem dX3_where_1 : decode cX3_where 1 = .ok (.iload_n 1, 1) := by decide +kernel
theorem dX3_where_2 : decode cX3_where 2 = .ok (.invokevirtual 56, 3) := by decide +kernel
theorem dX3_where_5 : decode cX3_where 5 = .ok (.iload_n 2, 1) := by decide +kernel
theorem dX3_where_6 : decode cX3_where 6 = .ok (.ifCond .eq 18, 3) := by decide +kernel
theorem dX3_where_9 : decode cX3_where 9 = .ok (.iload_n 2, 1) := by decide +kernel
theorem dX3_where_10 : decode cX3_where 10 = .ok (.iconst 1, 1) := by decide +kernel
theorem dX3_where_11 : decode cX3_where 11 = .ok (.if_icmp .eq 13, 3) := by decide +kernel
theorem dX3_where_14 : decode cX3_where 14 = .ok (.new 37, 3) := by decide +kernel
theorem dX3_where_17 : decode cX3_where 17 = .ok (.dup, 1) := by decide +kernel
theorem dX3_where_18 : decode cX3_where 18 = .ok (.ldc 72, 2) := by decide +kernel
theorem dX3_where_20 : decode cX3_where 20 = .ok (.invokespecial 41, 3) := by decide +kernel
theorem dX3_where_23 : decode cX3_where 23 = .ok (.athrow, 1) := by decide +kernel
theorem dX3_where_24 : decode cX3_where 24 = .ok (.iload_n 2, 1) := by decide +kernel
theorem dX3_where_25 : decode cX3_where 25 = .ok (.ifCond .ne 15, 3) := by decide +kernel
theorem dX3_where_28 : decode cX3_where 28 = .ok (.aload_n 0, 1) := by decide +kernel
theorem dX3_where_29 : decode cX3_where 29 = .ok (.getfield 12, 3) := by decide +kernel
theorem dX3_where_32 : decode cX3_where 32 = .ok (.getfield 74, 3) := by decide +kernel
theorem dX3_where_35 : decode cX3_where 35 = .ok (.iload_n 1, 1) := by decide +kernel
theorem dX3_where_36 : decode cX3_where 36 = .ok (.iaload, 1) := by decide +kernel
theorem dX3_where_37 : decode cX3_where 37 = .ok (.goto 12, 3) := by decide +kernel
theorem dX3_where_40 : decode cX3_where 40 = .ok (.aload_n 0, 1) := by decide +kernel
theorem dX3_where_41 : decode cX3_where 41 = .ok (.getfield 12, 3) := by decide +kernel
theorem dX3_where_44 : decode cX3_where 44 = .ok (.getfield 78, 3) := by decide +kernel
theorem dX3_where_47 : decode cX3_where 47 = .ok (.iload_n 1, 1) := by decide +kernel
theorem dX3_where_48 : decode cX3_where 48 = .ok (.iaload, 1) := by decide +kernel
theorem dX3_where_49 : decode cX3_where 49 = .ok (.ireturn, 1) := by decide +kernel
set_option maxRecDepth 20000 in
theorem ggX3_cells_X3_refresh : GoodIn wsX3_cells wsX3_refresh := goodIn_r _ [7, 8, 1, 9, 10, 11, 12, 13, 14, 15, 16, 17, 18, 19, 20, 21, 22, 23, 24, 25, 26, 27, 28, 29, 30, 31, 32, 33, 34, 35, 36, 37, 38, 39, 40, 41, 42, 43, 44, 45, 46, 47, 48, 49, 50, 51, 52, 53, 54, 55, 56, 57, 58, 59, 60, 61, 62, 63, 64, 65, 66, 67, 68, 69, 70, 71, 72, 73, 74, 75, 76, 77, 78, 79, 80, 81, 82, 83, 84, 85, 86, 87, 88, 89, 90, 91, 92, 93, 94, 95, 96, 97, 98, 99, 100, 101, 102, 103, 104, 105, 106, 107, 108, 109, 110, 111, 112, 113, 114, 115, 116, 117, 118, 119, 120, 121, 122, 123, 124, 125, 126] (by decide +kernel) (by decide +kernel)
set_option maxRecDepth 20000 in
theorem gX3_cells_X3_refresh : GoodIn wsX3_cells (wsV RX3 81 RX3 yX3_refresh wsX3_refresh) := goodIn_app (goodIn_of _ (by decide +kernel)) ggX3_cells_X3_refresh
theorem dX3_cells_0 : decode cX3_cells 0 = .ok (.aload_n 0, 1) := by decide +kernel
theorem dX3_cells_1 : decode cX3_cells 1 = .ok (.invokevirtual 81, 3) := by decide +kernel
theorem dX3_cells_4 : decode cX3_cells 4 = .ok (.aload_n 0, 1) := by decide +kernel
theorem dX3_cells_5 : decode cX3_cells 5 = .ok (.getfield 21, 3) := by decide +kernel
theorem dX3_cells_8 : decode cX3_cells 8 = .ok (.getfield 84, 3) := by decide +kernel
theorem dX3_cells_11 : decode cX3_cells 11 = .ok (.ireturn, 1) := by decide +kernel
set_option maxRecDepth 20000 in
theorem ggX3_cell_X3_refresh : GoodIn wsX3_cell wsX3_refresh := goodIn_r _ [6, 7, 1, 8, 9, 10, 11, 12, 13, 14, 15, 16, 17, 18, 19, 20, 21, 22, 23, 24, 25, 26, 27, 28, 29, 30, 31, 32, 33, 34, 35, 36, 37, 38, 39, 40, 41, 42, 43, 44, 45, 46, 47, 48, 49, 50, 51, 52, 53, 54, 55, 56, 57, 58, 59, 60, 61, 62, 63, 64, 65, 66, 67, 68, 69, 70, 71, 72, 73, 74, 75, 76, 77, 78, 79, 80, 81, 82, 83, 84, 85, 86, 87, 88, 89, 90, 91, 92, 93, 94, 95, 96, 97, 98, 99, 100, 101, 102, 103, 104, 105, 106, 121, 122, 123, 124, 125, 126, 127, 128, 129, 130, 131, 132, 133, 134, 135, 136, 137, 138, 139] (by decide +kernel) (by decide +kernel)
set_option maxRecDepth 20000 in
theorem gX3_cell_X3_refresh : GoodIn wsX3_cell (wsV RX3 81 RX3 yX3_refresh wsX3_refresh) := goodIn_app (goodIn_of _ (by decide +kernel)) ggX3_cell_X3_refresh
set_option maxRecDepth 20000 in
theorem ggX3_cell_X3_requireCell : GoodIn wsX3_cell wsX3_requireCell := goodIn_ca (goodIn_r _ [110, 111, 112, 1, 113, 121, 122, 123, 124, 125, 126, 127, 128, 129, 130, 131] (by decide +kernel) (by decide +kernel)) (goodIn_sub (fun _ h => List.mem_cons_of_mem _ (List.mem_append_left _ (List.mem_append_right _ h))) (by decide +kernel))
set_option maxRecDepth 20000 in
theorem gX3_cell_X3_requireCell : GoodIn wsX3_cell (wsV RX3 87 RX3 yX3_requireCell wsX3_requireCell) := goodIn_app (goodIn_of _ (by decide +kernel)) ggX3_cell_X3_requireCell
set_option maxRecDepth 20000 in
theorem ggX3_cell_X1_sideCount : GoodIn wsX3_cell wsX1_sideCount := goodIn_r _ [81, 68, 124, 125, 126, 127, 128, 129, 130, 131] (by decide +kernel) (by decide +kernel)
set_option maxRecDepth 20000 in
theorem gX3_cell_X1_sideCount : GoodIn wsX3_cell (wsV RX3 90 RX1 yX1_sideCount wsX1_sideCount) := goodIn_app (goodIn_of _ (by decide +kernel)) ggX3_cell_X1_sideCount
set_option maxRecDepth 20000 in
theorem ggX3_cell_X3_requireIndex : GoodIn wsX3_cell wsX3_requireIndex := goodIn_ca (goodIn_r _ [117, 118, 119] (by decide +kernel) (by decide +kernel)) (goodIn_sub (fun _ h => List.mem_cons_of_mem _ (List.mem_append_right _ h)) (by decide +kernel))
set_option maxRecDepth 20000 in
theorem gX3_cell_X3_requireIndex : GoodIn wsX3_cell (va_wsS RX3 94 yX3_requireIndex wsX3_requireIndex) := goodIn_app (goodIn_of _ (by decide +kernel)) ggX3_cell_X3_requireIndex
set_option maxRecDepth 20000 in
theorem ggX3_cell_X1_siteOf : GoodIn wsX3_cell wsX1_siteOf := goodIn_r _ [85, 73, 68, 124, 125, 126, 127, 128, 129, 130, 131] (by decide +kernel) (by decide +kernel)
set_option maxRecDepth 20000 in
theorem gX3_cell_X1_siteOf : GoodIn wsX3_cell (wsV RX3 97 RX1 yX1_siteOf wsX1_siteOf) := goodIn_app (goodIn_of _ (by decide +kernel)) ggX3_cell_X1_siteOf
theorem dX3_cell_0 : decode cX3_cell 0 = .ok (.aload_n 0, 1) := by decide +kernel
theorem dX3_cell_1 : decode cX3_cell 1 = .ok (.invokevirtual 81, 3) := by decide +kernel
theorem dX3_cell_4 : decode cX3_cell 4 = .ok (.aload_n 0, 1) := by decide +kernel
theorem dX3_cell_5 : decode cX3_cell 5 = .ok (.iload_n 1, 1) := by decide +kernel
theorem dX3_cell_6 : decode cX3_cell 6 = .ok (.invokevirtual 87, 3) := by decide +kernel
theorem dX3_cell_9 : decode cX3_cell 9 = .ok (.aload_n 0, 1) := by decide +kernel
theorem dX3_cell_10 : decode cX3_cell 10 = .ok (.getfield 21, 3) := by decide +kernel
theorem dX3_cell_13 : decode cX3_cell 13 = .ok (.iload_n 1, 1) := by decide +kernel
theorem dX3_cell_14 : decode cX3_cell 14 = .ok (.invokevirtual 90, 3) := by decide +kernel
theorem dX3_cell_17 : decode cX3_cell 17 = .ok (.istore_n 3, 1) := by decide +kernel
theorem dX3_cell_18 : decode cX3_cell 18 = .ok (.iload_n 2, 1) := by decide +kernel
theorem dX3_cell_19 : decode cX3_cell 19 = .ok (.iconst (-1), 1) := by decide +kernel
theorem dX3_cell_20 : decode cX3_cell 20 = .ok (.if_icmp .ne 5, 3) := by decide +kernel
theorem dX3_cell_23 : decode cX3_cell 23 = .ok (.iload_n 3, 1) := by decide +kernel
theorem dX3_cell_24 : decode cX3_cell 24 = .ok (.ireturn, 1) := by decide +kernel
theorem dX3_cell_25 : decode cX3_cell 25 = .ok (.iload_n 2, 1) := by decide +kernel
theorem dX3_cell_26 : decode cX3_cell 26 = .ok (.iload_n 3, 1) := by decide +kernel
theorem dX3_cell_27 : decode cX3_cell 27 = .ok (.invokestatic 94, 3) := by decide +kernel
theorem dX3_cell_30 : decode cX3_cell 30 = .ok (.aload_n 0, 1) := by decide +kernel
theorem dX3_cell_31 : decode cX3_cell 31 = .ok (.getfield 21, 3) := by decide +kernel
theorem dX3_cell_34 : decode cX3_cell 34 = .ok (.iload_n 1, 1) := by decide +kernel
theorem dX3_cell_35 : decode cX3_cell 35 = .ok (.iload_n 2, 1) := by decide +kernel
theorem dX3_cell_36 : decode cX3_cell 36 = .ok (.invokevirtual 97, 3) := by decide +kernel
theorem dX3_cell_39 : decode cX3_cell 39 = .ok (.ireturn, 1) := by decide +kernel
set_option maxRecDepth 20000 in
theorem ggX3_beside_X3_refresh : GoodIn wsX3_beside wsX3_refresh := goodIn_r _ [6, 7, 1, 8, 9, 10, 11, 12, 13, 14, 15, 16, 17, 18, 19, 20, 21, 22, 23, 24, 25, 26, 27, 28, 29, 30, 31, 32, 33, 34, 35, 36, 37, 38, 39, 40, 41, 42, 43, 44, 45, 46, 47, 48, 49, 50, 51, 52, 53, 54, 55, 56, 57, 58, 59, 60, 61, 62, 63, 64, 65, 66, 67, 68, 69, 70, 71, 72, 73, 74, 75, 76, 77, 78, 79, 80, 81, 82, 83, 84, 85, 86, 87, 88, 89, 90, 91, 92, 93, 94, 95, 96, 97, 98, 99, 100, 101, 102, 103, 104, 105, 106, 124, 125, 126, 127, 128, 129, 130, 131, 132, 133, 134, 135, 136, 137, 138, 139, 140, 141, 142] (by decide +kernel) (by decide +kernel)
set_option maxRecDepth 20000 in
theorem gX3_beside_X3_refresh : GoodIn wsX3_beside (wsV RX3 81 RX3 yX3_refresh wsX3_refresh) := goodIn_app (goodIn_of _ (by decide +kernel)) ggX3_beside_X3_refresh
set_option maxRecDepth 20000 in
theorem ggX3_beside_X3_requireCell : GoodIn wsX3_beside wsX3_requireCell := goodIn_ca (goodIn_r _ [110, 111, 112, 1, 113, 124, 125, 126, 127, 128, 129, 130, 131, 132, 133, 134] (by decide +kernel) (by decide +kernel)) (goodIn_sub (fun _ h => List.mem_cons_of_mem _ (List.mem_append_left _ (List.mem_append_right _ h))) (by decide +kernel))
set_option maxRecDepth 20000 in
theorem gX3_beside_X3_requireCell : GoodIn wsX3_beside (wsV RX3 87 RX3 yX3_requireCell wsX3_requireCell) := goodIn_app (goodIn_of _ (by decide +kernel)) ggX3_beside_X3_requireCell
set_option maxRecDepth 20000 in
theorem ggX3_beside_X1_sideCount : GoodIn wsX3_beside wsX1_sideCount := goodIn_r _ [81, 68, 127, 128, 129, 130, 131, 132, 133, 134] (by decide +kernel) (by decide +kernel)
set_option maxRecDepth 20000 in
theorem gX3_beside_X1_sideCount : GoodIn wsX3_beside (wsV RX3 90 RX1 yX1_sideCount wsX1_sideCount) := goodIn_app (goodIn_of _ (by decide +kernel)) ggX3_beside_X1_sideCount
set_option maxRecDepth 20000 in
theorem ggX3_beside_X3_requireIndex : GoodIn wsX3_beside wsX3_requireIndex := goodIn_ca (goodIn_r _ [117, 118, 119] (by decide +kernel) (by decide +kernel)) (goodIn_sub (fun _ h => List.mem_cons_of_mem _ (List.mem_append_right _ h)) (by decide +kernel))
set_option maxRecDepth 20000 in
theorem gX3_beside_X3_requireIndex : GoodIn wsX3_beside (va_wsS RX3 94 yX3_requireIndex wsX3_requireIndex) := goodIn_app (goodIn_of _ (by decide +kernel)) ggX3_beside_X3_requireIndex
set_option maxRecDepth 20000 in
theorem ggX3_beside_X1_across : GoodIn wsX3_beside wsX1_across := goodIn_r _ [123, 14, 86, 87, 88, 11, 89, 78, 79, 80, 81, 68, 82, 83, 84, 85, 73, 90, 91, 92, 127, 128, 129, 130, 131, 132, 133, 134] (by decide +kernel) (by decide +kernel)
set_option maxRecDepth 20000 in
theorem gX3_beside_X1_across : GoodIn wsX3_beside (wsV RX3 100 RX1 yX1_across wsX1_across) := goodIn_app (goodIn_of _ (by decide +kernel)) ggX3_beside_X1_across
theorem dX3_beside_0 : decode cX3_beside 0 = .ok (.aload_n 0, 1) := by decide +kernel
theorem dX3_beside_1 : decode cX3_beside 1 = .ok (.invokevirtual 81, 3) := by decide +kernel
theorem dX3_beside_4 : decode cX3_beside 4 = .ok (.aload_n 0, 1) := by decide +kernel
theorem dX3_beside_5 : decode cX3_beside 5 = .ok (.iload_n 1, 1) := by decide +kernel
theorem dX3_beside_6 : decode cX3_beside 6 = .ok (.invokevirtual 87, 3) := by decide +kernel
theorem dX3_beside_9 : decode cX3_beside 9 = .ok (.iload_n 2, 1) := by decide +kernel
theorem dX3_beside_10 : decode cX3_beside 10 = .ok (.aload_n 0, 1) := by decide +kernel
theorem dX3_beside_11 : decode cX3_beside 11 = .ok (.getfield 21, 3) := by decide +kernel
theorem dX3_beside_14 : decode cX3_beside 14 = .ok (.iload_n 1, 1) := by decide +kernel
theorem dX3_beside_15 : decode cX3_beside 15 = .ok (.invokevirtual 90, 3) := by decide +kernel
theorem dX3_beside_18 : decode cX3_beside 18 = .ok (.invokestatic 94, 3) := by decide +kernel
theorem dX3_beside_21 : decode cX3_beside 21 = .ok (.aload_n 0, 1) := by decide +kernel
theorem dX3_beside_22 : decode cX3_beside 22 = .ok (.getfield 21, 3) := by decide +kernel
theorem dX3_beside_25 : decode cX3_beside 25 = .ok (.iload_n 1, 1) := by decide +kernel
theorem dX3_beside_26 : decode cX3_beside 26 = .ok (.iload_n 2, 1) := by decide +kernel
theorem dX3_beside_27 : decode cX3_beside 27 = .ok (.invokevirtual 100, 3) := by decide +kernel
theorem dX3_beside_30 : decode cX3_beside 30 = .ok (.ireturn, 1) := by decide +kernel
set_option maxRecDepth 20000 in
theorem ggX3_centre_X3_refresh : GoodIn wsX3_centre wsX3_refresh := goodIn_r _ [8, 9, 3, 10, 11, 12, 13, 14, 15, 16, 17, 18, 19, 20, 21, 22, 23, 24, 25, 26, 27, 28, 29, 30, 31, 32, 33, 34, 35, 36, 37, 38, 39, 40, 41, 42, 43, 44, 45, 46, 47, 48, 49, 50, 51, 52, 53, 54, 55, 56, 57, 58, 59, 60, 61, 62, 63, 64, 65, 66, 67, 68, 69, 70, 71, 72, 73, 74, 75, 76, 77, 78, 79, 80, 81, 82, 83, 84, 85, 86, 87, 88, 89, 90, 91, 92, 93, 94, 95, 96, 97, 98, 99, 100, 101, 102, 103, 104, 105, 106, 107, 108, 131, 132, 133, 134, 135, 136, 137, 138, 139, 140, 141, 142, 143, 144, 145, 146, 147, 148, 149] (by decide +kernel) (by decide +kernel)
set_option maxRecDepth 20000 in
theorem gX3_centre_X3_refresh : GoodIn wsX3_centre (wsV RX3 81 RX3 yX3_refresh wsX3_refresh) := goodIn_app (goodIn_of _ (by decide +kernel)) ggX3_centre_X3_refresh
set_option maxRecDepth 20000 in
theorem ggX3_centre_X3_requireCell : GoodIn wsX3_centre wsX3_requireCell := goodIn_ca (goodIn_r _ [112, 113, 114, 3, 115, 131, 132, 133, 134, 135, 136, 137, 138, 139, 140, 141] (by decide +kernel) (by decide +kernel)) (goodIn_sub (fun _ h => List.mem_cons_of_mem _ (List.mem_append_right _ h)) (by decide +kernel))
set_option maxRecDepth 20000 in
theorem gX3_centre_X3_requireCell : GoodIn wsX3_centre (wsV RX3 87 RX3 yX3_requireCell wsX3_requireCell) := goodIn_app (goodIn_of _ (by decide +kernel)) ggX3_centre_X3_requireCell
set_option maxRecDepth 20000 in
theorem ggX3_centre_X1_circleOf : GoodIn wsX3_centre wsX1_circleOf := goodIn_r _ [119, 27, 17, 84, 85, 86, 13, 87, 75, 70, 56, 57, 58, 48, 59, 60, 50, 61, 51, 54, 55, 53, 52, 134, 135, 136, 137, 138, 139, 140, 141, 142, 143, 144, 145, 146, 147, 148, 149] (by decide +kernel) (by decide +kernel)
set_option maxRecDepth 20000 in
theorem gX3_centre_X1_circleOf : GoodIn wsX3_centre (wsV RX3 105 RX1 yX1_circleOf wsX1_circleOf) := goodIn_app (goodIn_of _ (by decide +kernel)) ggX3_centre_X1_circleOf
set_option maxRecDepth 20000 in
theorem ggX3_centre_X0_middle : GoodIn wsX3_centre wsX0_middle := goodIn_r _ [123, 50, 52, 54, 51, 55, 124, 125, 126, 127, 128, 129, 48, 130, 145, 146, 147, 148, 149] (by decide +kernel) (by decide +kernel)
set_option maxRecDepth 20000 in
theorem gX3_centre_X0_middle : GoodIn wsX3_centre (wsV RX3 109 RX0 yX0_middle wsX0_middle) := goodIn_app (goodIn_of _ (by decide +kernel)) ggX3_centre_X0_middle
theorem dX3_centre_0 : decode cX3_centre 0 = .ok (.iload_n 2, 1) := by decide +kernel
theorem dX3_centre_1 : decode cX3_centre 1 = .ok (.ifCond .lt 8, 3) := by decide +kernel
theorem dX3_centre_4 : decode cX3_centre 4 = .ok (.iload_n 2, 1) := by decide +kernel
theorem dX3_centre_5 : decode cX3_centre 5 = .ok (.iconst 2, 1) := by decide +kernel
theorem dX3_centre_6 : decode cX3_centre 6 = .ok (.if_icmp .le 13, 3) := by decide +kernel
theorem dX3_centre_9 : decode cX3_centre 9 = .ok (.new 37, 3) := by decide +kernel
theorem dX3_centre_12 : decode cX3_centre 12 = .ok (.dup, 1) := by decide +kernel
theorem dX3_centre_13 : decode cX3_centre 13 = .ok (.ldc 103, 2) := by decide +kernel
theorem dX3_centre_15 : decode cX3_centre 15 = .ok (.invokespecial 41, 3) := by decide +kernel
theorem dX3_centre_18 : decode cX3_centre 18 = .ok (.athrow, 1) := by decide +kernel
theorem dX3_centre_19 : decode cX3_centre 19 = .ok (.aload_n 0, 1) := by decide +kernel
theorem dX3_centre_20 : decode cX3_centre 20 = .ok (.invokevirtual 81, 3) := by decide +kernel
theorem dX3_centre_23 : decode cX3_centre 23 = .ok (.aload_n 0, 1) := by decide +kernel
theorem dX3_centre_24 : decode cX3_centre 24 = .ok (.iload_n 1, 1) := by decide +kernel
theorem dX3_centre_25 : decode cX3_centre 25 = .ok (.invokevirtual 87, 3) := by decide +kernel
theorem dX3_centre_28 : decode cX3_centre 28 = .ok (.aload_n 0, 1) := by decide +kernel
theorem dX3_centre_29 : decode cX3_centre 29 = .ok (.getfield 21, 3) := by decide +kernel
theorem dX3_centre_32 : decode cX3_centre 32 = .ok (.iload_n 1, 1) := by decide +kernel
theorem dX3_centre_33 : decode cX3_centre 33 = .ok (.invokevirtual 105, 3) := by decide +kernel
theorem dX3_centre_36 : decode cX3_centre 36 = .ok (.iload_n 2, 1) := by decide +kernel
theorem dX3_centre_37 : decode cX3_centre 37 = .ok (.invokevirtual 109, 3) := by decide +kernel
theorem dX3_centre_40 : decode cX3_centre 40 = .ok (.lreturn, 1) := by decide +kernel
set_option maxRecDepth 20000 in
theorem ggX3_hull_X3_refresh : GoodIn wsX3_hull wsX3_refresh := goodIn_r _ [8, 9, 1, 10, 11, 12, 13, 14, 15, 16, 17, 18, 19, 20, 21, 22, 23, 24, 25, 26, 27, 28, 29, 30, 31, 32, 33, 34, 35, 36, 37, 38, 39, 40, 41, 42, 43, 44, 45, 46, 47, 48, 49, 50, 51, 52, 53, 54, 55, 56, 57, 58, 59, 60, 61, 62, 63, 64, 65, 66, 67, 68, 69, 70, 71, 72, 73, 74, 75, 76, 77, 78, 79, 80, 81, 82, 83, 84, 85, 86, 87, 88, 89, 90, 91, 92, 93, 94, 95, 96, 97, 98, 99, 100, 101, 102, 103, 104, 105, 106, 107, 108, 114, 115, 116, 117, 118, 119, 120, 121, 122, 123, 124, 125, 126, 127, 128, 129, 130, 131, 132] (by decide +kernel) (by decide +kernel)
set_option maxRecDepth 20000 in
theorem gX3_hull_X3_refresh : GoodIn wsX3_hull (wsV RX3 81 RX3 yX3_refresh wsX3_refresh) := goodIn_app (goodIn_of _ (by decide +kernel)) ggX3_hull_X3_refresh
set_option maxRecDepth 20000 in
theorem ggX3_hull_X3_requireIndex : GoodIn wsX3_hull wsX3_requireIndex := goodIn_ca (goodIn_r _ [111, 112, 113] (by decide +kernel) (by decide +kernel)) (goodIn_sub (fun _ h => List.mem_cons_of_mem _ (List.mem_append_right _ h)) (by decide +kernel))
set_option maxRecDepth 20000 in
theorem gX3_hull_X3_requireIndex : GoodIn wsX3_hull (va_wsS RX3 94 yX3_requireIndex wsX3_requireIndex) := goodIn_app (goodIn_of _ (by decide +kernel)) ggX3_hull_X3_requireIndex
theorem dX3_hull_0 : decode cX3_hull 0 = .ok (.aload_n 0, 1) := by decide +kernel
theorem dX3_hull_1 : decode cX3_hull 1 = .ok (.invokevirtual 81, 3) := by decide +kernel
theorem dX3_hull_4 : decode cX3_hull 4 = .ok (.iload_n 1, 1) := by decide +kernel
theorem dX3_hull_5 : decode cX3_hull 5 = .ok (.iconst (-1), 1) := by decide +kernel
theorem dX3_hull_6 : decode cX3_hull 6 = .ok (.if_icmp .ne 11, 3) := by decide +kernel
theorem dX3_hull_9 : decode cX3_hull 9 = .ok (.aload_n 0, 1) := by decide +kernel
theorem dX3_hull_10 : decode cX3_hull 10 = .ok (.getfield 21, 3) := by decide +kernel
theorem dX3_hull_13 : decode cX3_hull 13 = .ok (.getfield 115, 3) := by decide +kernel
theorem dX3_hull_16 : decode cX3_hull 16 = .ok (.ireturn, 1) := by decide +kernel
theorem dX3_hull_17 : decode cX3_hull 17 = .ok (.iload_n 1, 1) := by decide +kernel
theorem dX3_hull_18 : decode cX3_hull 18 = .ok (.aload_n 0, 1) := by decide +kernel
theorem dX3_hull_19 : decode cX3_hull 19 = .ok (.getfield 21, 3) := by decide +kernel
theorem dX3_hull_22 : decode cX3_hull 22 = .ok (.getfield 115, 3) := by decide +kernel
theorem dX3_hull_25 : decode cX3_hull 25 = .ok (.invokestatic 94, 3) := by decide +kernel
theorem dX3_hull_28 : decode cX3_hull 28 = .ok (.aload_n 0, 1) := by decide +kernel
theorem dX3_hull_29 : decode cX3_hull 29 = .ok (.getfield 21, 3) := by decide +kernel
theorem dX3_hull_32 : decode cX3_hull 32 = .ok (.getfield 118, 3) := by decide +kernel
theorem dX3_hull_35 : decode cX3_hull 35 = .ok (.iload_n 1, 1) := by decide +kernel
theorem dX3_hull_36 : decode cX3_hull 36 = .ok (.iaload, 1) := by decide +kernel
theorem dX3_hull_37 : decode cX3_hull 37 = .ok (.ireturn, 1) := by decide +kernel
set_option maxRecDepth 20000 in
theorem ggX3_around_X3_requirePlace : GoodIn wsX3_around wsX3_requirePlace := goodIn_ca (goodIn_r _ [5, 6, 7] (by decide +kernel) (by decide +kernel)) (goodIn_sub (fun _ h => List.mem_cons_of_mem _ (List.mem_append_right _ h)) (by decide +kernel))
set_option maxRecDepth 20000 in
theorem gX3_around_X3_requirePlace : GoodIn wsX3_around (va_wsS RX3 29 yX3_requirePlace wsX3_requirePlace) := goodIn_app (goodIn_of _ (by decide +kernel)) ggX3_around_X3_requirePlace
set_option maxRecDepth 20000 in
theorem ggX3_around_X3_refresh : GoodIn wsX3_around wsX3_refresh := goodIn_r _ [11, 12, 1, 13, 14, 15, 16, 17, 18, 19, 20, 21, 22, 23, 24, 25, 26, 27, 28, 29, 30, 31, 32, 33, 34, 35, 36, 37, 38, 39, 40, 41, 42, 43, 44, 45, 46, 47, 48, 49, 50, 51, 52, 53, 54, 55, 56, 57, 58, 59, 60, 61, 62, 63, 64, 65, 66, 67, 68, 69, 70, 71, 72, 73, 74, 75, 76, 77, 78, 79, 80, 81, 82, 83, 84, 85, 86, 87, 88, 89, 90, 91, 92, 93, 94, 95, 96, 97, 98, 99, 100, 101, 102, 103, 104, 105, 106, 107, 108, 109, 110, 111, 121, 122, 123, 124, 125, 126, 127, 128, 129, 130, 131, 132, 133, 134, 135, 136, 137, 138, 139] (by decide +kernel) (by decide +kernel)
set_option maxRecDepth 20000 in
theorem gX3_around_X3_refresh : GoodIn wsX3_around (wsV RX3 81 RX3 yX3_refresh wsX3_refresh) := goodIn_app (goodIn_of _ (by decide +kernel)) ggX3_around_X3_refresh
set_option maxRecDepth 20000 in
theorem ggX3_around_X1_firstWith : GoodIn wsX3_around wsX1_firstWith := goodIn_r _ [115, 18, 116, 117, 118, 16, 119, 20, 83, 84, 85, 86, 73, 87, 88, 89, 90, 78, 91, 92, 93, 94, 120, 39, 40, 34, 41, 36, 37, 124, 125, 126, 127, 128, 129, 130, 131, 132, 133, 134] (by decide +kernel) (by decide +kernel)
set_option maxRecDepth 20000 in
theorem gX3_around_X1_firstWith : GoodIn wsX3_around (wsV RX3 121 RX1 yX1_firstWith wsX1_firstWith) := goodIn_app (goodIn_of _ (by decide +kernel)) ggX3_around_X1_firstWith
theorem dX3_around_0 : decode cX3_around 0 = .ok (.iload_n 1, 1) := by decide +kernel
theorem dX3_around_1 : decode cX3_around 1 = .ok (.iload_n 2, 1) := by decide +kernel
theorem dX3_around_2 : decode cX3_around 2 = .ok (.invokestatic 29, 3) := by decide +kernel
theorem dX3_around_5 : decode cX3_around 5 = .ok (.aload_n 0, 1) := by decide +kernel
theorem dX3_around_6 : decode cX3_around 6 = .ok (.invokevirtual 81, 3) := by decide +kernel
theorem dX3_around_9 : decode cX3_around 9 = .ok (.aload_n 0, 1) := by decide +kernel
theorem dX3_around_10 : decode cX3_around 10 = .ok (.getfield 21, 3) := by decide +kernel
theorem dX3_around_13 : decode cX3_around 13 = .ok (.iload_n 1, 1) := by decide +kernel
theorem dX3_around_14 : decode cX3_around 14 = .ok (.iload_n 2, 1) := by decide +kernel
theorem dX3_around_15 : decode cX3_around 15 = .ok (.invokevirtual 121, 3) := by decide +kernel
theorem dX3_around_18 : decode cX3_around 18 = .ok (.ireturn, 1) := by decide +kernel
set_option maxRecDepth 20000 in
theorem ggX3_nearest_X3_requirePlace : GoodIn wsX3_nearest wsX3_requirePlace := goodIn_ca (goodIn_r _ [8, 9, 10] (by decide +kernel) (by decide +kernel)) (goodIn_sub (fun _ h => List.mem_cons_of_mem _ (List.mem_append_right _ h)) (by decide +kernel))
set_option maxRecDepth 20000 in
theorem gX3_nearest_X3_requirePlace : GoodIn wsX3_nearest (va_wsS RX3 29 yX3_requirePlace wsX3_requirePlace) := goodIn_app (goodIn_of _ (by decide +kernel)) ggX3_nearest_X3_requirePlace
set_option maxRecDepth 20000 in
theorem ggX3_nearest_X2_closestTo : GoodIn wsX3_nearest wsX2_closestTo := goodIn_r _ [15, 16, 17, 18, 19, 14, 20, 21, 22, 26, 27, 28] (by decide +kernel) (by decide +kernel)
set_option maxRecDepth 20000 in
theorem gX3_nearest_X2_closestTo : GoodIn wsX3_nearest (wsV RX3 126 RX2 yX2_closestTo wsX2_closestTo) := goodIn_app (goodIn_of _ (by decide +kernel)) ggX3_nearest_X2_closestTo
theorem dX3_nearest_0 : decode cX3_nearest 0 = .ok (.iload_n 1, 1) := by decide +kernel
theorem dX3_nearest_1 : decode cX3_nearest 1 = .ok (.iload_n 2, 1) := by decide +kernel
theorem dX3_nearest_2 : decode cX3_nearest 2 = .ok (.invokestatic 29, 3) := by decide +kernel
theorem dX3_nearest_5 : decode cX3_nearest 5 = .ok (.aload_n 0, 1) := by decide +kernel
theorem dX3_nearest_6 : decode cX3_nearest 6 = .ok (.getfield 12, 3) := by decide +kernel
theorem dX3_nearest_9 : decode cX3_nearest 9 = .ok (.getfield 44, 3) := by decide +kernel
theorem dX3_nearest_12 : decode cX3_nearest 12 = .ok (.ifCond .ne 13, 3) := by decide +kernel
theorem dX3_nearest_15 : decode cX3_nearest 15 = .ok (.new 48, 3) := by decide +kernel
theorem dX3_nearest_18 : decode cX3_nearest 18 = .ok (.dup, 1) := by decide +kernel
theorem dX3_nearest_19 : decode cX3_nearest 19 = .ok (.ldc 124, 2) := by decide +kernel
theorem dX3_nearest_21 : decode cX3_nearest 21 = .ok (.invokespecial 52, 3) := by decide +kernel
theorem dX3_nearest_24 : decode cX3_nearest 24 = .ok (.athrow, 1) := by decide +kernel
theorem dX3_nearest_25 : decode cX3_nearest 25 = .ok (.aload_n 0, 1) := by decide +kernel
theorem dX3_nearest_26 : decode cX3_nearest 26 = .ok (.getfield 12, 3) := by decide +kernel
theorem dX3_nearest_29 : decode cX3_nearest 29 = .ok (.iload_n 1, 1) := by decide +kernel
theorem dX3_nearest_30 : decode cX3_nearest 30 = .ok (.iload_n 2, 1) := by decide +kernel
theorem dX3_nearest_31 : decode cX3_nearest 31 = .ok (.invokevirtual 126, 3) := by decide +kernel
theorem dX3_nearest_34 : decode cX3_nearest 34 = .ok (.ireturn, 1) := by decide +kernel
theorem dX3_requirePlace_0 : decode cX3_requirePlace 0 = .ok (.iload_n 0, 1) := by decide +kernel
theorem dX3_requirePlace_1 : decode cX3_requirePlace 1 = .ok (.sipush (-400), 3) := by decide +kernel
theorem dX3_requirePlace_4 : decode cX3_requirePlace 4 = .ok (.if_icmp .lt 24, 3) := by decide +kernel
theorem dX3_requirePlace_7 : decode cX3_requirePlace 7 = .ok (.iload_n 0, 1) := by decide +kernel
theorem dX3_requirePlace_8 : decode cX3_requirePlace 8 = .ok (.sipush 400, 3) := by decide +kernel
theorem dX3_requirePlace_11 : decode cX3_requirePlace 11 = .ok (.if_icmp .gt 17, 3) := by decide +kernel
theorem dX3_requirePlace_14 : decode cX3_requirePlace 14 = .ok (.iload_n 1, 1) := by decide +kernel
theorem dX3_requirePlace_15 : decode cX3_requirePlace 15 = .ok (.sipush (-400), 3) := by decide +kernel
theorem dX3_requirePlace_18 : decode cX3_requirePlace 18 = .ok (.if_icmp .lt 10, 3) := by decide +kernel
theorem dX3_requirePlace_21 : decode cX3_requirePlace 21 = .ok (.iload_n 1, 1) := by decide +kernel
theorem dX3_requirePlace_22 : decode cX3_requirePlace 22 = .ok (.sipush 400, 3) := by decide +kernel
theorem dX3_requirePlace_25 : decode cX3_requirePlace 25 = .ok (.if_icmp .le 13, 3) := by decide +kernel
theorem dX3_requirePlace_28 : decode cX3_requirePlace 28 = .ok (.new 37, 3) := by decide +kernel
theorem dX3_requirePlace_31 : decode cX3_requirePlace 31 = .ok (.dup, 1) := by decide +kernel
theorem dX3_requirePlace_32 : decode cX3_requirePlace 32 = .ok (.ldc 129, 2) := by decide +kernel
theorem dX3_requirePlace_34 : decode cX3_requirePlace 34 = .ok (.invokespecial 41, 3) := by decide +kernel
theorem dX3_requirePlace_37 : decode cX3_requirePlace 37 = .ok (.athrow, 1) := by decide +kernel
theorem dX3_requirePlace_38 : decode cX3_requirePlace 38 = .ok (.return_, 1) := by decide +kernel
theorem dX3_requireSite_0 : decode cX3_requireSite 0 = .ok (.iload_n 1, 1) := by decide +kernel
theorem dX3_requireSite_1 : decode cX3_requireSite 1 = .ok (.ifCond .lt 14, 3) := by decide +kernel
theorem dX3_requireSite_4 : decode cX3_requireSite 4 = .ok (.iload_n 1, 1) := by decide +kernel
theorem dX3_requireSite_5 : decode cX3_requireSite 5 = .ok (.aload_n 0, 1) := by decide +kernel
theorem dX3_requireSite_6 : decode cX3_requireSite 6 = .ok (.getfield 12, 3) := by decide +kernel
theorem dX3_requireSite_9 : decode cX3_requireSite 9 = .ok (.getfield 44, 3) := by decide +kernel
theorem dX3_requireSite_12 : decode cX3_requireSite 12 = .ok (.if_icmp .lt 13, 3) := by decide +kernel
theorem dX3_requireSite_15 : decode cX3_requireSite 15 = .ok (.new 37, 3) := by decide +kernel
theorem dX3_requireSite_18 : decode cX3_requireSite 18 = .ok (.dup, 1) := by decide +kernel
theorem dX3_requireSite_19 : decode cX3_requireSite 19 = .ok (.ldc 131, 2) := by decide +kernel
theorem dX3_requireSite_21 : decode cX3_requireSite 21 = .ok (.invokespecial 41, 3) := by decide +kernel
theorem dX3_requireSite_24 : decode cX3_requireSite 24 = .ok (.athrow, 1) := by decide +kernel
theorem dX3_requireSite_25 : decode cX3_requireSite 25 = .ok (.return_, 1) := by decide +kernel
theorem dX3_requireCell_0 : decode cX3_requireCell 0 = .ok (.iload_n 1, 1) := by decide +kernel
theorem dX3_requireCell_1 : decode cX3_requireCell 1 = .ok (.ifCond .lt 14, 3) := by decide +kernel
theorem dX3_requireCell_4 : decode cX3_requireCell 4 = .ok (.iload_n 1, 1) := by decide +kernel
theorem dX3_requireCell_5 : decode cX3_requireCell 5 = .ok (.aload_n 0, 1) := by decide +kernel
theorem dX3_requireCell_6 : decode cX3_requireCell 6 = .ok (.getfield 21, 3) := by decide +kernel
theorem dX3_requireCell_9 : decode cX3_requireCell 9 = .ok (.getfield 84, 3) := by decide +kernel
theorem dX3_requireCell_12 : decode cX3_requireCell 12 = .ok (.if_icmp .lt 13, 3) := by decide +kernel
theorem dX3_requireCell_15 : decode cX3_requireCell 15 = .ok (.new 133, 3) := by decide +kernel
theorem dX3_requireCell_18 : decode cX3_requireCell 18 = .ok (.dup, 1) := by decide +kernel
theorem dX3_requireCell_19 : decode cX3_requireCell 19 = .ok (.ldc 135, 2) := by decide +kernel
theorem dX3_requireCell_21 : decode cX3_requireCell 21 = .ok (.invokespecial 137, 3) := by decide +kernel
theorem dX3_requireCell_24 : decode cX3_requireCell 24 = .ok (.athrow, 1) := by decide +kernel
theorem dX3_requireCell_25 : decode cX3_requireCell 25 = .ok (.return_, 1) := by decide +kernel
theorem dX3_requireIndex_0 : decode cX3_requireIndex 0 = .ok (.iload_n 0, 1) := by decide +kernel
theorem dX3_requireIndex_1 : decode cX3_requireIndex 1 = .ok (.ifCond .lt 8, 3) := by decide +kernel
theorem dX3_requireIndex_4 : decode cX3_requireIndex 4 = .ok (.iload_n 0, 1) := by decide +kernel
theorem dX3_requireIndex_5 : decode cX3_requireIndex 5 = .ok (.iload_n 1, 1) := by decide +kernel
theorem dX3_requireIndex_6 : decode cX3_requireIndex 6 = .ok (.if_icmp .lt 13, 3) := by decide +kernel
theorem dX3_requireIndex_9 : decode cX3_requireIndex 9 = .ok (.new 138, 3) := by decide +kernel
theorem dX3_requireIndex_12 : decode cX3_requireIndex 12 = .ok (.dup, 1) := by decide +kernel
theorem dX3_requireIndex_13 : decode cX3_requireIndex 13 = .ok (.ldc 140, 2) := by decide +kernel
theorem dX3_requireIndex_15 : decode cX3_requireIndex 15 = .ok (.invokespecial 142, 3) := by decide +kernel
theorem dX3_requireIndex_18 : decode cX3_requireIndex 18 = .ok (.athrow, 1) := by decide +kernel
theorem dX3_requireIndex_19 : decode cX3_requireIndex 19 = .ok (.return_, 1) := by decide +kernel
set_option maxRecDepth 20000 in
theorem ggX3_refresh_X1_build : GoodIn wsX3_refresh wsX1_build := goodIn_r _ [7, 8, 9, 10, 11, 12, 13, 14, 15, 16, 17, 18, 6, 19, 20, 21, 22, 23, 24, 25, 26, 27, 28, 29, 30, 31, 32, 33, 34, 35, 36, 37, 38, 39, 40, 41, 42, 43, 44, 45, 46, 47, 48, 49, 50, 51, 52, 53, 54, 55, 56, 57, 58, 59, 60, 61, 62, 63, 64, 65, 66, 67, 68, 69, 70, 71, 72, 73, 74, 75, 76, 77, 78, 79, 80, 81, 82, 83, 84, 85, 86, 87, 88, 89, 90, 91, 92, 93, 94, 95, 96, 97, 98, 99, 100, 101, 105, 106, 107, 108, 109, 110, 111, 112, 113, 114, 115, 116, 117, 118, 119, 120] (by decide +kernel) (by decide +kernel)
set_option maxRecDepth 20000 in
theorem gX3_refresh_X1_build : GoodIn wsX3_refresh (wsV RX3 143 RX1 yX1_build wsX1_build) := goodIn_app (goodIn_of _ (by decide +kernel)) ggX3_refresh_X1_build
theorem dX3_refresh_0 : decode cX3_refresh 0 = .ok (.aload_n 0, 1) := by decide +kernel
theorem dX3_refresh_1 : decode cX3_refresh 1 = .ok (.getfield 25, 3) := by decide +kernel
theorem dX3_refresh_4 : decode cX3_refresh 4 = .ok (.ifCond .eq 15, 3) := by decide +kernel
theorem dX3_refresh_7 : decode cX3_refresh 7 = .ok (.aload_n 0, 1) := by decide +kernel
theorem dX3_refresh_8 : decode cX3_refresh 8 = .ok (.getfield 21, 3) := by decide +kernel
theorem dX3_refresh_11 : decode cX3_refresh 11 = .ok (.invokevirtual 143, 3) := by decide +kernel
theorem dX3_refresh_14 : decode cX3_refresh 14 = .ok (.aload_n 0, 1) := by decide +kernel
theorem dX3_refresh_15 : decode cX3_refresh 15 = .ok (.iconst 0, 1) := by decide +kernel
theorem dX3_refresh_16 : decode cX3_refresh 16 = .ok (.putfield 25, 3) := by decide +kernel
theorem dX3_refresh_19 : decode cX3_refresh 19 = .ok (.return_, 1) := by decide +kernel
theorem dJ9_abs_067f4_0 : decode cJ9_abs_067f4 0 = .ok (.lload_n 0, 1) := by decide +kernel
theorem dJ9_abs_067f4_1 : decode cJ9_abs_067f4 1 = .ok (.lconst 0, 1) := by decide +kernel
theorem dJ9_abs_067f4_2 : decode cJ9_abs_067f4 2 = .ok (.lcmp, 1) := by decide +kernel
theorem dJ9_abs_067f4_3 : decode cJ9_abs_067f4 3 = .ok (.ifCond .ge 8, 3) := by decide +kernel
theorem dJ9_abs_067f4_6 : decode cJ9_abs_067f4 6 = .ok (.lload_n 0, 1) := by decide +kernel
theorem dJ9_abs_067f4_7 : decode cJ9_abs_067f4 7 = .ok (.lneg, 1) := by decide +kernel
theorem dJ9_abs_067f4_8 : decode cJ9_abs_067f4 8 = .ok (.goto 4, 3) := by decide +kernel
theorem dJ9_abs_067f4_11 : decode cJ9_abs_067f4 11 = .ok (.lload_n 0, 1) := by decide +kernel
theorem dJ9_abs_067f4_12 : decode cJ9_abs_067f4 12 = .ok (.lreturn, 1) := by decide +kernel
theorem dJ7_fill_53178_0 : decode cJ7_fill_53178 0 = .ok (.iconst 0, 1) := by decide +kernel
theorem dJ7_fill_53178_1 : decode cJ7_fill_53178 1 = .ok (.istore_n 2, 1) := by decide +kernel
theorem dJ7_fill_53178_2 : decode cJ7_fill_53178 2 = .ok (.aload_n 0, 1) := by decide +kernel
theorem dJ7_fill_53178_3 : decode cJ7_fill_53178 3 = .ok (.arraylength, 1) := by decide +kernel
theorem dJ7_fill_53178_4 : decode cJ7_fill_53178 4 = .ok (.istore_n 3, 1) := by decide +kernel
theorem dJ7_fill_53178_5 : decode cJ7_fill_53178 5 = .ok (.iload_n 2, 1) := by decide +kernel
theorem dJ7_fill_53178_6 : decode cJ7_fill_53178 6 = .ok (.iload_n 3, 1) := by decide +kernel
theorem dJ7_fill_53178_7 : decode cJ7_fill_53178 7 = .ok (.if_icmp .ge 13, 3) := by decide +kernel
theorem dJ7_fill_53178_10 : decode cJ7_fill_53178 10 = .ok (.aload_n 0, 1) := by decide +kernel
theorem dJ7_fill_53178_11 : decode cJ7_fill_53178 11 = .ok (.iload_n 2, 1) := by decide +kernel
theorem dJ7_fill_53178_12 : decode cJ7_fill_53178 12 = .ok (.iload_n 1, 1) := by decide +kernel
theorem dJ7_fill_53178_13 : decode cJ7_fill_53178 13 = .ok (.iastore, 1) := by decide +kernel
theorem dJ7_fill_53178_14 : decode cJ7_fill_53178 14 = .ok (.iinc 2 1, 3) := by decide +kernel
theorem dJ7_fill_53178_17 : decode cJ7_fill_53178 17 = .ok (.goto (-12), 3) := by decide +kernel
theorem dJ7_fill_53178_20 : decode cJ7_fill_53178 20 = .ok (.return_, 1) := by decide +kernel
