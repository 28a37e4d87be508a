theorem dX4_init_0 : decode cX4_init 0 = .ok (.aload_n 0, 1) := by decide +kernel
theorem dX4_init_1 : decode cX4_init 1 = .ok (.invokespecial 1, 3) := by decide +kernel
theorem dX4_init_4 : decode cX4_init 4 = .ok (.aload_n 0, 1) := by decide +kernel
theorem dX4_init_5 : decode cX4_init 5 = .ok (.bipush 20, 2) := by decide +kernel
theorem dX4_init_7 : decode cX4_init 7 = .ok (.newarray .int, 2) := by decide +kernel
theorem dX4_init_9 : decode cX4_init 9 = .ok (.putfield 7, 3) := by decide +kernel
theorem dX4_init_12 : decode cX4_init 12 = .ok (.aload_n 0, 1) := by decide +kernel
theorem dX4_init_13 : decode cX4_init 13 = .ok (.bipush 20, 2) := by decide +kernel
theorem dX4_init_15 : decode cX4_init 15 = .ok (.newarray .int, 2) := by decide +kernel
theorem dX4_init_17 : decode cX4_init 17 = .ok (.putfield 13, 3) := by decide +kernel
theorem dX4_init_20 : decode cX4_init 20 = .ok (.aload_n 0, 1) := by decide +kernel
theorem dX4_init_21 : decode cX4_init 21 = .ok (.bipush 60, 2) := by decide +kernel
theorem dX4_init_23 : decode cX4_init 23 = .ok (.newarray .int, 2) := by decide +kernel
theorem dX4_init_25 : decode cX4_init 25 = .ok (.putfield 16, 3) := by decide +kernel
theorem dX4_init_28 : decode cX4_init 28 = .ok (.aload_n 0, 1) := by decide +kernel
theorem dX4_init_29 : decode cX4_init 29 = .ok (.sipush 1200, 3) := by decide +kernel
theorem dX4_init_32 : decode cX4_init 32 = .ok (.newarray .int, 2) := by decide +kernel
theorem dX4_init_34 : decode cX4_init 34 = .ok (.putfield 19, 3) := by decide +kernel
theorem dX4_init_37 : decode cX4_init 37 = .ok (.aload_n 0, 1) := by decide +kernel
theorem dX4_init_38 : decode cX4_init 38 = .ok (.bipush 60, 2) := by decide +kernel
theorem dX4_init_40 : decode cX4_init 40 = .ok (.newarray .int, 2) := by decide +kernel
theorem dX4_init_42 : decode cX4_init 42 = .ok (.putfield 22, 3) := by decide +kernel
theorem dX4_init_45 : decode cX4_init 45 = .ok (.aload_n 0, 1) := by decide +kernel
theorem dX4_init_46 : decode cX4_init 46 = .ok (.bipush 20, 2) := by decide +kernel
theorem dX4_init_48 : decode cX4_init 48 = .ok (.newarray .int, 2) := by decide +kernel
theorem dX4_init_50 : decode cX4_init 50 = .ok (.putfield 25, 3) := by decide +kernel
theorem dX4_init_53 : decode cX4_init 53 = .ok (.return_, 1) := by decide +kernel
theorem dX4_thrown_0 : decode cX4_thrown 0 = .ok (.aload_n 0, 1) := by decide +kernel
theorem dX4_thrown_1 : decode cX4_thrown 1 = .ok (.getfield 28, 3) := by decide +kernel
theorem dX4_thrown_4 : decode cX4_thrown 4 = .ok (.ireturn, 1) := by decide +kernel
theorem dX4_throwing_0 : decode cX4_throwing 0 = .ok (.aload_n 0, 1) := by decide +kernel
theorem dX4_throwing_1 : decode cX4_throwing 1 = .ok (.iload_n 1, 1) := by decide +kernel
theorem dX4_throwing_2 : decode cX4_throwing 2 = .ok (.ifCond .eq 7, 3) := by decide +kernel
theorem dX4_throwing_5 : decode cX4_throwing 5 = .ok (.iconst 1, 1) := by decide +kernel
theorem dX4_throwing_6 : decode cX4_throwing 6 = .ok (.goto 12, 3) := by decide +kernel
theorem dX4_throwing_9 : decode cX4_throwing 9 = .ok (.iload_n 2, 1) := by decide +kernel
theorem dX4_throwing_10 : decode cX4_throwing 10 = .ok (.ifCond .eq 7, 3) := by decide +kernel
theorem dX4_throwing_13 : decode cX4_throwing 13 = .ok (.iconst 2, 1) := by decide +kernel
theorem dX4_throwing_14 : decode cX4_throwing 14 = .ok (.goto 4, 3) := by decide +kernel
theorem dX4_throwing_17 : decode cX4_throwing 17 = .ok (.iconst 0, 1) := by decide +kernel
theorem dX4_throwing_18 : decode cX4_throwing 18 = .ok (.putfield 28, 3) := by decide +kernel
theorem dX4_throwing_21 : decode cX4_throwing 21 = .ok (.aload_n 0, 1) := by decide +kernel
theorem dX4_throwing_22 : decode cX4_throwing 22 = .ok (.getfield 28, 3) := by decide +kernel
theorem dX4_throwing_25 : decode cX4_throwing 25 = .ok (.ifCond .le 7, 3) := by decide +kernel
theorem dX4_throwing_28 : decode cX4_throwing 28 = .ok (.iconst 1, 1) := by decide +kernel
theorem dX4_throwing_29 : decode cX4_throwing 29 = .ok (.goto 4, 3) := by decide +kernel
theorem dX4_throwing_32 : decode cX4_throwing 32 = .ok (.iconst 0, 1) := by decide +kernel
theorem dX4_throwing_33 : decode cX4_throwing 33 = .ok (.ireturn, 1) := by decide +kernel
theorem dX4_out_0 : decode cX4_out 0 = .ok (.iload_n 0, 1) := by decide +kernel
theorem dX4_out_1 : decode cX4_out 1 = .ok (.ifCond .lt 8, 3) := by decide +kernel
theorem dX4_out_4 : decode cX4_out 4 = .ok (.iload_n 0, 1) := by decide +kernel
theorem dX4_out_5 : decode cX4_out 5 = .ok (.iload_n 1, 1) := by decide +kernel
theorem dX4_out_6 : decode cX4_out 6 = .ok (.if_icmp .lt 7, 3) := by decide +kernel
theorem dX4_out_9 : decode cX4_out 9 = .ok (.iconst 1, 1) := by decide +kernel
theorem dX4_out_10 : decode cX4_out 10 = .ok (.goto 4, 3) := by decide +kernel
theorem dX4_out_13 : decode cX4_out 13 = .ok (.iconst 0, 1) := by decide +kernel
theorem dX4_out_14 : decode cX4_out 14 = .ok (.ireturn, 1) := by decide +kernel
theorem dX4_isFar_0 : decode cX4_isFar 0 = .ok (.iload_n 0, 1) := by decide +kernel
theorem dX4_isFar_1 : decode cX4_isFar 1 = .ok (.sipush (-400), 3) := by decide +kernel
theorem dX4_isFar_4 : decode cX4_isFar 4 = .ok (.if_icmp .lt 24, 3) := by decide +kernel
theorem dX4_isFar_7 : decode cX4_isFar 7 = .ok (.iload_n 0, 1) := by decide +kernel
theorem dX4_isFar_8 : decode cX4_isFar 8 = .ok (.sipush 400, 3) := by decide +kernel
theorem dX4_isFar_11 : decode cX4_isFar 11 = .ok (.if_icmp .gt 17, 3) := by decide +kernel
theorem dX4_isFar_14 : decode cX4_isFar 14 = .ok (.iload_n 1, 1) := by decide +kernel
theorem dX4_isFar_15 : decode cX4_isFar 15 = .ok (.sipush (-400), 3) := by decide +kernel
theorem dX4_isFar_18 : decode cX4_isFar 18 = .ok (.if_icmp .lt 10, 3) := by decide +kernel
theorem dX4_isFar_21 : decode cX4_isFar 21 = .ok (.iload_n 1, 1) := by decide +kernel
theorem dX4_isFar_22 : decode cX4_isFar 22 = .ok (.sipush 400, 3) := by decide +kernel
theorem dX4_isFar_25 : decode cX4_isFar 25 = .ok (.if_icmp .le 7, 3) := by decide +kernel
theorem dX4_isFar_28 : decode cX4_isFar 28 = .ok (.iconst 1, 1) := by decide +kernel
theorem dX4_isFar_29 : decode cX4_isFar 29 = .ok (.goto 4, 3) := by decide +kernel
theorem dX4_isFar_32 : decode cX4_isFar 32 = .ok (.iconst 0, 1) := by decide +kernel
theorem dX4_isFar_33 : decode cX4_isFar 33 = .ok (.ireturn, 1) := by decide +kernel
theorem dX4_isTaken_0 : decode cX4_isTaken 0 = .ok (.iconst 0, 1) := by decide +kernel
theorem dX4_isTaken_1 : decode cX4_isTaken 1 = .ok (.istore 4, 2) := by decide +kernel
theorem dX4_isTaken_3 : decode cX4_isTaken 3 = .ok (.iconst 0, 1) := by decide +kernel
theorem dX4_isTaken_4 : decode cX4_isTaken 4 = .ok (.istore 5, 2) := by decide +kernel
theorem dX4_isTaken_6 : decode cX4_isTaken 6 = .ok (.iload 5, 2) := by decide +kernel
theorem dX4_isTaken_8 : decode cX4_isTaken 8 = .ok (.aload_n 0, 1) := by decide +kernel
theorem dX4_isTaken_9 : decode cX4_isTaken 9 = .ok (.getfield 32, 3) := by decide +kernel
theorem dX4_isTaken_12 : decode cX4_isTaken 12 = .ok (.if_icmp .ge 49, 3) := by decide +kernel
theorem dX4_isTaken_15 : decode cX4_isTaken 15 = .ok (.iload 4, 2) := by decide +kernel
theorem dX4_isTaken_17 : decode cX4_isTaken 17 = .ok (.ifCond .ne 31, 3) := by decide +kernel
theorem dX4_isTaken_20 : decode cX4_isTaken 20 = .ok (.iload 5, 2) := by decide +kernel
theorem dX4_isTaken_22 : decode cX4_isTaken 22 = .ok (.iload_n 3, 1) := by decide +kernel
theorem dX4_isTaken_23 : decode cX4_isTaken 23 = .ok (.if_icmp .eq 29, 3) := by decide +kernel
theorem dX4_isTaken_26 : decode cX4_isTaken 26 = .ok (.aload_n 0, 1) := by decide +kernel
theorem dX4_isTaken_27 : decode cX4_isTaken 27 = .ok (.getfield 7, 3) := by decide +kernel
theorem dX4_isTaken_30 : decode cX4_isTaken 30 = .ok (.iload 5, 2) := by decide +kernel
theorem dX4_isTaken_32 : decode cX4_isTaken 32 = .ok (.iaload, 1) := by decide +kernel
theorem dX4_isTaken_33 : decode cX4_isTaken 33 = .ok (.iload_n 1, 1) := by decide +kernel
theorem dX4_isTaken_34 : decode cX4_isTaken 34 = .ok (.if_icmp .ne 18, 3) := by decide +kernel
theorem dX4_isTaken_37 : decode cX4_isTaken 37 = .ok (.aload_n 0, 1) := by decide +kernel
theorem dX4_isTaken_38 : decode cX4_isTaken 38 = .ok (.getfield 13, 3) := by decide +kernel
theorem dX4_isTaken_41 : decode cX4_isTaken 41 = .ok (.iload 5, 2) := by decide +kernel
theorem dX4_isTaken_43 : decode cX4_isTaken 43 = .ok (.iaload, 1) := by decide +kernel
theorem dX4_isTaken_44 : decode cX4_isTaken 44 = .ok (.iload_n 2, 1) := by decide +kernel
theorem dX4_isTaken_45 : decode cX4_isTaken 45 = .ok (.if_icmp .ne 7, 3) := by decide +kernel
theorem dX4_isTaken_48 : decode cX4_isTaken 48 = .ok (.iconst 1, 1) := by decide +kernel
theorem dX4_isTaken_49 : decode cX4_isTaken 49 = .ok (.goto 4, 3) := by decide +kernel
theorem dX4_isTaken_52 : decode cX4_isTaken 52 = .ok (.iconst 0, 1) := by decide +kernel
theorem dX4_isTaken_53 : decode cX4_isTaken 53 = .ok (.istore 4, 2) := by decide +kernel
theorem dX4_isTaken_55 : decode cX4_isTaken 55 = .ok (.iinc 5 1, 3) := by decide +kernel
theorem dX4_isTaken_58 : decode cX4_isTaken 58 = .ok (.goto (-52), 3) := by decide +kernel
theorem dX4_isTaken_61 : decode cX4_isTaken 61 = .ok (.iload 4, 2) := by decide +kernel
theorem dX4_isTaken_63 : decode cX4_isTaken 63 = .ok (.ireturn, 1) := by decide +kernel
set_option maxRecDepth 20000 in
theorem ggX4_site_X4_isFar : GoodIn wsX4_site wsX4_isFar := goodIn_r _ [8] (by decide +kernel) (by decide +kernel)
set_option maxRecDepth 20000 in
theorem gX4_site_X4_isFar : GoodIn wsX4_site (va_wsS RX4 35 yX4_isFar wsX4_isFar) := goodIn_app (goodIn_of _ (by decide +kernel)) ggX4_site_X4_isFar
set_option maxRecDepth 20000 in
theorem ggX4_site_X4_isTaken : GoodIn wsX4_site wsX4_isTaken := goodIn_r _ [12, 1, 2, 3, 18, 19, 20, 21, 22, 23, 24, 25, 26, 27, 28] (by decide +kernel) (by decide +kernel)
set_option maxRecDepth 20000 in
theorem gX4_site_X4_isTaken : GoodIn wsX4_site (wsV RX4 39 RX4 yX4_isTaken wsX4_isTaken) := goodIn_app (goodIn_of _ (by decide +kernel)) ggX4_site_X4_isTaken
set_option maxRecDepth 20000 in
theorem ggX4_site_X4_throwing : GoodIn wsX4_site wsX4_throwing := goodIn_r _ [16, 17, 18, 19, 20, 21, 22, 23, 24, 25, 26, 27, 28] (by decide +kernel) (by decide +kernel)
set_option maxRecDepth 20000 in
theorem gX4_site_X4_throwing : GoodIn wsX4_site (wsV RX4 43 RX4 yX4_throwing wsX4_throwing) := goodIn_app (goodIn_of _ (by decide +kernel)) ggX4_site_X4_throwing
theorem dX4_site_0 : decode cX4_site 0 = .ok (.iload_n 1, 1) := by decide +kernel
theorem dX4_site_1 : decode cX4_site 1 = .ok (.iload_n 2, 1) := by decide +kernel
theorem dX4_site_2 : decode cX4_site 2 = .ok (.invokestatic 35, 3) := by decide +kernel
theorem dX4_site_5 : decode cX4_site 5 = .ok (.ifCond .ne 13, 3) := by decide +kernel
theorem dX4_site_8 : decode cX4_site 8 = .ok (.aload_n 0, 1) := by decide +kernel
theorem dX4_site_9 : decode cX4_site 9 = .ok (.iload_n 1, 1) := by decide +kernel
theorem dX4_site_10 : decode cX4_site 10 = .ok (.iload_n 2, 1) := by decide +kernel
theorem dX4_site_11 : decode cX4_site 11 = .ok (.iconst (-1), 1) := by decide +kernel
theorem dX4_site_12 : decode cX4_site 12 = .ok (.invokevirtual 39, 3) := by decide +kernel
theorem dX4_site_15 : decode cX4_site 15 = .ok (.ifCond .eq 7, 3) := by decide +kernel
theorem dX4_site_18 : decode cX4_site 18 = .ok (.iconst 1, 1) := by decide +kernel
theorem dX4_site_19 : decode cX4_site 19 = .ok (.goto 4, 3) := by decide +kernel
theorem dX4_site_22 : decode cX4_site 22 = .ok (.iconst 0, 1) := by decide +kernel
theorem dX4_site_23 : decode cX4_site 23 = .ok (.istore_n 3, 1) := by decide +kernel
theorem dX4_site_24 : decode cX4_site 24 = .ok (.aload_n 0, 1) := by decide +kernel
theorem dX4_site_25 : decode cX4_site 25 = .ok (.iload_n 3, 1) := by decide +kernel
theorem dX4_site_26 : decode cX4_site 26 = .ok (.iload_n 3, 1) := by decide +kernel
theorem dX4_site_27 : decode cX4_site 27 = .ok (.ifCond .ne 16, 3) := by decide +kernel
theorem dX4_site_30 : decode cX4_site 30 = .ok (.aload_n 0, 1) := by decide +kernel
theorem dX4_site_31 : decode cX4_site 31 = .ok (.getfield 32, 3) := by decide +kernel
theorem dX4_site_34 : decode cX4_site 34 = .ok (.bipush 20, 2) := by decide +kernel
theorem dX4_site_36 : decode cX4_site 36 = .ok (.if_icmp .ne 7, 3) := by decide +kernel
theorem dX4_site_39 : decode cX4_site 39 = .ok (.iconst 1, 1) := by decide +kernel
theorem dX4_site_40 : decode cX4_site 40 = .ok (.goto 4, 3) := by decide +kernel
theorem dX4_site_43 : decode cX4_site 43 = .ok (.iconst 0, 1) := by decide +kernel
theorem dX4_site_44 : decode cX4_site 44 = .ok (.invokevirtual 43, 3) := by decide +kernel
theorem dX4_site_47 : decode cX4_site 47 = .ok (.ifCond .eq 5, 3) := by decide +kernel
theorem dX4_site_50 : decode cX4_site 50 = .ok (.iconst 0, 1) := by decide +kernel
theorem dX4_site_51 : decode cX4_site 51 = .ok (.ireturn, 1) := by decide +kernel
theorem dX4_site_52 : decode cX4_site 52 = .ok (.aload_n 0, 1) := by decide +kernel
theorem dX4_site_53 : decode cX4_site 53 = .ok (.getfield 7, 3) := by decide +kernel
theorem dX4_site_56 : decode cX4_site 56 = .ok (.aload_n 0, 1) := by decide +kernel
theorem dX4_site_57 : decode cX4_site 57 = .ok (.getfield 32, 3) := by decide +kernel
theorem dX4_site_60 : decode cX4_site 60 = .ok (.iload_n 1, 1) := by decide +kernel
theorem dX4_site_61 : decode cX4_site 61 = .ok (.iastore, 1) := by decide +kernel
theorem dX4_site_62 : decode cX4_site 62 = .ok (.aload_n 0, 1) := by decide +kernel
theorem dX4_site_63 : decode cX4_site 63 = .ok (.getfield 13, 3) := by decide +kernel
theorem dX4_site_66 : decode cX4_site 66 = .ok (.aload_n 0, 1) := by decide +kernel
theorem dX4_site_67 : decode cX4_site 67 = .ok (.getfield 32, 3) := by decide +kernel
theorem dX4_site_70 : decode cX4_site 70 = .ok (.iload_n 2, 1) := by decide +kernel
theorem dX4_site_71 : decode cX4_site 71 = .ok (.iastore, 1) := by decide +kernel
theorem dX4_site_72 : decode cX4_site 72 = .ok (.aload_n 0, 1) := by decide +kernel
theorem dX4_site_73 : decode cX4_site 73 = .ok (.dup, 1) := by decide +kernel
theorem dX4_site_74 : decode cX4_site 74 = .ok (.getfield 32, 3) := by decide +kernel
theorem dX4_site_77 : decode cX4_site 77 = .ok (.iconst 1, 1) := by decide +kernel
theorem dX4_site_78 : decode cX4_site 78 = .ok (.iadd, 1) := by decide +kernel
theorem dX4_site_79 : decode cX4_site 79 = .ok (.putfield 32, 3) := by decide +kernel
theorem dX4_site_82 : decode cX4_site 82 = .ok (.aload_n 0, 1) := by decide +kernel
theorem dX4_site_83 : decode cX4_site 83 = .ok (.iconst 0, 1) := by decide +kernel
theorem dX4_site_84 : decode cX4_site 84 = .ok (.putfield 47, 3) := by decide +kernel
theorem dX4_site_87 : decode cX4_site 87 = .ok (.aload_n 0, 1) := by decide +kernel
theorem dX4_site_88 : decode cX4_site 88 = .ok (.getfield 32, 3) := by decide +kernel
theorem dX4_site_91 : decode cX4_site 91 = .ok (.iconst 1, 1) := by decide +kernel
theorem dX4_site_92 : decode cX4_site 92 = .ok (.isub, 1) := by decide +kernel
theorem dX4_site_93 : decode cX4_site 93 = .ok (.ireturn, 1) := by decide +kernel
set_option maxRecDepth 20000 in
theorem ggX4_remove_X4_out : GoodIn wsX4_remove wsX4_out := goodIn_r _ [8] (by decide +kernel) (by decide +kernel)
set_option maxRecDepth 20000 in
theorem gX4_remove_X4_out : GoodIn wsX4_remove (va_wsS RX4 51 yX4_out wsX4_out) := goodIn_app (goodIn_of _ (by decide +kernel)) ggX4_remove_X4_out
set_option maxRecDepth 20000 in
theorem ggX4_remove_X4_throwing : GoodIn wsX4_remove wsX4_throwing := goodIn_r _ [12, 13, 14, 15, 16, 17, 18, 19, 20, 21, 22, 23, 24] (by decide +kernel) (by decide +kernel)
set_option maxRecDepth 20000 in
theorem gX4_remove_X4_throwing : GoodIn wsX4_remove (wsV RX4 43 RX4 yX4_throwing wsX4_throwing) := goodIn_app (goodIn_of _ (by decide +kernel)) ggX4_remove_X4_throwing
theorem dX4_remove_0 : decode cX4_remove 0 = .ok (.aload_n 0, 1) := by decide +kernel
theorem dX4_remove_1 : decode cX4_remove 1 = .ok (.iload_n 1, 1) := by decide +kernel
theorem dX4_remove_2 : decode cX4_remove 2 = .ok (.aload_n 0, 1) := by decide +kernel
theorem dX4_remove_3 : decode cX4_remove 3 = .ok (.getfield 32, 3) := by decide +kernel
theorem dX4_remove_6 : decode cX4_remove 6 = .ok (.invokestatic 51, 3) := by decide +kernel
theorem dX4_remove_9 : decode cX4_remove 9 = .ok (.iconst 0, 1) := by decide +kernel
theorem dX4_remove_10 : decode cX4_remove 10 = .ok (.invokevirtual 43, 3) := by decide +kernel
theorem dX4_remove_13 : decode cX4_remove 13 = .ok (.ifCond .eq 4, 3) := by decide +kernel
theorem dX4_remove_16 : decode cX4_remove 16 = .ok (.return_, 1) := by decide +kernel
theorem dX4_remove_17 : decode cX4_remove 17 = .ok (.iload_n 1, 1) := by decide +kernel
theorem dX4_remove_18 : decode cX4_remove 18 = .ok (.istore_n 2, 1) := by decide +kernel
theorem dX4_remove_19 : decode cX4_remove 19 = .ok (.iload_n 2, 1) := by decide +kernel
theorem dX4_remove_20 : decode cX4_remove 20 = .ok (.iconst 1, 1) := by decide +kernel
theorem dX4_remove_21 : decode cX4_remove 21 = .ok (.iadd, 1) := by decide +kernel
theorem dX4_remove_22 : decode cX4_remove 22 = .ok (.aload_n 0, 1) := by decide +kernel
theorem dX4_remove_23 : decode cX4_remove 23 = .ok (.getfield 32, 3) := by decide +kernel
theorem dX4_remove_26 : decode cX4_remove 26 = .ok (.if_icmp .ge 37, 3) := by decide +kernel
theorem dX4_remove_29 : decode cX4_remove 29 = .ok (.aload_n 0, 1) := by decide +kernel
theorem dX4_remove_30 : decode cX4_remove 30 = .ok (.getfield 7, 3) := by decide +kernel
theorem dX4_remove_33 : decode cX4_remove 33 = .ok (.iload_n 2, 1) := by decide +kernel
theorem dX4_remove_34 : decode cX4_remove 34 = .ok (.aload_n 0, 1) := by decide +kernel
theorem dX4_remove_35 : decode cX4_remove 35 = .ok (.getfield 7, 3) := by decide +kernel
theorem dX4_remove_38 : decode cX4_remove 38 = .ok (.iload_n 2, 1) := by decide +kernel
theorem dX4_remove_39 : decode cX4_remove 39 = .ok (.iconst 1, 1) := by decide +kernel
theorem dX4_remove_40 : decode cX4_remove 40 = .ok (.iadd, 1) := by decide +kernel
theorem dX4_remove_41 : decode cX4_remove 41 = .ok (.iaload, 1) := by decide +kernel
theorem dX4_remove_42 : decode cX4_remove 42 = .ok (.iastore, 1) := by decide +kernel
theorem dX4_remove_43 : decode cX4_remove 43 = .ok (.aload_n 0, 1) := by decide +kernel
theorem dX4_remove_44 : decode cX4_remove 44 = .ok (.getfield 13, 3) := by decide +kernel
theorem dX4_remove_47 : decode cX4_remove 47 = .ok (.iload_n 2, 1) := by decide +kernel
theorem dX4_remove_48 : decode cX4_remove 48 = .ok (.aload_n 0, 1) := by decide +kernel
theorem dX4_remove_49 : decode cX4_remove 49 = .ok (.getfield 13, 3) := by decide +kernel
theorem dX4_remove_52 : decode cX4_remove 52 = .ok (.iload_n 2, 1) := by decide +kernel
theorem dX4_remove_53 : decode cX4_remove 53 = .ok (.iconst 1, 1) := by decide +kernel
theorem dX4_remove_54 : decode cX4_remove 54 = .ok (.iadd, 1) := by decide +kernel
theorem dX4_remove_55 : decode cX4_remove 55 = .ok (.iaload, 1) := by decide +kernel
theorem dX4_remove_56 : decode cX4_remove 56 = .ok (.iastore, 1) := by decide +kernel
theorem dX4_remove_57 : decode cX4_remove 57 = .ok (.iinc 2 1, 3) := by decide +kernel
theorem dX4_remove_60 : decode cX4_remove 60 = .ok (.goto (-41), 3) := by decide +kernel
theorem dX4_remove_63 : decode cX4_remove 63 = .ok (.aload_n 0, 1) := by decide +kernel
theorem dX4_remove_64 : decode cX4_remove 64 = .ok (.dup, 1) := by decide +kernel
theorem dX4_remove_65 : decode cX4_remove 65 = .ok (.getfield 32, 3) := by decide +kernel
theorem dX4_remove_68 : decode cX4_remove 68 = .ok (.iconst 1, 1) := by decide +kernel
theorem dX4_remove_69 : decode cX4_remove 69 = .ok (.isub, 1) := by decide +kernel
theorem dX4_remove_70 : decode cX4_remove 70 = .ok (.putfield 32, 3) := by decide +kernel
theorem dX4_remove_73 : decode cX4_remove 73 = .ok (.aload_n 0, 1) := by decide +kernel
theorem dX4_remove_74 : decode cX4_remove 74 = .ok (.iconst 0, 1) := by decide +kernel
theorem dX4_remove_75 : decode cX4_remove 75 = .ok (.putfield 47, 3) := by decide +kernel
theorem dX4_remove_78 : decode cX4_remove 78 = .ok (.return_, 1) := by decide +kernel
set_option maxRecDepth 20000 in
theorem ggX4_move_X4_out : GoodIn wsX4_move wsX4_out := goodIn_r _ [8] (by decide +kernel) (by decide +kernel)
set_option maxRecDepth 20000 in
theorem gX4_move_X4_out : GoodIn wsX4_move (va_wsS RX4 51 yX4_out wsX4_out) := goodIn_app (goodIn_of _ (by decide +kernel)) ggX4_move_X4_out
set_option maxRecDepth 20000 in
theorem ggX4_move_X4_isFar : GoodIn wsX4_move wsX4_isFar := goodIn_r _ [11] (by decide +kernel) (by decide +kernel)
set_option maxRecDepth 20000 in
theorem gX4_move_X4_isFar : GoodIn wsX4_move (va_wsS RX4 35 yX4_isFar wsX4_isFar) := goodIn_app (goodIn_of _ (by decide +kernel)) ggX4_move_X4_isFar
set_option maxRecDepth 20000 in
theorem ggX4_move_X4_isTaken : GoodIn wsX4_move wsX4_isTaken := goodIn_r _ [15, 1, 2, 3, 21, 22, 23, 24, 25, 26, 27, 28, 29, 30, 31] (by decide +kernel) (by decide +kernel)
set_option maxRecDepth 20000 in
theorem gX4_move_X4_isTaken : GoodIn wsX4_move (wsV RX4 39 RX4 yX4_isTaken wsX4_isTaken) := goodIn_app (goodIn_of _ (by decide +kernel)) ggX4_move_X4_isTaken
set_option maxRecDepth 20000 in
theorem ggX4_move_X4_throwing : GoodIn wsX4_move wsX4_throwing := goodIn_r _ [19, 20, 21, 22, 23, 24, 25, 26, 27, 28, 29, 30, 31] (by decide +kernel) (by decide +kernel)
set_option maxRecDepth 20000 in
theorem gX4_move_X4_throwing : GoodIn wsX4_move (wsV RX4 43 RX4 yX4_throwing wsX4_throwing) := goodIn_app (goodIn_of _ (by decide +kernel)) ggX4_move_X4_throwing
theorem dX4_move_0 : decode cX4_move 0 = .ok (.aload_n 0, 1) := by decide +kernel
theorem dX4_move_1 : decode cX4_move 1 = .ok (.iload_n 1, 1) := by decide +kernel
theorem dX4_move_2 : decode cX4_move 2 = .ok (.aload_n 0, 1) := by decide +kernel
theorem dX4_move_3 : decode cX4_move 3 = .ok (.getfield 32, 3) := by decide +kernel
theorem dX4_move_6 : decode cX4_move 6 = .ok (.invokestatic 51, 3) := by decide +kernel
theorem dX4_move_9 : decode cX4_move 9 = .ok (.ifCond .ne 21, 3) := by decide +kernel
theorem dX4_move_12 : decode cX4_move 12 = .ok (.iload_n 2, 1) := by decide +kernel
theorem dX4_move_13 : decode cX4_move 13 = .ok (.iload_n 3, 1) := by decide +kernel
theorem dX4_move_14 : decode cX4_move 14 = .ok (.invokestatic 35, 3) := by decide +kernel
theorem dX4_move_17 : decode cX4_move 17 = .ok (.ifCond .ne 13, 3) := by decide +kernel
theorem dX4_move_20 : decode cX4_move 20 = .ok (.aload_n 0, 1) := by decide +kernel
theorem dX4_move_21 : decode cX4_move 21 = .ok (.iload_n 2, 1) := by decide +kernel
theorem dX4_move_22 : decode cX4_move 22 = .ok (.iload_n 3, 1) := by decide +kernel
theorem dX4_move_23 : decode cX4_move 23 = .ok (.iload_n 1, 1) := by decide +kernel
theorem dX4_move_24 : decode cX4_move 24 = .ok (.invokevirtual 39, 3) := by decide +kernel
theorem dX4_move_27 : decode cX4_move 27 = .ok (.ifCond .eq 7, 3) := by decide +kernel
theorem dX4_move_30 : decode cX4_move 30 = .ok (.iconst 1, 1) := by decide +kernel
theorem dX4_move_31 : decode cX4_move 31 = .ok (.goto 4, 3) := by decide +kernel
theorem dX4_move_34 : decode cX4_move 34 = .ok (.iconst 0, 1) := by decide +kernel
theorem dX4_move_35 : decode cX4_move 35 = .ok (.iconst 0, 1) := by decide +kernel
theorem dX4_move_36 : decode cX4_move 36 = .ok (.invokevirtual 43, 3) := by decide +kernel
theorem dX4_move_39 : decode cX4_move 39 = .ok (.ifCond .eq 4, 3) := by decide +kernel
theorem dX4_move_42 : decode cX4_move 42 = .ok (.return_, 1) := by decide +kernel
theorem dX4_move_43 : decode cX4_move 43 = .ok (.aload_n 0, 1) := by decide +kernel
theorem dX4_move_44 : decode cX4_move 44 = .ok (.getfield 7, 3) := by decide +kernel
theorem dX4_move_47 : decode cX4_move 47 = .ok (.iload_n 1, 1) := by decide +kernel
theorem dX4_move_48 : decode cX4_move 48 = .ok (.iload_n 2, 1) := by decide +kernel
theorem dX4_move_49 : decode cX4_move 49 = .ok (.iastore, 1) := by decide +kernel
theorem dX4_move_50 : decode cX4_move 50 = .ok (.aload_n 0, 1) := by decide +kernel
theorem dX4_move_51 : decode cX4_move 51 = .ok (.getfield 13, 3) := by decide +kernel
theorem dX4_move_54 : decode cX4_move 54 = .ok (.iload_n 1, 1) := by decide +kernel
theorem dX4_move_55 : decode cX4_move 55 = .ok (.iload_n 3, 1) := by decide +kernel
theorem dX4_move_56 : decode cX4_move 56 = .ok (.iastore, 1) := by decide +kernel
theorem dX4_move_57 : decode cX4_move 57 = .ok (.aload_n 0, 1) := by decide +kernel
theorem dX4_move_58 : decode cX4_move 58 = .ok (.iconst 0, 1) := by decide +kernel
theorem dX4_move_59 : decode cX4_move 59 = .ok (.putfield 47, 3) := by decide +kernel
theorem dX4_move_62 : decode cX4_move 62 = .ok (.return_, 1) := by decide +kernel
theorem dX4_clear_0 : decode cX4_clear 0 = .ok (.aload_n 0, 1) := by decide +kernel
theorem dX4_clear_1 : decode cX4_clear 1 = .ok (.iconst 0, 1) := by decide +kernel
theorem dX4_clear_2 : decode cX4_clear 2 = .ok (.putfield 28, 3) := by decide +kernel
theorem dX4_clear_5 : decode cX4_clear 5 = .ok (.aload_n 0, 1) := by decide +kernel
theorem dX4_clear_6 : decode cX4_clear 6 = .ok (.iconst 0, 1) := by decide +kernel
theorem dX4_clear_7 : decode cX4_clear 7 = .ok (.putfield 32, 3) := by decide +kernel
theorem dX4_clear_10 : decode cX4_clear 10 = .ok (.aload_n 0, 1) := by decide +kernel
theorem dX4_clear_11 : decode cX4_clear 11 = .ok (.iconst 0, 1) := by decide +kernel
theorem dX4_clear_12 : decode cX4_clear 12 = .ok (.putfield 47, 3) := by decide +kernel
theorem dX4_clear_15 : decode cX4_clear 15 = .ok (.return_, 1) := by decide +kernel
set_option maxRecDepth 20000 in
theorem ggX4_where_X4_out : GoodIn wsX4_where wsX4_out := goodIn_r _ [7] (by decide +kernel) (by decide +kernel)
set_option maxRecDepth 20000 in
theorem gX4_where_X4_out : GoodIn wsX4_where (va_wsS RX4 51 yX4_out wsX4_out) := goodIn_app (goodIn_of _ (by decide +kernel)) ggX4_where_X4_out
set_option maxRecDepth 20000 in
theorem ggX4_where_X4_throwing : GoodIn wsX4_where wsX4_throwing := goodIn_r _ [11, 12, 13, 14, 15, 16, 17, 18, 19, 20, 21, 22, 23] (by decide +kernel) (by decide +kernel)
set_option maxRecDepth 20000 in
theorem gX4_where_X4_throwing : GoodIn wsX4_where (wsV RX4 43 RX4 yX4_throwing wsX4_throwing) := goodIn_app (goodIn_of _ (by decide +kernel)) ggX4_where_X4_throwing
theorem dX4_where_0 : decode cX4_where 0 = .ok (.aload_n 0, 1) := by decide +kernel
theorem dX4_where_1 : decode cX4_where 1 = .ok (.iload_n 1, 1) := by decide +kernel
theorem dX4_where_2 : decode cX4_where 2 = .ok (.aload_n 0, 1) := by decide +kernel
theorem dX4_where_3 : decode cX4_where 3 = .ok (.getfield 32, 3) := by decide +kernel
theorem dX4_where_6 : decode cX4_where 6 = .ok (.invokestatic 51, 3) := by decide +kernel
theorem dX4_where_9 : decode cX4_where 9 = .ok (.ifCond .ne 11, 3) := by decide +kernel
theorem dX4_where_12 : decode cX4_where 12 = .ok (.iload_n 2, 1) := by decide +kernel
theorem dX4_where_13 : decode cX4_where 13 = .ok (.iconst 2, 1) := by decide +kernel
theorem dX4_where_14 : decode cX4_where 14 = .ok (.invokestatic 51, 3) := by decide +kernel
theorem dX4_where_17 : decode cX4_where 17 = .ok (.ifCond .eq 7, 3) := by decide +kernel
theorem dX4_where_20 : decode cX4_where 20 = .ok (.iconst 1, 1) := by decide +kernel
theorem dX4_where_21 : decode cX4_where 21 = .ok (.goto 4, 3) := by decide +kernel
theorem dX4_where_24 : decode cX4_where 24 = .ok (.iconst 0, 1) := by decide +kernel
theorem dX4_where_25 : decode cX4_where 25 = .ok (.iconst 0, 1) := by decide +kernel
theorem dX4_where_26 : decode cX4_where 26 = .ok (.invokevirtual 43, 3) := by decide +kernel
theorem dX4_where_29 : decode cX4_where 29 = .ok (.ifCond .eq 5, 3) := by decide +kernel
theorem dX4_where_32 : decode cX4_where 32 = .ok (.iconst 0, 1) := by decide +kernel
theorem dX4_where_33 : decode cX4_where 33 = .ok (.ireturn, 1) := by decide +kernel
theorem dX4_where_34 : decode cX4_where 34 = .ok (.iload_n 2, 1) := by decide +kernel
theorem dX4_where_35 : decode cX4_where 35 = .ok (.ifCond .ne 12, 3) := by decide +kernel
theorem dX4_where_38 : decode cX4_where 38 = .ok (.aload_n 0, 1) := by decide +kernel
theorem dX4_where_39 : decode cX4_where 39 = .ok (.getfield 7, 3) := by decide +kernel
theorem dX4_where_42 : decode cX4_where 42 = .ok (.iload_n 1, 1) := by decide +kernel
theorem dX4_where_43 : decode cX4_where 43 = .ok (.iaload, 1) := by decide +kernel
theorem dX4_where_44 : decode cX4_where 44 = .ok (.goto 9, 3) := by decide +kernel
theorem dX4_where_47 : decode cX4_where 47 = .ok (.aload_n 0, 1) := by decide +kernel
theorem dX4_where_48 : decode cX4_where 48 = .ok (.getfield 13, 3) := by decide +kernel
theorem dX4_where_51 : decode cX4_where 51 = .ok (.iload_n 1, 1) := by decide +kernel
theorem dX4_where_52 : decode cX4_where 52 = .ok (.iaload, 1) := by decide +kernel
theorem dX4_where_53 : decode cX4_where 53 = .ok (.ireturn, 1) := by decide +kernel
theorem dX4_turn_0 : decode cX4_turn 0 = .ok (.aload_n 0, 1) := by decide +kernel
theorem dX4_turn_1 : decode cX4_turn 1 = .ok (.getfield 7, 3) := by decide +kernel
theorem dX4_turn_4 : decode cX4_turn 4 = .ok (.iload_n 2, 1) := by decide +kernel
theorem dX4_turn_5 : decode cX4_turn 5 = .ok (.iaload, 1) := by decide +kernel
theorem dX4_turn_6 : decode cX4_turn 6 = .ok (.aload_n 0, 1) := by decide +kernel
theorem dX4_turn_7 : decode cX4_turn 7 = .ok (.getfield 7, 3) := by decide +kernel
theorem dX4_turn_10 : decode cX4_turn 10 = .ok (.iload_n 1, 1) := by decide +kernel
theorem dX4_turn_11 : decode cX4_turn 11 = .ok (.iaload, 1) := by decide +kernel
theorem dX4_turn_12 : decode cX4_turn 12 = .ok (.isub, 1) := by decide +kernel
theorem dX4_turn_13 : decode cX4_turn 13 = .ok (.i2l, 1) := by decide +kernel
theorem dX4_turn_14 : decode cX4_turn 14 = .ok (.iload 4, 2) := by decide +kernel
theorem dX4_turn_16 : decode cX4_turn 16 = .ok (.aload_n 0, 1) := by decide +kernel
theorem dX4_turn_17 : decode cX4_turn 17 = .ok (.getfield 13, 3) := by decide +kernel
theorem dX4_turn_20 : decode cX4_turn 20 = .ok (.iload_n 1, 1) := by decide +kernel
theorem dX4_turn_21 : decode cX4_turn 21 = .ok (.iaload, 1) := by decide +kernel
theorem dX4_turn_22 : decode cX4_turn 22 = .ok (.isub, 1) := by decide +kernel
theorem dX4_turn_23 : decode cX4_turn 23 = .ok (.i2l, 1) := by decide +kernel
theorem dX4_turn_24 : decode cX4_turn 24 = .ok (.lmul, 1) := by decide +kernel
theorem dX4_turn_25 : decode cX4_turn 25 = .ok (.aload_n 0, 1) := by decide +kernel
theorem dX4_turn_26 : decode cX4_turn 26 = .ok (.getfield 13, 3) := by decide +kernel
theorem dX4_turn_29 : decode cX4_turn 29 = .ok (.iload_n 2, 1) := by decide +kernel
theorem dX4_turn_30 : decode cX4_turn 30 = .ok (.iaload, 1) := by decide +kernel
theorem dX4_turn_31 : decode cX4_turn 31 = .ok (.aload_n 0, 1) := by decide +kernel
theorem dX4_turn_32 : decode cX4_turn 32 = .ok (.getfield 13, 3) := by decide +kernel
theorem dX4_turn_35 : decode cX4_turn 35 = .ok (.iload_n 1, 1) := by decide +kernel
theorem dX4_turn_36 : decode cX4_turn 36 = .ok (.iaload, 1) := by decide +kernel
theorem dX4_turn_37 : decode cX4_turn 37 = .ok (.isub, 1) := by decide +kernel
theorem dX4_turn_38 : decode cX4_turn 38 = .ok (.i2l, 1) := by decide +kernel
theorem dX4_turn_39 : decode cX4_turn 39 = .ok (.iload_n 3, 1) := by decide +kernel
theorem dX4_turn_40 : decode cX4_turn 40 = .ok (.aload_n 0, 1) := by decide +kernel
theorem dX4_turn_41 : decode cX4_turn 41 = .ok (.getfield 7, 3) := by decide +kernel
theorem dX4_turn_44 : decode cX4_turn 44 = .ok (.iload_n 1, 1) := by decide +kernel
theorem dX4_turn_45 : decode cX4_turn 45 = .ok (.iaload, 1) := by decide +kernel
theorem dX4_turn_46 : decode cX4_turn 46 = .ok (.isub, 1) := by decide +kernel
theorem dX4_turn_47 : decode cX4_turn 47 = .ok (.i2l, 1) := by decide +kernel
theorem dX4_turn_48 : decode cX4_turn 48 = .ok (.lmul, 1) := by decide +kernel
theorem dX4_turn_49 : decode cX4_turn 49 = .ok (.lsub, 1) := by decide +kernel
theorem dX4_turn_50 : decode cX4_turn 50 = .ok (.lreturn, 1) := by decide +kernel
theorem dX4_square_0 : decode cX4_square 0 = .ok (.aload_n 0, 1) := by decide +kernel
theorem dX4_square_1 : decode cX4_square 1 = .ok (.getfield 7, 3) := by decide +kernel
theorem dX4_square_4 : decode cX4_square 4 = .ok (.iload_n 1, 1) := by decide +kernel
theorem dX4_square_5 : decode cX4_square 5 = .ok (.iaload, 1) := by decide +kernel
theorem dX4_square_6 : decode cX4_square 6 = .ok (.aload_n 0, 1) := by decide +kernel
theorem dX4_square_7 : decode cX4_square 7 = .ok (.getfield 7, 3) := by decide +kernel
theorem dX4_square_10 : decode cX4_square 10 = .ok (.iload_n 2, 1) := by decide +kernel
theorem dX4_square_11 : decode cX4_square 11 = .ok (.iaload, 1) := by decide +kernel
theorem dX4_square_12 : decode cX4_square 12 = .ok (.isub, 1) := by decide +kernel
theorem dX4_square_13 : decode cX4_square 13 = .ok (.i2l, 1) := by decide +kernel
theorem dX4_square_14 : decode cX4_square 14 = .ok (.aload_n 0, 1) := by decide +kernel
theorem dX4_square_15 : decode cX4_square 15 = .ok (.getfield 7, 3) := by decide +kernel
theorem dX4_square_18 : decode cX4_square 18 = .ok (.iload_n 1, 1) := by decide +kernel
theorem dX4_square_19 : decode cX4_square 19 = .ok (.iaload, 1) := by decide +kernel
theorem dX4_square_20 : decode cX4_square 20 = .ok (.aload_n 0, 1) := by decide +kernel
theorem dX4_square_21 : decode cX4_square 21 = .ok (.getfield 7, 3) := by decide +kernel
theorem dX4_square_24 : decode cX4_square 24 = .ok (.iload_n 2, 1) := by decide +kernel
theorem dX4_square_25 : decode cX4_square 25 = .ok (.iaload, 1) := by decide +kernel
theorem dX4_square_26 : decode cX4_square 26 = .ok (.isub, 1) := by decide +kernel
theorem dX4_square_27 : decode cX4_square 27 = .ok (.i2l, 1) := by decide +kernel
theorem dX4_square_28 : decode cX4_square 28 = .ok (.lmul, 1) := by decide +kernel
theorem dX4_square_29 : decode cX4_square 29 = .ok (.aload_n 0, 1) := by decide +kernel
theorem dX4_square_30 : decode cX4_square 30 = .ok (.getfield 13, 3) := by decide +kernel
theorem dX4_square_33 : decode cX4_square 33 = .ok (.iload_n 1, 1) := by decide +kernel
theorem dX4_square_34 : decode cX4_square 34 = .ok (.iaload, 1) := by decide +kernel
theorem dX4_square_35 : decode cX4_square 35 = .ok (.aload_n 0, 1) := by decide +kernel
theorem dX4_square_36 : decode cX4_square 36 = .ok (.getfield 13, 3) := by decide +kernel
theorem dX4_square_39 : decode cX4_square 39 = .ok (.iload_n 2, 1) := by decide +kernel
theorem dX4_square_40 : decode cX4_square 40 = .ok (.iaload, 1) := by decide +kernel
theorem dX4_square_41 : decode cX4_square 41 = .ok (.isub, 1) := by decide +kernel
theorem dX4_square_42 : decode cX4_square 42 = .ok (.i2l, 1) := by decide +kernel
theorem dX4_square_43 : decode cX4_square 43 = .ok (.aload_n 0, 1) := by decide +kernel
theorem dX4_square_44 : decode cX4_square 44 = .ok (.getfield 13, 3) := by decide +kernel
theorem dX4_square_47 : decode cX4_square 47 = .ok (.iload_n 1, 1) := by decide +kernel
theorem dX4_square_48 : decode cX4_square 48 = .ok (.iaload, 1) := by decide +kernel
theorem dX4_square_49 : decode cX4_square 49 = .ok (.aload_n 0, 1) := by decide +kernel
theorem dX4_square_50 : decode cX4_square 50 = .ok (.getfield 13, 3) := by decide +kernel
theorem dX4_square_53 : decode cX4_square 53 = .ok (.iload_n 2, 1) := by decide +kernel
theorem dX4_square_54 : decode cX4_square 54 = .ok (.iaload, 1) := by decide +kernel
theorem dX4_square_55 : decode cX4_square 55 = .ok (.isub, 1) := by decide +kernel
theorem dX4_square_56 : decode cX4_square 56 = .ok (.i2l, 1) := by decide +kernel
theorem dX4_square_57 : decode cX4_square 57 = .ok (.lmul, 1) := by decide +kernel
theorem dX4_square_58 : decode cX4_square 58 = .ok (.ladd, 1) := by decide +kernel
theorem dX4_square_59 : decode cX4_square 59 = .ok (.lreturn, 1) := by decide +kernel
set_option maxRecDepth 20000 in
theorem ggX4_power_X4_square : GoodIn wsX4_power wsX4_square := goodIn_r _ [7, 1, 2, 8, 9, 10, 11, 12, 13, 14, 15, 16, 17, 18] (by decide +kernel) (by decide +kernel)
set_option maxRecDepth 20000 in
theorem gX4_power_X4_square : GoodIn wsX4_power (wsV RX4 54 RX4 yX4_square wsX4_square) := goodIn_app (goodIn_of _ (by decide +kernel)) ggX4_power_X4_square
theorem dX4_power_0 : decode cX4_power 0 = .ok (.aload_n 0, 1) := by decide +kernel
theorem dX4_power_1 : decode cX4_power 1 = .ok (.getfield 7, 3) := by decide +kernel
theorem dX4_power_4 : decode cX4_power 4 = .ok (.iload_n 2, 1) := by decide +kernel
theorem dX4_power_5 : decode cX4_power 5 = .ok (.iaload, 1) := by decide +kernel
theorem dX4_power_6 : decode cX4_power 6 = .ok (.aload_n 0, 1) := by decide +kernel
theorem dX4_power_7 : decode cX4_power 7 = .ok (.getfield 7, 3) := by decide +kernel
theorem dX4_power_10 : decode cX4_power 10 = .ok (.iload_n 1, 1) := by decide +kernel
theorem dX4_power_11 : decode cX4_power 11 = .ok (.iaload, 1) := by decide +kernel
theorem dX4_power_12 : decode cX4_power 12 = .ok (.isub, 1) := by decide +kernel
theorem dX4_power_13 : decode cX4_power 13 = .ok (.i2l, 1) := by decide +kernel
theorem dX4_power_14 : decode cX4_power 14 = .ok (.lstore 5, 2) := by decide +kernel
theorem dX4_power_16 : decode cX4_power 16 = .ok (.aload_n 0, 1) := by decide +kernel
theorem dX4_power_17 : decode cX4_power 17 = .ok (.getfield 13, 3) := by decide +kernel
theorem dX4_power_20 : decode cX4_power 20 = .ok (.iload_n 2, 1) := by decide +kernel
theorem dX4_power_21 : decode cX4_power 21 = .ok (.iaload, 1) := by decide +kernel
theorem dX4_power_22 : decode cX4_power 22 = .ok (.aload_n 0, 1) := by decide +kernel
theorem dX4_power_23 : decode cX4_power 23 = .ok (.getfield 13, 3) := by decide +kernel
theorem dX4_power_26 : decode cX4_power 26 = .ok (.iload_n 1, 1) := by decide +kernel
theorem dX4_power_27 : decode cX4_power 27 = .ok (.iaload, 1) := by decide +kernel
theorem dX4_power_28 : decode cX4_power 28 = .ok (.isub, 1) := by decide +kernel
theorem dX4_power_29 : decode cX4_power 29 = .ok (.i2l, 1) := by decide +kernel
theorem dX4_power_30 : decode cX4_power 30 = .ok (.lstore 7, 2) := by decide +kernel
theorem dX4_power_32 : decode cX4_power 32 = .ok (.aload_n 0, 1) := by decide +kernel
theorem dX4_power_33 : decode cX4_power 33 = .ok (.getfield 7, 3) := by decide +kernel
theorem dX4_power_36 : decode cX4_power 36 = .ok (.iload_n 3, 1) := by decide +kernel
theorem dX4_power_37 : decode cX4_power 37 = .ok (.iaload, 1) := by decide +kernel
theorem dX4_power_38 : decode cX4_power 38 = .ok (.aload_n 0, 1) := by decide +kernel
theorem dX4_power_39 : decode cX4_power 39 = .ok (.getfield 7, 3) := by decide +kernel
theorem dX4_power_42 : decode cX4_power 42 = .ok (.iload_n 1, 1) := by decide +kernel
theorem dX4_power_43 : decode cX4_power 43 = .ok (.iaload, 1) := by decide +kernel
theorem dX4_power_44 : decode cX4_power 44 = .ok (.isub, 1) := by decide +kernel
theorem dX4_power_45 : decode cX4_power 45 = .ok (.i2l, 1) := by decide +kernel
theorem dX4_power_46 : decode cX4_power 46 = .ok (.lstore 9, 2) := by decide +kernel
theorem dX4_power_48 : decode cX4_power 48 = .ok (.aload_n 0, 1) := by decide +kernel
theorem dX4_power_49 : decode cX4_power 49 = .ok (.getfield 13, 3) := by decide +kernel
theorem dX4_power_52 : decode cX4_power 52 = .ok (.iload_n 3, 1) := by decide +kernel
theorem dX4_power_53 : decode cX4_power 53 = .ok (.iaload, 1) := by decide +kernel
theorem dX4_power_54 : decode cX4_power 54 = .ok (.aload_n 0, 1) := by decide +kernel
theorem dX4_power_55 : decode cX4_power 55 = .ok (.getfield 13, 3) := by decide +kernel
theorem dX4_power_58 : decode cX4_power 58 = .ok (.iload_n 1, 1) := by decide +kernel
theorem dX4_power_59 : decode cX4_power 59 = .ok (.iaload, 1) := by decide +kernel
theorem dX4_power_60 : decode cX4_power 60 = .ok (.isub, 1) := by decide +kernel
theorem dX4_power_61 : decode cX4_power 61 = .ok (.i2l, 1) := by decide +kernel
theorem dX4_power_62 : decode cX4_power 62 = .ok (.lstore 11, 2) := by decide +kernel
theorem dX4_power_64 : decode cX4_power 64 = .ok (.lload 5, 2) := by decide +kernel
theorem dX4_power_66 : decode cX4_power 66 = .ok (.lload 11, 2) := by decide +kernel
theorem dX4_power_68 : decode cX4_power 68 = .ok (.lmul, 1) := by decide +kernel
theorem dX4_power_69 : decode cX4_power 69 = .ok (.lload 7, 2) := by decide +kernel
theorem dX4_power_71 : decode cX4_power 71 = .ok (.lload 9, 2) := by decide +kernel
theorem dX4_power_73 : decode cX4_power 73 = .ok (.lmul, 1) := by decide +kernel
theorem dX4_power_74 : decode cX4_power 74 = .ok (.lsub, 1) := by decide +kernel
theorem dX4_power_75 : decode cX4_power 75 = .ok (.lstore 13, 2) := by decide +kernel
theorem dX4_power_77 : decode cX4_power 77 = .ok (.aload_n 0, 1) := by decide +kernel
theorem dX4_power_78 : decode cX4_power 78 = .ok (.iload_n 1, 1) := by decide +kernel
theorem dX4_power_79 : decode cX4_power 79 = .ok (.iload_n 2, 1) := by decide +kernel
theorem dX4_power_80 : decode cX4_power 80 = .ok (.invokevirtual 54, 3) := by decide +kernel
theorem dX4_power_83 : decode cX4_power 83 = .ok (.lload 11, 2) := by decide +kernel
theorem dX4_power_85 : decode cX4_power 85 = .ok (.lmul, 1) := by decide +kernel
theorem dX4_power_86 : decode cX4_power 86 = .ok (.aload_n 0, 1) := by decide +kernel
theorem dX4_power_87 : decode cX4_power 87 = .ok (.iload_n 1, 1) := by decide +kernel
theorem dX4_power_88 : decode cX4_power 88 = .ok (.iload_n 3, 1) := by decide +kernel
theorem dX4_power_89 : decode cX4_power 89 = .ok (.invokevirtual 54, 3) := by decide +kernel
theorem dX4_power_92 : decode cX4_power 92 = .ok (.lload 7, 2) := by decide +kernel
theorem dX4_power_94 : decode cX4_power 94 = .ok (.lmul, 1) := by decide +kernel
theorem dX4_power_95 : decode cX4_power 95 = .ok (.lsub, 1) := by decide +kernel
theorem dX4_power_96 : decode cX4_power 96 = .ok (.lstore 15, 2) := by decide +kernel
theorem dX4_power_98 : decode cX4_power 98 = .ok (.aload_n 0, 1) := by decide +kernel
theorem dX4_power_99 : decode cX4_power 99 = .ok (.iload_n 1, 1) := by decide +kernel
theorem dX4_power_100 : decode cX4_power 100 = .ok (.iload_n 3, 1) := by decide +kernel
theorem dX4_power_101 : decode cX4_power 101 = .ok (.invokevirtual 54, 3) := by decide +kernel
theorem dX4_power_104 : decode cX4_power 104 = .ok (.lload 5, 2) := by decide +kernel
theorem dX4_power_106 : decode cX4_power 106 = .ok (.lmul, 1) := by decide +kernel
theorem dX4_power_107 : decode cX4_power 107 = .ok (.aload_n 0, 1) := by decide +kernel
theorem dX4_power_108 : decode cX4_power 108 = .ok (.iload_n 1, 1) := by decide +kernel
theorem dX4_power_109 : decode cX4_power 109 = .ok (.iload_n 2, 1) := by decide +kernel
theorem dX4_power_110 : decode cX4_power 110 = .ok (.invokevirtual 54, 3) := by decide +kernel
theorem dX4_power_113 : decode cX4_power 113 = .ok (.lload 9, 2) := by decide +kernel
theorem dX4_power_115 : decode cX4_power 115 = .ok (.lmul, 1) := by decide +kernel
theorem dX4_power_116 : decode cX4_power 116 = .ok (.lsub, 1) := by decide +kernel
theorem dX4_power_117 : decode cX4_power 117 = .ok (.lstore 17, 2) := by decide +kernel
theorem dX4_power_119 : decode cX4_power 119 = .ok (.lload 15, 2) := by decide +kernel
theorem dX4_power_121 : decode cX4_power 121 = .ok (.aload_n 0, 1) := by decide +kernel
theorem dX4_power_122 : decode cX4_power 122 = .ok (.getfield 7, 3) := by decide +kernel
theorem dX4_power_125 : decode cX4_power 125 = .ok (.iload 4, 2) := by decide +kernel
theorem dX4_power_127 : decode cX4_power 127 = .ok (.iaload, 1) := by decide +kernel
theorem dX4_power_128 : decode cX4_power 128 = .ok (.aload_n 0, 1) := by decide +kernel
theorem dX4_power_129 : decode cX4_power 129 = .ok (.getfield 7, 3) := by decide +kernel
theorem dX4_power_132 : decode cX4_power 132 = .ok (.iload_n 1, 1) := by decide +kernel
theorem dX4_power_133 : decode cX4_power 133 = .ok (.iaload, 1) := by decide +kernel
theorem dX4_power_134 : decode cX4_power 134 = .ok (.isub, 1) := by decide +kernel
theorem dX4_power_135 : decode cX4_power 135 = .ok (.i2l, 1) := by decide +kernel
theorem dX4_power_136 : decode cX4_power 136 = .ok (.lmul, 1) := by decide +kernel
theorem dX4_power_137 : decode cX4_power 137 = .ok (.lload 17, 2) := by decide +kernel
theorem dX4_power_139 : decode cX4_power 139 = .ok (.aload_n 0, 1) := by decide +kernel
theorem dX4_power_140 : decode cX4_power 140 = .ok (.getfield 13, 3) := by decide +kernel
theorem dX4_power_143 : decode cX4_power 143 = .ok (.iload 4, 2) := by decide +kernel
theorem dX4_power_145 : decode cX4_power 145 = .ok (.iaload, 1) := by decide +kernel
theorem dX4_power_146 : decode cX4_power 146 = .ok (.aload_n 0, 1) := by decide +kernel
theorem dX4_power_147 : decode cX4_power 147 = .ok (.getfield 13, 3) := by decide +kernel
theorem dX4_power_150 : decode cX4_power 150 = .ok (.iload_n 1, 1) := by decide +kernel
theorem dX4_power_151 : decode cX4_power 151 = .ok (.iaload, 1) := by decide +kernel
theorem dX4_power_152 : decode cX4_power 152 = .ok (.isub, 1) := by decide +kernel
theorem dX4_power_153 : decode cX4_power 153 = .ok (.i2l, 1) := by decide +kernel
theorem dX4_power_154 : decode cX4_power 154 = .ok (.lmul, 1) := by decide +kernel
theorem dX4_power_155 : decode cX4_power 155 = .ok (.ladd, 1) := by decide +kernel
theorem dX4_power_156 : decode cX4_power 156 = .ok (.lload 13, 2) := by decide +kernel
theorem dX4_power_158 : decode cX4_power 158 = .ok (.aload_n 0, 1) := by decide +kernel
theorem dX4_power_159 : decode cX4_power 159 = .ok (.iload_n 1, 1) := by decide +kernel
theorem dX4_power_160 : decode cX4_power 160 = .ok (.iload 4, 2) := by decide +kernel
theorem dX4_power_162 : decode cX4_power 162 = .ok (.invokevirtual 54, 3) := by decide +kernel
theorem dX4_power_165 : decode cX4_power 165 = .ok (.lmul, 1) := by decide +kernel
theorem dX4_power_166 : decode cX4_power 166 = .ok (.lsub, 1) := by decide +kernel
theorem dX4_power_167 : decode cX4_power 167 = .ok (.lstore 19, 2) := by decide +kernel
theorem dX4_power_169 : decode cX4_power 169 = .ok (.lload 13, 2) := by decide +kernel
theorem dX4_power_171 : decode cX4_power 171 = .ok (.lconst 0, 1) := by decide +kernel
theorem dX4_power_172 : decode cX4_power 172 = .ok (.lcmp, 1) := by decide +kernel
theorem dX4_power_173 : decode cX4_power 173 = .ok (.ifCond .le 8, 3) := by decide +kernel
theorem dX4_power_176 : decode cX4_power 176 = .ok (.lload 19, 2) := by decide +kernel
theorem dX4_power_178 : decode cX4_power 178 = .ok (.goto 6, 3) := by decide +kernel
theorem dX4_power_181 : decode cX4_power 181 = .ok (.lload 19, 2) := by decide +kernel
theorem dX4_power_183 : decode cX4_power 183 = .ok (.lneg, 1) := by decide +kernel
theorem dX4_power_184 : decode cX4_power 184 = .ok (.lreturn, 1) := by decide +kernel
set_option maxRecDepth 20000 in
theorem ggX4_onCircle_X4_power : GoodIn wsX4_onCircle wsX4_power := goodIn_r _ [6, 7, 8, 9, 10, 11, 5, 12, 13, 14, 15, 16, 17, 18, 19, 20, 21, 22, 23] (by decide +kernel) (by decide +kernel)
set_option maxRecDepth 20000 in
theorem gX4_onCircle_X4_power : GoodIn wsX4_onCircle (wsV RX4 58 RX4 yX4_power wsX4_power) := goodIn_app (goodIn_of _ (by decide +kernel)) ggX4_onCircle_X4_power
theorem dX4_onCircle_0 : decode cX4_onCircle 0 = .ok (.iconst 0, 1) := by decide +kernel
theorem dX4_onCircle_1 : decode cX4_onCircle 1 = .ok (.istore 4, 2) := by decide +kernel
theorem dX4_onCircle_3 : decode cX4_onCircle 3 = .ok (.iconst 0, 1) := by decide +kernel
theorem dX4_onCircle_4 : decode cX4_onCircle 4 = .ok (.istore 5, 2) := by decide +kernel
theorem dX4_onCircle_6 : decode cX4_onCircle 6 = .ok (.iload 5, 2) := by decide +kernel
theorem dX4_onCircle_8 : decode cX4_onCircle 8 = .ok (.aload_n 0, 1) := by decide +kernel
theorem dX4_onCircle_9 : decode cX4_onCircle 9 = .ok (.getfield 32, 3) := by decide +kernel
theorem dX4_onCircle_12 : decode cX4_onCircle 12 = .ok (.if_icmp .ge 50, 3) := by decide +kernel
theorem dX4_onCircle_15 : decode cX4_onCircle 15 = .ok (.aload_n 0, 1) := by decide +kernel
theorem dX4_onCircle_16 : decode cX4_onCircle 16 = .ok (.iload_n 1, 1) := by decide +kernel
theorem dX4_onCircle_17 : decode cX4_onCircle 17 = .ok (.iload_n 2, 1) := by decide +kernel
theorem dX4_onCircle_18 : decode cX4_onCircle 18 = .ok (.iload_n 3, 1) := by decide +kernel
theorem dX4_onCircle_19 : decode cX4_onCircle 19 = .ok (.iload 5, 2) := by decide +kernel
theorem dX4_onCircle_21 : decode cX4_onCircle 21 = .ok (.invokevirtual 58, 3) := by decide +kernel
theorem dX4_onCircle_24 : decode cX4_onCircle 24 = .ok (.lstore 6, 2) := by decide +kernel
theorem dX4_onCircle_26 : decode cX4_onCircle 26 = .ok (.lload 6, 2) := by decide +kernel
theorem dX4_onCircle_28 : decode cX4_onCircle 28 = .ok (.lconst 0, 1) := by decide +kernel
theorem dX4_onCircle_29 : decode cX4_onCircle 29 = .ok (.lcmp, 1) := by decide +kernel
theorem dX4_onCircle_30 : decode cX4_onCircle 30 = .ok (.ifCond .le 5, 3) := by decide +kernel
theorem dX4_onCircle_33 : decode cX4_onCircle 33 = .ok (.iconst 0, 1) := by decide +kernel
theorem dX4_onCircle_34 : decode cX4_onCircle 34 = .ok (.ireturn, 1) := by decide +kernel
theorem dX4_onCircle_35 : decode cX4_onCircle 35 = .ok (.lload 6, 2) := by decide +kernel
theorem dX4_onCircle_37 : decode cX4_onCircle 37 = .ok (.lconst 0, 1) := by decide +kernel
theorem dX4_onCircle_38 : decode cX4_onCircle 38 = .ok (.lcmp, 1) := by decide +kernel
theorem dX4_onCircle_39 : decode cX4_onCircle 39 = .ok (.ifCond .ne 13, 3) := by decide +kernel
theorem dX4_onCircle_42 : decode cX4_onCircle 42 = .ok (.iload 4, 2) := by decide +kernel
theorem dX4_onCircle_44 : decode cX4_onCircle 44 = .ok (.iconst 1, 1) := by decide +kernel
theorem dX4_onCircle_45 : decode cX4_onCircle 45 = .ok (.iload 5, 2) := by decide +kernel
theorem dX4_onCircle_47 : decode cX4_onCircle 47 = .ok (.ishl, 1) := by decide +kernel
theorem dX4_onCircle_48 : decode cX4_onCircle 48 = .ok (.ior, 1) := by decide +kernel
theorem dX4_onCircle_49 : decode cX4_onCircle 49 = .ok (.goto 5, 3) := by decide +kernel
theorem dX4_onCircle_52 : decode cX4_onCircle 52 = .ok (.iload 4, 2) := by decide +kernel
theorem dX4_onCircle_54 : decode cX4_onCircle 54 = .ok (.istore 4, 2) := by decide +kernel
theorem dX4_onCircle_56 : decode cX4_onCircle 56 = .ok (.iinc 5 1, 3) := by decide +kernel
theorem dX4_onCircle_59 : decode cX4_onCircle 59 = .ok (.goto (-53), 3) := by decide +kernel
theorem dX4_onCircle_62 : decode cX4_onCircle 62 = .ok (.iload 4, 2) := by decide +kernel
theorem dX4_onCircle_64 : decode cX4_onCircle 64 = .ok (.ireturn, 1) := by decide +kernel
set_option maxRecDepth 20000 in
theorem ggX4_behind_X4_turn : GoodIn wsX4_behind wsX4_turn := goodIn_r _ [8, 2, 3, 9, 10, 11, 12, 13, 14, 15, 16, 17, 18, 19] (by decide +kernel) (by decide +kernel)
set_option maxRecDepth 20000 in
theorem gX4_behind_X4_turn : GoodIn wsX4_behind (wsV RX4 62 RX4 yX4_turn wsX4_turn) := goodIn_app (goodIn_of _ (by decide +kernel)) ggX4_behind_X4_turn
theorem dX4_behind_0 : decode cX4_behind 0 = .ok (.iconst 0, 1) := by decide +kernel
theorem dX4_behind_1 : decode cX4_behind 1 = .ok (.istore_n 3, 1) := by decide +kernel
theorem dX4_behind_2 : decode cX4_behind 2 = .ok (.iload_n 3, 1) := by decide +kernel
theorem dX4_behind_3 : decode cX4_behind 3 = .ok (.aload_n 0, 1) := by decide +kernel
theorem dX4_behind_4 : decode cX4_behind 4 = .ok (.getfield 32, 3) := by decide +kernel
theorem dX4_behind_7 : decode cX4_behind 7 = .ok (.if_icmp .ge 99, 3) := by decide +kernel
theorem dX4_behind_10 : decode cX4_behind 10 = .ok (.iload_n 1, 1) := by decide +kernel
theorem dX4_behind_11 : decode cX4_behind 11 = .ok (.iload_n 3, 1) := by decide +kernel
theorem dX4_behind_12 : decode cX4_behind 12 = .ok (.ishr, 1) := by decide +kernel
theorem dX4_behind_13 : decode cX4_behind 13 = .ok (.iconst 1, 1) := by decide +kernel
theorem dX4_behind_14 : decode cX4_behind 14 = .ok (.iand, 1) := by decide +kernel
theorem dX4_behind_15 : decode cX4_behind 15 = .ok (.ifCond .eq 85, 3) := by decide +kernel
theorem dX4_behind_18 : decode cX4_behind 18 = .ok (.iload_n 3, 1) := by decide +kernel
theorem dX4_behind_19 : decode cX4_behind 19 = .ok (.iload_n 2, 1) := by decide +kernel
theorem dX4_behind_20 : decode cX4_behind 20 = .ok (.if_icmp .ne 6, 3) := by decide +kernel
theorem dX4_behind_23 : decode cX4_behind 23 = .ok (.goto 77, 3) := by decide +kernel
theorem dX4_behind_26 : decode cX4_behind 26 = .ok (.iconst 1, 1) := by decide +kernel
theorem dX4_behind_27 : decode cX4_behind 27 = .ok (.istore 4, 2) := by decide +kernel
theorem dX4_behind_29 : decode cX4_behind 29 = .ok (.iconst 0, 1) := by decide +kernel
theorem dX4_behind_30 : decode cX4_behind 30 = .ok (.istore 5, 2) := by decide +kernel
theorem dX4_behind_32 : decode cX4_behind 32 = .ok (.iload 5, 2) := by decide +kernel
theorem dX4_behind_34 : decode cX4_behind 34 = .ok (.aload_n 0, 1) := by decide +kernel
theorem dX4_behind_35 : decode cX4_behind 35 = .ok (.getfield 32, 3) := by decide +kernel
theorem dX4_behind_38 : decode cX4_behind 38 = .ok (.if_icmp .ge 55, 3) := by decide +kernel
theorem dX4_behind_41 : decode cX4_behind 41 = .ok (.iload 4, 2) := by decide +kernel
theorem dX4_behind_43 : decode cX4_behind 43 = .ok (.ifCond .eq 41, 3) := by decide +kernel
theorem dX4_behind_46 : decode cX4_behind 46 = .ok (.iload_n 1, 1) := by decide +kernel
theorem dX4_behind_47 : decode cX4_behind 47 = .ok (.iload 5, 2) := by decide +kernel
theorem dX4_behind_49 : decode cX4_behind 49 = .ok (.ishr, 1) := by decide +kernel
theorem dX4_behind_50 : decode cX4_behind 50 = .ok (.iconst 1, 1) := by decide +kernel
theorem dX4_behind_51 : decode cX4_behind 51 = .ok (.iand, 1) := by decide +kernel
theorem dX4_behind_52 : decode cX4_behind 52 = .ok (.ifCond .eq 28, 3) := by decide +kernel
theorem dX4_behind_55 : decode cX4_behind 55 = .ok (.aload_n 0, 1) := by decide +kernel
theorem dX4_behind_56 : decode cX4_behind 56 = .ok (.iload_n 2, 1) := by decide +kernel
theorem dX4_behind_57 : decode cX4_behind 57 = .ok (.iload_n 3, 1) := by decide +kernel
theorem dX4_behind_58 : decode cX4_behind 58 = .ok (.aload_n 0, 1) := by decide +kernel
theorem dX4_behind_59 : decode cX4_behind 59 = .ok (.getfield 7, 3) := by decide +kernel
theorem dX4_behind_62 : decode cX4_behind 62 = .ok (.iload 5, 2) := by decide +kernel
theorem dX4_behind_64 : decode cX4_behind 64 = .ok (.iaload, 1) := by decide +kernel
theorem dX4_behind_65 : decode cX4_behind 65 = .ok (.aload_n 0, 1) := by decide +kernel
theorem dX4_behind_66 : decode cX4_behind 66 = .ok (.getfield 13, 3) := by decide +kernel
theorem dX4_behind_69 : decode cX4_behind 69 = .ok (.iload 5, 2) := by decide +kernel
theorem dX4_behind_71 : decode cX4_behind 71 = .ok (.iaload, 1) := by decide +kernel
theorem dX4_behind_72 : decode cX4_behind 72 = .ok (.invokevirtual 62, 3) := by decide +kernel
theorem dX4_behind_75 : decode cX4_behind 75 = .ok (.lconst 0, 1) := by decide +kernel
theorem dX4_behind_76 : decode cX4_behind 76 = .ok (.lcmp, 1) := by decide +kernel
theorem dX4_behind_77 : decode cX4_behind 77 = .ok (.ifCond .lt 7, 3) := by decide +kernel
theorem dX4_behind_80 : decode cX4_behind 80 = .ok (.iconst 1, 1) := by decide +kernel
theorem dX4_behind_81 : decode cX4_behind 81 = .ok (.goto 4, 3) := by decide +kernel
theorem dX4_behind_84 : decode cX4_behind 84 = .ok (.iconst 0, 1) := by decide +kernel
theorem dX4_behind_85 : decode cX4_behind 85 = .ok (.istore 4, 2) := by decide +kernel
theorem dX4_behind_87 : decode cX4_behind 87 = .ok (.iinc 5 1, 3) := by decide +kernel
theorem dX4_behind_90 : decode cX4_behind 90 = .ok (.goto (-58), 3) := by decide +kernel
theorem dX4_behind_93 : decode cX4_behind 93 = .ok (.iload 4, 2) := by decide +kernel
theorem dX4_behind_95 : decode cX4_behind 95 = .ok (.ifCond .eq 5, 3) := by decide +kernel
theorem dX4_behind_98 : decode cX4_behind 98 = .ok (.iload_n 3, 1) := by decide +kernel
theorem dX4_behind_99 : decode cX4_behind 99 = .ok (.ireturn, 1) := by decide +kernel
theorem dX4_behind_100 : decode cX4_behind 100 = .ok (.iinc 3 1, 3) := by decide +kernel
theorem dX4_behind_103 : decode cX4_behind 103 = .ok (.goto (-101), 3) := by decide +kernel
theorem dX4_behind_106 : decode cX4_behind 106 = .ok (.iload_n 2, 1) := by decide +kernel
theorem dX4_behind_107 : decode cX4_behind 107 = .ok (.ireturn, 1) := by decide +kernel
set_option maxRecDepth 20000 in
theorem ggX4_add_X4_behind : GoodIn wsX4_add wsX4_behind := goodIn_r _ [8, 9, 10, 11, 12, 13, 14, 7, 15, 16, 17, 18, 19, 20, 21, 22, 23, 24, 25, 26] (by decide +kernel) (by decide +kernel)
set_option maxRecDepth 20000 in
theorem gX4_add_X4_behind : GoodIn wsX4_add (wsV RX4 68 RX4 yX4_behind wsX4_behind) := goodIn_app (goodIn_of _ (by decide +kernel)) ggX4_add_X4_behind
theorem dX4_add_0 : decode cX4_add 0 = .ok (.iconst 0, 1) := by decide +kernel
theorem dX4_add_1 : decode cX4_add 1 = .ok (.istore_n 3, 1) := by decide +kernel
theorem dX4_add_2 : decode cX4_add 2 = .ok (.iload_n 2, 1) := by decide +kernel
theorem dX4_add_3 : decode cX4_add 3 = .ok (.istore 4, 2) := by decide +kernel
theorem dX4_add_5 : decode cX4_add 5 = .ok (.iload_n 3, 1) := by decide +kernel
theorem dX4_add_6 : decode cX4_add 6 = .ok (.ifCond .eq 9, 3) := by decide +kernel
theorem dX4_add_9 : decode cX4_add 9 = .ok (.iload 4, 2) := by decide +kernel
theorem dX4_add_11 : decode cX4_add 11 = .ok (.iload_n 2, 1) := by decide +kernel
theorem dX4_add_12 : decode cX4_add 12 = .ok (.if_icmp .eq 34, 3) := by decide +kernel
theorem dX4_add_15 : decode cX4_add 15 = .ok (.aload_n 0, 1) := by decide +kernel
theorem dX4_add_16 : decode cX4_add 16 = .ok (.getfield 19, 3) := by decide +kernel
theorem dX4_add_19 : decode cX4_add 19 = .ok (.bipush 20, 2) := by decide +kernel
theorem dX4_add_21 : decode cX4_add 21 = .ok (.aload_n 0, 1) := by decide +kernel
theorem dX4_add_22 : decode cX4_add 22 = .ok (.getfield 65, 3) := by decide +kernel
theorem dX4_add_25 : decode cX4_add 25 = .ok (.imul, 1) := by decide +kernel
theorem dX4_add_26 : decode cX4_add 26 = .ok (.iload_n 3, 1) := by decide +kernel
theorem dX4_add_27 : decode cX4_add 27 = .ok (.iadd, 1) := by decide +kernel
theorem dX4_add_28 : decode cX4_add 28 = .ok (.iload 4, 2) := by decide +kernel
theorem dX4_add_30 : decode cX4_add 30 = .ok (.iastore, 1) := by decide +kernel
theorem dX4_add_31 : decode cX4_add 31 = .ok (.iinc 3 1, 3) := by decide +kernel
theorem dX4_add_34 : decode cX4_add 34 = .ok (.aload_n 0, 1) := by decide +kernel
theorem dX4_add_35 : decode cX4_add 35 = .ok (.iload_n 1, 1) := by decide +kernel
theorem dX4_add_36 : decode cX4_add 36 = .ok (.iload 4, 2) := by decide +kernel
theorem dX4_add_38 : decode cX4_add 38 = .ok (.invokevirtual 68, 3) := by decide +kernel
theorem dX4_add_41 : decode cX4_add 41 = .ok (.istore 4, 2) := by decide +kernel
theorem dX4_add_43 : decode cX4_add 43 = .ok (.goto (-38), 3) := by decide +kernel
theorem dX4_add_46 : decode cX4_add 46 = .ok (.aload_n 0, 1) := by decide +kernel
theorem dX4_add_47 : decode cX4_add 47 = .ok (.getfield 16, 3) := by decide +kernel
theorem dX4_add_50 : decode cX4_add 50 = .ok (.aload_n 0, 1) := by decide +kernel
theorem dX4_add_51 : decode cX4_add 51 = .ok (.getfield 65, 3) := by decide +kernel
theorem dX4_add_54 : decode cX4_add 54 = .ok (.iload_n 3, 1) := by decide +kernel
theorem dX4_add_55 : decode cX4_add 55 = .ok (.iastore, 1) := by decide +kernel
theorem dX4_add_56 : decode cX4_add 56 = .ok (.aload_n 0, 1) := by decide +kernel
theorem dX4_add_57 : decode cX4_add 57 = .ok (.dup, 1) := by decide +kernel
theorem dX4_add_58 : decode cX4_add 58 = .ok (.getfield 65, 3) := by decide +kernel
theorem dX4_add_61 : decode cX4_add 61 = .ok (.iconst 1, 1) := by decide +kernel
theorem dX4_add_62 : decode cX4_add 62 = .ok (.iadd, 1) := by decide +kernel
theorem dX4_add_63 : decode cX4_add 63 = .ok (.putfield 65, 3) := by decide +kernel
theorem dX4_add_66 : decode cX4_add 66 = .ok (.return_, 1) := by decide +kernel
theorem dX4_isBefore_0 : decode cX4_isBefore 0 = .ok (.iconst 0, 1) := by decide +kernel
theorem dX4_isBefore_1 : decode cX4_isBefore 1 = .ok (.istore_n 3, 1) := by decide +kernel
theorem dX4_isBefore_2 : decode cX4_isBefore 2 = .ok (.iload_n 3, 1) := by decide +kernel
theorem dX4_isBefore_3 : decode cX4_isBefore 3 = .ok (.aload_n 0, 1) := by decide +kernel
theorem dX4_isBefore_4 : decode cX4_isBefore 4 = .ok (.getfield 16, 3) := by decide +kernel
theorem dX4_isBefore_7 : decode cX4_isBefore 7 = .ok (.iload_n 1, 1) := by decide +kernel
theorem dX4_isBefore_8 : decode cX4_isBefore 8 = .ok (.iaload, 1) := by decide +kernel
theorem dX4_isBefore_9 : decode cX4_isBefore 9 = .ok (.if_icmp .ge 75, 3) := by decide +kernel
theorem dX4_isBefore_12 : decode cX4_isBefore 12 = .ok (.iload_n 3, 1) := by decide +kernel
theorem dX4_isBefore_13 : decode cX4_isBefore 13 = .ok (.aload_n 0, 1) := by decide +kernel
theorem dX4_isBefore_14 : decode cX4_isBefore 14 = .ok (.getfield 16, 3) := by decide +kernel
theorem dX4_isBefore_17 : decode cX4_isBefore 17 = .ok (.iload_n 2, 1) := by decide +kernel
theorem dX4_isBefore_18 : decode cX4_isBefore 18 = .ok (.iaload, 1) := by decide +kernel
theorem dX4_isBefore_19 : decode cX4_isBefore 19 = .ok (.if_icmp .ge 65, 3) := by decide +kernel
theorem dX4_isBefore_22 : decode cX4_isBefore 22 = .ok (.aload_n 0, 1) := by decide +kernel
theorem dX4_isBefore_23 : decode cX4_isBefore 23 = .ok (.getfield 19, 3) := by decide +kernel
theorem dX4_isBefore_26 : decode cX4_isBefore 26 = .ok (.bipush 20, 2) := by decide +kernel
theorem dX4_isBefore_28 : decode cX4_isBefore 28 = .ok (.iload_n 1, 1) := by decide +kernel
theorem dX4_isBefore_29 : decode cX4_isBefore 29 = .ok (.imul, 1) := by decide +kernel
theorem dX4_isBefore_30 : decode cX4_isBefore 30 = .ok (.iload_n 3, 1) := by decide +kernel
theorem dX4_isBefore_31 : decode cX4_isBefore 31 = .ok (.iadd, 1) := by decide +kernel
theorem dX4_isBefore_32 : decode cX4_isBefore 32 = .ok (.iaload, 1) := by decide +kernel
theorem dX4_isBefore_33 : decode cX4_isBefore 33 = .ok (.aload_n 0, 1) := by decide +kernel
theorem dX4_isBefore_34 : decode cX4_isBefore 34 = .ok (.getfield 19, 3) := by decide +kernel
theorem dX4_isBefore_37 : decode cX4_isBefore 37 = .ok (.bipush 20, 2) := by decide +kernel
theorem dX4_isBefore_39 : decode cX4_isBefore 39 = .ok (.iload_n 2, 1) := by decide +kernel
theorem dX4_isBefore_40 : decode cX4_isBefore 40 = .ok (.imul, 1) := by decide +kernel
theorem dX4_isBefore_41 : decode cX4_isBefore 41 = .ok (.iload_n 3, 1) := by decide +kernel
theorem dX4_isBefore_42 : decode cX4_isBefore 42 = .ok (.iadd, 1) := by decide +kernel
theorem dX4_isBefore_43 : decode cX4_isBefore 43 = .ok (.iaload, 1) := by decide +kernel
theorem dX4_isBefore_44 : decode cX4_isBefore 44 = .ok (.if_icmp .eq 34, 3) := by decide +kernel
theorem dX4_isBefore_47 : decode cX4_isBefore 47 = .ok (.aload_n 0, 1) := by decide +kernel
theorem dX4_isBefore_48 : decode cX4_isBefore 48 = .ok (.getfield 19, 3) := by decide +kernel
theorem dX4_isBefore_51 : decode cX4_isBefore 51 = .ok (.bipush 20, 2) := by decide +kernel
theorem dX4_isBefore_53 : decode cX4_isBefore 53 = .ok (.iload_n 1, 1) := by decide +kernel
theorem dX4_isBefore_54 : decode cX4_isBefore 54 = .ok (.imul, 1) := by decide +kernel
theorem dX4_isBefore_55 : decode cX4_isBefore 55 = .ok (.iload_n 3, 1) := by decide +kernel
theorem dX4_isBefore_56 : decode cX4_isBefore 56 = .ok (.iadd, 1) := by decide +kernel
theorem dX4_isBefore_57 : decode cX4_isBefore 57 = .ok (.iaload, 1) := by decide +kernel
theorem dX4_isBefore_58 : decode cX4_isBefore 58 = .ok (.aload_n 0, 1) := by decide +kernel
theorem dX4_isBefore_59 : decode cX4_isBefore 59 = .ok (.getfield 19, 3) := by decide +kernel
theorem dX4_isBefore_62 : decode cX4_isBefore 62 = .ok (.bipush 20, 2) := by decide +kernel
theorem dX4_isBefore_64 : decode cX4_isBefore 64 = .ok (.iload_n 2, 1) := by decide +kernel
theorem dX4_isBefore_65 : decode cX4_isBefore 65 = .ok (.imul, 1) := by decide +kernel
theorem dX4_isBefore_66 : decode cX4_isBefore 66 = .ok (.iload_n 3, 1) := by decide +kernel
theorem dX4_isBefore_67 : decode cX4_isBefore 67 = .ok (.iadd, 1) := by decide +kernel
theorem dX4_isBefore_68 : decode cX4_isBefore 68 = .ok (.iaload, 1) := by decide +kernel
theorem dX4_isBefore_69 : decode cX4_isBefore 69 = .ok (.if_icmp .ge 7, 3) := by decide +kernel
theorem dX4_isBefore_72 : decode cX4_isBefore 72 = .ok (.iconst 1, 1) := by decide +kernel
theorem dX4_isBefore_73 : decode cX4_isBefore 73 = .ok (.goto 4, 3) := by decide +kernel
theorem dX4_isBefore_76 : decode cX4_isBefore 76 = .ok (.iconst 0, 1) := by decide +kernel
theorem dX4_isBefore_77 : decode cX4_isBefore 77 = .ok (.ireturn, 1) := by decide +kernel
theorem dX4_isBefore_78 : decode cX4_isBefore 78 = .ok (.iinc 3 1, 3) := by decide +kernel
theorem dX4_isBefore_81 : decode cX4_isBefore 81 = .ok (.goto (-79), 3) := by decide +kernel
theorem dX4_isBefore_84 : decode cX4_isBefore 84 = .ok (.aload_n 0, 1) := by decide +kernel
theorem dX4_isBefore_85 : decode cX4_isBefore 85 = .ok (.getfield 16, 3) := by decide +kernel
theorem dX4_isBefore_88 : decode cX4_isBefore 88 = .ok (.iload_n 1, 1) := by decide +kernel
theorem dX4_isBefore_89 : decode cX4_isBefore 89 = .ok (.iaload, 1) := by decide +kernel
theorem dX4_isBefore_90 : decode cX4_isBefore 90 = .ok (.aload_n 0, 1) := by decide +kernel
theorem dX4_isBefore_91 : decode cX4_isBefore 91 = .ok (.getfield 16, 3) := by decide +kernel
theorem dX4_isBefore_94 : decode cX4_isBefore 94 = .ok (.iload_n 2, 1) := by decide +kernel
theorem dX4_isBefore_95 : decode cX4_isBefore 95 = .ok (.iaload, 1) := by decide +kernel
theorem dX4_isBefore_96 : decode cX4_isBefore 96 = .ok (.if_icmp .ge 7, 3) := by decide +kernel
theorem dX4_isBefore_99 : decode cX4_isBefore 99 = .ok (.iconst 1, 1) := by decide +kernel
theorem dX4_isBefore_100 : decode cX4_isBefore 100 = .ok (.goto 4, 3) := by decide +kernel
theorem dX4_isBefore_103 : decode cX4_isBefore 103 = .ok (.iconst 0, 1) := by decide +kernel
theorem dX4_isBefore_104 : decode cX4_isBefore 104 = .ok (.ireturn, 1) := by decide +kernel
set_option maxRecDepth 20000 in
theorem ggX4_make_X4_turn : GoodIn wsX4_make wsX4_turn := goodIn_r _ [12, 5, 6, 56, 57, 58, 59, 60, 61, 62, 63, 64, 65, 66] (by decide +kernel) (by decide +kernel)
set_option maxRecDepth 20000 in
theorem gX4_make_X4_turn : GoodIn wsX4_make (wsV RX4 62 RX4 yX4_turn wsX4_turn) := goodIn_app (goodIn_of _ (by decide +kernel)) ggX4_make_X4_turn
set_option maxRecDepth 20000 in
theorem ggX4_make_X4_onCircle : GoodIn wsX4_make wsX4_onCircle := goodIn_r _ [16, 4, 17, 18, 19, 11, 20, 5, 6, 21, 22, 23, 24, 56, 57, 58, 59, 60, 61, 62, 63, 64, 65, 66] (by decide +kernel) (by decide +kernel)
set_option maxRecDepth 20000 in
theorem gX4_make_X4_onCircle : GoodIn wsX4_make (wsV RX4 75 RX4 yX4_onCircle wsX4_onCircle) := goodIn_app (goodIn_of _ (by decide +kernel)) ggX4_make_X4_onCircle
set_option maxRecDepth 20000 in
theorem ggX4_make_X4_add : GoodIn wsX4_make wsX4_add := goodIn_r _ [28, 29, 2, 30, 31, 32, 33, 11, 34, 4, 5, 6, 8, 9, 10, 12, 56, 57, 58, 59, 60, 61, 62, 63, 64, 65, 66] (by decide +kernel) (by decide +kernel)
set_option maxRecDepth 20000 in
theorem gX4_make_X4_add : GoodIn wsX4_make (wsV RX4 79 RX4 yX4_add wsX4_add) := goodIn_app (goodIn_of _ (by decide +kernel)) ggX4_make_X4_add
set_option maxRecDepth 20000 in
theorem ggX4_make_X4_isBefore : GoodIn wsX4_make wsX4_isBefore := goodIn_r _ [38, 30, 29, 56, 57, 58, 59, 60, 61, 62, 63, 64, 65, 66] (by decide +kernel) (by decide +kernel)
set_option maxRecDepth 20000 in
theorem gX4_make_X4_isBefore : GoodIn wsX4_make (wsV RX4 83 RX4 yX4_isBefore wsX4_isBefore) := goodIn_app (goodIn_of _ (by decide +kernel)) ggX4_make_X4_isBefore
set_option maxRecDepth 20000 in
theorem ggX4_make_X4_surround : GoodIn wsX4_make wsX4_surround := goodIn_r _ [42, 4, 2, 3, 43, 44, 45, 46, 11, 47, 30, 29, 48, 49, 50, 51, 52, 53, 54, 55, 7, 56, 57, 58, 59, 60, 61, 62, 63, 64, 65, 66] (by decide +kernel) (by decide +kernel)
set_option maxRecDepth 20000 in
theorem gX4_make_X4_surround : GoodIn wsX4_make (wsV RX4 86 RX4 yX4_surround wsX4_surround) := goodIn_app (goodIn_of _ (by decide +kernel)) ggX4_make_X4_surround
theorem dX4_make_0 : decode cX4_make 0 = .ok (.aload_n 0, 1) := by decide +kernel
theorem dX4_make_1 : decode cX4_make 1 = .ok (.getfield 47, 3) := by decide +kernel
theorem dX4_make_4 : decode cX4_make 4 = .ok (.ifCond .eq 4, 3) := by decide +kernel
theorem dX4_make_7 : decode cX4_make 7 = .ok (.return_, 1) := by decide +kernel
theorem dX4_make_8 : decode cX4_make 8 = .ok (.aload_n 0, 1) := by decide +kernel
theorem dX4_make_9 : decode cX4_make 9 = .ok (.iconst 1, 1) := by decide +kernel
theorem dX4_make_10 : decode cX4_make 10 = .ok (.putfield 47, 3) := by decide +kernel
theorem dX4_make_13 : decode cX4_make 13 = .ok (.aload_n 0, 1) := by decide +kernel
theorem dX4_make_14 : decode cX4_make 14 = .ok (.iconst 0, 1) := by decide +kernel
theorem dX4_make_15 : decode cX4_make 15 = .ok (.putfield 65, 3) := by decide +kernel
theorem dX4_make_18 : decode cX4_make 18 = .ok (.aload_n 0, 1) := by decide +kernel
theorem dX4_make_19 : decode cX4_make 19 = .ok (.iconst 0, 1) := by decide +kernel
theorem dX4_make_20 : decode cX4_make 20 = .ok (.putfield 72, 3) := by decide +kernel
theorem dX4_make_23 : decode cX4_make 23 = .ok (.iconst 0, 1) := by decide +kernel
theorem dX4_make_24 : decode cX4_make 24 = .ok (.istore_n 1, 1) := by decide +kernel
theorem dX4_make_25 : decode cX4_make 25 = .ok (.iload_n 1, 1) := by decide +kernel
theorem dX4_make_26 : decode cX4_make 26 = .ok (.aload_n 0, 1) := by decide +kernel
theorem dX4_make_27 : decode cX4_make 27 = .ok (.getfield 32, 3) := by decide +kernel
theorem dX4_make_30 : decode cX4_make 30 = .ok (.if_icmp .ge 119, 3) := by decide +kernel
theorem dX4_make_33 : decode cX4_make 33 = .ok (.iload_n 1, 1) := by decide +kernel
theorem dX4_make_34 : decode cX4_make 34 = .ok (.iconst 1, 1) := by decide +kernel
theorem dX4_make_35 : decode cX4_make 35 = .ok (.iadd, 1) := by decide +kernel
theorem dX4_make_36 : decode cX4_make 36 = .ok (.istore_n 2, 1) := by decide +kernel
theorem dX4_make_37 : decode cX4_make 37 = .ok (.iload_n 2, 1) := by decide +kernel
theorem dX4_make_38 : decode cX4_make 38 = .ok (.aload_n 0, 1) := by decide +kernel
theorem dX4_make_39 : decode cX4_make 39 = .ok (.getfield 32, 3) := by decide +kernel
theorem dX4_make_42 : decode cX4_make 42 = .ok (.if_icmp .ge 101, 3) := by decide +kernel
theorem dX4_make_45 : decode cX4_make 45 = .ok (.iload_n 2, 1) := by decide +kernel
theorem dX4_make_46 : decode cX4_make 46 = .ok (.iconst 1, 1) := by decide +kernel
theorem dX4_make_47 : decode cX4_make 47 = .ok (.iadd, 1) := by decide +kernel
theorem dX4_make_48 : decode cX4_make 48 = .ok (.istore_n 3, 1) := by decide +kernel
theorem dX4_make_49 : decode cX4_make 49 = .ok (.iload_n 3, 1) := by decide +kernel
theorem dX4_make_50 : decode cX4_make 50 = .ok (.aload_n 0, 1) := by decide +kernel
theorem dX4_make_51 : decode cX4_make 51 = .ok (.getfield 32, 3) := by decide +kernel
theorem dX4_make_54 : decode cX4_make 54 = .ok (.if_icmp .ge 83, 3) := by decide +kernel
theorem dX4_make_57 : decode cX4_make 57 = .ok (.aload_n 0, 1) := by decide +kernel
theorem dX4_make_58 : decode cX4_make 58 = .ok (.iload_n 1, 1) := by decide +kernel
theorem dX4_make_59 : decode cX4_make 59 = .ok (.iload_n 2, 1) := by decide +kernel
theorem dX4_make_60 : decode cX4_make 60 = .ok (.aload_n 0, 1) := by decide +kernel
theorem dX4_make_61 : decode cX4_make 61 = .ok (.getfield 7, 3) := by decide +kernel
theorem dX4_make_64 : decode cX4_make 64 = .ok (.iload_n 3, 1) := by decide +kernel
theorem dX4_make_65 : decode cX4_make 65 = .ok (.iaload, 1) := by decide +kernel
theorem dX4_make_66 : decode cX4_make 66 = .ok (.aload_n 0, 1) := by decide +kernel
theorem dX4_make_67 : decode cX4_make 67 = .ok (.getfield 13, 3) := by decide +kernel
theorem dX4_make_70 : decode cX4_make 70 = .ok (.iload_n 3, 1) := by decide +kernel
theorem dX4_make_71 : decode cX4_make 71 = .ok (.iaload, 1) := by decide +kernel
theorem dX4_make_72 : decode cX4_make 72 = .ok (.invokevirtual 62, 3) := by decide +kernel
theorem dX4_make_75 : decode cX4_make 75 = .ok (.lconst 0, 1) := by decide +kernel
theorem dX4_make_76 : decode cX4_make 76 = .ok (.lcmp, 1) := by decide +kernel
theorem dX4_make_77 : decode cX4_make 77 = .ok (.ifCond .ne 6, 3) := by decide +kernel
theorem dX4_make_80 : decode cX4_make 80 = .ok (.goto 51, 3) := by decide +kernel
theorem dX4_make_83 : decode cX4_make 83 = .ok (.aload_n 0, 1) := by decide +kernel
theorem dX4_make_84 : decode cX4_make 84 = .ok (.iload_n 1, 1) := by decide +kernel
theorem dX4_make_85 : decode cX4_make 85 = .ok (.iload_n 2, 1) := by decide +kernel
theorem dX4_make_86 : decode cX4_make 86 = .ok (.iload_n 3, 1) := by decide +kernel
theorem dX4_make_87 : decode cX4_make 87 = .ok (.invokevirtual 75, 3) := by decide +kernel
theorem dX4_make_90 : decode cX4_make 90 = .ok (.istore 4, 2) := by decide +kernel
theorem dX4_make_92 : decode cX4_make 92 = .ok (.iconst 1, 1) := by decide +kernel
theorem dX4_make_93 : decode cX4_make 93 = .ok (.iload_n 3, 1) := by decide +kernel
theorem dX4_make_94 : decode cX4_make 94 = .ok (.ishl, 1) := by decide +kernel
theorem dX4_make_95 : decode cX4_make 95 = .ok (.iconst 1, 1) := by decide +kernel
theorem dX4_make_96 : decode cX4_make 96 = .ok (.isub, 1) := by decide +kernel
theorem dX4_make_97 : decode cX4_make 97 = .ok (.iconst 1, 1) := by decide +kernel
theorem dX4_make_98 : decode cX4_make 98 = .ok (.iload_n 1, 1) := by decide +kernel
theorem dX4_make_99 : decode cX4_make 99 = .ok (.ishl, 1) := by decide +kernel
theorem dX4_make_100 : decode cX4_make 100 = .ok (.iconst (-1), 1) := by decide +kernel
theorem dX4_make_101 : decode cX4_make 101 = .ok (.ixor, 1) := by decide +kernel
theorem dX4_make_102 : decode cX4_make 102 = .ok (.iand, 1) := by decide +kernel
theorem dX4_make_103 : decode cX4_make 103 = .ok (.iconst 1, 1) := by decide +kernel
theorem dX4_make_104 : decode cX4_make 104 = .ok (.iload_n 2, 1) := by decide +kernel
theorem dX4_make_105 : decode cX4_make 105 = .ok (.ishl, 1) := by decide +kernel
theorem dX4_make_106 : decode cX4_make 106 = .ok (.iconst (-1), 1) := by decide +kernel
theorem dX4_make_107 : decode cX4_make 107 = .ok (.ixor, 1) := by decide +kernel
theorem dX4_make_108 : decode cX4_make 108 = .ok (.iand, 1) := by decide +kernel
theorem dX4_make_109 : decode cX4_make 109 = .ok (.istore 5, 2) := by decide +kernel
theorem dX4_make_111 : decode cX4_make 111 = .ok (.iload 4, 2) := by decide +kernel
theorem dX4_make_113 : decode cX4_make 113 = .ok (.ifCond .eq 18, 3) := by decide +kernel
theorem dX4_make_116 : decode cX4_make 116 = .ok (.iload 4, 2) := by decide +kernel
theorem dX4_make_118 : decode cX4_make 118 = .ok (.iload 5, 2) := by decide +kernel
theorem dX4_make_120 : decode cX4_make 120 = .ok (.iand, 1) := by decide +kernel
theorem dX4_make_121 : decode cX4_make 121 = .ok (.ifCond .ne 10, 3) := by decide +kernel
theorem dX4_make_124 : decode cX4_make 124 = .ok (.aload_n 0, 1) := by decide +kernel
theorem dX4_make_125 : decode cX4_make 125 = .ok (.iload 4, 2) := by decide +kernel
theorem dX4_make_127 : decode cX4_make 127 = .ok (.iload_n 1, 1) := by decide +kernel
theorem dX4_make_128 : decode cX4_make 128 = .ok (.invokevirtual 79, 3) := by decide +kernel
theorem dX4_make_131 : decode cX4_make 131 = .ok (.iinc 3 1, 3) := by decide +kernel
theorem dX4_make_134 : decode cX4_make 134 = .ok (.goto (-85), 3) := by decide +kernel
theorem dX4_make_137 : decode cX4_make 137 = .ok (.iinc 2 1, 3) := by decide +kernel
theorem dX4_make_140 : decode cX4_make 140 = .ok (.goto (-103), 3) := by decide +kernel
theorem dX4_make_143 : decode cX4_make 143 = .ok (.iinc 1 1, 3) := by decide +kernel
theorem dX4_make_146 : decode cX4_make 146 = .ok (.goto (-121), 3) := by decide +kernel
theorem dX4_make_149 : decode cX4_make 149 = .ok (.iconst 0, 1) := by decide +kernel
theorem dX4_make_150 : decode cX4_make 150 = .ok (.istore_n 1, 1) := by decide +kernel
theorem dX4_make_151 : decode cX4_make 151 = .ok (.iload_n 1, 1) := by decide +kernel
theorem dX4_make_152 : decode cX4_make 152 = .ok (.aload_n 0, 1) := by decide +kernel
theorem dX4_make_153 : decode cX4_make 153 = .ok (.getfield 65, 3) := by decide +kernel
theorem dX4_make_156 : decode cX4_make 156 = .ok (.if_icmp .ge 51, 3) := by decide +kernel
theorem dX4_make_159 : decode cX4_make 159 = .ok (.iconst 0, 1) := by decide +kernel
theorem dX4_make_160 : decode cX4_make 160 = .ok (.istore_n 2, 1) := by decide +kernel
theorem dX4_make_161 : decode cX4_make 161 = .ok (.iconst 0, 1) := by decide +kernel
theorem dX4_make_162 : decode cX4_make 162 = .ok (.istore_n 3, 1) := by decide +kernel
theorem dX4_make_163 : decode cX4_make 163 = .ok (.iload_n 3, 1) := by decide +kernel
theorem dX4_make_164 : decode cX4_make 164 = .ok (.aload_n 0, 1) := by decide +kernel
theorem dX4_make_165 : decode cX4_make 165 = .ok (.getfield 65, 3) := by decide +kernel
theorem dX4_make_168 : decode cX4_make 168 = .ok (.if_icmp .ge 26, 3) := by decide +kernel
theorem dX4_make_171 : decode cX4_make 171 = .ok (.aload_n 0, 1) := by decide +kernel
theorem dX4_make_172 : decode cX4_make 172 = .ok (.iload_n 3, 1) := by decide +kernel
theorem dX4_make_173 : decode cX4_make 173 = .ok (.iload_n 1, 1) := by decide +kernel
theorem dX4_make_174 : decode cX4_make 174 = .ok (.invokevirtual 83, 3) := by decide +kernel
theorem dX4_make_177 : decode cX4_make 177 = .ok (.ifCond .eq 9, 3) := by decide +kernel
theorem dX4_make_180 : decode cX4_make 180 = .ok (.iload_n 2, 1) := by decide +kernel
theorem dX4_make_181 : decode cX4_make 181 = .ok (.iconst 1, 1) := by decide +kernel
theorem dX4_make_182 : decode cX4_make 182 = .ok (.iadd, 1) := by decide +kernel
theorem dX4_make_183 : decode cX4_make 183 = .ok (.goto 4, 3) := by decide +kernel
theorem dX4_make_186 : decode cX4_make 186 = .ok (.iload_n 2, 1) := by decide +kernel
theorem dX4_make_187 : decode cX4_make 187 = .ok (.istore_n 2, 1) := by decide +kernel
theorem dX4_make_188 : decode cX4_make 188 = .ok (.iinc 3 1, 3) := by decide +kernel
theorem dX4_make_191 : decode cX4_make 191 = .ok (.goto (-28), 3) := by decide +kernel
theorem dX4_make_194 : decode cX4_make 194 = .ok (.aload_n 0, 1) := by decide +kernel
theorem dX4_make_195 : decode cX4_make 195 = .ok (.getfield 22, 3) := by decide +kernel
theorem dX4_make_198 : decode cX4_make 198 = .ok (.iload_n 2, 1) := by decide +kernel
theorem dX4_make_199 : decode cX4_make 199 = .ok (.iload_n 1, 1) := by decide +kernel
theorem dX4_make_200 : decode cX4_make 200 = .ok (.iastore, 1) := by decide +kernel
theorem dX4_make_201 : decode cX4_make 201 = .ok (.iinc 1 1, 3) := by decide +kernel
theorem dX4_make_204 : decode cX4_make 204 = .ok (.goto (-53), 3) := by decide +kernel
theorem dX4_make_207 : decode cX4_make 207 = .ok (.aload_n 0, 1) := by decide +kernel
theorem dX4_make_208 : decode cX4_make 208 = .ok (.invokevirtual 86, 3) := by decide +kernel
theorem dX4_make_211 : decode cX4_make 211 = .ok (.return_, 1) := by decide +kernel
theorem dX4_after_0 : decode cX4_after 0 = .ok (.aload_n 0, 1) := by decide +kernel
theorem dX4_after_1 : decode cX4_after 1 = .ok (.getfield 19, 3) := by decide +kernel
theorem dX4_after_4 : decode cX4_after 4 = .ok (.bipush 20, 2) := by decide +kernel
theorem dX4_after_6 : decode cX4_after 6 = .ok (.iload_n 1, 1) := by decide +kernel
theorem dX4_after_7 : decode cX4_after 7 = .ok (.imul, 1) := by decide +kernel
theorem dX4_after_8 : decode cX4_after 8 = .ok (.iload_n 2, 1) := by decide +kernel
theorem dX4_after_9 : decode cX4_after 9 = .ok (.iconst 1, 1) := by decide +kernel
theorem dX4_after_10 : decode cX4_after 10 = .ok (.iadd, 1) := by decide +kernel
theorem dX4_after_11 : decode cX4_after 11 = .ok (.aload_n 0, 1) := by decide +kernel
theorem dX4_after_12 : decode cX4_after 12 = .ok (.getfield 16, 3) := by decide +kernel
theorem dX4_after_15 : decode cX4_after 15 = .ok (.iload_n 1, 1) := by decide +kernel
theorem dX4_after_16 : decode cX4_after 16 = .ok (.iaload, 1) := by decide +kernel
theorem dX4_after_17 : decode cX4_after 17 = .ok (.irem, 1) := by decide +kernel
theorem dX4_after_18 : decode cX4_after 18 = .ok (.iadd, 1) := by decide +kernel
theorem dX4_after_19 : decode cX4_after 19 = .ok (.iaload, 1) := by decide +kernel
theorem dX4_after_20 : decode cX4_after 20 = .ok (.ireturn, 1) := by decide +kernel
set_option maxRecDepth 20000 in
theorem ggX4_withSide_X4_after : GoodIn wsX4_withSide wsX4_after := goodIn_r _ [9, 4, 3, 10, 11, 12, 13, 14, 15, 16, 17, 18, 19, 20] (by decide +kernel) (by decide +kernel)
set_option maxRecDepth 20000 in
theorem gX4_withSide_X4_after : GoodIn wsX4_withSide (wsV RX4 89 RX4 yX4_after wsX4_after) := goodIn_app (goodIn_of _ (by decide +kernel)) ggX4_withSide_X4_after
theorem dX4_withSide_0 : decode cX4_withSide 0 = .ok (.iconst 0, 1) := by decide +kernel
theorem dX4_withSide_1 : decode cX4_withSide 1 = .ok (.istore_n 3, 1) := by decide +kernel
theorem dX4_withSide_2 : decode cX4_withSide 2 = .ok (.iload_n 3, 1) := by decide +kernel
theorem dX4_withSide_3 : decode cX4_withSide 3 = .ok (.aload_n 0, 1) := by decide +kernel
theorem dX4_withSide_4 : decode cX4_withSide 4 = .ok (.getfield 65, 3) := by decide +kernel
theorem dX4_withSide_7 : decode cX4_withSide 7 = .ok (.if_icmp .ge 69, 3) := by decide +kernel
theorem dX4_withSide_10 : decode cX4_withSide 10 = .ok (.aload_n 0, 1) := by decide +kernel
theorem dX4_withSide_11 : decode cX4_withSide 11 = .ok (.getfield 22, 3) := by decide +kernel
theorem dX4_withSide_14 : decode cX4_withSide 14 = .ok (.iload_n 3, 1) := by decide +kernel
theorem dX4_withSide_15 : decode cX4_withSide 15 = .ok (.iaload, 1) := by decide +kernel
theorem dX4_withSide_16 : decode cX4_withSide 16 = .ok (.istore 4, 2) := by decide +kernel
theorem dX4_withSide_18 : decode cX4_withSide 18 = .ok (.iconst 0, 1) := by decide +kernel
theorem dX4_withSide_19 : decode cX4_withSide 19 = .ok (.istore 5, 2) := by decide +kernel
theorem dX4_withSide_21 : decode cX4_withSide 21 = .ok (.iload 5, 2) := by decide +kernel
theorem dX4_withSide_23 : decode cX4_withSide 23 = .ok (.aload_n 0, 1) := by decide +kernel
theorem dX4_withSide_24 : decode cX4_withSide 24 = .ok (.getfield 16, 3) := by decide +kernel
theorem dX4_withSide_27 : decode cX4_withSide 27 = .ok (.iload 4, 2) := by decide +kernel
theorem dX4_withSide_29 : decode cX4_withSide 29 = .ok (.iaload, 1) := by decide +kernel
theorem dX4_withSide_30 : decode cX4_withSide 30 = .ok (.if_icmp .ge 40, 3) := by decide +kernel
theorem dX4_withSide_33 : decode cX4_withSide 33 = .ok (.aload_n 0, 1) := by decide +kernel
theorem dX4_withSide_34 : decode cX4_withSide 34 = .ok (.getfield 19, 3) := by decide +kernel
theorem dX4_withSide_37 : decode cX4_withSide 37 = .ok (.bipush 20, 2) := by decide +kernel
theorem dX4_withSide_39 : decode cX4_withSide 39 = .ok (.iload 4, 2) := by decide +kernel
theorem dX4_withSide_41 : decode cX4_withSide 41 = .ok (.imul, 1) := by decide +kernel
theorem dX4_withSide_42 : decode cX4_withSide 42 = .ok (.iload 5, 2) := by decide +kernel
theorem dX4_withSide_44 : decode cX4_withSide 44 = .ok (.iadd, 1) := by decide +kernel
theorem dX4_withSide_45 : decode cX4_withSide 45 = .ok (.iaload, 1) := by decide +kernel
theorem dX4_withSide_46 : decode cX4_withSide 46 = .ok (.iload_n 1, 1) := by decide +kernel
theorem dX4_withSide_47 : decode cX4_withSide 47 = .ok (.if_icmp .ne 17, 3) := by decide +kernel
theorem dX4_withSide_50 : decode cX4_withSide 50 = .ok (.aload_n 0, 1) := by decide +kernel
theorem dX4_withSide_51 : decode cX4_withSide 51 = .ok (.iload 4, 2) := by decide +kernel
theorem dX4_withSide_53 : decode cX4_withSide 53 = .ok (.iload 5, 2) := by decide +kernel
theorem dX4_withSide_55 : decode cX4_withSide 55 = .ok (.invokevirtual 89, 3) := by decide +kernel
theorem dX4_withSide_58 : decode cX4_withSide 58 = .ok (.iload_n 2, 1) := by decide +kernel
theorem dX4_withSide_59 : decode cX4_withSide 59 = .ok (.if_icmp .ne 5, 3) := by decide +kernel
theorem dX4_withSide_62 : decode cX4_withSide 62 = .ok (.iload_n 3, 1) := by decide +kernel
theorem dX4_withSide_63 : decode cX4_withSide 63 = .ok (.ireturn, 1) := by decide +kernel
theorem dX4_withSide_64 : decode cX4_withSide 64 = .ok (.iinc 5 1, 3) := by decide +kernel
theorem dX4_withSide_67 : decode cX4_withSide 67 = .ok (.goto (-46), 3) := by decide +kernel
theorem dX4_withSide_70 : decode cX4_withSide 70 = .ok (.iinc 3 1, 3) := by decide +kernel
theorem dX4_withSide_73 : decode cX4_withSide 73 = .ok (.goto (-71), 3) := by decide +kernel
theorem dX4_withSide_76 : decode cX4_withSide 76 = .ok (.iconst (-1), 1) := by decide +kernel
theorem dX4_withSide_77 : decode cX4_withSide 77 = .ok (.ireturn, 1) := by decide +kernel
set_option maxRecDepth 20000 in
theorem ggX4_onHull_X4_after : GoodIn wsX4_onHull wsX4_after := goodIn_r _ [8, 3, 2, 14, 15, 16, 17, 18, 19, 20, 21, 22, 23, 24] (by decide +kernel) (by decide +kernel)
set_option maxRecDepth 20000 in
theorem gX4_onHull_X4_after : GoodIn wsX4_onHull (wsV RX4 89 RX4 yX4_after wsX4_after) := goodIn_app (goodIn_of _ (by decide +kernel)) ggX4_onHull_X4_after
set_option maxRecDepth 20000 in
theorem ggX4_onHull_X4_withSide : GoodIn wsX4_onHull wsX4_withSide := goodIn_r _ [12, 1, 13, 2, 3, 4, 5, 6, 7, 8, 14, 15, 16, 17, 18, 19, 20, 21, 22, 23, 24] (by decide +kernel) (by decide +kernel)
set_option maxRecDepth 20000 in
theorem gX4_onHull_X4_withSide : GoodIn wsX4_onHull (wsV RX4 92 RX4 yX4_withSide wsX4_withSide) := goodIn_app (goodIn_of _ (by decide +kernel)) ggX4_onHull_X4_withSide
theorem dX4_onHull_0 : decode cX4_onHull 0 = .ok (.iconst 0, 1) := by decide +kernel
theorem dX4_onHull_1 : decode cX4_onHull 1 = .ok (.istore_n 2, 1) := by decide +kernel
theorem dX4_onHull_2 : decode cX4_onHull 2 = .ok (.iload_n 2, 1) := by decide +kernel
theorem dX4_onHull_3 : decode cX4_onHull 3 = .ok (.aload_n 0, 1) := by decide +kernel
theorem dX4_onHull_4 : decode cX4_onHull 4 = .ok (.getfield 65, 3) := by decide +kernel
theorem dX4_onHull_7 : decode cX4_onHull 7 = .ok (.if_icmp .ge 63, 3) := by decide +kernel
theorem dX4_onHull_10 : decode cX4_onHull 10 = .ok (.iconst 0, 1) := by decide +kernel
theorem dX4_onHull_11 : decode cX4_onHull 11 = .ok (.istore_n 3, 1) := by decide +kernel
theorem dX4_onHull_12 : decode cX4_onHull 12 = .ok (.iload_n 3, 1) := by decide +kernel
theorem dX4_onHull_13 : decode cX4_onHull 13 = .ok (.aload_n 0, 1) := by decide +kernel
theorem dX4_onHull_14 : decode cX4_onHull 14 = .ok (.getfield 16, 3) := by decide +kernel
theorem dX4_onHull_17 : decode cX4_onHull 17 = .ok (.iload_n 2, 1) := by decide +kernel
theorem dX4_onHull_18 : decode cX4_onHull 18 = .ok (.iaload, 1) := by decide +kernel
theorem dX4_onHull_19 : decode cX4_onHull 19 = .ok (.if_icmp .ge 45, 3) := by decide +kernel
theorem dX4_onHull_22 : decode cX4_onHull 22 = .ok (.aload_n 0, 1) := by decide +kernel
theorem dX4_onHull_23 : decode cX4_onHull 23 = .ok (.getfield 19, 3) := by decide +kernel
theorem dX4_onHull_26 : decode cX4_onHull 26 = .ok (.bipush 20, 2) := by decide +kernel
theorem dX4_onHull_28 : decode cX4_onHull 28 = .ok (.iload_n 2, 1) := by decide +kernel
theorem dX4_onHull_29 : decode cX4_onHull 29 = .ok (.imul, 1) := by decide +kernel
theorem dX4_onHull_30 : decode cX4_onHull 30 = .ok (.iload_n 3, 1) := by decide +kernel
theorem dX4_onHull_31 : decode cX4_onHull 31 = .ok (.iadd, 1) := by decide +kernel
theorem dX4_onHull_32 : decode cX4_onHull 32 = .ok (.iaload, 1) := by decide +kernel
theorem dX4_onHull_33 : decode cX4_onHull 33 = .ok (.iload_n 1, 1) := by decide +kernel
theorem dX4_onHull_34 : decode cX4_onHull 34 = .ok (.if_icmp .ne 24, 3) := by decide +kernel
theorem dX4_onHull_37 : decode cX4_onHull 37 = .ok (.aload_n 0, 1) := by decide +kernel
theorem dX4_onHull_38 : decode cX4_onHull 38 = .ok (.aload_n 0, 1) := by decide +kernel
theorem dX4_onHull_39 : decode cX4_onHull 39 = .ok (.iload_n 2, 1) := by decide +kernel
theorem dX4_onHull_40 : decode cX4_onHull 40 = .ok (.iload_n 3, 1) := by decide +kernel
theorem dX4_onHull_41 : decode cX4_onHull 41 = .ok (.invokevirtual 89, 3) := by decide +kernel
theorem dX4_onHull_44 : decode cX4_onHull 44 = .ok (.iload_n 1, 1) := by decide +kernel
theorem dX4_onHull_45 : decode cX4_onHull 45 = .ok (.invokevirtual 92, 3) := by decide +kernel
theorem dX4_onHull_48 : decode cX4_onHull 48 = .ok (.ifCond .ge 10, 3) := by decide +kernel
theorem dX4_onHull_51 : decode cX4_onHull 51 = .ok (.aload_n 0, 1) := by decide +kernel
theorem dX4_onHull_52 : decode cX4_onHull 52 = .ok (.iload_n 2, 1) := by decide +kernel
theorem dX4_onHull_53 : decode cX4_onHull 53 = .ok (.iload_n 3, 1) := by decide +kernel
theorem dX4_onHull_54 : decode cX4_onHull 54 = .ok (.invokevirtual 89, 3) := by decide +kernel
theorem dX4_onHull_57 : decode cX4_onHull 57 = .ok (.ireturn, 1) := by decide +kernel
theorem dX4_onHull_58 : decode cX4_onHull 58 = .ok (.iinc 3 1, 3) := by decide +kernel
theorem dX4_onHull_61 : decode cX4_onHull 61 = .ok (.goto (-49), 3) := by decide +kernel
theorem dX4_onHull_64 : decode cX4_onHull 64 = .ok (.iinc 2 1, 3) := by decide +kernel
theorem dX4_onHull_67 : decode cX4_onHull 67 = .ok (.goto (-65), 3) := by decide +kernel
theorem dX4_onHull_70 : decode cX4_onHull 70 = .ok (.iconst (-1), 1) := by decide +kernel
theorem dX4_onHull_71 : decode cX4_onHull 71 = .ok (.ireturn, 1) := by decide +kernel
set_option maxRecDepth 20000 in
theorem ggX4_surround_X4_onHull : GoodIn wsX4_surround wsX4_onHull := goodIn_r _ [9, 2, 10, 11, 12, 13, 14, 8, 15, 16, 17, 18, 19, 20, 21, 22, 23, 24, 25, 26, 27, 28, 29, 30, 31] (by decide +kernel) (by decide +kernel)
set_option maxRecDepth 20000 in
theorem gX4_surround_X4_onHull : GoodIn wsX4_surround (wsV RX4 95 RX4 yX4_onHull wsX4_onHull) := goodIn_app (goodIn_of _ (by decide +kernel)) ggX4_surround_X4_onHull
theorem dX4_surround_0 : decode cX4_surround 0 = .ok (.iconst 0, 1) := by decide +kernel
theorem dX4_surround_1 : decode cX4_surround 1 = .ok (.istore_n 1, 1) := by decide +kernel
theorem dX4_surround_2 : decode cX4_surround 2 = .ok (.iload_n 1, 1) := by decide +kernel
theorem dX4_surround_3 : decode cX4_surround 3 = .ok (.aload_n 0, 1) := by decide +kernel
theorem dX4_surround_4 : decode cX4_surround 4 = .ok (.getfield 32, 3) := by decide +kernel
theorem dX4_surround_7 : decode cX4_surround 7 = .ok (.if_icmp .ge 17, 3) := by decide +kernel
theorem dX4_surround_10 : decode cX4_surround 10 = .ok (.aload_n 0, 1) := by decide +kernel
theorem dX4_surround_11 : decode cX4_surround 11 = .ok (.iload_n 1, 1) := by decide +kernel
theorem dX4_surround_12 : decode cX4_surround 12 = .ok (.invokevirtual 95, 3) := by decide +kernel
theorem dX4_surround_15 : decode cX4_surround 15 = .ok (.ifCond .ge 9, 3) := by decide +kernel
theorem dX4_surround_18 : decode cX4_surround 18 = .ok (.iinc 1 1, 3) := by decide +kernel
theorem dX4_surround_21 : decode cX4_surround 21 = .ok (.goto (-19), 3) := by decide +kernel
theorem dX4_surround_24 : decode cX4_surround 24 = .ok (.aload_n 0, 1) := by decide +kernel
theorem dX4_surround_25 : decode cX4_surround 25 = .ok (.getfield 65, 3) := by decide +kernel
theorem dX4_surround_28 : decode cX4_surround 28 = .ok (.ifCond .ne 4, 3) := by decide +kernel
theorem dX4_surround_31 : decode cX4_surround 31 = .ok (.return_, 1) := by decide +kernel
theorem dX4_surround_32 : decode cX4_surround 32 = .ok (.iload_n 1, 1) := by decide +kernel
theorem dX4_surround_33 : decode cX4_surround 33 = .ok (.istore_n 2, 1) := by decide +kernel
theorem dX4_surround_34 : decode cX4_surround 34 = .ok (.aload_n 0, 1) := by decide +kernel
theorem dX4_surround_35 : decode cX4_surround 35 = .ok (.getfield 72, 3) := by decide +kernel
theorem dX4_surround_38 : decode cX4_surround 38 = .ok (.ifCond .eq 8, 3) := by decide +kernel
theorem dX4_surround_41 : decode cX4_surround 41 = .ok (.iload_n 2, 1) := by decide +kernel
theorem dX4_surround_42 : decode cX4_surround 42 = .ok (.iload_n 1, 1) := by decide +kernel
theorem dX4_surround_43 : decode cX4_surround 43 = .ok (.if_icmp .eq 32, 3) := by decide +kernel
theorem dX4_surround_46 : decode cX4_surround 46 = .ok (.aload_n 0, 1) := by decide +kernel
theorem dX4_surround_47 : decode cX4_surround 47 = .ok (.getfield 25, 3) := by decide +kernel
theorem dX4_surround_50 : decode cX4_surround 50 = .ok (.aload_n 0, 1) := by decide +kernel
theorem dX4_surround_51 : decode cX4_surround 51 = .ok (.getfield 72, 3) := by decide +kernel
theorem dX4_surround_54 : decode cX4_surround 54 = .ok (.iload_n 2, 1) := by decide +kernel
theorem dX4_surround_55 : decode cX4_surround 55 = .ok (.iastore, 1) := by decide +kernel
theorem dX4_surround_56 : decode cX4_surround 56 = .ok (.aload_n 0, 1) := by decide +kernel
theorem dX4_surround_57 : decode cX4_surround 57 = .ok (.dup, 1) := by decide +kernel
theorem dX4_surround_58 : decode cX4_surround 58 = .ok (.getfield 72, 3) := by decide +kernel
theorem dX4_surround_61 : decode cX4_surround 61 = .ok (.iconst 1, 1) := by decide +kernel
theorem dX4_surround_62 : decode cX4_surround 62 = .ok (.iadd, 1) := by decide +kernel
theorem dX4_surround_63 : decode cX4_surround 63 = .ok (.putfield 72, 3) := by decide +kernel
theorem dX4_surround_66 : decode cX4_surround 66 = .ok (.aload_n 0, 1) := by decide +kernel
theorem dX4_surround_67 : decode cX4_surround 67 = .ok (.iload_n 2, 1) := by decide +kernel
theorem dX4_surround_68 : decode cX4_surround 68 = .ok (.invokevirtual 95, 3) := by decide +kernel
theorem dX4_surround_71 : decode cX4_surround 71 = .ok (.istore_n 2, 1) := by decide +kernel
theorem dX4_surround_72 : decode cX4_surround 72 = .ok (.goto (-38), 3) := by decide +kernel
theorem dX4_surround_75 : decode cX4_surround 75 = .ok (.return_, 1) := by decide +kernel
set_option maxRecDepth 20000 in
theorem ggX4_cells_X4_make : GoodIn wsX4_cells wsX4_make := goodIn_r _ [7, 8, 2, 9, 10, 11, 12, 13, 14, 15, 16, 6, 17, 18, 19, 20, 21, 22, 23, 24, 25, 26, 27, 28, 29, 30, 31, 32, 33, 34, 35, 36, 37, 38, 39, 40, 41, 42, 43, 44, 45, 46, 47, 48, 49, 50, 51, 52, 53, 54, 55, 56, 57, 58, 59, 60, 61, 62, 63, 64, 65, 66, 67, 68, 69, 70, 71] (by decide +kernel) (by decide +kernel)
set_option maxRecDepth 20000 in
theorem gX4_cells_X4_make : GoodIn wsX4_cells (wsV RX4 99 RX4 yX4_make wsX4_make) := goodIn_app (goodIn_of _ (by decide +kernel)) ggX4_cells_X4_make
theorem dX4_cells_0 : decode cX4_cells 0 = .ok (.aload_n 0, 1) := by decide +kernel
theorem dX4_cells_1 : decode cX4_cells 1 = .ok (.iconst 0, 1) := by decide +kernel
theorem dX4_cells_2 : decode cX4_cells 2 = .ok (.putfield 28, 3) := by decide +kernel
theorem dX4_cells_5 : decode cX4_cells 5 = .ok (.aload_n 0, 1) := by decide +kernel
theorem dX4_cells_6 : decode cX4_cells 6 = .ok (.invokevirtual 99, 3) := by decide +kernel
theorem dX4_cells_9 : decode cX4_cells 9 = .ok (.aload_n 0, 1) := by decide +kernel
theorem dX4_cells_10 : decode cX4_cells 10 = .ok (.getfield 65, 3) := by decide +kernel
theorem dX4_cells_13 : decode cX4_cells 13 = .ok (.ireturn, 1) := by decide +kernel
set_option maxRecDepth 20000 in
theorem ggX4_cell_X4_make : GoodIn wsX4_cell wsX4_make := goodIn_r _ [9, 10, 1, 11, 12, 13, 14, 2, 15, 16, 17, 8, 18, 19, 20, 21, 22, 23, 24, 25, 26, 27, 28, 29, 30, 31, 32, 33, 34, 4, 3, 35, 36, 37, 38, 39, 40, 41, 42, 43, 44, 45, 46, 47, 48, 49, 50, 51, 52, 53, 54, 55, 56, 57, 58, 59, 68, 69, 70, 71, 72, 73, 74, 75, 76, 77, 78] (by decide +kernel) (by decide +kernel)
set_option maxRecDepth 20000 in
theorem gX4_cell_X4_make : GoodIn wsX4_cell (wsV RX4 99 RX4 yX4_make wsX4_make) := goodIn_app (goodIn_of _ (by decide +kernel)) ggX4_cell_X4_make
set_option maxRecDepth 20000 in
theorem ggX4_cell_X4_out : GoodIn wsX4_cell wsX4_out := goodIn_r _ [62] (by decide +kernel) (by decide +kernel)
set_option maxRecDepth 20000 in
theorem gX4_cell_X4_out : GoodIn wsX4_cell (va_wsS RX4 51 yX4_out wsX4_out) := goodIn_app (goodIn_of _ (by decide +kernel)) ggX4_cell_X4_out
set_option maxRecDepth 20000 in
theorem ggX4_cell_X4_throwing : GoodIn wsX4_cell wsX4_throwing := goodIn_r _ [66, 67, 68, 69, 70, 71, 72, 73, 74, 75, 76, 77, 78] (by decide +kernel) (by decide +kernel)
set_option maxRecDepth 20000 in
theorem gX4_cell_X4_throwing : GoodIn wsX4_cell (wsV RX4 43 RX4 yX4_throwing wsX4_throwing) := goodIn_app (goodIn_of _ (by decide +kernel)) ggX4_cell_X4_throwing
theorem dX4_cell_0 : decode cX4_cell 0 = .ok (.aload_n 0, 1) := by decide +kernel
theorem dX4_cell_1 : decode cX4_cell 1 = .ok (.invokevirtual 99, 3) := by decide +kernel
theorem dX4_cell_4 : decode cX4_cell 4 = .ok (.iload_n 1, 1) := by decide +kernel
theorem dX4_cell_5 : decode cX4_cell 5 = .ok (.aload_n 0, 1) := by decide +kernel
theorem dX4_cell_6 : decode cX4_cell 6 = .ok (.getfield 65, 3) := by decide +kernel
theorem dX4_cell_9 : decode cX4_cell 9 = .ok (.invokestatic 51, 3) := by decide +kernel
theorem dX4_cell_12 : decode cX4_cell 12 = .ok (.istore_n 3, 1) := by decide +kernel
theorem dX4_cell_13 : decode cX4_cell 13 = .ok (.iload_n 3, 1) := by decide +kernel
theorem dX4_cell_14 : decode cX4_cell 14 = .ok (.ifCond .eq 7, 3) := by decide +kernel
theorem dX4_cell_17 : decode cX4_cell 17 = .ok (.iconst 0, 1) := by decide +kernel
theorem dX4_cell_18 : decode cX4_cell 18 = .ok (.goto 9, 3) := by decide +kernel
theorem dX4_cell_21 : decode cX4_cell 21 = .ok (.aload_n 0, 1) := by decide +kernel
theorem dX4_cell_22 : decode cX4_cell 22 = .ok (.getfield 22, 3) := by decide +kernel
theorem dX4_cell_25 : decode cX4_cell 25 = .ok (.iload_n 1, 1) := by decide +kernel
theorem dX4_cell_26 : decode cX4_cell 26 = .ok (.iaload, 1) := by decide +kernel
theorem dX4_cell_27 : decode cX4_cell 27 = .ok (.istore 4, 2) := by decide +kernel
theorem dX4_cell_29 : decode cX4_cell 29 = .ok (.aload_n 0, 1) := by decide +kernel
theorem dX4_cell_30 : decode cX4_cell 30 = .ok (.iload_n 3, 1) := by decide +kernel
theorem dX4_cell_31 : decode cX4_cell 31 = .ok (.iload_n 2, 1) := by decide +kernel
theorem dX4_cell_32 : decode cX4_cell 32 = .ok (.iconst (-1), 1) := by decide +kernel
theorem dX4_cell_33 : decode cX4_cell 33 = .ok (.if_icmp .lt 14, 3) := by decide +kernel
theorem dX4_cell_36 : decode cX4_cell 36 = .ok (.iload_n 2, 1) := by decide +kernel
theorem dX4_cell_37 : decode cX4_cell 37 = .ok (.aload_n 0, 1) := by decide +kernel
theorem dX4_cell_38 : decode cX4_cell 38 = .ok (.getfield 16, 3) := by decide +kernel
theorem dX4_cell_41 : decode cX4_cell 41 = .ok (.iload 4, 2) := by decide +kernel
theorem dX4_cell_43 : decode cX4_cell 43 = .ok (.iaload, 1) := by decide +kernel
theorem dX4_cell_44 : decode cX4_cell 44 = .ok (.if_icmp .lt 7, 3) := by decide +kernel
theorem dX4_cell_47 : decode cX4_cell 47 = .ok (.iconst 1, 1) := by decide +kernel
theorem dX4_cell_48 : decode cX4_cell 48 = .ok (.goto 4, 3) := by decide +kernel
theorem dX4_cell_51 : decode cX4_cell 51 = .ok (.iconst 0, 1) := by decide +kernel
theorem dX4_cell_52 : decode cX4_cell 52 = .ok (.invokevirtual 43, 3) := by decide +kernel
theorem dX4_cell_55 : decode cX4_cell 55 = .ok (.ifCond .eq 5, 3) := by decide +kernel
theorem dX4_cell_58 : decode cX4_cell 58 = .ok (.iconst 0, 1) := by decide +kernel
theorem dX4_cell_59 : decode cX4_cell 59 = .ok (.ireturn, 1) := by decide +kernel
theorem dX4_cell_60 : decode cX4_cell 60 = .ok (.iload_n 2, 1) := by decide +kernel
theorem dX4_cell_61 : decode cX4_cell 61 = .ok (.ifCond .ge 13, 3) := by decide +kernel
theorem dX4_cell_64 : decode cX4_cell 64 = .ok (.aload_n 0, 1) := by decide +kernel
theorem dX4_cell_65 : decode cX4_cell 65 = .ok (.getfield 16, 3) := by decide +kernel
theorem dX4_cell_68 : decode cX4_cell 68 = .ok (.iload 4, 2) := by decide +kernel
theorem dX4_cell_70 : decode cX4_cell 70 = .ok (.iaload, 1) := by decide +kernel
theorem dX4_cell_71 : decode cX4_cell 71 = .ok (.goto 15, 3) := by decide +kernel
theorem dX4_cell_74 : decode cX4_cell 74 = .ok (.aload_n 0, 1) := by decide +kernel
theorem dX4_cell_75 : decode cX4_cell 75 = .ok (.getfield 19, 3) := by decide +kernel
theorem dX4_cell_78 : decode cX4_cell 78 = .ok (.bipush 20, 2) := by decide +kernel
theorem dX4_cell_80 : decode cX4_cell 80 = .ok (.iload 4, 2) := by decide +kernel
theorem dX4_cell_82 : decode cX4_cell 82 = .ok (.imul, 1) := by decide +kernel
theorem dX4_cell_83 : decode cX4_cell 83 = .ok (.iload_n 2, 1) := by decide +kernel
theorem dX4_cell_84 : decode cX4_cell 84 = .ok (.iadd, 1) := by decide +kernel
theorem dX4_cell_85 : decode cX4_cell 85 = .ok (.iaload, 1) := by decide +kernel
theorem dX4_cell_86 : decode cX4_cell 86 = .ok (.ireturn, 1) := by decide +kernel
set_option maxRecDepth 20000 in
theorem ggX4_beside_X4_make : GoodIn wsX4_beside wsX4_make := goodIn_r _ [9, 10, 1, 11, 12, 13, 14, 2, 15, 16, 17, 8, 18, 19, 20, 21, 22, 23, 24, 25, 26, 27, 28, 29, 30, 31, 32, 33, 34, 4, 3, 35, 36, 37, 38, 39, 40, 41, 42, 43, 44, 45, 46, 47, 48, 49, 50, 51, 52, 53, 54, 55, 56, 57, 58, 59, 68, 69, 70, 71, 72, 73, 74, 75, 76, 77, 78] (by decide +kernel) (by decide +kernel)
set_option maxRecDepth 20000 in
theorem gX4_beside_X4_make : GoodIn wsX4_beside (wsV RX4 99 RX4 yX4_make wsX4_make) := goodIn_app (goodIn_of _ (by decide +kernel)) ggX4_beside_X4_make
set_option maxRecDepth 20000 in
theorem ggX4_beside_X4_out : GoodIn wsX4_beside wsX4_out := goodIn_r _ [62] (by decide +kernel) (by decide +kernel)
set_option maxRecDepth 20000 in
theorem gX4_beside_X4_out : GoodIn wsX4_beside (va_wsS RX4 51 yX4_out wsX4_out) := goodIn_app (goodIn_of _ (by decide +kernel)) ggX4_beside_X4_out
set_option maxRecDepth 20000 in
theorem ggX4_beside_X4_throwing : GoodIn wsX4_beside wsX4_throwing := goodIn_r _ [66, 67, 68, 69, 70, 71, 72, 73, 74, 75, 76, 77, 78] (by decide +kernel) (by decide +kernel)
set_option maxRecDepth 20000 in
theorem gX4_beside_X4_throwing : GoodIn wsX4_beside (wsV RX4 43 RX4 yX4_throwing wsX4_throwing) := goodIn_app (goodIn_of _ (by decide +kernel)) ggX4_beside_X4_throwing
set_option maxRecDepth 20000 in
theorem ggX4_beside_X4_after : GoodIn wsX4_beside wsX4_after := goodIn_r _ [55, 4, 3, 68, 69, 70, 71, 72, 73, 74, 75, 76, 77, 78] (by decide +kernel) (by decide +kernel)
set_option maxRecDepth 20000 in
theorem gX4_beside_X4_after : GoodIn wsX4_beside (wsV RX4 89 RX4 yX4_after wsX4_after) := goodIn_app (goodIn_of _ (by decide +kernel)) ggX4_beside_X4_after
set_option maxRecDepth 20000 in
theorem ggX4_beside_X4_withSide : GoodIn wsX4_beside wsX4_withSide := goodIn_r _ [59, 1, 2, 3, 4, 52, 53, 54, 8, 55, 68, 69, 70, 71, 72, 73, 74, 75, 76, 77, 78] (by decide +kernel) (by decide +kernel)
set_option maxRecDepth 20000 in
theorem gX4_beside_X4_withSide : GoodIn wsX4_beside (wsV RX4 92 RX4 yX4_withSide wsX4_withSide) := goodIn_app (goodIn_of _ (by decide +kernel)) ggX4_beside_X4_withSide
theorem dX4_beside_0 : decode cX4_beside 0 = .ok (.aload_n 0, 1) := by decide +kernel
theorem dX4_beside_1 : decode cX4_beside 1 = .ok (.invokevirtual 99, 3) := by decide +kernel
theorem dX4_beside_4 : decode cX4_beside 4 = .ok (.iload_n 1, 1) := by decide +kernel
theorem dX4_beside_5 : decode cX4_beside 5 = .ok (.aload_n 0, 1) := by decide +kernel
theorem dX4_beside_6 : decode cX4_beside 6 = .ok (.getfield 65, 3) := by decide +kernel
theorem dX4_beside_9 : decode cX4_beside 9 = .ok (.invokestatic 51, 3) := by decide +kernel
theorem dX4_beside_12 : decode cX4_beside 12 = .ok (.istore_n 3, 1) := by decide +kernel
theorem dX4_beside_13 : decode cX4_beside 13 = .ok (.iload_n 3, 1) := by decide +kernel
theorem dX4_beside_14 : decode cX4_beside 14 = .ok (.ifCond .eq 7, 3) := by decide +kernel
theorem dX4_beside_17 : decode cX4_beside 17 = .ok (.iconst 0, 1) := by decide +kernel
theorem dX4_beside_18 : decode cX4_beside 18 = .ok (.goto 9, 3) := by decide +kernel
theorem dX4_beside_21 : decode cX4_beside 21 = .ok (.aload_n 0, 1) := by decide +kernel
theorem dX4_beside_22 : decode cX4_beside 22 = .ok (.getfield 22, 3) := by decide +kernel
theorem dX4_beside_25 : decode cX4_beside 25 = .ok (.iload_n 1, 1) := by decide +kernel
theorem dX4_beside_26 : decode cX4_beside 26 = .ok (.iaload, 1) := by decide +kernel
theorem dX4_beside_27 : decode cX4_beside 27 = .ok (.istore 4, 2) := by decide +kernel
theorem dX4_beside_29 : decode cX4_beside 29 = .ok (.aload_n 0, 1) := by decide +kernel
theorem dX4_beside_30 : decode cX4_beside 30 = .ok (.iload_n 3, 1) := by decide +kernel
theorem dX4_beside_31 : decode cX4_beside 31 = .ok (.iload_n 2, 1) := by decide +kernel
theorem dX4_beside_32 : decode cX4_beside 32 = .ok (.aload_n 0, 1) := by decide +kernel
theorem dX4_beside_33 : decode cX4_beside 33 = .ok (.getfield 16, 3) := by decide +kernel
theorem dX4_beside_36 : decode cX4_beside 36 = .ok (.iload 4, 2) := by decide +kernel
theorem dX4_beside_38 : decode cX4_beside 38 = .ok (.iaload, 1) := by decide +kernel
theorem dX4_beside_39 : decode cX4_beside 39 = .ok (.invokestatic 51, 3) := by decide +kernel
theorem dX4_beside_42 : decode cX4_beside 42 = .ok (.invokevirtual 43, 3) := by decide +kernel
theorem dX4_beside_45 : decode cX4_beside 45 = .ok (.ifCond .eq 5, 3) := by decide +kernel
theorem dX4_beside_48 : decode cX4_beside 48 = .ok (.iconst 0, 1) := by decide +kernel
theorem dX4_beside_49 : decode cX4_beside 49 = .ok (.ireturn, 1) := by decide +kernel
theorem dX4_beside_50 : decode cX4_beside 50 = .ok (.aload_n 0, 1) := by decide +kernel
theorem dX4_beside_51 : decode cX4_beside 51 = .ok (.aload_n 0, 1) := by decide +kernel
theorem dX4_beside_52 : decode cX4_beside 52 = .ok (.iload 4, 2) := by decide +kernel
theorem dX4_beside_54 : decode cX4_beside 54 = .ok (.iload_n 2, 1) := by decide +kernel
theorem dX4_beside_55 : decode cX4_beside 55 = .ok (.invokevirtual 89, 3) := by decide +kernel
theorem dX4_beside_58 : decode cX4_beside 58 = .ok (.aload_n 0, 1) := by decide +kernel
theorem dX4_beside_59 : decode cX4_beside 59 = .ok (.getfield 19, 3) := by decide +kernel
theorem dX4_beside_62 : decode cX4_beside 62 = .ok (.bipush 20, 2) := by decide +kernel
theorem dX4_beside_64 : decode cX4_beside 64 = .ok (.iload 4, 2) := by decide +kernel
theorem dX4_beside_66 : decode cX4_beside 66 = .ok (.imul, 1) := by decide +kernel
theorem dX4_beside_67 : decode cX4_beside 67 = .ok (.iload_n 2, 1) := by decide +kernel
theorem dX4_beside_68 : decode cX4_beside 68 = .ok (.iadd, 1) := by decide +kernel
theorem dX4_beside_69 : decode cX4_beside 69 = .ok (.iaload, 1) := by decide +kernel
theorem dX4_beside_70 : decode cX4_beside 70 = .ok (.invokevirtual 92, 3) := by decide +kernel
theorem dX4_beside_73 : decode cX4_beside 73 = .ok (.ireturn, 1) := by decide +kernel
theorem dX4_divisor_0 : decode cX4_divisor 0 = .ok (.lload_n 0, 1) := by decide +kernel
theorem dX4_divisor_1 : decode cX4_divisor 1 = .ok (.lconst 0, 1) := by decide +kernel
theorem dX4_divisor_2 : decode cX4_divisor 2 = .ok (.lcmp, 1) := by decide +kernel
theorem dX4_divisor_3 : decode cX4_divisor 3 = .ok (.ifCond .ge 8, 3) := by decide +kernel
theorem dX4_divisor_6 : decode cX4_divisor 6 = .ok (.lload_n 0, 1) := by decide +kernel
theorem dX4_divisor_7 : decode cX4_divisor 7 = .ok (.lneg, 1) := by decide +kernel
theorem dX4_divisor_8 : decode cX4_divisor 8 = .ok (.goto 4, 3) := by decide +kernel
theorem dX4_divisor_11 : decode cX4_divisor 11 = .ok (.lload_n 0, 1) := by decide +kernel
theorem dX4_divisor_12 : decode cX4_divisor 12 = .ok (.lstore 4, 2) := by decide +kernel
theorem dX4_divisor_14 : decode cX4_divisor 14 = .ok (.lload_n 2, 1) := by decide +kernel
theorem dX4_divisor_15 : decode cX4_divisor 15 = .ok (.lconst 0, 1) := by decide +kernel
theorem dX4_divisor_16 : decode cX4_divisor 16 = .ok (.lcmp, 1) := by decide +kernel
theorem dX4_divisor_17 : decode cX4_divisor 17 = .ok (.ifCond .ge 8, 3) := by decide +kernel
theorem dX4_divisor_20 : decode cX4_divisor 20 = .ok (.lload_n 2, 1) := by decide +kernel
theorem dX4_divisor_21 : decode cX4_divisor 21 = .ok (.lneg, 1) := by decide +kernel
theorem dX4_divisor_22 : decode cX4_divisor 22 = .ok (.goto 4, 3) := by decide +kernel
theorem dX4_divisor_25 : decode cX4_divisor 25 = .ok (.lload_n 2, 1) := by decide +kernel
theorem dX4_divisor_26 : decode cX4_divisor 26 = .ok (.lstore 6, 2) := by decide +kernel
theorem dX4_divisor_28 : decode cX4_divisor 28 = .ok (.lload 4, 2) := by decide +kernel
theorem dX4_divisor_30 : decode cX4_divisor 30 = .ok (.lconst 0, 1) := by decide +kernel
theorem dX4_divisor_31 : decode cX4_divisor 31 = .ok (.lcmp, 1) := by decide +kernel
theorem dX4_divisor_32 : decode cX4_divisor 32 = .ok (.ifCond .le 38, 3) := by decide +kernel
theorem dX4_divisor_35 : decode cX4_divisor 35 = .ok (.lload 6, 2) := by decide +kernel
theorem dX4_divisor_37 : decode cX4_divisor 37 = .ok (.lconst 0, 1) := by decide +kernel
theorem dX4_divisor_38 : decode cX4_divisor 38 = .ok (.lcmp, 1) := by decide +kernel
theorem dX4_divisor_39 : decode cX4_divisor 39 = .ok (.ifCond .le 31, 3) := by decide +kernel
theorem dX4_divisor_42 : decode cX4_divisor 42 = .ok (.lload 4, 2) := by decide +kernel
theorem dX4_divisor_44 : decode cX4_divisor 44 = .ok (.lload 6, 2) := by decide +kernel
theorem dX4_divisor_46 : decode cX4_divisor 46 = .ok (.lcmp, 1) := by decide +kernel
theorem dX4_divisor_47 : decode cX4_divisor 47 = .ok (.ifCond .le 13, 3) := by decide +kernel
theorem dX4_divisor_50 : decode cX4_divisor 50 = .ok (.lload 4, 2) := by decide +kernel
theorem dX4_divisor_52 : decode cX4_divisor 52 = .ok (.lload 6, 2) := by decide +kernel
theorem dX4_divisor_54 : decode cX4_divisor 54 = .ok (.lrem, 1) := by decide +kernel
theorem dX4_divisor_55 : decode cX4_divisor 55 = .ok (.lstore 4, 2) := by decide +kernel
theorem dX4_divisor_57 : decode cX4_divisor 57 = .ok (.goto (-29), 3) := by decide +kernel
theorem dX4_divisor_60 : decode cX4_divisor 60 = .ok (.lload 6, 2) := by decide +kernel
theorem dX4_divisor_62 : decode cX4_divisor 62 = .ok (.lload 4, 2) := by decide +kernel
theorem dX4_divisor_64 : decode cX4_divisor 64 = .ok (.lrem, 1) := by decide +kernel
theorem dX4_divisor_65 : decode cX4_divisor 65 = .ok (.lstore 6, 2) := by decide +kernel
theorem dX4_divisor_67 : decode cX4_divisor 67 = .ok (.goto (-39), 3) := by decide +kernel
theorem dX4_divisor_70 : decode cX4_divisor 70 = .ok (.lload 4, 2) := by decide +kernel
theorem dX4_divisor_72 : decode cX4_divisor 72 = .ok (.lload 6, 2) := by decide +kernel
theorem dX4_divisor_74 : decode cX4_divisor 74 = .ok (.ladd, 1) := by decide +kernel
theorem dX4_divisor_75 : decode cX4_divisor 75 = .ok (.lreturn, 1) := by decide +kernel
set_option maxRecDepth 20000 in
theorem ggX4_centre_X4_make : GoodIn wsX4_centre wsX4_make := goodIn_r _ [12, 13, 1, 14, 15, 5, 6, 3, 16, 17, 18, 11, 19, 20, 21, 22, 23, 24, 25, 26, 27, 28, 29, 30, 31, 32, 33, 34, 35, 4, 36, 37, 38, 39, 40, 41, 42, 43, 44, 45, 46, 47, 48, 49, 50, 51, 52, 53, 54, 55, 56, 57, 58, 59, 60, 61, 68, 69, 70, 71, 72, 73, 74, 75, 76, 77, 78] (by decide +kernel) (by decide +kernel)
set_option maxRecDepth 20000 in
theorem gX4_centre_X4_make : GoodIn wsX4_centre (wsV RX4 99 RX4 yX4_make wsX4_make) := goodIn_app (goodIn_of _ (by decide +kernel)) ggX4_centre_X4_make
set_option maxRecDepth 20000 in
theorem ggX4_centre_X4_out : GoodIn wsX4_centre wsX4_out := goodIn_r _ [64] (by decide +kernel) (by decide +kernel)
set_option maxRecDepth 20000 in
theorem gX4_centre_X4_out : GoodIn wsX4_centre (va_wsS RX4 51 yX4_out wsX4_out) := goodIn_app (goodIn_of _ (by decide +kernel)) ggX4_centre_X4_out
set_option maxRecDepth 20000 in
theorem ggX4_centre_X4_divisor : GoodIn wsX4_centre wsX4_divisor := goodIn_r _ [67] (by decide +kernel) (by decide +kernel)
set_option maxRecDepth 20000 in
theorem gX4_centre_X4_divisor : GoodIn wsX4_centre (va_wsS RX4 104 yX4_divisor wsX4_divisor) := goodIn_app (goodIn_of _ (by decide +kernel)) ggX4_centre_X4_divisor
theorem dX4_centre_0 : decode cX4_centre 0 = .ok (.aload_n 0, 1) := by decide +kernel
theorem dX4_centre_1 : decode cX4_centre 1 = .ok (.invokevirtual 99, 3) := by decide +kernel
theorem dX4_centre_4 : decode cX4_centre 4 = .ok (.iload_n 2, 1) := by decide +kernel
theorem dX4_centre_5 : decode cX4_centre 5 = .ok (.iconst 3, 1) := by decide +kernel
theorem dX4_centre_6 : decode cX4_centre 6 = .ok (.invokestatic 51, 3) := by decide +kernel
theorem dX4_centre_9 : decode cX4_centre 9 = .ok (.istore_n 3, 1) := by decide +kernel
theorem dX4_centre_10 : decode cX4_centre 10 = .ok (.aload_n 0, 1) := by decide +kernel
theorem dX4_centre_11 : decode cX4_centre 11 = .ok (.iload_n 3, 1) := by decide +kernel
theorem dX4_centre_12 : decode cX4_centre 12 = .ok (.ifCond .eq 7, 3) := by decide +kernel
theorem dX4_centre_15 : decode cX4_centre 15 = .ok (.iconst 2, 1) := by decide +kernel
theorem dX4_centre_16 : decode cX4_centre 16 = .ok (.goto 19, 3) := by decide +kernel
theorem dX4_centre_19 : decode cX4_centre 19 = .ok (.iload_n 1, 1) := by decide +kernel
theorem dX4_centre_20 : decode cX4_centre 20 = .ok (.aload_n 0, 1) := by decide +kernel
theorem dX4_centre_21 : decode cX4_centre 21 = .ok (.getfield 65, 3) := by decide +kernel
theorem dX4_centre_24 : decode cX4_centre 24 = .ok (.invokestatic 51, 3) := by decide +kernel
theorem dX4_centre_27 : decode cX4_centre 27 = .ok (.ifCond .eq 7, 3) := by decide +kernel
theorem dX4_centre_30 : decode cX4_centre 30 = .ok (.iconst 1, 1) := by decide +kernel
theorem dX4_centre_31 : decode cX4_centre 31 = .ok (.goto 4, 3) := by decide +kernel
theorem dX4_centre_34 : decode cX4_centre 34 = .ok (.iconst 0, 1) := by decide +kernel
theorem dX4_centre_35 : decode cX4_centre 35 = .ok (.putfield 28, 3) := by decide +kernel
theorem dX4_centre_38 : decode cX4_centre 38 = .ok (.aload_n 0, 1) := by decide +kernel
theorem dX4_centre_39 : decode cX4_centre 39 = .ok (.getfield 28, 3) := by decide +kernel
theorem dX4_centre_42 : decode cX4_centre 42 = .ok (.ifCond .le 5, 3) := by decide +kernel
theorem dX4_centre_45 : decode cX4_centre 45 = .ok (.lconst 0, 1) := by decide +kernel
theorem dX4_centre_46 : decode cX4_centre 46 = .ok (.lreturn, 1) := by decide +kernel
theorem dX4_centre_47 : decode cX4_centre 47 = .ok (.aload_n 0, 1) := by decide +kernel
theorem dX4_centre_48 : decode cX4_centre 48 = .ok (.getfield 22, 3) := by decide +kernel
theorem dX4_centre_51 : decode cX4_centre 51 = .ok (.iload_n 1, 1) := by decide +kernel
theorem dX4_centre_52 : decode cX4_centre 52 = .ok (.iaload, 1) := by decide +kernel
theorem dX4_centre_53 : decode cX4_centre 53 = .ok (.istore 4, 2) := by decide +kernel
theorem dX4_centre_55 : decode cX4_centre 55 = .ok (.aload_n 0, 1) := by decide +kernel
theorem dX4_centre_56 : decode cX4_centre 56 = .ok (.getfield 19, 3) := by decide +kernel
theorem dX4_centre_59 : decode cX4_centre 59 = .ok (.bipush 20, 2) := by decide +kernel
theorem dX4_centre_61 : decode cX4_centre 61 = .ok (.iload 4, 2) := by decide +kernel
theorem dX4_centre_63 : decode cX4_centre 63 = .ok (.imul, 1) := by decide +kernel
theorem dX4_centre_64 : decode cX4_centre 64 = .ok (.iaload, 1) := by decide +kernel
theorem dX4_centre_65 : decode cX4_centre 65 = .ok (.istore 5, 2) := by decide +kernel
theorem dX4_centre_67 : decode cX4_centre 67 = .ok (.aload_n 0, 1) := by decide +kernel
theorem dX4_centre_68 : decode cX4_centre 68 = .ok (.getfield 19, 3) := by decide +kernel
theorem dX4_centre_71 : decode cX4_centre 71 = .ok (.bipush 20, 2) := by decide +kernel
theorem dX4_centre_73 : decode cX4_centre 73 = .ok (.iload 4, 2) := by decide +kernel
theorem dX4_centre_75 : decode cX4_centre 75 = .ok (.imul, 1) := by decide +kernel
theorem dX4_centre_76 : decode cX4_centre 76 = .ok (.iconst 1, 1) := by decide +kernel
theorem dX4_centre_77 : decode cX4_centre 77 = .ok (.iadd, 1) := by decide +kernel
theorem dX4_centre_78 : decode cX4_centre 78 = .ok (.iaload, 1) := by decide +kernel
theorem dX4_centre_79 : decode cX4_centre 79 = .ok (.istore 6, 2) := by decide +kernel
theorem dX4_centre_81 : decode cX4_centre 81 = .ok (.aload_n 0, 1) := by decide +kernel
theorem dX4_centre_82 : decode cX4_centre 82 = .ok (.getfield 19, 3) := by decide +kernel
theorem dX4_centre_85 : decode cX4_centre 85 = .ok (.bipush 20, 2) := by decide +kernel
theorem dX4_centre_87 : decode cX4_centre 87 = .ok (.iload 4, 2) := by decide +kernel
theorem dX4_centre_89 : decode cX4_centre 89 = .ok (.imul, 1) := by decide +kernel
theorem dX4_centre_90 : decode cX4_centre 90 = .ok (.iconst 2, 1) := by decide +kernel
theorem dX4_centre_91 : decode cX4_centre 91 = .ok (.iadd, 1) := by decide +kernel
theorem dX4_centre_92 : decode cX4_centre 92 = .ok (.iaload, 1) := by decide +kernel
theorem dX4_centre_93 : decode cX4_centre 93 = .ok (.istore 7, 2) := by decide +kernel
theorem dX4_centre_95 : decode cX4_centre 95 = .ok (.aload_n 0, 1) := by decide +kernel
theorem dX4_centre_96 : decode cX4_centre 96 = .ok (.getfield 7, 3) := by decide +kernel
theorem dX4_centre_99 : decode cX4_centre 99 = .ok (.iload 5, 2) := by decide +kernel
theorem dX4_centre_101 : decode cX4_centre 101 = .ok (.iaload, 1) := by decide +kernel
theorem dX4_centre_102 : decode cX4_centre 102 = .ok (.i2l, 1) := by decide +kernel
theorem dX4_centre_103 : decode cX4_centre 103 = .ok (.aload_n 0, 1) := by decide +kernel
theorem dX4_centre_104 : decode cX4_centre 104 = .ok (.getfield 7, 3) := by decide +kernel
theorem dX4_centre_107 : decode cX4_centre 107 = .ok (.iload 5, 2) := by decide +kernel
theorem dX4_centre_109 : decode cX4_centre 109 = .ok (.iaload, 1) := by decide +kernel
theorem dX4_centre_110 : decode cX4_centre 110 = .ok (.i2l, 1) := by decide +kernel
theorem dX4_centre_111 : decode cX4_centre 111 = .ok (.lmul, 1) := by decide +kernel
theorem dX4_centre_112 : decode cX4_centre 112 = .ok (.aload_n 0, 1) := by decide +kernel
theorem dX4_centre_113 : decode cX4_centre 113 = .ok (.getfield 13, 3) := by decide +kernel
theorem dX4_centre_116 : decode cX4_centre 116 = .ok (.iload 5, 2) := by decide +kernel
theorem dX4_centre_118 : decode cX4_centre 118 = .ok (.iaload, 1) := by decide +kernel
theorem dX4_centre_119 : decode cX4_centre 119 = .ok (.i2l, 1) := by decide +kernel
theorem dX4_centre_120 : decode cX4_centre 120 = .ok (.aload_n 0, 1) := by decide +kernel
theorem dX4_centre_121 : decode cX4_centre 121 = .ok (.getfield 13, 3) := by decide +kernel
theorem dX4_centre_124 : decode cX4_centre 124 = .ok (.iload 5, 2) := by decide +kernel
theorem dX4_centre_126 : decode cX4_centre 126 = .ok (.iaload, 1) := by decide +kernel
theorem dX4_centre_127 : decode cX4_centre 127 = .ok (.i2l, 1) := by decide +kernel
theorem dX4_centre_128 : decode cX4_centre 128 = .ok (.lmul, 1) := by decide +kernel
theorem dX4_centre_129 : decode cX4_centre 129 = .ok (.ladd, 1) := by decide +kernel
theorem dX4_centre_130 : decode cX4_centre 130 = .ok (.lstore 8, 2) := by decide +kernel
theorem dX4_centre_132 : decode cX4_centre 132 = .ok (.aload_n 0, 1) := by decide +kernel
theorem dX4_centre_133 : decode cX4_centre 133 = .ok (.getfield 7, 3) := by decide +kernel
theorem dX4_centre_136 : decode cX4_centre 136 = .ok (.iload 6, 2) := by decide +kernel
theorem dX4_centre_138 : decode cX4_centre 138 = .ok (.iaload, 1) := by decide +kernel
theorem dX4_centre_139 : decode cX4_centre 139 = .ok (.i2l, 1) := by decide +kernel
theorem dX4_centre_140 : decode cX4_centre 140 = .ok (.aload_n 0, 1) := by decide +kernel
theorem dX4_centre_141 : decode cX4_centre 141 = .ok (.getfield 7, 3) := by decide +kernel
theorem dX4_centre_144 : decode cX4_centre 144 = .ok (.iload 6, 2) := by decide +kernel
theorem dX4_centre_146 : decode cX4_centre 146 = .ok (.iaload, 1) := by decide +kernel
theorem dX4_centre_147 : decode cX4_centre 147 = .ok (.i2l, 1) := by decide +kernel
theorem dX4_centre_148 : decode cX4_centre 148 = .ok (.lmul, 1) := by decide +kernel
theorem dX4_centre_149 : decode cX4_centre 149 = .ok (.aload_n 0, 1) := by decide +kernel
theorem dX4_centre_150 : decode cX4_centre 150 = .ok (.getfield 13, 3) := by decide +kernel
theorem dX4_centre_153 : decode cX4_centre 153 = .ok (.iload 6, 2) := by decide +kernel
theorem dX4_centre_155 : decode cX4_centre 155 = .ok (.iaload, 1) := by decide +kernel
theorem dX4_centre_156 : decode cX4_centre 156 = .ok (.i2l, 1) := by decide +kernel
theorem dX4_centre_157 : decode cX4_centre 157 = .ok (.aload_n 0, 1) := by decide +kernel
theorem dX4_centre_158 : decode cX4_centre 158 = .ok (.getfield 13, 3) := by decide +kernel
theorem dX4_centre_161 : decode cX4_centre 161 = .ok (.iload 6, 2) := by decide +kernel
theorem dX4_centre_163 : decode cX4_centre 163 = .ok (.iaload, 1) := by decide +kernel
theorem dX4_centre_164 : decode cX4_centre 164 = .ok (.i2l, 1) := by decide +kernel
theorem dX4_centre_165 : decode cX4_centre 165 = .ok (.lmul, 1) := by decide +kernel
theorem dX4_centre_166 : decode cX4_centre 166 = .ok (.ladd, 1) := by decide +kernel
theorem dX4_centre_167 : decode cX4_centre 167 = .ok (.lstore 10, 2) := by decide +kernel
theorem dX4_centre_169 : decode cX4_centre 169 = .ok (.aload_n 0, 1) := by decide +kernel
theorem dX4_centre_170 : decode cX4_centre 170 = .ok (.getfield 7, 3) := by decide +kernel
theorem dX4_centre_173 : decode cX4_centre 173 = .ok (.iload 7, 2) := by decide +kernel
theorem dX4_centre_175 : decode cX4_centre 175 = .ok (.iaload, 1) := by decide +kernel
theorem dX4_centre_176 : decode cX4_centre 176 = .ok (.i2l, 1) := by decide +kernel
theorem dX4_centre_177 : decode cX4_centre 177 = .ok (.aload_n 0, 1) := by decide +kernel
theorem dX4_centre_178 : decode cX4_centre 178 = .ok (.getfield 7, 3) := by decide +kernel
theorem dX4_centre_181 : decode cX4_centre 181 = .ok (.iload 7, 2) := by decide +kernel
theorem dX4_centre_183 : decode cX4_centre 183 = .ok (.iaload, 1) := by decide +kernel
theorem dX4_centre_184 : decode cX4_centre 184 = .ok (.i2l, 1) := by decide +kernel
theorem dX4_centre_185 : decode cX4_centre 185 = .ok (.lmul, 1) := by decide +kernel
theorem dX4_centre_186 : decode cX4_centre 186 = .ok (.aload_n 0, 1) := by decide +kernel
theorem dX4_centre_187 : decode cX4_centre 187 = .ok (.getfield 13, 3) := by decide +kernel
theorem dX4_centre_190 : decode cX4_centre 190 = .ok (.iload 7, 2) := by decide +kernel
theorem dX4_centre_192 : decode cX4_centre 192 = .ok (.iaload, 1) := by decide +kernel
theorem dX4_centre_193 : decode cX4_centre 193 = .ok (.i2l, 1) := by decide +kernel
theorem dX4_centre_194 : decode cX4_centre 194 = .ok (.aload_n 0, 1) := by decide +kernel
theorem dX4_centre_195 : decode cX4_centre 195 = .ok (.getfield 13, 3) := by decide +kernel
theorem dX4_centre_198 : decode cX4_centre 198 = .ok (.iload 7, 2) := by decide +kernel
theorem dX4_centre_200 : decode cX4_centre 200 = .ok (.iaload, 1) := by decide +kernel
theorem dX4_centre_201 : decode cX4_centre 201 = .ok (.i2l, 1) := by decide +kernel
theorem dX4_centre_202 : decode cX4_centre 202 = .ok (.lmul, 1) := by decide +kernel
theorem dX4_centre_203 : decode cX4_centre 203 = .ok (.ladd, 1) := by decide +kernel
theorem dX4_centre_204 : decode cX4_centre 204 = .ok (.lstore 12, 2) := by decide +kernel
theorem dX4_centre_206 : decode cX4_centre 206 = .ok (.ldc2_w 102, 3) := by decide +kernel
theorem dX4_centre_209 : decode cX4_centre 209 = .ok (.aload_n 0, 1) := by decide +kernel
theorem dX4_centre_210 : decode cX4_centre 210 = .ok (.getfield 7, 3) := by decide +kernel
theorem dX4_centre_213 : decode cX4_centre 213 = .ok (.iload 5, 2) := by decide +kernel
theorem dX4_centre_215 : decode cX4_centre 215 = .ok (.iaload, 1) := by decide +kernel
theorem dX4_centre_216 : decode cX4_centre 216 = .ok (.i2l, 1) := by decide +kernel
theorem dX4_centre_217 : decode cX4_centre 217 = .ok (.aload_n 0, 1) := by decide +kernel
theorem dX4_centre_218 : decode cX4_centre 218 = .ok (.getfield 13, 3) := by decide +kernel
theorem dX4_centre_221 : decode cX4_centre 221 = .ok (.iload 6, 2) := by decide +kernel
theorem dX4_centre_223 : decode cX4_centre 223 = .ok (.iaload, 1) := by decide +kernel
theorem dX4_centre_224 : decode cX4_centre 224 = .ok (.aload_n 0, 1) := by decide +kernel
theorem dX4_centre_225 : decode cX4_centre 225 = .ok (.getfield 13, 3) := by decide +kernel
theorem dX4_centre_228 : decode cX4_centre 228 = .ok (.iload 7, 2) := by decide +kernel
theorem dX4_centre_230 : decode cX4_centre 230 = .ok (.iaload, 1) := by decide +kernel
theorem dX4_centre_231 : decode cX4_centre 231 = .ok (.isub, 1) := by decide +kernel
theorem dX4_centre_232 : decode cX4_centre 232 = .ok (.i2l, 1) := by decide +kernel
theorem dX4_centre_233 : decode cX4_centre 233 = .ok (.lmul, 1) := by decide +kernel
theorem dX4_centre_234 : decode cX4_centre 234 = .ok (.aload_n 0, 1) := by decide +kernel
theorem dX4_centre_235 : decode cX4_centre 235 = .ok (.getfield 7, 3) := by decide +kernel
theorem dX4_centre_238 : decode cX4_centre 238 = .ok (.iload 6, 2) := by decide +kernel
theorem dX4_centre_240 : decode cX4_centre 240 = .ok (.iaload, 1) := by decide +kernel
theorem dX4_centre_241 : decode cX4_centre 241 = .ok (.i2l, 1) := by decide +kernel
theorem dX4_centre_242 : decode cX4_centre 242 = .ok (.aload_n 0, 1) := by decide +kernel
theorem dX4_centre_243 : decode cX4_centre 243 = .ok (.getfield 13, 3) := by decide +kernel
theorem dX4_centre_246 : decode cX4_centre 246 = .ok (.iload 7, 2) := by decide +kernel
theorem dX4_centre_248 : decode cX4_centre 248 = .ok (.iaload, 1) := by decide +kernel
theorem dX4_centre_249 : decode cX4_centre 249 = .ok (.aload_n 0, 1) := by decide +kernel
theorem dX4_centre_250 : decode cX4_centre 250 = .ok (.getfield 13, 3) := by decide +kernel
theorem dX4_centre_253 : decode cX4_centre 253 = .ok (.iload 5, 2) := by decide +kernel
theorem dX4_centre_255 : decode cX4_centre 255 = .ok (.iaload, 1) := by decide +kernel
theorem dX4_centre_256 : decode cX4_centre 256 = .ok (.isub, 1) := by decide +kernel
theorem dX4_centre_257 : decode cX4_centre 257 = .ok (.i2l, 1) := by decide +kernel
theorem dX4_centre_258 : decode cX4_centre 258 = .ok (.lmul, 1) := by decide +kernel
theorem dX4_centre_259 : decode cX4_centre 259 = .ok (.ladd, 1) := by decide +kernel
theorem dX4_centre_260 : decode cX4_centre 260 = .ok (.aload_n 0, 1) := by decide +kernel
theorem dX4_centre_261 : decode cX4_centre 261 = .ok (.getfield 7, 3) := by decide +kernel
theorem dX4_centre_264 : decode cX4_centre 264 = .ok (.iload 7, 2) := by decide +kernel
theorem dX4_centre_266 : decode cX4_centre 266 = .ok (.iaload, 1) := by decide +kernel
theorem dX4_centre_267 : decode cX4_centre 267 = .ok (.i2l, 1) := by decide +kernel
theorem dX4_centre_268 : decode cX4_centre 268 = .ok (.aload_n 0, 1) := by decide +kernel
theorem dX4_centre_269 : decode cX4_centre 269 = .ok (.getfield 13, 3) := by decide +kernel
theorem dX4_centre_272 : decode cX4_centre 272 = .ok (.iload 5, 2) := by decide +kernel
theorem dX4_centre_274 : decode cX4_centre 274 = .ok (.iaload, 1) := by decide +kernel
theorem dX4_centre_275 : decode cX4_centre 275 = .ok (.aload_n 0, 1) := by decide +kernel
theorem dX4_centre_276 : decode cX4_centre 276 = .ok (.getfield 13, 3) := by decide +kernel
theorem dX4_centre_279 : decode cX4_centre 279 = .ok (.iload 6, 2) := by decide +kernel
theorem dX4_centre_281 : decode cX4_centre 281 = .ok (.iaload, 1) := by decide +kernel
theorem dX4_centre_282 : decode cX4_centre 282 = .ok (.isub, 1) := by decide +kernel
theorem dX4_centre_283 : decode cX4_centre 283 = .ok (.i2l, 1) := by decide +kernel
theorem dX4_centre_284 : decode cX4_centre 284 = .ok (.lmul, 1) := by decide +kernel
theorem dX4_centre_285 : decode cX4_centre 285 = .ok (.ladd, 1) := by decide +kernel
theorem dX4_centre_286 : decode cX4_centre 286 = .ok (.lmul, 1) := by decide +kernel
theorem dX4_centre_287 : decode cX4_centre 287 = .ok (.lstore 14, 2) := by decide +kernel
theorem dX4_centre_289 : decode cX4_centre 289 = .ok (.lload 8, 2) := by decide +kernel
theorem dX4_centre_291 : decode cX4_centre 291 = .ok (.aload_n 0, 1) := by decide +kernel
theorem dX4_centre_292 : decode cX4_centre 292 = .ok (.getfield 13, 3) := by decide +kernel
theorem dX4_centre_295 : decode cX4_centre 295 = .ok (.iload 6, 2) := by decide +kernel
theorem dX4_centre_297 : decode cX4_centre 297 = .ok (.iaload, 1) := by decide +kernel
theorem dX4_centre_298 : decode cX4_centre 298 = .ok (.aload_n 0, 1) := by decide +kernel
theorem dX4_centre_299 : decode cX4_centre 299 = .ok (.getfield 13, 3) := by decide +kernel
theorem dX4_centre_302 : decode cX4_centre 302 = .ok (.iload 7, 2) := by decide +kernel
theorem dX4_centre_304 : decode cX4_centre 304 = .ok (.iaload, 1) := by decide +kernel
theorem dX4_centre_305 : decode cX4_centre 305 = .ok (.isub, 1) := by decide +kernel
theorem dX4_centre_306 : decode cX4_centre 306 = .ok (.i2l, 1) := by decide +kernel
theorem dX4_centre_307 : decode cX4_centre 307 = .ok (.lmul, 1) := by decide +kernel
theorem dX4_centre_308 : decode cX4_centre 308 = .ok (.lload 10, 2) := by decide +kernel
theorem dX4_centre_310 : decode cX4_centre 310 = .ok (.aload_n 0, 1) := by decide +kernel
theorem dX4_centre_311 : decode cX4_centre 311 = .ok (.getfield 13, 3) := by decide +kernel
theorem dX4_centre_314 : decode cX4_centre 314 = .ok (.iload 7, 2) := by decide +kernel
theorem dX4_centre_316 : decode cX4_centre 316 = .ok (.iaload, 1) := by decide +kernel
theorem dX4_centre_317 : decode cX4_centre 317 = .ok (.aload_n 0, 1) := by decide +kernel
theorem dX4_centre_318 : decode cX4_centre 318 = .ok (.getfield 13, 3) := by decide +kernel
theorem dX4_centre_321 : decode cX4_centre 321 = .ok (.iload 5, 2) := by decide +kernel
theorem dX4_centre_323 : decode cX4_centre 323 = .ok (.iaload, 1) := by decide +kernel
theorem dX4_centre_324 : decode cX4_centre 324 = .ok (.isub, 1) := by decide +kernel
theorem dX4_centre_325 : decode cX4_centre 325 = .ok (.i2l, 1) := by decide +kernel
theorem dX4_centre_326 : decode cX4_centre 326 = .ok (.lmul, 1) := by decide +kernel
theorem dX4_centre_327 : decode cX4_centre 327 = .ok (.ladd, 1) := by decide +kernel
theorem dX4_centre_328 : decode cX4_centre 328 = .ok (.lload 12, 2) := by decide +kernel
theorem dX4_centre_330 : decode cX4_centre 330 = .ok (.aload_n 0, 1) := by decide +kernel
theorem dX4_centre_331 : decode cX4_centre 331 = .ok (.getfield 13, 3) := by decide +kernel
theorem dX4_centre_334 : decode cX4_centre 334 = .ok (.iload 5, 2) := by decide +kernel
theorem dX4_centre_336 : decode cX4_centre 336 = .ok (.iaload, 1) := by decide +kernel
theorem dX4_centre_337 : decode cX4_centre 337 = .ok (.aload_n 0, 1) := by decide +kernel
theorem dX4_centre_338 : decode cX4_centre 338 = .ok (.getfield 13, 3) := by decide +kernel
theorem dX4_centre_341 : decode cX4_centre 341 = .ok (.iload 6, 2) := by decide +kernel
theorem dX4_centre_343 : decode cX4_centre 343 = .ok (.iaload, 1) := by decide +kernel
theorem dX4_centre_344 : decode cX4_centre 344 = .ok (.isub, 1) := by decide +kernel
theorem dX4_centre_345 : decode cX4_centre 345 = .ok (.i2l, 1) := by decide +kernel
theorem dX4_centre_346 : decode cX4_centre 346 = .ok (.lmul, 1) := by decide +kernel
theorem dX4_centre_347 : decode cX4_centre 347 = .ok (.ladd, 1) := by decide +kernel
theorem dX4_centre_348 : decode cX4_centre 348 = .ok (.lstore 16, 2) := by decide +kernel
theorem dX4_centre_350 : decode cX4_centre 350 = .ok (.lload 8, 2) := by decide +kernel
theorem dX4_centre_352 : decode cX4_centre 352 = .ok (.aload_n 0, 1) := by decide +kernel
theorem dX4_centre_353 : decode cX4_centre 353 = .ok (.getfield 7, 3) := by decide +kernel
theorem dX4_centre_356 : decode cX4_centre 356 = .ok (.iload 7, 2) := by decide +kernel
theorem dX4_centre_358 : decode cX4_centre 358 = .ok (.iaload, 1) := by decide +kernel
theorem dX4_centre_359 : decode cX4_centre 359 = .ok (.aload_n 0, 1) := by decide +kernel
theorem dX4_centre_360 : decode cX4_centre 360 = .ok (.getfield 7, 3) := by decide +kernel
theorem dX4_centre_363 : decode cX4_centre 363 = .ok (.iload 6, 2) := by decide +kernel
theorem dX4_centre_365 : decode cX4_centre 365 = .ok (.iaload, 1) := by decide +kernel
theorem dX4_centre_366 : decode cX4_centre 366 = .ok (.isub, 1) := by decide +kernel
theorem dX4_centre_367 : decode cX4_centre 367 = .ok (.i2l, 1) := by decide +kernel
theorem dX4_centre_368 : decode cX4_centre 368 = .ok (.lmul, 1) := by decide +kernel
theorem dX4_centre_369 : decode cX4_centre 369 = .ok (.lload 10, 2) := by decide +kernel
theorem dX4_centre_371 : decode cX4_centre 371 = .ok (.aload_n 0, 1) := by decide +kernel
theorem dX4_centre_372 : decode cX4_centre 372 = .ok (.getfield 7, 3) := by decide +kernel
theorem dX4_centre_375 : decode cX4_centre 375 = .ok (.iload 5, 2) := by decide +kernel
theorem dX4_centre_377 : decode cX4_centre 377 = .ok (.iaload, 1) := by decide +kernel
theorem dX4_centre_378 : decode cX4_centre 378 = .ok (.aload_n 0, 1) := by decide +kernel
theorem dX4_centre_379 : decode cX4_centre 379 = .ok (.getfield 7, 3) := by decide +kernel
theorem dX4_centre_382 : decode cX4_centre 382 = .ok (.iload 7, 2) := by decide +kernel
theorem dX4_centre_384 : decode cX4_centre 384 = .ok (.iaload, 1) := by decide +kernel
theorem dX4_centre_385 : decode cX4_centre 385 = .ok (.isub, 1) := by decide +kernel
theorem dX4_centre_386 : decode cX4_centre 386 = .ok (.i2l, 1) := by decide +kernel
theorem dX4_centre_387 : decode cX4_centre 387 = .ok (.lmul, 1) := by decide +kernel
theorem dX4_centre_388 : decode cX4_centre 388 = .ok (.ladd, 1) := by decide +kernel
theorem dX4_centre_389 : decode cX4_centre 389 = .ok (.lload 12, 2) := by decide +kernel
theorem dX4_centre_391 : decode cX4_centre 391 = .ok (.aload_n 0, 1) := by decide +kernel
theorem dX4_centre_392 : decode cX4_centre 392 = .ok (.getfield 7, 3) := by decide +kernel
theorem dX4_centre_395 : decode cX4_centre 395 = .ok (.iload 6, 2) := by decide +kernel
theorem dX4_centre_397 : decode cX4_centre 397 = .ok (.iaload, 1) := by decide +kernel
theorem dX4_centre_398 : decode cX4_centre 398 = .ok (.aload_n 0, 1) := by decide +kernel
theorem dX4_centre_399 : decode cX4_centre 399 = .ok (.getfield 7, 3) := by decide +kernel
theorem dX4_centre_402 : decode cX4_centre 402 = .ok (.iload 5, 2) := by decide +kernel
theorem dX4_centre_404 : decode cX4_centre 404 = .ok (.iaload, 1) := by decide +kernel
theorem dX4_centre_405 : decode cX4_centre 405 = .ok (.isub, 1) := by decide +kernel
theorem dX4_centre_406 : decode cX4_centre 406 = .ok (.i2l, 1) := by decide +kernel
theorem dX4_centre_407 : decode cX4_centre 407 = .ok (.lmul, 1) := by decide +kernel
theorem dX4_centre_408 : decode cX4_centre 408 = .ok (.ladd, 1) := by decide +kernel
theorem dX4_centre_409 : decode cX4_centre 409 = .ok (.lstore 18, 2) := by decide +kernel
theorem dX4_centre_411 : decode cX4_centre 411 = .ok (.lload 16, 2) := by decide +kernel
theorem dX4_centre_413 : decode cX4_centre 413 = .ok (.lload 18, 2) := by decide +kernel
theorem dX4_centre_415 : decode cX4_centre 415 = .ok (.invokestatic 104, 3) := by decide +kernel
theorem dX4_centre_418 : decode cX4_centre 418 = .ok (.lload 14, 2) := by decide +kernel
theorem dX4_centre_420 : decode cX4_centre 420 = .ok (.invokestatic 104, 3) := by decide +kernel
theorem dX4_centre_423 : decode cX4_centre 423 = .ok (.lstore 20, 2) := by decide +kernel
theorem dX4_centre_425 : decode cX4_centre 425 = .ok (.iload_n 2, 1) := by decide +kernel
theorem dX4_centre_426 : decode cX4_centre 426 = .ok (.ifCond .ne 8, 3) := by decide +kernel
theorem dX4_centre_429 : decode cX4_centre 429 = .ok (.lload 16, 2) := by decide +kernel
theorem dX4_centre_431 : decode cX4_centre 431 = .ok (.goto 15, 3) := by decide +kernel
theorem dX4_centre_434 : decode cX4_centre 434 = .ok (.iload_n 2, 1) := by decide +kernel
theorem dX4_centre_435 : decode cX4_centre 435 = .ok (.iconst 1, 1) := by decide +kernel
theorem dX4_centre_436 : decode cX4_centre 436 = .ok (.if_icmp .ne 8, 3) := by decide +kernel
theorem dX4_centre_439 : decode cX4_centre 439 = .ok (.lload 18, 2) := by decide +kernel
theorem dX4_centre_441 : decode cX4_centre 441 = .ok (.goto 5, 3) := by decide +kernel
theorem dX4_centre_444 : decode cX4_centre 444 = .ok (.lload 14, 2) := by decide +kernel
theorem dX4_centre_446 : decode cX4_centre 446 = .ok (.lload 20, 2) := by decide +kernel
theorem dX4_centre_448 : decode cX4_centre 448 = .ok (.ldiv, 1) := by decide +kernel
theorem dX4_centre_449 : decode cX4_centre 449 = .ok (.lreturn, 1) := by decide +kernel
set_option maxRecDepth 20000 in
theorem ggX4_hull_X4_make : GoodIn wsX4_hull wsX4_make := goodIn_r _ [7, 8, 9, 1, 10, 11, 12, 13, 14, 15, 16, 6, 17, 18, 19, 20, 21, 22, 23, 24, 25, 26, 27, 28, 29, 30, 31, 32, 33, 34, 35, 36, 37, 38, 39, 40, 41, 42, 43, 44, 45, 46, 47, 2, 48, 49, 50, 51, 52, 53, 54, 55, 56, 57, 58, 59, 65, 66, 67, 68, 69, 70, 71, 72, 73, 74, 75] (by decide +kernel) (by decide +kernel)
set_option maxRecDepth 20000 in
theorem gX4_hull_X4_make : GoodIn wsX4_hull (wsV RX4 99 RX4 yX4_make wsX4_make) := goodIn_app (goodIn_of _ (by decide +kernel)) ggX4_hull_X4_make
set_option maxRecDepth 20000 in
theorem ggX4_hull_X4_throwing : GoodIn wsX4_hull wsX4_throwing := goodIn_r _ [63, 64, 65, 66, 67, 68, 69, 70, 71, 72, 73, 74, 75] (by decide +kernel) (by decide +kernel)
set_option maxRecDepth 20000 in
theorem gX4_hull_X4_throwing : GoodIn wsX4_hull (wsV RX4 43 RX4 yX4_throwing wsX4_throwing) := goodIn_app (goodIn_of _ (by decide +kernel)) ggX4_hull_X4_throwing
theorem dX4_hull_0 : decode cX4_hull 0 = .ok (.aload_n 0, 1) := by decide +kernel
theorem dX4_hull_1 : decode cX4_hull 1 = .ok (.invokevirtual 99, 3) := by decide +kernel
theorem dX4_hull_4 : decode cX4_hull 4 = .ok (.aload_n 0, 1) := by decide +kernel
theorem dX4_hull_5 : decode cX4_hull 5 = .ok (.iload_n 1, 1) := by decide +kernel
theorem dX4_hull_6 : decode cX4_hull 6 = .ok (.iconst (-1), 1) := by decide +kernel
theorem dX4_hull_7 : decode cX4_hull 7 = .ok (.if_icmp .lt 11, 3) := by decide +kernel
theorem dX4_hull_10 : decode cX4_hull 10 = .ok (.iload_n 1, 1) := by decide +kernel
theorem dX4_hull_11 : decode cX4_hull 11 = .ok (.aload_n 0, 1) := by decide +kernel
theorem dX4_hull_12 : decode cX4_hull 12 = .ok (.getfield 72, 3) := by decide +kernel
theorem dX4_hull_15 : decode cX4_hull 15 = .ok (.if_icmp .lt 7, 3) := by decide +kernel
theorem dX4_hull_18 : decode cX4_hull 18 = .ok (.iconst 1, 1) := by decide +kernel
theorem dX4_hull_19 : decode cX4_hull 19 = .ok (.goto 4, 3) := by decide +kernel
theorem dX4_hull_22 : decode cX4_hull 22 = .ok (.iconst 0, 1) := by decide +kernel
theorem dX4_hull_23 : decode cX4_hull 23 = .ok (.iconst 0, 1) := by decide +kernel
theorem dX4_hull_24 : decode cX4_hull 24 = .ok (.invokevirtual 43, 3) := by decide +kernel
theorem dX4_hull_27 : decode cX4_hull 27 = .ok (.ifCond .eq 5, 3) := by decide +kernel
theorem dX4_hull_30 : decode cX4_hull 30 = .ok (.iconst 0, 1) := by decide +kernel
theorem dX4_hull_31 : decode cX4_hull 31 = .ok (.ireturn, 1) := by decide +kernel
theorem dX4_hull_32 : decode cX4_hull 32 = .ok (.iload_n 1, 1) := by decide +kernel
theorem dX4_hull_33 : decode cX4_hull 33 = .ok (.ifCond .ge 10, 3) := by decide +kernel
theorem dX4_hull_36 : decode cX4_hull 36 = .ok (.aload_n 0, 1) := by decide +kernel
theorem dX4_hull_37 : decode cX4_hull 37 = .ok (.getfield 72, 3) := by decide +kernel
theorem dX4_hull_40 : decode cX4_hull 40 = .ok (.goto 9, 3) := by decide +kernel
theorem dX4_hull_43 : decode cX4_hull 43 = .ok (.aload_n 0, 1) := by decide +kernel
theorem dX4_hull_44 : decode cX4_hull 44 = .ok (.getfield 25, 3) := by decide +kernel
theorem dX4_hull_47 : decode cX4_hull 47 = .ok (.iload_n 1, 1) := by decide +kernel
theorem dX4_hull_48 : decode cX4_hull 48 = .ok (.iaload, 1) := by decide +kernel
theorem dX4_hull_49 : decode cX4_hull 49 = .ok (.ireturn, 1) := by decide +kernel
set_option maxRecDepth 20000 in
theorem ggX4_around_X4_isFar : GoodIn wsX4_around wsX4_isFar := goodIn_r _ [8] (by decide +kernel) (by decide +kernel)
set_option maxRecDepth 20000 in
theorem gX4_around_X4_isFar : GoodIn wsX4_around (va_wsS RX4 35 yX4_isFar wsX4_isFar) := goodIn_app (goodIn_of _ (by decide +kernel)) ggX4_around_X4_isFar
set_option maxRecDepth 20000 in
theorem ggX4_around_X4_throwing : GoodIn wsX4_around wsX4_throwing := goodIn_r _ [12, 13, 68, 69, 70, 71, 72, 73, 74, 75, 76, 77, 78] (by decide +kernel) (by decide +kernel)
set_option maxRecDepth 20000 in
theorem gX4_around_X4_throwing : GoodIn wsX4_around (wsV RX4 43 RX4 yX4_throwing wsX4_throwing) := goodIn_app (goodIn_of _ (by decide +kernel)) ggX4_around_X4_throwing
set_option maxRecDepth 20000 in
theorem ggX4_around_X4_make : GoodIn wsX4_around wsX4_make := goodIn_r _ [17, 18, 1, 19, 20, 21, 22, 2, 23, 24, 25, 7, 26, 27, 28, 29, 30, 31, 32, 33, 34, 35, 36, 37, 38, 39, 40, 41, 42, 4, 3, 43, 44, 45, 46, 47, 48, 49, 50, 51, 52, 53, 54, 55, 56, 57, 58, 59, 60, 61, 62, 63, 64, 65, 66, 67, 68, 69, 70, 71, 72, 73, 74, 75, 76, 77, 78] (by decide +kernel) (by decide +kernel)
set_option maxRecDepth 20000 in
theorem gX4_around_X4_make : GoodIn wsX4_around (wsV RX4 99 RX4 yX4_make wsX4_make) := goodIn_app (goodIn_of _ (by decide +kernel)) ggX4_around_X4_make
set_option maxRecDepth 20000 in
theorem ggX4_around_X4_after : GoodIn wsX4_around wsX4_after := goodIn_r _ [63, 4, 3, 68, 69, 70, 71, 72, 73, 74, 75, 76, 77, 78] (by decide +kernel) (by decide +kernel)
set_option maxRecDepth 20000 in
theorem gX4_around_X4_after : GoodIn wsX4_around (wsV RX4 89 RX4 yX4_after wsX4_after) := goodIn_app (goodIn_of _ (by decide +kernel)) ggX4_around_X4_after
set_option maxRecDepth 20000 in
theorem ggX4_around_X4_turn : GoodIn wsX4_around wsX4_turn := goodIn_r _ [26, 21, 22, 68, 69, 70, 71, 72, 73, 74, 75, 76, 77, 78] (by decide +kernel) (by decide +kernel)
set_option maxRecDepth 20000 in
theorem gX4_around_X4_turn : GoodIn wsX4_around (wsV RX4 62 RX4 yX4_turn wsX4_turn) := goodIn_app (goodIn_of _ (by decide +kernel)) ggX4_around_X4_turn
theorem dX4_around_0 : decode cX4_around 0 = .ok (.aload_n 0, 1) := by decide +kernel
theorem dX4_around_1 : decode cX4_around 1 = .ok (.iload_n 1, 1) := by decide +kernel
theorem dX4_around_2 : decode cX4_around 2 = .ok (.iload_n 2, 1) := by decide +kernel
theorem dX4_around_3 : decode cX4_around 3 = .ok (.invokestatic 35, 3) := by decide +kernel
theorem dX4_around_6 : decode cX4_around 6 = .ok (.iconst 0, 1) := by decide +kernel
theorem dX4_around_7 : decode cX4_around 7 = .ok (.invokevirtual 43, 3) := by decide +kernel
theorem dX4_around_10 : decode cX4_around 10 = .ok (.ifCond .eq 5, 3) := by decide +kernel
theorem dX4_around_13 : decode cX4_around 13 = .ok (.iconst 0, 1) := by decide +kernel
theorem dX4_around_14 : decode cX4_around 14 = .ok (.ireturn, 1) := by decide +kernel
theorem dX4_around_15 : decode cX4_around 15 = .ok (.aload_n 0, 1) := by decide +kernel
theorem dX4_around_16 : decode cX4_around 16 = .ok (.invokevirtual 99, 3) := by decide +kernel
theorem dX4_around_19 : decode cX4_around 19 = .ok (.iconst 0, 1) := by decide +kernel
theorem dX4_around_20 : decode cX4_around 20 = .ok (.istore_n 3, 1) := by decide +kernel
theorem dX4_around_21 : decode cX4_around 21 = .ok (.iload_n 3, 1) := by decide +kernel
theorem dX4_around_22 : decode cX4_around 22 = .ok (.aload_n 0, 1) := by decide +kernel
theorem dX4_around_23 : decode cX4_around 23 = .ok (.getfield 65, 3) := by decide +kernel
theorem dX4_around_26 : decode cX4_around 26 = .ok (.if_icmp .ge 92, 3) := by decide +kernel
theorem dX4_around_29 : decode cX4_around 29 = .ok (.aload_n 0, 1) := by decide +kernel
theorem dX4_around_30 : decode cX4_around 30 = .ok (.getfield 22, 3) := by decide +kernel
theorem dX4_around_33 : decode cX4_around 33 = .ok (.iload_n 3, 1) := by decide +kernel
theorem dX4_around_34 : decode cX4_around 34 = .ok (.iaload, 1) := by decide +kernel
theorem dX4_around_35 : decode cX4_around 35 = .ok (.istore 4, 2) := by decide +kernel
theorem dX4_around_37 : decode cX4_around 37 = .ok (.iconst 1, 1) := by decide +kernel
theorem dX4_around_38 : decode cX4_around 38 = .ok (.istore 5, 2) := by decide +kernel
theorem dX4_around_40 : decode cX4_around 40 = .ok (.iconst 0, 1) := by decide +kernel
theorem dX4_around_41 : decode cX4_around 41 = .ok (.istore 6, 2) := by decide +kernel
theorem dX4_around_43 : decode cX4_around 43 = .ok (.iload 6, 2) := by decide +kernel
theorem dX4_around_45 : decode cX4_around 45 = .ok (.aload_n 0, 1) := by decide +kernel
theorem dX4_around_46 : decode cX4_around 46 = .ok (.getfield 16, 3) := by decide +kernel
theorem dX4_around_49 : decode cX4_around 49 = .ok (.iload 4, 2) := by decide +kernel
theorem dX4_around_51 : decode cX4_around 51 = .ok (.iaload, 1) := by decide +kernel
theorem dX4_around_52 : decode cX4_around 52 = .ok (.if_icmp .ge 53, 3) := by decide +kernel
theorem dX4_around_55 : decode cX4_around 55 = .ok (.iload 5, 2) := by decide +kernel
theorem dX4_around_57 : decode cX4_around 57 = .ok (.ifCond .eq 39, 3) := by decide +kernel
theorem dX4_around_60 : decode cX4_around 60 = .ok (.aload_n 0, 1) := by decide +kernel
theorem dX4_around_61 : decode cX4_around 61 = .ok (.aload_n 0, 1) := by decide +kernel
theorem dX4_around_62 : decode cX4_around 62 = .ok (.getfield 19, 3) := by decide +kernel
theorem dX4_around_65 : decode cX4_around 65 = .ok (.bipush 20, 2) := by decide +kernel
theorem dX4_around_67 : decode cX4_around 67 = .ok (.iload 4, 2) := by decide +kernel
theorem dX4_around_69 : decode cX4_around 69 = .ok (.imul, 1) := by decide +kernel
theorem dX4_around_70 : decode cX4_around 70 = .ok (.iload 6, 2) := by decide +kernel
theorem dX4_around_72 : decode cX4_around 72 = .ok (.iadd, 1) := by decide +kernel
theorem dX4_around_73 : decode cX4_around 73 = .ok (.iaload, 1) := by decide +kernel
theorem dX4_around_74 : decode cX4_around 74 = .ok (.aload_n 0, 1) := by decide +kernel
theorem dX4_around_75 : decode cX4_around 75 = .ok (.iload 4, 2) := by decide +kernel
theorem dX4_around_77 : decode cX4_around 77 = .ok (.iload 6, 2) := by decide +kernel
theorem dX4_around_79 : decode cX4_around 79 = .ok (.invokevirtual 89, 3) := by decide +kernel
theorem dX4_around_82 : decode cX4_around 82 = .ok (.iload_n 1, 1) := by decide +kernel
theorem dX4_around_83 : decode cX4_around 83 = .ok (.iload_n 2, 1) := by decide +kernel
theorem dX4_around_84 : decode cX4_around 84 = .ok (.invokevirtual 62, 3) := by decide +kernel
theorem dX4_around_87 : decode cX4_around 87 = .ok (.lconst 0, 1) := by decide +kernel
theorem dX4_around_88 : decode cX4_around 88 = .ok (.lcmp, 1) := by decide +kernel
theorem dX4_around_89 : decode cX4_around 89 = .ok (.ifCond .lt 7, 3) := by decide +kernel
theorem dX4_around_92 : decode cX4_around 92 = .ok (.iconst 1, 1) := by decide +kernel
theorem dX4_around_93 : decode cX4_around 93 = .ok (.goto 4, 3) := by decide +kernel
theorem dX4_around_96 : decode cX4_around 96 = .ok (.iconst 0, 1) := by decide +kernel
theorem dX4_around_97 : decode cX4_around 97 = .ok (.istore 5, 2) := by decide +kernel
theorem dX4_around_99 : decode cX4_around 99 = .ok (.iinc 6 1, 3) := by decide +kernel
theorem dX4_around_102 : decode cX4_around 102 = .ok (.goto (-59), 3) := by decide +kernel
theorem dX4_around_105 : decode cX4_around 105 = .ok (.iload 5, 2) := by decide +kernel
theorem dX4_around_107 : decode cX4_around 107 = .ok (.ifCond .eq 5, 3) := by decide +kernel
theorem dX4_around_110 : decode cX4_around 110 = .ok (.iload_n 3, 1) := by decide +kernel
theorem dX4_around_111 : decode cX4_around 111 = .ok (.ireturn, 1) := by decide +kernel
theorem dX4_around_112 : decode cX4_around 112 = .ok (.iinc 3 1, 3) := by decide +kernel
theorem dX4_around_115 : decode cX4_around 115 = .ok (.goto (-94), 3) := by decide +kernel
theorem dX4_around_118 : decode cX4_around 118 = .ok (.iconst (-1), 1) := by decide +kernel
theorem dX4_around_119 : decode cX4_around 119 = .ok (.ireturn, 1) := by decide +kernel
set_option maxRecDepth 20000 in
theorem ggX4_nearest_X4_isFar : GoodIn wsX4_nearest wsX4_isFar := goodIn_r _ [7] (by decide +kernel) (by decide +kernel)
set_option maxRecDepth 20000 in
theorem gX4_nearest_X4_isFar : GoodIn wsX4_nearest (va_wsS RX4 35 yX4_isFar wsX4_isFar) := goodIn_app (goodIn_of _ (by decide +kernel)) ggX4_nearest_X4_isFar
set_option maxRecDepth 20000 in
theorem ggX4_nearest_X4_throwing : GoodIn wsX4_nearest wsX4_throwing := goodIn_r _ [11, 12, 13, 14, 15, 16, 17, 18, 19, 20, 21, 22, 23] (by decide +kernel) (by decide +kernel)
set_option maxRecDepth 20000 in
theorem gX4_nearest_X4_throwing : GoodIn wsX4_nearest (wsV RX4 43 RX4 yX4_throwing wsX4_throwing) := goodIn_app (goodIn_of _ (by decide +kernel)) ggX4_nearest_X4_throwing
theorem dX4_nearest_0 : decode cX4_nearest 0 = .ok (.iload_n 1, 1) := by decide +kernel
theorem dX4_nearest_1 : decode cX4_nearest 1 = .ok (.iload_n 2, 1) := by decide +kernel
theorem dX4_nearest_2 : decode cX4_nearest 2 = .ok (.invokestatic 35, 3) := by decide +kernel
theorem dX4_nearest_5 : decode cX4_nearest 5 = .ok (.istore_n 3, 1) := by decide +kernel
theorem dX4_nearest_6 : decode cX4_nearest 6 = .ok (.aload_n 0, 1) := by decide +kernel
theorem dX4_nearest_7 : decode cX4_nearest 7 = .ok (.iload_n 3, 1) := by decide +kernel
theorem dX4_nearest_8 : decode cX4_nearest 8 = .ok (.iload_n 3, 1) := by decide +kernel
theorem dX4_nearest_9 : decode cX4_nearest 9 = .ok (.ifCond .ne 14, 3) := by decide +kernel
theorem dX4_nearest_12 : decode cX4_nearest 12 = .ok (.aload_n 0, 1) := by decide +kernel
theorem dX4_nearest_13 : decode cX4_nearest 13 = .ok (.getfield 32, 3) := by decide +kernel
theorem dX4_nearest_16 : decode cX4_nearest 16 = .ok (.ifCond .ne 7, 3) := by decide +kernel
theorem dX4_nearest_19 : decode cX4_nearest 19 = .ok (.iconst 1, 1) := by decide +kernel
theorem dX4_nearest_20 : decode cX4_nearest 20 = .ok (.goto 4, 3) := by decide +kernel
theorem dX4_nearest_23 : decode cX4_nearest 23 = .ok (.iconst 0, 1) := by decide +kernel
theorem dX4_nearest_24 : decode cX4_nearest 24 = .ok (.invokevirtual 43, 3) := by decide +kernel
theorem dX4_nearest_27 : decode cX4_nearest 27 = .ok (.ifCond .eq 5, 3) := by decide +kernel
theorem dX4_nearest_30 : decode cX4_nearest 30 = .ok (.iconst 0, 1) := by decide +kernel
theorem dX4_nearest_31 : decode cX4_nearest 31 = .ok (.ireturn, 1) := by decide +kernel
theorem dX4_nearest_32 : decode cX4_nearest 32 = .ok (.iconst 0, 1) := by decide +kernel
theorem dX4_nearest_33 : decode cX4_nearest 33 = .ok (.istore 4, 2) := by decide +kernel
theorem dX4_nearest_35 : decode cX4_nearest 35 = .ok (.iconst 1, 1) := by decide +kernel
theorem dX4_nearest_36 : decode cX4_nearest 36 = .ok (.istore 5, 2) := by decide +kernel
theorem dX4_nearest_38 : decode cX4_nearest 38 = .ok (.iload 5, 2) := by decide +kernel
theorem dX4_nearest_40 : decode cX4_nearest 40 = .ok (.aload_n 0, 1) := by decide +kernel
theorem dX4_nearest_41 : decode cX4_nearest 41 = .ok (.getfield 32, 3) := by decide +kernel
theorem dX4_nearest_44 : decode cX4_nearest 44 = .ok (.if_icmp .ge 116, 3) := by decide +kernel
theorem dX4_nearest_47 : decode cX4_nearest 47 = .ok (.aload_n 0, 1) := by decide +kernel
theorem dX4_nearest_48 : decode cX4_nearest 48 = .ok (.getfield 7, 3) := by decide +kernel
theorem dX4_nearest_51 : decode cX4_nearest 51 = .ok (.iload 5, 2) := by decide +kernel
theorem dX4_nearest_53 : decode cX4_nearest 53 = .ok (.iaload, 1) := by decide +kernel
theorem dX4_nearest_54 : decode cX4_nearest 54 = .ok (.iload_n 1, 1) := by decide +kernel
theorem dX4_nearest_55 : decode cX4_nearest 55 = .ok (.isub, 1) := by decide +kernel
theorem dX4_nearest_56 : decode cX4_nearest 56 = .ok (.i2l, 1) := by decide +kernel
theorem dX4_nearest_57 : decode cX4_nearest 57 = .ok (.aload_n 0, 1) := by decide +kernel
theorem dX4_nearest_58 : decode cX4_nearest 58 = .ok (.getfield 7, 3) := by decide +kernel
theorem dX4_nearest_61 : decode cX4_nearest 61 = .ok (.iload 5, 2) := by decide +kernel
theorem dX4_nearest_63 : decode cX4_nearest 63 = .ok (.iaload, 1) := by decide +kernel
theorem dX4_nearest_64 : decode cX4_nearest 64 = .ok (.iload_n 1, 1) := by decide +kernel
theorem dX4_nearest_65 : decode cX4_nearest 65 = .ok (.isub, 1) := by decide +kernel
theorem dX4_nearest_66 : decode cX4_nearest 66 = .ok (.i2l, 1) := by decide +kernel
theorem dX4_nearest_67 : decode cX4_nearest 67 = .ok (.lmul, 1) := by decide +kernel
theorem dX4_nearest_68 : decode cX4_nearest 68 = .ok (.aload_n 0, 1) := by decide +kernel
theorem dX4_nearest_69 : decode cX4_nearest 69 = .ok (.getfield 13, 3) := by decide +kernel
theorem dX4_nearest_72 : decode cX4_nearest 72 = .ok (.iload 5, 2) := by decide +kernel
theorem dX4_nearest_74 : decode cX4_nearest 74 = .ok (.iaload, 1) := by decide +kernel
theorem dX4_nearest_75 : decode cX4_nearest 75 = .ok (.iload_n 2, 1) := by decide +kernel
theorem dX4_nearest_76 : decode cX4_nearest 76 = .ok (.isub, 1) := by decide +kernel
theorem dX4_nearest_77 : decode cX4_nearest 77 = .ok (.i2l, 1) := by decide +kernel
theorem dX4_nearest_78 : decode cX4_nearest 78 = .ok (.aload_n 0, 1) := by decide +kernel
theorem dX4_nearest_79 : decode cX4_nearest 79 = .ok (.getfield 13, 3) := by decide +kernel
theorem dX4_nearest_82 : decode cX4_nearest 82 = .ok (.iload 5, 2) := by decide +kernel
theorem dX4_nearest_84 : decode cX4_nearest 84 = .ok (.iaload, 1) := by decide +kernel
theorem dX4_nearest_85 : decode cX4_nearest 85 = .ok (.iload_n 2, 1) := by decide +kernel
theorem dX4_nearest_86 : decode cX4_nearest 86 = .ok (.isub, 1) := by decide +kernel
theorem dX4_nearest_87 : decode cX4_nearest 87 = .ok (.i2l, 1) := by decide +kernel
theorem dX4_nearest_88 : decode cX4_nearest 88 = .ok (.lmul, 1) := by decide +kernel
theorem dX4_nearest_89 : decode cX4_nearest 89 = .ok (.ladd, 1) := by decide +kernel
theorem dX4_nearest_90 : decode cX4_nearest 90 = .ok (.lstore 6, 2) := by decide +kernel
theorem dX4_nearest_92 : decode cX4_nearest 92 = .ok (.aload_n 0, 1) := by decide +kernel
theorem dX4_nearest_93 : decode cX4_nearest 93 = .ok (.getfield 7, 3) := by decide +kernel
theorem dX4_nearest_96 : decode cX4_nearest 96 = .ok (.iload 4, 2) := by decide +kernel
theorem dX4_nearest_98 : decode cX4_nearest 98 = .ok (.iaload, 1) := by decide +kernel
theorem dX4_nearest_99 : decode cX4_nearest 99 = .ok (.iload_n 1, 1) := by decide +kernel
theorem dX4_nearest_100 : decode cX4_nearest 100 = .ok (.isub, 1) := by decide +kernel
theorem dX4_nearest_101 : decode cX4_nearest 101 = .ok (.i2l, 1) := by decide +kernel
theorem dX4_nearest_102 : decode cX4_nearest 102 = .ok (.aload_n 0, 1) := by decide +kernel
theorem dX4_nearest_103 : decode cX4_nearest 103 = .ok (.getfield 7, 3) := by decide +kernel
theorem dX4_nearest_106 : decode cX4_nearest 106 = .ok (.iload 4, 2) := by decide +kernel
theorem dX4_nearest_108 : decode cX4_nearest 108 = .ok (.iaload, 1) := by decide +kernel
theorem dX4_nearest_109 : decode cX4_nearest 109 = .ok (.iload_n 1, 1) := by decide +kernel
theorem dX4_nearest_110 : decode cX4_nearest 110 = .ok (.isub, 1) := by decide +kernel
theorem dX4_nearest_111 : decode cX4_nearest 111 = .ok (.i2l, 1) := by decide +kernel
theorem dX4_nearest_112 : decode cX4_nearest 112 = .ok (.lmul, 1) := by decide +kernel
theorem dX4_nearest_113 : decode cX4_nearest 113 = .ok (.aload_n 0, 1) := by decide +kernel
theorem dX4_nearest_114 : decode cX4_nearest 114 = .ok (.getfield 13, 3) := by decide +kernel
theorem dX4_nearest_117 : decode cX4_nearest 117 = .ok (.iload 4, 2) := by decide +kernel
theorem dX4_nearest_119 : decode cX4_nearest 119 = .ok (.iaload, 1) := by decide +kernel
theorem dX4_nearest_120 : decode cX4_nearest 120 = .ok (.iload_n 2, 1) := by decide +kernel
theorem dX4_nearest_121 : decode cX4_nearest 121 = .ok (.isub, 1) := by decide +kernel
theorem dX4_nearest_122 : decode cX4_nearest 122 = .ok (.i2l, 1) := by decide +kernel
theorem dX4_nearest_123 : decode cX4_nearest 123 = .ok (.aload_n 0, 1) := by decide +kernel
theorem dX4_nearest_124 : decode cX4_nearest 124 = .ok (.getfield 13, 3) := by decide +kernel
theorem dX4_nearest_127 : decode cX4_nearest 127 = .ok (.iload 4, 2) := by decide +kernel
theorem dX4_nearest_129 : decode cX4_nearest 129 = .ok (.iaload, 1) := by decide +kernel
theorem dX4_nearest_130 : decode cX4_nearest 130 = .ok (.iload_n 2, 1) := by decide +kernel
theorem dX4_nearest_131 : decode cX4_nearest 131 = .ok (.isub, 1) := by decide +kernel
theorem dX4_nearest_132 : decode cX4_nearest 132 = .ok (.i2l, 1) := by decide +kernel
theorem dX4_nearest_133 : decode cX4_nearest 133 = .ok (.lmul, 1) := by decide +kernel
theorem dX4_nearest_134 : decode cX4_nearest 134 = .ok (.ladd, 1) := by decide +kernel
theorem dX4_nearest_135 : decode cX4_nearest 135 = .ok (.lstore 8, 2) := by decide +kernel
theorem dX4_nearest_137 : decode cX4_nearest 137 = .ok (.lload 6, 2) := by decide +kernel
theorem dX4_nearest_139 : decode cX4_nearest 139 = .ok (.lload 8, 2) := by decide +kernel
theorem dX4_nearest_141 : decode cX4_nearest 141 = .ok (.lcmp, 1) := by decide +kernel
theorem dX4_nearest_142 : decode cX4_nearest 142 = .ok (.ifCond .ge 8, 3) := by decide +kernel
theorem dX4_nearest_145 : decode cX4_nearest 145 = .ok (.iload 5, 2) := by decide +kernel
theorem dX4_nearest_147 : decode cX4_nearest 147 = .ok (.goto 5, 3) := by decide +kernel
theorem dX4_nearest_150 : decode cX4_nearest 150 = .ok (.iload 4, 2) := by decide +kernel
theorem dX4_nearest_152 : decode cX4_nearest 152 = .ok (.istore 4, 2) := by decide +kernel
theorem dX4_nearest_154 : decode cX4_nearest 154 = .ok (.iinc 5 1, 3) := by decide +kernel
theorem dX4_nearest_157 : decode cX4_nearest 157 = .ok (.goto (-119), 3) := by decide +kernel
theorem dX4_nearest_160 : decode cX4_nearest 160 = .ok (.iload 4, 2) := by decide +kernel
theorem dX4_nearest_162 : decode cX4_nearest 162 = .ok (.ireturn, 1) := by decide +kernel
























