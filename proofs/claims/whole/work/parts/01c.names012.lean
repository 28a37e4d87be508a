theorem dX0_init_0 : decode cX0_init 0 = .ok (.aload_n 0, 1) := by decide +kernel
theorem dX0_init_1 : decode cX0_init 1 = .ok (.invokespecial 1, 3) := by decide +kernel
theorem dX0_init_4 : decode cX0_init 4 = .ok (.return_, 1) := by decide +kernel
theorem dX0_layThrough_0 : decode cX0_layThrough 0 = .ok (.aload_n 0, 1) := by decide +kernel
theorem dX0_layThrough_1 : decode cX0_layThrough 1 = .ok (.aload_n 1, 1) := by decide +kernel
theorem dX0_layThrough_2 : decode cX0_layThrough 2 = .ok (.getfield 7, 3) := by decide +kernel
theorem dX0_layThrough_5 : decode cX0_layThrough 5 = .ok (.iload_n 2, 1) := by decide +kernel
theorem dX0_layThrough_6 : decode cX0_layThrough 6 = .ok (.iaload, 1) := by decide +kernel
theorem dX0_layThrough_7 : decode cX0_layThrough 7 = .ok (.putfield 13, 3) := by decide +kernel
theorem dX0_layThrough_10 : decode cX0_layThrough 10 = .ok (.aload_n 0, 1) := by decide +kernel
theorem dX0_layThrough_11 : decode cX0_layThrough 11 = .ok (.aload_n 1, 1) := by decide +kernel
theorem dX0_layThrough_12 : decode cX0_layThrough 12 = .ok (.getfield 19, 3) := by decide +kernel
theorem dX0_layThrough_15 : decode cX0_layThrough 15 = .ok (.iload_n 2, 1) := by decide +kernel
theorem dX0_layThrough_16 : decode cX0_layThrough 16 = .ok (.iaload, 1) := by decide +kernel
theorem dX0_layThrough_17 : decode cX0_layThrough 17 = .ok (.putfield 22, 3) := by decide +kernel
theorem dX0_layThrough_20 : decode cX0_layThrough 20 = .ok (.aload_n 1, 1) := by decide +kernel
theorem dX0_layThrough_21 : decode cX0_layThrough 21 = .ok (.getfield 7, 3) := by decide +kernel
theorem dX0_layThrough_24 : decode cX0_layThrough 24 = .ok (.iload_n 3, 1) := by decide +kernel
theorem dX0_layThrough_25 : decode cX0_layThrough 25 = .ok (.iaload, 1) := by decide +kernel
theorem dX0_layThrough_26 : decode cX0_layThrough 26 = .ok (.aload_n 0, 1) := by decide +kernel
theorem dX0_layThrough_27 : decode cX0_layThrough 27 = .ok (.getfield 13, 3) := by decide +kernel
theorem dX0_layThrough_30 : decode cX0_layThrough 30 = .ok (.isub, 1) := by decide +kernel
theorem dX0_layThrough_31 : decode cX0_layThrough 31 = .ok (.i2l, 1) := by decide +kernel
theorem dX0_layThrough_32 : decode cX0_layThrough 32 = .ok (.lstore 5, 2) := by decide +kernel
theorem dX0_layThrough_34 : decode cX0_layThrough 34 = .ok (.aload_n 1, 1) := by decide +kernel
theorem dX0_layThrough_35 : decode cX0_layThrough 35 = .ok (.getfield 19, 3) := by decide +kernel
theorem dX0_layThrough_38 : decode cX0_layThrough 38 = .ok (.iload_n 3, 1) := by decide +kernel
theorem dX0_layThrough_39 : decode cX0_layThrough 39 = .ok (.iaload, 1) := by decide +kernel
theorem dX0_layThrough_40 : decode cX0_layThrough 40 = .ok (.aload_n 0, 1) := by decide +kernel
theorem dX0_layThrough_41 : decode cX0_layThrough 41 = .ok (.getfield 22, 3) := by decide +kernel
theorem dX0_layThrough_44 : decode cX0_layThrough 44 = .ok (.isub, 1) := by decide +kernel
theorem dX0_layThrough_45 : decode cX0_layThrough 45 = .ok (.i2l, 1) := by decide +kernel
theorem dX0_layThrough_46 : decode cX0_layThrough 46 = .ok (.lstore 7, 2) := by decide +kernel
theorem dX0_layThrough_48 : decode cX0_layThrough 48 = .ok (.aload_n 1, 1) := by decide +kernel
theorem dX0_layThrough_49 : decode cX0_layThrough 49 = .ok (.getfield 7, 3) := by decide +kernel
theorem dX0_layThrough_52 : decode cX0_layThrough 52 = .ok (.iload 4, 2) := by decide +kernel
theorem dX0_layThrough_54 : decode cX0_layThrough 54 = .ok (.iaload, 1) := by decide +kernel
theorem dX0_layThrough_55 : decode cX0_layThrough 55 = .ok (.aload_n 0, 1) := by decide +kernel
theorem dX0_layThrough_56 : decode cX0_layThrough 56 = .ok (.getfield 13, 3) := by decide +kernel
theorem dX0_layThrough_59 : decode cX0_layThrough 59 = .ok (.isub, 1) := by decide +kernel
theorem dX0_layThrough_60 : decode cX0_layThrough 60 = .ok (.i2l, 1) := by decide +kernel
theorem dX0_layThrough_61 : decode cX0_layThrough 61 = .ok (.lstore 9, 2) := by decide +kernel
theorem dX0_layThrough_63 : decode cX0_layThrough 63 = .ok (.aload_n 1, 1) := by decide +kernel
theorem dX0_layThrough_64 : decode cX0_layThrough 64 = .ok (.getfield 19, 3) := by decide +kernel
theorem dX0_layThrough_67 : decode cX0_layThrough 67 = .ok (.iload 4, 2) := by decide +kernel
theorem dX0_layThrough_69 : decode cX0_layThrough 69 = .ok (.iaload, 1) := by decide +kernel
theorem dX0_layThrough_70 : decode cX0_layThrough 70 = .ok (.aload_n 0, 1) := by decide +kernel
theorem dX0_layThrough_71 : decode cX0_layThrough 71 = .ok (.getfield 22, 3) := by decide +kernel
theorem dX0_layThrough_74 : decode cX0_layThrough 74 = .ok (.isub, 1) := by decide +kernel
theorem dX0_layThrough_75 : decode cX0_layThrough 75 = .ok (.i2l, 1) := by decide +kernel
theorem dX0_layThrough_76 : decode cX0_layThrough 76 = .ok (.lstore 11, 2) := by decide +kernel
theorem dX0_layThrough_78 : decode cX0_layThrough 78 = .ok (.lload 5, 2) := by decide +kernel
theorem dX0_layThrough_80 : decode cX0_layThrough 80 = .ok (.lload 5, 2) := by decide +kernel
theorem dX0_layThrough_82 : decode cX0_layThrough 82 = .ok (.lmul, 1) := by decide +kernel
theorem dX0_layThrough_83 : decode cX0_layThrough 83 = .ok (.lload 7, 2) := by decide +kernel
theorem dX0_layThrough_85 : decode cX0_layThrough 85 = .ok (.lload 7, 2) := by decide +kernel
theorem dX0_layThrough_87 : decode cX0_layThrough 87 = .ok (.lmul, 1) := by decide +kernel
theorem dX0_layThrough_88 : decode cX0_layThrough 88 = .ok (.ladd, 1) := by decide +kernel
theorem dX0_layThrough_89 : decode cX0_layThrough 89 = .ok (.lstore 13, 2) := by decide +kernel
theorem dX0_layThrough_91 : decode cX0_layThrough 91 = .ok (.lload 9, 2) := by decide +kernel
theorem dX0_layThrough_93 : decode cX0_layThrough 93 = .ok (.lload 9, 2) := by decide +kernel
theorem dX0_layThrough_95 : decode cX0_layThrough 95 = .ok (.lmul, 1) := by decide +kernel
theorem dX0_layThrough_96 : decode cX0_layThrough 96 = .ok (.lload 11, 2) := by decide +kernel
theorem dX0_layThrough_98 : decode cX0_layThrough 98 = .ok (.lload 11, 2) := by decide +kernel
theorem dX0_layThrough_100 : decode cX0_layThrough 100 = .ok (.lmul, 1) := by decide +kernel
theorem dX0_layThrough_101 : decode cX0_layThrough 101 = .ok (.ladd, 1) := by decide +kernel
theorem dX0_layThrough_102 : decode cX0_layThrough 102 = .ok (.lstore 15, 2) := by decide +kernel
theorem dX0_layThrough_104 : decode cX0_layThrough 104 = .ok (.aload_n 0, 1) := by decide +kernel
theorem dX0_layThrough_105 : decode cX0_layThrough 105 = .ok (.lload 11, 2) := by decide +kernel
theorem dX0_layThrough_107 : decode cX0_layThrough 107 = .ok (.lload 13, 2) := by decide +kernel
theorem dX0_layThrough_109 : decode cX0_layThrough 109 = .ok (.lmul, 1) := by decide +kernel
theorem dX0_layThrough_110 : decode cX0_layThrough 110 = .ok (.lload 7, 2) := by decide +kernel
theorem dX0_layThrough_112 : decode cX0_layThrough 112 = .ok (.lload 15, 2) := by decide +kernel
theorem dX0_layThrough_114 : decode cX0_layThrough 114 = .ok (.lmul, 1) := by decide +kernel
theorem dX0_layThrough_115 : decode cX0_layThrough 115 = .ok (.lsub, 1) := by decide +kernel
theorem dX0_layThrough_116 : decode cX0_layThrough 116 = .ok (.putfield 25, 3) := by decide +kernel
theorem dX0_layThrough_119 : decode cX0_layThrough 119 = .ok (.aload_n 0, 1) := by decide +kernel
theorem dX0_layThrough_120 : decode cX0_layThrough 120 = .ok (.lload 5, 2) := by decide +kernel
theorem dX0_layThrough_122 : decode cX0_layThrough 122 = .ok (.lload 15, 2) := by decide +kernel
theorem dX0_layThrough_124 : decode cX0_layThrough 124 = .ok (.lmul, 1) := by decide +kernel
theorem dX0_layThrough_125 : decode cX0_layThrough 125 = .ok (.lload 9, 2) := by decide +kernel
theorem dX0_layThrough_127 : decode cX0_layThrough 127 = .ok (.lload 13, 2) := by decide +kernel
theorem dX0_layThrough_129 : decode cX0_layThrough 129 = .ok (.lmul, 1) := by decide +kernel
theorem dX0_layThrough_130 : decode cX0_layThrough 130 = .ok (.lsub, 1) := by decide +kernel
theorem dX0_layThrough_131 : decode cX0_layThrough 131 = .ok (.putfield 29, 3) := by decide +kernel
theorem dX0_layThrough_134 : decode cX0_layThrough 134 = .ok (.aload_n 0, 1) := by decide +kernel
theorem dX0_layThrough_135 : decode cX0_layThrough 135 = .ok (.ldc2_w 32, 3) := by decide +kernel
theorem dX0_layThrough_138 : decode cX0_layThrough 138 = .ok (.lload 5, 2) := by decide +kernel
theorem dX0_layThrough_140 : decode cX0_layThrough 140 = .ok (.lload 11, 2) := by decide +kernel
theorem dX0_layThrough_142 : decode cX0_layThrough 142 = .ok (.lmul, 1) := by decide +kernel
theorem dX0_layThrough_143 : decode cX0_layThrough 143 = .ok (.lload 7, 2) := by decide +kernel
theorem dX0_layThrough_145 : decode cX0_layThrough 145 = .ok (.lload 9, 2) := by decide +kernel
theorem dX0_layThrough_147 : decode cX0_layThrough 147 = .ok (.lmul, 1) := by decide +kernel
theorem dX0_layThrough_148 : decode cX0_layThrough 148 = .ok (.lsub, 1) := by decide +kernel
theorem dX0_layThrough_149 : decode cX0_layThrough 149 = .ok (.lmul, 1) := by decide +kernel
theorem dX0_layThrough_150 : decode cX0_layThrough 150 = .ok (.putfield 34, 3) := by decide +kernel
theorem dX0_layThrough_153 : decode cX0_layThrough 153 = .ok (.return_, 1) := by decide +kernel
theorem dX0_power_0 : decode cX0_power 0 = .ok (.iload_n 1, 1) := by decide +kernel
theorem dX0_power_1 : decode cX0_power 1 = .ok (.aload_n 0, 1) := by decide +kernel
theorem dX0_power_2 : decode cX0_power 2 = .ok (.getfield 13, 3) := by decide +kernel
theorem dX0_power_5 : decode cX0_power 5 = .ok (.isub, 1) := by decide +kernel
theorem dX0_power_6 : decode cX0_power 6 = .ok (.i2l, 1) := by decide +kernel
theorem dX0_power_7 : decode cX0_power 7 = .ok (.lstore_n 3, 1) := by decide +kernel
theorem dX0_power_8 : decode cX0_power 8 = .ok (.iload_n 2, 1) := by decide +kernel
theorem dX0_power_9 : decode cX0_power 9 = .ok (.aload_n 0, 1) := by decide +kernel
theorem dX0_power_10 : decode cX0_power 10 = .ok (.getfield 22, 3) := by decide +kernel
theorem dX0_power_13 : decode cX0_power 13 = .ok (.isub, 1) := by decide +kernel
theorem dX0_power_14 : decode cX0_power 14 = .ok (.i2l, 1) := by decide +kernel
theorem dX0_power_15 : decode cX0_power 15 = .ok (.lstore 5, 2) := by decide +kernel
theorem dX0_power_17 : decode cX0_power 17 = .ok (.lload_n 3, 1) := by decide +kernel
theorem dX0_power_18 : decode cX0_power 18 = .ok (.lload_n 3, 1) := by decide +kernel
theorem dX0_power_19 : decode cX0_power 19 = .ok (.lmul, 1) := by decide +kernel
theorem dX0_power_20 : decode cX0_power 20 = .ok (.lload 5, 2) := by decide +kernel
theorem dX0_power_22 : decode cX0_power 22 = .ok (.lload 5, 2) := by decide +kernel
theorem dX0_power_24 : decode cX0_power 24 = .ok (.lmul, 1) := by decide +kernel
theorem dX0_power_25 : decode cX0_power 25 = .ok (.ladd, 1) := by decide +kernel
theorem dX0_power_26 : decode cX0_power 26 = .ok (.aload_n 0, 1) := by decide +kernel
theorem dX0_power_27 : decode cX0_power 27 = .ok (.getfield 34, 3) := by decide +kernel
theorem dX0_power_30 : decode cX0_power 30 = .ok (.lmul, 1) := by decide +kernel
theorem dX0_power_31 : decode cX0_power 31 = .ok (.ldc2_w 32, 3) := by decide +kernel
theorem dX0_power_34 : decode cX0_power 34 = .ok (.lload_n 3, 1) := by decide +kernel
theorem dX0_power_35 : decode cX0_power 35 = .ok (.aload_n 0, 1) := by decide +kernel
theorem dX0_power_36 : decode cX0_power 36 = .ok (.getfield 25, 3) := by decide +kernel
theorem dX0_power_39 : decode cX0_power 39 = .ok (.lmul, 1) := by decide +kernel
theorem dX0_power_40 : decode cX0_power 40 = .ok (.lload 5, 2) := by decide +kernel
theorem dX0_power_42 : decode cX0_power 42 = .ok (.aload_n 0, 1) := by decide +kernel
theorem dX0_power_43 : decode cX0_power 43 = .ok (.getfield 29, 3) := by decide +kernel
theorem dX0_power_46 : decode cX0_power 46 = .ok (.lmul, 1) := by decide +kernel
theorem dX0_power_47 : decode cX0_power 47 = .ok (.ladd, 1) := by decide +kernel
theorem dX0_power_48 : decode cX0_power 48 = .ok (.lmul, 1) := by decide +kernel
theorem dX0_power_49 : decode cX0_power 49 = .ok (.lsub, 1) := by decide +kernel
theorem dX0_power_50 : decode cX0_power 50 = .ok (.lreturn, 1) := by decide +kernel
set_option maxRecDepth 20000 in
theorem ggX0_middle_X0_commonDivisor : GoodIn wsX0_middle wsX0_commonDivisor := goodIn_r _ [13] (by decide +kernel) (by decide +kernel)
set_option maxRecDepth 20000 in
theorem gX0_middle_X0_commonDivisor : GoodIn wsX0_middle (va_wsS RX0 43 yX0_commonDivisor wsX0_commonDivisor) := goodIn_app (goodIn_of _ (by decide +kernel)) ggX0_middle_X0_commonDivisor
theorem dX0_middle_0 : decode cX0_middle 0 = .ok (.aload_n 0, 1) := by decide +kernel
theorem dX0_middle_1 : decode cX0_middle 1 = .ok (.getfield 13, 3) := by decide +kernel
theorem dX0_middle_4 : decode cX0_middle 4 = .ok (.i2l, 1) := by decide +kernel
theorem dX0_middle_5 : decode cX0_middle 5 = .ok (.aload_n 0, 1) := by decide +kernel
theorem dX0_middle_6 : decode cX0_middle 6 = .ok (.getfield 34, 3) := by decide +kernel
theorem dX0_middle_9 : decode cX0_middle 9 = .ok (.lmul, 1) := by decide +kernel
theorem dX0_middle_10 : decode cX0_middle 10 = .ok (.aload_n 0, 1) := by decide +kernel
theorem dX0_middle_11 : decode cX0_middle 11 = .ok (.getfield 25, 3) := by decide +kernel
theorem dX0_middle_14 : decode cX0_middle 14 = .ok (.ladd, 1) := by decide +kernel
theorem dX0_middle_15 : decode cX0_middle 15 = .ok (.lstore_n 2, 1) := by decide +kernel
theorem dX0_middle_16 : decode cX0_middle 16 = .ok (.aload_n 0, 1) := by decide +kernel
theorem dX0_middle_17 : decode cX0_middle 17 = .ok (.getfield 22, 3) := by decide +kernel
theorem dX0_middle_20 : decode cX0_middle 20 = .ok (.i2l, 1) := by decide +kernel
theorem dX0_middle_21 : decode cX0_middle 21 = .ok (.aload_n 0, 1) := by decide +kernel
theorem dX0_middle_22 : decode cX0_middle 22 = .ok (.getfield 34, 3) := by decide +kernel
theorem dX0_middle_25 : decode cX0_middle 25 = .ok (.lmul, 1) := by decide +kernel
theorem dX0_middle_26 : decode cX0_middle 26 = .ok (.aload_n 0, 1) := by decide +kernel
theorem dX0_middle_27 : decode cX0_middle 27 = .ok (.getfield 29, 3) := by decide +kernel
theorem dX0_middle_30 : decode cX0_middle 30 = .ok (.ladd, 1) := by decide +kernel
theorem dX0_middle_31 : decode cX0_middle 31 = .ok (.lstore 4, 2) := by decide +kernel
theorem dX0_middle_33 : decode cX0_middle 33 = .ok (.iload_n 1, 1) := by decide +kernel
theorem dX0_middle_34 : decode cX0_middle 34 = .ok (.ifCond .ne 7, 3) := by decide +kernel
theorem dX0_middle_37 : decode cX0_middle 37 = .ok (.lload_n 2, 1) := by decide +kernel
theorem dX0_middle_38 : decode cX0_middle 38 = .ok (.goto 17, 3) := by decide +kernel
theorem dX0_middle_41 : decode cX0_middle 41 = .ok (.iload_n 1, 1) := by decide +kernel
theorem dX0_middle_42 : decode cX0_middle 42 = .ok (.iconst 1, 1) := by decide +kernel
theorem dX0_middle_43 : decode cX0_middle 43 = .ok (.if_icmp .ne 8, 3) := by decide +kernel
theorem dX0_middle_46 : decode cX0_middle 46 = .ok (.lload 4, 2) := by decide +kernel
theorem dX0_middle_48 : decode cX0_middle 48 = .ok (.goto 7, 3) := by decide +kernel
theorem dX0_middle_51 : decode cX0_middle 51 = .ok (.aload_n 0, 1) := by decide +kernel
theorem dX0_middle_52 : decode cX0_middle 52 = .ok (.getfield 34, 3) := by decide +kernel
theorem dX0_middle_55 : decode cX0_middle 55 = .ok (.lstore 6, 2) := by decide +kernel
theorem dX0_middle_57 : decode cX0_middle 57 = .ok (.aload_n 0, 1) := by decide +kernel
theorem dX0_middle_58 : decode cX0_middle 58 = .ok (.getfield 34, 3) := by decide +kernel
theorem dX0_middle_61 : decode cX0_middle 61 = .ok (.lload_n 2, 1) := by decide +kernel
theorem dX0_middle_62 : decode cX0_middle 62 = .ok (.invokestatic 37, 3) := by decide +kernel
theorem dX0_middle_65 : decode cX0_middle 65 = .ok (.lload 4, 2) := by decide +kernel
theorem dX0_middle_67 : decode cX0_middle 67 = .ok (.invokestatic 37, 3) := by decide +kernel
theorem dX0_middle_70 : decode cX0_middle 70 = .ok (.invokestatic 43, 3) := by decide +kernel
theorem dX0_middle_73 : decode cX0_middle 73 = .ok (.invokestatic 43, 3) := by decide +kernel
theorem dX0_middle_76 : decode cX0_middle 76 = .ok (.lstore 8, 2) := by decide +kernel
theorem dX0_middle_78 : decode cX0_middle 78 = .ok (.lload 8, 2) := by decide +kernel
theorem dX0_middle_80 : decode cX0_middle 80 = .ok (.lconst 1, 1) := by decide +kernel
theorem dX0_middle_81 : decode cX0_middle 81 = .ok (.lcmp, 1) := by decide +kernel
theorem dX0_middle_82 : decode cX0_middle 82 = .ok (.ifCond .le 11, 3) := by decide +kernel
theorem dX0_middle_85 : decode cX0_middle 85 = .ok (.lload 6, 2) := by decide +kernel
theorem dX0_middle_87 : decode cX0_middle 87 = .ok (.lload 8, 2) := by decide +kernel
theorem dX0_middle_89 : decode cX0_middle 89 = .ok (.ldiv, 1) := by decide +kernel
theorem dX0_middle_90 : decode cX0_middle 90 = .ok (.goto 5, 3) := by decide +kernel
theorem dX0_middle_93 : decode cX0_middle 93 = .ok (.lload 6, 2) := by decide +kernel
theorem dX0_middle_95 : decode cX0_middle 95 = .ok (.lreturn, 1) := by decide +kernel
theorem dX0_commonDivisor_0 : decode cX0_commonDivisor 0 = .ok (.iconst 0, 1) := by decide +kernel
theorem dX0_commonDivisor_1 : decode cX0_commonDivisor 1 = .ok (.istore 4, 2) := by decide +kernel
theorem dX0_commonDivisor_3 : decode cX0_commonDivisor 3 = .ok (.iload 4, 2) := by decide +kernel
theorem dX0_commonDivisor_5 : decode cX0_commonDivisor 5 = .ok (.sipush 128, 3) := by decide +kernel
theorem dX0_commonDivisor_8 : decode cX0_commonDivisor 8 = .ok (.if_icmp .ge 25, 3) := by decide +kernel
theorem dX0_commonDivisor_11 : decode cX0_commonDivisor 11 = .ok (.lload_n 2, 1) := by decide +kernel
theorem dX0_commonDivisor_12 : decode cX0_commonDivisor 12 = .ok (.lconst 0, 1) := by decide +kernel
theorem dX0_commonDivisor_13 : decode cX0_commonDivisor 13 = .ok (.lcmp, 1) := by decide +kernel
theorem dX0_commonDivisor_14 : decode cX0_commonDivisor 14 = .ok (.ifCond .eq 19, 3) := by decide +kernel
theorem dX0_commonDivisor_17 : decode cX0_commonDivisor 17 = .ok (.lload_n 0, 1) := by decide +kernel
theorem dX0_commonDivisor_18 : decode cX0_commonDivisor 18 = .ok (.lload_n 2, 1) := by decide +kernel
theorem dX0_commonDivisor_19 : decode cX0_commonDivisor 19 = .ok (.lrem, 1) := by decide +kernel
theorem dX0_commonDivisor_20 : decode cX0_commonDivisor 20 = .ok (.lstore 5, 2) := by decide +kernel
theorem dX0_commonDivisor_22 : decode cX0_commonDivisor 22 = .ok (.lload_n 2, 1) := by decide +kernel
theorem dX0_commonDivisor_23 : decode cX0_commonDivisor 23 = .ok (.lstore_n 0, 1) := by decide +kernel
theorem dX0_commonDivisor_24 : decode cX0_commonDivisor 24 = .ok (.lload 5, 2) := by decide +kernel
theorem dX0_commonDivisor_26 : decode cX0_commonDivisor 26 = .ok (.lstore_n 2, 1) := by decide +kernel
theorem dX0_commonDivisor_27 : decode cX0_commonDivisor 27 = .ok (.iinc 4 1, 3) := by decide +kernel
theorem dX0_commonDivisor_30 : decode cX0_commonDivisor 30 = .ok (.goto (-27), 3) := by decide +kernel
theorem dX0_commonDivisor_33 : decode cX0_commonDivisor 33 = .ok (.lload_n 0, 1) := by decide +kernel
theorem dX0_commonDivisor_34 : decode cX0_commonDivisor 34 = .ok (.lreturn, 1) := by decide +kernel
set_option maxRecDepth 20000 in
theorem ggX1_init_X0_init : GoodIn wsX1_init wsX0_init := goodIn_r _ [17, 18, 2, 3] (by decide +kernel) (by decide +kernel)
set_option maxRecDepth 20000 in
theorem gX1_init_X0_init_n11 : GoodIn wsX1_init (wsX0_init) := ggX1_init_X0_init
theorem dX1_init_0 : decode cX1_init 0 = .ok (.aload_n 0, 1) := by decide +kernel
theorem dX1_init_1 : decode cX1_init 1 = .ok (.invokespecial 3, 3) := by decide +kernel
theorem dX1_init_4 : decode cX1_init 4 = .ok (.aload_n 0, 1) := by decide +kernel
theorem dX1_init_5 : decode cX1_init 5 = .ok (.new 9, 3) := by decide +kernel
theorem dX1_init_8 : decode cX1_init 8 = .ok (.dup, 1) := by decide +kernel
theorem dX1_init_9 : decode cX1_init 9 = .ok (.invokespecial 11, 3) := by decide +kernel
theorem dX1_init_12 : decode cX1_init 12 = .ok (.putfield 12, 3) := by decide +kernel
theorem dX1_init_15 : decode cX1_init 15 = .ok (.aload_n 0, 1) := by decide +kernel
theorem dX1_init_16 : decode cX1_init 16 = .ok (.bipush 105, 2) := by decide +kernel
theorem dX1_init_18 : decode cX1_init 18 = .ok (.newarray .int, 2) := by decide +kernel
theorem dX1_init_20 : decode cX1_init 20 = .ok (.putfield 18, 3) := by decide +kernel
theorem dX1_init_23 : decode cX1_init 23 = .ok (.aload_n 0, 1) := by decide +kernel
theorem dX1_init_24 : decode cX1_init 24 = .ok (.bipush 36, 2) := by decide +kernel
theorem dX1_init_26 : decode cX1_init 26 = .ok (.newarray .int, 2) := by decide +kernel
theorem dX1_init_28 : decode cX1_init 28 = .ok (.putfield 22, 3) := by decide +kernel
theorem dX1_init_31 : decode cX1_init 31 = .ok (.aload_n 0, 1) := by decide +kernel
theorem dX1_init_32 : decode cX1_init 32 = .ok (.sipush 400, 3) := by decide +kernel
theorem dX1_init_35 : decode cX1_init 35 = .ok (.newarray .int, 2) := by decide +kernel
theorem dX1_init_37 : decode cX1_init 37 = .ok (.putfield 25, 3) := by decide +kernel
theorem dX1_init_40 : decode cX1_init 40 = .ok (.aload_n 0, 1) := by decide +kernel
theorem dX1_init_41 : decode cX1_init 41 = .ok (.iconst 0, 1) := by decide +kernel
theorem dX1_init_42 : decode cX1_init 42 = .ok (.putfield 28, 3) := by decide +kernel
theorem dX1_init_45 : decode cX1_init 45 = .ok (.aload_n 0, 1) := by decide +kernel
theorem dX1_init_46 : decode cX1_init 46 = .ok (.bipush 20, 2) := by decide +kernel
theorem dX1_init_48 : decode cX1_init 48 = .ok (.newarray .int, 2) := by decide +kernel
theorem dX1_init_50 : decode cX1_init 50 = .ok (.putfield 32, 3) := by decide +kernel
theorem dX1_init_53 : decode cX1_init 53 = .ok (.aload_n 0, 1) := by decide +kernel
theorem dX1_init_54 : decode cX1_init 54 = .ok (.iconst 0, 1) := by decide +kernel
theorem dX1_init_55 : decode cX1_init 55 = .ok (.putfield 35, 3) := by decide +kernel
theorem dX1_init_58 : decode cX1_init 58 = .ok (.aload_n 0, 1) := by decide +kernel
theorem dX1_init_59 : decode cX1_init 59 = .ok (.aload_n 1, 1) := by decide +kernel
theorem dX1_init_60 : decode cX1_init 60 = .ok (.putfield 38, 3) := by decide +kernel
theorem dX1_init_63 : decode cX1_init 63 = .ok (.return_, 1) := by decide +kernel
set_option maxRecDepth 20000 in
theorem ggX1_build_J7_fill_53178 : GoodIn wsX1_build wsJ7_fill_53178 := goodIn_r _ [8] (by decide +kernel) (by decide +kernel)
set_option maxRecDepth 20000 in
theorem gX1_build_J7_fill_53178 : GoodIn wsX1_build (va_wsS RX1 42 yJ7_fill_53178 wsJ7_fill_53178) := goodIn_app (goodIn_of _ (by decide +kernel)) ggX1_build_J7_fill_53178
set_option maxRecDepth 20000 in
theorem ggX1_build_X1_layLeftOf : GoodIn wsX1_build wsX1_layLeftOf := goodIn_r _ [13, 3, 4, 14, 15, 16, 17, 18, 19, 20, 21, 22, 23, 24, 25, 26, 27, 28, 12, 29, 30, 31, 32, 33, 34, 35, 36, 37, 38, 39, 40, 41, 42, 43, 44, 45, 46, 47, 48, 96, 97, 98, 99, 100, 101, 102, 103, 104, 105, 106, 107, 108, 109, 110, 111] (by decide +kernel) (by decide +kernel)
set_option maxRecDepth 20000 in
theorem gX1_build_X1_layLeftOf : GoodIn wsX1_build (wsV RX1 53 RX1 yX1_layLeftOf wsX1_layLeftOf) := goodIn_app (goodIn_of _ (by decide +kernel)) ggX1_build_X1_layLeftOf
set_option maxRecDepth 20000 in
theorem ggX1_build_X1_beginsCell : GoodIn wsX1_build wsX1_beginsCell := goodIn_r _ [52, 3, 4, 26, 27, 28, 12, 29, 14, 30, 31, 32, 33, 34, 35, 36, 37, 38, 39, 40, 41, 42, 15, 16, 17, 18, 19, 20, 21, 22, 23, 24, 25, 96, 97, 98, 99, 100, 101, 102, 103, 104, 105, 106, 107, 108, 109, 110, 111] (by decide +kernel) (by decide +kernel)
set_option maxRecDepth 20000 in
theorem gX1_build_X1_beginsCell : GoodIn wsX1_build (wsV RX1 57 RX1 yX1_beginsCell wsX1_beginsCell) := goodIn_app (goodIn_of _ (by decide +kernel)) ggX1_build_X1_beginsCell
set_option maxRecDepth 20000 in
theorem ggX1_build_X1_addCell : GoodIn wsX1_build wsX1_addCell := goodIn_r _ [56, 1, 57, 3, 4, 26, 27, 28, 12, 29, 14, 30, 31, 32, 33, 34, 35, 36, 37, 38, 39, 40, 41, 42, 58, 59, 60, 61, 62, 15, 16, 17, 18, 19, 20, 21, 22, 23, 24, 25, 63, 64, 65, 66, 2, 67, 68, 69, 70, 71, 72, 73, 74, 75, 76, 77, 78, 79, 80, 81, 96, 97, 98, 99, 100, 101, 102, 103, 104, 105, 106, 107, 108, 109, 110, 111] (by decide +kernel) (by decide +kernel)
set_option maxRecDepth 20000 in
theorem gX1_build_X1_addCell : GoodIn wsX1_build (wsV RX1 60 RX1 yX1_addCell wsX1_addCell) := goodIn_app (goodIn_of _ (by decide +kernel)) ggX1_build_X1_addCell
set_option maxRecDepth 20000 in
theorem ggX1_build_X1_walkRim : GoodIn wsX1_build wsX1_walkRim := goodIn_r _ [85, 86, 87, 88, 89, 90, 12, 91, 3, 4, 92, 93, 94, 95, 2, 79, 80, 81, 96, 97, 98, 99, 100, 101, 102, 103, 104, 105, 106] (by decide +kernel) (by decide +kernel)
set_option maxRecDepth 20000 in
theorem gX1_build_X1_walkRim : GoodIn wsX1_build (wsV RX1 64 RX1 yX1_walkRim wsX1_walkRim) := goodIn_app (goodIn_of _ (by decide +kernel)) ggX1_build_X1_walkRim
theorem dX1_build_0 : decode cX1_build 0 = .ok (.aload_n 0, 1) := by decide +kernel
theorem dX1_build_1 : decode cX1_build 1 = .ok (.iconst 0, 1) := by decide +kernel
theorem dX1_build_2 : decode cX1_build 2 = .ok (.putfield 28, 3) := by decide +kernel
theorem dX1_build_5 : decode cX1_build 5 = .ok (.aload_n 0, 1) := by decide +kernel
theorem dX1_build_6 : decode cX1_build 6 = .ok (.getfield 25, 3) := by decide +kernel
theorem dX1_build_9 : decode cX1_build 9 = .ok (.iconst (-1), 1) := by decide +kernel
theorem dX1_build_10 : decode cX1_build 10 = .ok (.invokestatic 42, 3) := by decide +kernel
theorem dX1_build_13 : decode cX1_build 13 = .ok (.iconst 0, 1) := by decide +kernel
theorem dX1_build_14 : decode cX1_build 14 = .ok (.istore_n 1, 1) := by decide +kernel
theorem dX1_build_15 : decode cX1_build 15 = .ok (.iload_n 1, 1) := by decide +kernel
theorem dX1_build_16 : decode cX1_build 16 = .ok (.aload_n 0, 1) := by decide +kernel
theorem dX1_build_17 : decode cX1_build 17 = .ok (.getfield 38, 3) := by decide +kernel
theorem dX1_build_20 : decode cX1_build 20 = .ok (.getfield 48, 3) := by decide +kernel
theorem dX1_build_23 : decode cX1_build 23 = .ok (.if_icmp .ge 53, 3) := by decide +kernel
theorem dX1_build_26 : decode cX1_build 26 = .ok (.iload_n 1, 1) := by decide +kernel
theorem dX1_build_27 : decode cX1_build 27 = .ok (.iconst 1, 1) := by decide +kernel
theorem dX1_build_28 : decode cX1_build 28 = .ok (.iadd, 1) := by decide +kernel
theorem dX1_build_29 : decode cX1_build 29 = .ok (.istore_n 2, 1) := by decide +kernel
theorem dX1_build_30 : decode cX1_build 30 = .ok (.iload_n 2, 1) := by decide +kernel
theorem dX1_build_31 : decode cX1_build 31 = .ok (.aload_n 0, 1) := by decide +kernel
theorem dX1_build_32 : decode cX1_build 32 = .ok (.getfield 38, 3) := by decide +kernel
theorem dX1_build_35 : decode cX1_build 35 = .ok (.getfield 48, 3) := by decide +kernel
theorem dX1_build_38 : decode cX1_build 38 = .ok (.if_icmp .ge 32, 3) := by decide +kernel
theorem dX1_build_41 : decode cX1_build 41 = .ok (.aload_n 0, 1) := by decide +kernel
theorem dX1_build_42 : decode cX1_build 42 = .ok (.iload_n 1, 1) := by decide +kernel
theorem dX1_build_43 : decode cX1_build 43 = .ok (.iload_n 2, 1) := by decide +kernel
theorem dX1_build_44 : decode cX1_build 44 = .ok (.invokevirtual 53, 3) := by decide +kernel
theorem dX1_build_47 : decode cX1_build 47 = .ok (.ifCond .eq 17, 3) := by decide +kernel
theorem dX1_build_50 : decode cX1_build 50 = .ok (.aload_n 0, 1) := by decide +kernel
theorem dX1_build_51 : decode cX1_build 51 = .ok (.iload_n 1, 1) := by decide +kernel
theorem dX1_build_52 : decode cX1_build 52 = .ok (.iload_n 2, 1) := by decide +kernel
theorem dX1_build_53 : decode cX1_build 53 = .ok (.invokevirtual 57, 3) := by decide +kernel
theorem dX1_build_56 : decode cX1_build 56 = .ok (.ifCond .eq 8, 3) := by decide +kernel
theorem dX1_build_59 : decode cX1_build 59 = .ok (.aload_n 0, 1) := by decide +kernel
theorem dX1_build_60 : decode cX1_build 60 = .ok (.iload_n 1, 1) := by decide +kernel
theorem dX1_build_61 : decode cX1_build 61 = .ok (.invokevirtual 60, 3) := by decide +kernel
theorem dX1_build_64 : decode cX1_build 64 = .ok (.iinc 2 1, 3) := by decide +kernel
theorem dX1_build_67 : decode cX1_build 67 = .ok (.goto (-37), 3) := by decide +kernel
theorem dX1_build_70 : decode cX1_build 70 = .ok (.iinc 1 1, 3) := by decide +kernel
theorem dX1_build_73 : decode cX1_build 73 = .ok (.goto (-58), 3) := by decide +kernel
theorem dX1_build_76 : decode cX1_build 76 = .ok (.aload_n 0, 1) := by decide +kernel
theorem dX1_build_77 : decode cX1_build 77 = .ok (.invokevirtual 64, 3) := by decide +kernel
theorem dX1_build_80 : decode cX1_build 80 = .ok (.return_, 1) := by decide +kernel
set_option maxRecDepth 20000 in
theorem ggX1_layLeftOf_X2_turn_ : GoodIn wsX1_layLeftOf wsX2_turn_ := goodIn_r _ [8, 9, 10, 11, 12, 13, 7, 14, 47, 48, 49] (by decide +kernel) (by decide +kernel)
set_option maxRecDepth 20000 in
theorem gX1_layLeftOf_X2_turn_ : GoodIn wsX1_layLeftOf (wsV RX1 67 RX2 yX2_turn_ wsX2_turn_) := goodIn_app (goodIn_of _ (by decide +kernel)) ggX1_layLeftOf_X2_turn_
set_option maxRecDepth 20000 in
theorem ggX1_layLeftOf_X1_powerOf : GoodIn wsX1_layLeftOf wsX1_powerOf := goodIn_r _ [19, 3, 1, 20, 21, 22, 23, 24, 25, 26, 27, 28, 29, 30, 31, 32, 39, 40, 41, 42, 43, 44, 45, 46, 47, 48, 49, 50, 51, 52, 53, 54] (by decide +kernel) (by decide +kernel)
set_option maxRecDepth 20000 in
theorem gX1_layLeftOf_X1_powerOf : GoodIn wsX1_layLeftOf (wsV RX1 71 RX1 yX1_powerOf wsX1_powerOf) := goodIn_app (goodIn_of _ (by decide +kernel)) ggX1_layLeftOf_X1_powerOf
set_option maxRecDepth 20000 in
theorem ggX1_layLeftOf_X0_layThrough : GoodIn wsX1_layLeftOf wsX0_layThrough := goodIn_r _ [36, 37, 27, 38, 28, 31, 32, 30, 29, 47, 48, 49, 50, 51, 52, 53, 54] (by decide +kernel) (by decide +kernel)
set_option maxRecDepth 20000 in
theorem gX1_layLeftOf_X0_layThrough : GoodIn wsX1_layLeftOf (wsV RX1 75 RX0 yX0_layThrough wsX0_layThrough) := goodIn_app (goodIn_of _ (by decide +kernel)) ggX1_layLeftOf_X0_layThrough
theorem dX1_layLeftOf_0 : decode cX1_layLeftOf 0 = .ok (.iconst 0, 1) := by decide +kernel
theorem dX1_layLeftOf_1 : decode cX1_layLeftOf 1 = .ok (.istore_n 3, 1) := by decide +kernel
theorem dX1_layLeftOf_2 : decode cX1_layLeftOf 2 = .ok (.iconst 0, 1) := by decide +kernel
theorem dX1_layLeftOf_3 : decode cX1_layLeftOf 3 = .ok (.istore 4, 2) := by decide +kernel
theorem dX1_layLeftOf_5 : decode cX1_layLeftOf 5 = .ok (.iload 4, 2) := by decide +kernel
theorem dX1_layLeftOf_7 : decode cX1_layLeftOf 7 = .ok (.aload_n 0, 1) := by decide +kernel
theorem dX1_layLeftOf_8 : decode cX1_layLeftOf 8 = .ok (.getfield 38, 3) := by decide +kernel
theorem dX1_layLeftOf_11 : decode cX1_layLeftOf 11 = .ok (.getfield 48, 3) := by decide +kernel
theorem dX1_layLeftOf_14 : decode cX1_layLeftOf 14 = .ok (.if_icmp .ge 55, 3) := by decide +kernel
theorem dX1_layLeftOf_17 : decode cX1_layLeftOf 17 = .ok (.aload_n 0, 1) := by decide +kernel
theorem dX1_layLeftOf_18 : decode cX1_layLeftOf 18 = .ok (.getfield 38, 3) := by decide +kernel
theorem dX1_layLeftOf_21 : decode cX1_layLeftOf 21 = .ok (.iload_n 1, 1) := by decide +kernel
theorem dX1_layLeftOf_22 : decode cX1_layLeftOf 22 = .ok (.iload_n 2, 1) := by decide +kernel
theorem dX1_layLeftOf_23 : decode cX1_layLeftOf 23 = .ok (.iload 4, 2) := by decide +kernel
theorem dX1_layLeftOf_25 : decode cX1_layLeftOf 25 = .ok (.invokevirtual 67, 3) := by decide +kernel
theorem dX1_layLeftOf_28 : decode cX1_layLeftOf 28 = .ok (.ifCond .le 35, 3) := by decide +kernel
theorem dX1_layLeftOf_31 : decode cX1_layLeftOf 31 = .ok (.iload_n 3, 1) := by decide +kernel
theorem dX1_layLeftOf_32 : decode cX1_layLeftOf 32 = .ok (.ifCond .eq 14, 3) := by decide +kernel
theorem dX1_layLeftOf_35 : decode cX1_layLeftOf 35 = .ok (.aload_n 0, 1) := by decide +kernel
theorem dX1_layLeftOf_36 : decode cX1_layLeftOf 36 = .ok (.iload 4, 2) := by decide +kernel
theorem dX1_layLeftOf_38 : decode cX1_layLeftOf 38 = .ok (.invokevirtual 71, 3) := by decide +kernel
theorem dX1_layLeftOf_41 : decode cX1_layLeftOf 41 = .ok (.lconst 0, 1) := by decide +kernel
theorem dX1_layLeftOf_42 : decode cX1_layLeftOf 42 = .ok (.lcmp, 1) := by decide +kernel
theorem dX1_layLeftOf_43 : decode cX1_layLeftOf 43 = .ok (.ifCond .ge 20, 3) := by decide +kernel
theorem dX1_layLeftOf_46 : decode cX1_layLeftOf 46 = .ok (.aload_n 0, 1) := by decide +kernel
theorem dX1_layLeftOf_47 : decode cX1_layLeftOf 47 = .ok (.getfield 12, 3) := by decide +kernel
theorem dX1_layLeftOf_50 : decode cX1_layLeftOf 50 = .ok (.aload_n 0, 1) := by decide +kernel
theorem dX1_layLeftOf_51 : decode cX1_layLeftOf 51 = .ok (.getfield 38, 3) := by decide +kernel
theorem dX1_layLeftOf_54 : decode cX1_layLeftOf 54 = .ok (.iload_n 1, 1) := by decide +kernel
theorem dX1_layLeftOf_55 : decode cX1_layLeftOf 55 = .ok (.iload_n 2, 1) := by decide +kernel
theorem dX1_layLeftOf_56 : decode cX1_layLeftOf 56 = .ok (.iload 4, 2) := by decide +kernel
theorem dX1_layLeftOf_58 : decode cX1_layLeftOf 58 = .ok (.invokevirtual 75, 3) := by decide +kernel
theorem dX1_layLeftOf_61 : decode cX1_layLeftOf 61 = .ok (.iconst 1, 1) := by decide +kernel
theorem dX1_layLeftOf_62 : decode cX1_layLeftOf 62 = .ok (.istore_n 3, 1) := by decide +kernel
theorem dX1_layLeftOf_63 : decode cX1_layLeftOf 63 = .ok (.iinc 4 1, 3) := by decide +kernel
theorem dX1_layLeftOf_66 : decode cX1_layLeftOf 66 = .ok (.goto (-61), 3) := by decide +kernel
theorem dX1_layLeftOf_69 : decode cX1_layLeftOf 69 = .ok (.iload_n 3, 1) := by decide +kernel
theorem dX1_layLeftOf_70 : decode cX1_layLeftOf 70 = .ok (.ireturn, 1) := by decide +kernel
set_option maxRecDepth 20000 in
theorem ggX1_beginsCell_X1_powerOf : GoodIn wsX1_beginsCell wsX1_powerOf := goodIn_r _ [7, 8, 1, 9, 10, 11, 12, 13, 14, 15, 16, 17, 18, 19, 20, 21, 33, 34, 35, 36, 37, 38, 39, 40, 41, 42, 43, 44, 45, 46, 47, 48] (by decide +kernel) (by decide +kernel)
set_option maxRecDepth 20000 in
theorem gX1_beginsCell_X1_powerOf : GoodIn wsX1_beginsCell (wsV RX1 71 RX1 yX1_powerOf wsX1_powerOf) := goodIn_app (goodIn_of _ (by decide +kernel)) ggX1_beginsCell_X1_powerOf
set_option maxRecDepth 20000 in
theorem ggX1_beginsCell_X2_turn_ : GoodIn wsX1_beginsCell wsX2_turn_ := goodIn_r _ [26, 27, 28, 29, 30, 31, 25, 32, 41, 42, 43] (by decide +kernel) (by decide +kernel)
set_option maxRecDepth 20000 in
theorem gX1_beginsCell_X2_turn_ : GoodIn wsX1_beginsCell (wsV RX1 67 RX2 yX2_turn_ wsX2_turn_) := goodIn_app (goodIn_of _ (by decide +kernel)) ggX1_beginsCell_X2_turn_
theorem dX1_beginsCell_0 : decode cX1_beginsCell 0 = .ok (.iconst 0, 1) := by decide +kernel
theorem dX1_beginsCell_1 : decode cX1_beginsCell 1 = .ok (.istore_n 3, 1) := by decide +kernel
theorem dX1_beginsCell_2 : decode cX1_beginsCell 2 = .ok (.iload_n 3, 1) := by decide +kernel
theorem dX1_beginsCell_3 : decode cX1_beginsCell 3 = .ok (.aload_n 0, 1) := by decide +kernel
theorem dX1_beginsCell_4 : decode cX1_beginsCell 4 = .ok (.getfield 38, 3) := by decide +kernel
theorem dX1_beginsCell_7 : decode cX1_beginsCell 7 = .ok (.getfield 48, 3) := by decide +kernel
theorem dX1_beginsCell_10 : decode cX1_beginsCell 10 = .ok (.if_icmp .ge 62, 3) := by decide +kernel
theorem dX1_beginsCell_13 : decode cX1_beginsCell 13 = .ok (.aload_n 0, 1) := by decide +kernel
theorem dX1_beginsCell_14 : decode cX1_beginsCell 14 = .ok (.iload_n 3, 1) := by decide +kernel
theorem dX1_beginsCell_15 : decode cX1_beginsCell 15 = .ok (.invokevirtual 71, 3) := by decide +kernel
theorem dX1_beginsCell_18 : decode cX1_beginsCell 18 = .ok (.lstore 4, 2) := by decide +kernel
theorem dX1_beginsCell_20 : decode cX1_beginsCell 20 = .ok (.iload_n 3, 1) := by decide +kernel
theorem dX1_beginsCell_21 : decode cX1_beginsCell 21 = .ok (.iload_n 1, 1) := by decide +kernel
theorem dX1_beginsCell_22 : decode cX1_beginsCell 22 = .ok (.if_icmp .lt 16, 3) := by decide +kernel
theorem dX1_beginsCell_25 : decode cX1_beginsCell 25 = .ok (.aload_n 0, 1) := by decide +kernel
theorem dX1_beginsCell_26 : decode cX1_beginsCell 26 = .ok (.getfield 38, 3) := by decide +kernel
theorem dX1_beginsCell_29 : decode cX1_beginsCell 29 = .ok (.iload_n 1, 1) := by decide +kernel
theorem dX1_beginsCell_30 : decode cX1_beginsCell 30 = .ok (.iload_n 2, 1) := by decide +kernel
theorem dX1_beginsCell_31 : decode cX1_beginsCell 31 = .ok (.iload_n 3, 1) := by decide +kernel
theorem dX1_beginsCell_32 : decode cX1_beginsCell 32 = .ok (.invokevirtual 67, 3) := by decide +kernel
theorem dX1_beginsCell_35 : decode cX1_beginsCell 35 = .ok (.ifCond .ge 7, 3) := by decide +kernel
theorem dX1_beginsCell_38 : decode cX1_beginsCell 38 = .ok (.iconst 1, 1) := by decide +kernel
theorem dX1_beginsCell_39 : decode cX1_beginsCell 39 = .ok (.goto 4, 3) := by decide +kernel
theorem dX1_beginsCell_42 : decode cX1_beginsCell 42 = .ok (.iconst 0, 1) := by decide +kernel
theorem dX1_beginsCell_43 : decode cX1_beginsCell 43 = .ok (.istore 6, 2) := by decide +kernel
theorem dX1_beginsCell_45 : decode cX1_beginsCell 45 = .ok (.lload 4, 2) := by decide +kernel
theorem dX1_beginsCell_47 : decode cX1_beginsCell 47 = .ok (.lconst 0, 1) := by decide +kernel
theorem dX1_beginsCell_48 : decode cX1_beginsCell 48 = .ok (.lcmp, 1) := by decide +kernel
theorem dX1_beginsCell_49 : decode cX1_beginsCell 49 = .ok (.ifCond .lt 15, 3) := by decide +kernel
theorem dX1_beginsCell_52 : decode cX1_beginsCell 52 = .ok (.lload 4, 2) := by decide +kernel
theorem dX1_beginsCell_54 : decode cX1_beginsCell 54 = .ok (.lconst 0, 1) := by decide +kernel
theorem dX1_beginsCell_55 : decode cX1_beginsCell 55 = .ok (.lcmp, 1) := by decide +kernel
theorem dX1_beginsCell_56 : decode cX1_beginsCell 56 = .ok (.ifCond .ne 10, 3) := by decide +kernel
theorem dX1_beginsCell_59 : decode cX1_beginsCell 59 = .ok (.iload 6, 2) := by decide +kernel
theorem dX1_beginsCell_61 : decode cX1_beginsCell 61 = .ok (.ifCond .eq 5, 3) := by decide +kernel
theorem dX1_beginsCell_64 : decode cX1_beginsCell 64 = .ok (.iconst 0, 1) := by decide +kernel
theorem dX1_beginsCell_65 : decode cX1_beginsCell 65 = .ok (.ireturn, 1) := by decide +kernel
theorem dX1_beginsCell_66 : decode cX1_beginsCell 66 = .ok (.iinc 3 1, 3) := by decide +kernel
theorem dX1_beginsCell_69 : decode cX1_beginsCell 69 = .ok (.goto (-67), 3) := by decide +kernel
theorem dX1_beginsCell_72 : decode cX1_beginsCell 72 = .ok (.iconst 1, 1) := by decide +kernel
theorem dX1_beginsCell_73 : decode cX1_beginsCell 73 = .ok (.ireturn, 1) := by decide +kernel
set_option maxRecDepth 20000 in
theorem ggX1_powerOf_X0_power : GoodIn wsX1_powerOf wsX0_power := goodIn_r _ [9, 10, 11, 12, 13, 14, 15, 27, 28, 29, 30, 31] (by decide +kernel) (by decide +kernel)
set_option maxRecDepth 20000 in
theorem gX1_powerOf_X0_power : GoodIn wsX1_powerOf (wsV RX1 85 RX0 yX0_power wsX0_power) := goodIn_app (goodIn_of _ (by decide +kernel)) ggX1_powerOf_X0_power
theorem dX1_powerOf_0 : decode cX1_powerOf 0 = .ok (.aload_n 0, 1) := by decide +kernel
theorem dX1_powerOf_1 : decode cX1_powerOf 1 = .ok (.getfield 12, 3) := by decide +kernel
theorem dX1_powerOf_4 : decode cX1_powerOf 4 = .ok (.aload_n 0, 1) := by decide +kernel
theorem dX1_powerOf_5 : decode cX1_powerOf 5 = .ok (.getfield 38, 3) := by decide +kernel
theorem dX1_powerOf_8 : decode cX1_powerOf 8 = .ok (.getfield 79, 3) := by decide +kernel
theorem dX1_powerOf_11 : decode cX1_powerOf 11 = .ok (.iload_n 1, 1) := by decide +kernel
theorem dX1_powerOf_12 : decode cX1_powerOf 12 = .ok (.iaload, 1) := by decide +kernel
theorem dX1_powerOf_13 : decode cX1_powerOf 13 = .ok (.aload_n 0, 1) := by decide +kernel
theorem dX1_powerOf_14 : decode cX1_powerOf 14 = .ok (.getfield 38, 3) := by decide +kernel
theorem dX1_powerOf_17 : decode cX1_powerOf 17 = .ok (.getfield 82, 3) := by decide +kernel
theorem dX1_powerOf_20 : decode cX1_powerOf 20 = .ok (.iload_n 1, 1) := by decide +kernel
theorem dX1_powerOf_21 : decode cX1_powerOf 21 = .ok (.iaload, 1) := by decide +kernel
theorem dX1_powerOf_22 : decode cX1_powerOf 22 = .ok (.invokevirtual 85, 3) := by decide +kernel
theorem dX1_powerOf_25 : decode cX1_powerOf 25 = .ok (.lreturn, 1) := by decide +kernel
set_option maxRecDepth 20000 in
theorem ggX1_addCell_X1_powerOf : GoodIn wsX1_addCell wsX1_powerOf := goodIn_r _ [9, 10, 3, 11, 12, 13, 14, 15, 16, 17, 18, 19, 20, 21, 22, 23, 60, 61, 62, 63, 64, 65, 66, 67, 68, 69, 70, 71, 72, 73, 74, 75] (by decide +kernel) (by decide +kernel)
set_option maxRecDepth 20000 in
theorem gX1_addCell_X1_powerOf : GoodIn wsX1_addCell (wsV RX1 71 RX1 yX1_powerOf wsX1_powerOf) := goodIn_app (goodIn_of _ (by decide +kernel)) ggX1_addCell_X1_powerOf
set_option maxRecDepth 20000 in
theorem ggX1_addCell_X1_insertRound : GoodIn wsX1_addCell wsX1_insertRound := goodIn_r _ [27, 3, 28, 29, 30, 31, 32, 33, 34, 35, 36, 37, 38, 39, 60, 61, 62, 63, 64, 65, 66, 67, 68, 69, 70] (by decide +kernel) (by decide +kernel)
set_option maxRecDepth 20000 in
theorem gX1_addCell_X1_insertRound : GoodIn wsX1_addCell (wsV RX1 89 RX1 yX1_insertRound wsX1_insertRound) := goodIn_app (goodIn_of _ (by decide +kernel)) ggX1_addCell_X1_insertRound
set_option maxRecDepth 20000 in
theorem ggX1_addCell_X1_claimSides : GoodIn wsX1_addCell wsX1_claimSides := goodIn_r _ [43, 44, 45, 46, 47, 8, 48, 2, 49, 50, 51, 52, 28, 53, 54, 55, 56, 57, 58, 59, 60, 61, 62, 63, 64, 65, 66, 67] (by decide +kernel) (by decide +kernel)
set_option maxRecDepth 20000 in
theorem gX1_addCell_X1_claimSides : GoodIn wsX1_addCell (wsV RX1 93 RX1 yX1_claimSides wsX1_claimSides) := goodIn_app (goodIn_of _ (by decide +kernel)) ggX1_addCell_X1_claimSides
theorem dX1_addCell_0 : decode cX1_addCell 0 = .ok (.aload_n 0, 1) := by decide +kernel
theorem dX1_addCell_1 : decode cX1_addCell 1 = .ok (.getfield 28, 3) := by decide +kernel
theorem dX1_addCell_4 : decode cX1_addCell 4 = .ok (.bipush 35, 2) := by decide +kernel
theorem dX1_addCell_6 : decode cX1_addCell 6 = .ok (.if_icmp .lt 4, 3) := by decide +kernel
theorem dX1_addCell_9 : decode cX1_addCell 9 = .ok (.return_, 1) := by decide +kernel
theorem dX1_addCell_10 : decode cX1_addCell 10 = .ok (.aload_n 0, 1) := by decide +kernel
theorem dX1_addCell_11 : decode cX1_addCell 11 = .ok (.getfield 22, 3) := by decide +kernel
theorem dX1_addCell_14 : decode cX1_addCell 14 = .ok (.aload_n 0, 1) := by decide +kernel
theorem dX1_addCell_15 : decode cX1_addCell 15 = .ok (.getfield 28, 3) := by decide +kernel
theorem dX1_addCell_18 : decode cX1_addCell 18 = .ok (.iaload, 1) := by decide +kernel
theorem dX1_addCell_19 : decode cX1_addCell 19 = .ok (.istore_n 2, 1) := by decide +kernel
theorem dX1_addCell_20 : decode cX1_addCell 20 = .ok (.iload_n 2, 1) := by decide +kernel
theorem dX1_addCell_21 : decode cX1_addCell 21 = .ok (.istore_n 3, 1) := by decide +kernel
theorem dX1_addCell_22 : decode cX1_addCell 22 = .ok (.iload_n 1, 1) := by decide +kernel
theorem dX1_addCell_23 : decode cX1_addCell 23 = .ok (.istore 4, 2) := by decide +kernel
theorem dX1_addCell_25 : decode cX1_addCell 25 = .ok (.iload 4, 2) := by decide +kernel
theorem dX1_addCell_27 : decode cX1_addCell 27 = .ok (.aload_n 0, 1) := by decide +kernel
theorem dX1_addCell_28 : decode cX1_addCell 28 = .ok (.getfield 38, 3) := by decide +kernel
theorem dX1_addCell_31 : decode cX1_addCell 31 = .ok (.getfield 48, 3) := by decide +kernel
theorem dX1_addCell_34 : decode cX1_addCell 34 = .ok (.if_icmp .ge 37, 3) := by decide +kernel
theorem dX1_addCell_37 : decode cX1_addCell 37 = .ok (.iload_n 3, 1) := by decide +kernel
theorem dX1_addCell_38 : decode cX1_addCell 38 = .ok (.bipush 105, 2) := by decide +kernel
theorem dX1_addCell_40 : decode cX1_addCell 40 = .ok (.if_icmp .ge 31, 3) := by decide +kernel
theorem dX1_addCell_43 : decode cX1_addCell 43 = .ok (.aload_n 0, 1) := by decide +kernel
theorem dX1_addCell_44 : decode cX1_addCell 44 = .ok (.iload 4, 2) := by decide +kernel
theorem dX1_addCell_46 : decode cX1_addCell 46 = .ok (.invokevirtual 71, 3) := by decide +kernel
theorem dX1_addCell_49 : decode cX1_addCell 49 = .ok (.lconst 0, 1) := by decide +kernel
theorem dX1_addCell_50 : decode cX1_addCell 50 = .ok (.lcmp, 1) := by decide +kernel
theorem dX1_addCell_51 : decode cX1_addCell 51 = .ok (.ifCond .ne 14, 3) := by decide +kernel
theorem dX1_addCell_54 : decode cX1_addCell 54 = .ok (.aload_n 0, 1) := by decide +kernel
theorem dX1_addCell_55 : decode cX1_addCell 55 = .ok (.iload_n 2, 1) := by decide +kernel
theorem dX1_addCell_56 : decode cX1_addCell 56 = .ok (.iload_n 3, 1) := by decide +kernel
theorem dX1_addCell_57 : decode cX1_addCell 57 = .ok (.iload 4, 2) := by decide +kernel
theorem dX1_addCell_59 : decode cX1_addCell 59 = .ok (.invokevirtual 89, 3) := by decide +kernel
theorem dX1_addCell_62 : decode cX1_addCell 62 = .ok (.iinc 3 1, 3) := by decide +kernel
theorem dX1_addCell_65 : decode cX1_addCell 65 = .ok (.iinc 4 1, 3) := by decide +kernel
theorem dX1_addCell_68 : decode cX1_addCell 68 = .ok (.goto (-43), 3) := by decide +kernel
theorem dX1_addCell_71 : decode cX1_addCell 71 = .ok (.aload_n 0, 1) := by decide +kernel
theorem dX1_addCell_72 : decode cX1_addCell 72 = .ok (.getfield 22, 3) := by decide +kernel
theorem dX1_addCell_75 : decode cX1_addCell 75 = .ok (.aload_n 0, 1) := by decide +kernel
theorem dX1_addCell_76 : decode cX1_addCell 76 = .ok (.getfield 28, 3) := by decide +kernel
theorem dX1_addCell_79 : decode cX1_addCell 79 = .ok (.iconst 1, 1) := by decide +kernel
theorem dX1_addCell_80 : decode cX1_addCell 80 = .ok (.iadd, 1) := by decide +kernel
theorem dX1_addCell_81 : decode cX1_addCell 81 = .ok (.iload_n 3, 1) := by decide +kernel
theorem dX1_addCell_82 : decode cX1_addCell 82 = .ok (.iastore, 1) := by decide +kernel
theorem dX1_addCell_83 : decode cX1_addCell 83 = .ok (.aload_n 0, 1) := by decide +kernel
theorem dX1_addCell_84 : decode cX1_addCell 84 = .ok (.aload_n 0, 1) := by decide +kernel
theorem dX1_addCell_85 : decode cX1_addCell 85 = .ok (.getfield 28, 3) := by decide +kernel
theorem dX1_addCell_88 : decode cX1_addCell 88 = .ok (.invokevirtual 93, 3) := by decide +kernel
theorem dX1_addCell_91 : decode cX1_addCell 91 = .ok (.aload_n 0, 1) := by decide +kernel
theorem dX1_addCell_92 : decode cX1_addCell 92 = .ok (.dup, 1) := by decide +kernel
theorem dX1_addCell_93 : decode cX1_addCell 93 = .ok (.getfield 28, 3) := by decide +kernel
theorem dX1_addCell_96 : decode cX1_addCell 96 = .ok (.iconst 1, 1) := by decide +kernel
theorem dX1_addCell_97 : decode cX1_addCell 97 = .ok (.iadd, 1) := by decide +kernel
theorem dX1_addCell_98 : decode cX1_addCell 98 = .ok (.putfield 28, 3) := by decide +kernel
theorem dX1_addCell_101 : decode cX1_addCell 101 = .ok (.return_, 1) := by decide +kernel
set_option maxRecDepth 20000 in
theorem ggX1_insertRound_X2_turn_ : GoodIn wsX1_insertRound wsX2_turn_ := goodIn_r _ [7, 8, 9, 10, 11, 12, 6, 13, 22, 23, 24] (by decide +kernel) (by decide +kernel)
set_option maxRecDepth 20000 in
theorem gX1_insertRound_X2_turn_ : GoodIn wsX1_insertRound (wsV RX1 67 RX2 yX2_turn_ wsX2_turn_) := goodIn_app (goodIn_of _ (by decide +kernel)) ggX1_insertRound_X2_turn_
theorem dX1_insertRound_0 : decode cX1_insertRound 0 = .ok (.iload_n 2, 1) := by decide +kernel
theorem dX1_insertRound_1 : decode cX1_insertRound 1 = .ok (.istore 4, 2) := by decide +kernel
theorem dX1_insertRound_3 : decode cX1_insertRound 3 = .ok (.iload 4, 2) := by decide +kernel
theorem dX1_insertRound_5 : decode cX1_insertRound 5 = .ok (.iload_n 1, 1) := by decide +kernel
theorem dX1_insertRound_6 : decode cX1_insertRound 6 = .ok (.iconst 1, 1) := by decide +kernel
theorem dX1_insertRound_7 : decode cX1_insertRound 7 = .ok (.iadd, 1) := by decide +kernel
theorem dX1_insertRound_8 : decode cX1_insertRound 8 = .ok (.if_icmp .le 51, 3) := by decide +kernel
theorem dX1_insertRound_11 : decode cX1_insertRound 11 = .ok (.aload_n 0, 1) := by decide +kernel
theorem dX1_insertRound_12 : decode cX1_insertRound 12 = .ok (.getfield 38, 3) := by decide +kernel
theorem dX1_insertRound_15 : decode cX1_insertRound 15 = .ok (.aload_n 0, 1) := by decide +kernel
theorem dX1_insertRound_16 : decode cX1_insertRound 16 = .ok (.getfield 18, 3) := by decide +kernel
theorem dX1_insertRound_19 : decode cX1_insertRound 19 = .ok (.iload_n 1, 1) := by decide +kernel
theorem dX1_insertRound_20 : decode cX1_insertRound 20 = .ok (.iaload, 1) := by decide +kernel
theorem dX1_insertRound_21 : decode cX1_insertRound 21 = .ok (.aload_n 0, 1) := by decide +kernel
theorem dX1_insertRound_22 : decode cX1_insertRound 22 = .ok (.getfield 18, 3) := by decide +kernel
theorem dX1_insertRound_25 : decode cX1_insertRound 25 = .ok (.iload 4, 2) := by decide +kernel
theorem dX1_insertRound_27 : decode cX1_insertRound 27 = .ok (.iconst 1, 1) := by decide +kernel
theorem dX1_insertRound_28 : decode cX1_insertRound 28 = .ok (.isub, 1) := by decide +kernel
theorem dX1_insertRound_29 : decode cX1_insertRound 29 = .ok (.iaload, 1) := by decide +kernel
theorem dX1_insertRound_30 : decode cX1_insertRound 30 = .ok (.iload_n 3, 1) := by decide +kernel
theorem dX1_insertRound_31 : decode cX1_insertRound 31 = .ok (.invokevirtual 67, 3) := by decide +kernel
theorem dX1_insertRound_34 : decode cX1_insertRound 34 = .ok (.ifCond .ge 25, 3) := by decide +kernel
theorem dX1_insertRound_37 : decode cX1_insertRound 37 = .ok (.aload_n 0, 1) := by decide +kernel
theorem dX1_insertRound_38 : decode cX1_insertRound 38 = .ok (.getfield 18, 3) := by decide +kernel
theorem dX1_insertRound_41 : decode cX1_insertRound 41 = .ok (.iload 4, 2) := by decide +kernel
theorem dX1_insertRound_43 : decode cX1_insertRound 43 = .ok (.aload_n 0, 1) := by decide +kernel
theorem dX1_insertRound_44 : decode cX1_insertRound 44 = .ok (.getfield 18, 3) := by decide +kernel
theorem dX1_insertRound_47 : decode cX1_insertRound 47 = .ok (.iload 4, 2) := by decide +kernel
theorem dX1_insertRound_49 : decode cX1_insertRound 49 = .ok (.iconst 1, 1) := by decide +kernel
theorem dX1_insertRound_50 : decode cX1_insertRound 50 = .ok (.isub, 1) := by decide +kernel
theorem dX1_insertRound_51 : decode cX1_insertRound 51 = .ok (.iaload, 1) := by decide +kernel
theorem dX1_insertRound_52 : decode cX1_insertRound 52 = .ok (.iastore, 1) := by decide +kernel
theorem dX1_insertRound_53 : decode cX1_insertRound 53 = .ok (.iinc 4 (-1), 3) := by decide +kernel
theorem dX1_insertRound_56 : decode cX1_insertRound 56 = .ok (.goto (-53), 3) := by decide +kernel
theorem dX1_insertRound_59 : decode cX1_insertRound 59 = .ok (.aload_n 0, 1) := by decide +kernel
theorem dX1_insertRound_60 : decode cX1_insertRound 60 = .ok (.getfield 18, 3) := by decide +kernel
theorem dX1_insertRound_63 : decode cX1_insertRound 63 = .ok (.iload 4, 2) := by decide +kernel
theorem dX1_insertRound_65 : decode cX1_insertRound 65 = .ok (.iload_n 3, 1) := by decide +kernel
theorem dX1_insertRound_66 : decode cX1_insertRound 66 = .ok (.iastore, 1) := by decide +kernel
theorem dX1_insertRound_67 : decode cX1_insertRound 67 = .ok (.return_, 1) := by decide +kernel
set_option maxRecDepth 20000 in
theorem ggX1_claimSides_X1_sideCount : GoodIn wsX1_claimSides wsX1_sideCount := goodIn_r _ [6, 7, 20, 21, 22, 23, 24, 25, 26, 27] (by decide +kernel) (by decide +kernel)
set_option maxRecDepth 20000 in
theorem gX1_claimSides_X1_sideCount : GoodIn wsX1_claimSides (wsV RX1 96 RX1 yX1_sideCount wsX1_sideCount) := goodIn_app (goodIn_of _ (by decide +kernel)) ggX1_claimSides_X1_sideCount
set_option maxRecDepth 20000 in
theorem ggX1_claimSides_X1_siteOf : GoodIn wsX1_claimSides wsX1_siteOf := goodIn_r _ [11, 12, 7, 20, 21, 22, 23, 24, 25, 26, 27] (by decide +kernel) (by decide +kernel)
set_option maxRecDepth 20000 in
theorem gX1_claimSides_X1_siteOf : GoodIn wsX1_claimSides (wsV RX1 100 RX1 yX1_siteOf wsX1_siteOf) := goodIn_app (goodIn_of _ (by decide +kernel)) ggX1_claimSides_X1_siteOf
set_option maxRecDepth 20000 in
theorem ggX1_claimSides_X1_siteAfter : GoodIn wsX1_claimSides wsX1_siteAfter := goodIn_r _ [16, 2, 3, 4, 5, 6, 7, 8, 9, 10, 11, 12, 20, 21, 22, 23, 24, 25, 26, 27] (by decide +kernel) (by decide +kernel)
set_option maxRecDepth 20000 in
theorem gX1_claimSides_X1_siteAfter : GoodIn wsX1_claimSides (wsV RX1 104 RX1 yX1_siteAfter wsX1_siteAfter) := goodIn_app (goodIn_of _ (by decide +kernel)) ggX1_claimSides_X1_siteAfter
set_option maxRecDepth 20000 in
theorem ggX1_claimSides_X1_sideKey : GoodIn wsX1_claimSides wsX1_sideKey := goodIn_r _ [19] (by decide +kernel) (by decide +kernel)
set_option maxRecDepth 20000 in
theorem gX1_claimSides_X1_sideKey : GoodIn wsX1_claimSides (va_wsS RX1 107 yX1_sideKey wsX1_sideKey) := goodIn_app (goodIn_of _ (by decide +kernel)) ggX1_claimSides_X1_sideKey
theorem dX1_claimSides_0 : decode cX1_claimSides 0 = .ok (.aload_n 0, 1) := by decide +kernel
theorem dX1_claimSides_1 : decode cX1_claimSides 1 = .ok (.iload_n 1, 1) := by decide +kernel
theorem dX1_claimSides_2 : decode cX1_claimSides 2 = .ok (.invokevirtual 96, 3) := by decide +kernel
theorem dX1_claimSides_5 : decode cX1_claimSides 5 = .ok (.istore_n 2, 1) := by decide +kernel
theorem dX1_claimSides_6 : decode cX1_claimSides 6 = .ok (.iconst 0, 1) := by decide +kernel
theorem dX1_claimSides_7 : decode cX1_claimSides 7 = .ok (.istore_n 3, 1) := by decide +kernel
theorem dX1_claimSides_8 : decode cX1_claimSides 8 = .ok (.iload_n 3, 1) := by decide +kernel
theorem dX1_claimSides_9 : decode cX1_claimSides 9 = .ok (.iload_n 2, 1) := by decide +kernel
theorem dX1_claimSides_10 : decode cX1_claimSides 10 = .ok (.if_icmp .ge 30, 3) := by decide +kernel
theorem dX1_claimSides_13 : decode cX1_claimSides 13 = .ok (.aload_n 0, 1) := by decide +kernel
theorem dX1_claimSides_14 : decode cX1_claimSides 14 = .ok (.getfield 25, 3) := by decide +kernel
theorem dX1_claimSides_17 : decode cX1_claimSides 17 = .ok (.aload_n 0, 1) := by decide +kernel
theorem dX1_claimSides_18 : decode cX1_claimSides 18 = .ok (.iload_n 1, 1) := by decide +kernel
theorem dX1_claimSides_19 : decode cX1_claimSides 19 = .ok (.iload_n 3, 1) := by decide +kernel
theorem dX1_claimSides_20 : decode cX1_claimSides 20 = .ok (.invokevirtual 100, 3) := by decide +kernel
theorem dX1_claimSides_23 : decode cX1_claimSides 23 = .ok (.aload_n 0, 1) := by decide +kernel
theorem dX1_claimSides_24 : decode cX1_claimSides 24 = .ok (.iload_n 1, 1) := by decide +kernel
theorem dX1_claimSides_25 : decode cX1_claimSides 25 = .ok (.iload_n 3, 1) := by decide +kernel
theorem dX1_claimSides_26 : decode cX1_claimSides 26 = .ok (.invokevirtual 104, 3) := by decide +kernel
theorem dX1_claimSides_29 : decode cX1_claimSides 29 = .ok (.invokestatic 107, 3) := by decide +kernel
theorem dX1_claimSides_32 : decode cX1_claimSides 32 = .ok (.iload_n 1, 1) := by decide +kernel
theorem dX1_claimSides_33 : decode cX1_claimSides 33 = .ok (.iastore, 1) := by decide +kernel
theorem dX1_claimSides_34 : decode cX1_claimSides 34 = .ok (.iinc 3 1, 3) := by decide +kernel
theorem dX1_claimSides_37 : decode cX1_claimSides 37 = .ok (.goto (-29), 3) := by decide +kernel
theorem dX1_claimSides_40 : decode cX1_claimSides 40 = .ok (.return_, 1) := by decide +kernel
theorem dX1_sideKey_0 : decode cX1_sideKey 0 = .ok (.iload_n 0, 1) := by decide +kernel
theorem dX1_sideKey_1 : decode cX1_sideKey 1 = .ok (.bipush 20, 2) := by decide +kernel
theorem dX1_sideKey_3 : decode cX1_sideKey 3 = .ok (.imul, 1) := by decide +kernel
theorem dX1_sideKey_4 : decode cX1_sideKey 4 = .ok (.iload_n 1, 1) := by decide +kernel
theorem dX1_sideKey_5 : decode cX1_sideKey 5 = .ok (.iadd, 1) := by decide +kernel
theorem dX1_sideKey_6 : decode cX1_sideKey 6 = .ok (.ireturn, 1) := by decide +kernel
set_option maxRecDepth 20000 in
theorem ggX1_walkRim_X1_firstOnRim : GoodIn wsX1_walkRim wsX1_firstOnRim := goodIn_r _ [7, 8, 9, 10, 11, 12, 6, 13, 14, 15, 16, 17, 18, 19, 20, 21, 22, 23, 24, 25, 26, 27, 28] (by decide +kernel) (by decide +kernel)
set_option maxRecDepth 20000 in
theorem gX1_walkRim_X1_firstOnRim : GoodIn wsX1_walkRim (wsV RX1 110 RX1 yX1_firstOnRim wsX1_firstOnRim) := goodIn_app (goodIn_of _ (by decide +kernel)) ggX1_walkRim_X1_firstOnRim
set_option maxRecDepth 20000 in
theorem ggX1_walkRim_X1_nextOnRim : GoodIn wsX1_walkRim wsX1_nextOnRim := goodIn_r _ [13, 8, 9, 14, 15, 16, 6, 17, 18, 19, 20, 21, 22, 23, 24, 25, 26, 27, 28] (by decide +kernel) (by decide +kernel)
set_option maxRecDepth 20000 in
theorem gX1_walkRim_X1_nextOnRim : GoodIn wsX1_walkRim (wsV RX1 114 RX1 yX1_nextOnRim wsX1_nextOnRim) := goodIn_app (goodIn_of _ (by decide +kernel)) ggX1_walkRim_X1_nextOnRim
theorem dX1_walkRim_0 : decode cX1_walkRim 0 = .ok (.aload_n 0, 1) := by decide +kernel
theorem dX1_walkRim_1 : decode cX1_walkRim 1 = .ok (.iconst 0, 1) := by decide +kernel
theorem dX1_walkRim_2 : decode cX1_walkRim 2 = .ok (.putfield 35, 3) := by decide +kernel
theorem dX1_walkRim_5 : decode cX1_walkRim 5 = .ok (.aload_n 0, 1) := by decide +kernel
theorem dX1_walkRim_6 : decode cX1_walkRim 6 = .ok (.invokevirtual 110, 3) := by decide +kernel
theorem dX1_walkRim_9 : decode cX1_walkRim 9 = .ok (.istore_n 1, 1) := by decide +kernel
theorem dX1_walkRim_10 : decode cX1_walkRim 10 = .ok (.iload_n 1, 1) := by decide +kernel
theorem dX1_walkRim_11 : decode cX1_walkRim 11 = .ok (.istore_n 2, 1) := by decide +kernel
theorem dX1_walkRim_12 : decode cX1_walkRim 12 = .ok (.iload_n 2, 1) := by decide +kernel
theorem dX1_walkRim_13 : decode cX1_walkRim 13 = .ok (.iconst (-1), 1) := by decide +kernel
theorem dX1_walkRim_14 : decode cX1_walkRim 14 = .ok (.if_icmp .eq 52, 3) := by decide +kernel
theorem dX1_walkRim_17 : decode cX1_walkRim 17 = .ok (.aload_n 0, 1) := by decide +kernel
theorem dX1_walkRim_18 : decode cX1_walkRim 18 = .ok (.getfield 35, 3) := by decide +kernel
theorem dX1_walkRim_21 : decode cX1_walkRim 21 = .ok (.bipush 20, 2) := by decide +kernel
theorem dX1_walkRim_23 : decode cX1_walkRim 23 = .ok (.if_icmp .ge 43, 3) := by decide +kernel
theorem dX1_walkRim_26 : decode cX1_walkRim 26 = .ok (.aload_n 0, 1) := by decide +kernel
theorem dX1_walkRim_27 : decode cX1_walkRim 27 = .ok (.getfield 32, 3) := by decide +kernel
theorem dX1_walkRim_30 : decode cX1_walkRim 30 = .ok (.aload_n 0, 1) := by decide +kernel
theorem dX1_walkRim_31 : decode cX1_walkRim 31 = .ok (.getfield 35, 3) := by decide +kernel
theorem dX1_walkRim_34 : decode cX1_walkRim 34 = .ok (.iload_n 2, 1) := by decide +kernel
theorem dX1_walkRim_35 : decode cX1_walkRim 35 = .ok (.iastore, 1) := by decide +kernel
theorem dX1_walkRim_36 : decode cX1_walkRim 36 = .ok (.aload_n 0, 1) := by decide +kernel
theorem dX1_walkRim_37 : decode cX1_walkRim 37 = .ok (.dup, 1) := by decide +kernel
theorem dX1_walkRim_38 : decode cX1_walkRim 38 = .ok (.getfield 35, 3) := by decide +kernel
theorem dX1_walkRim_41 : decode cX1_walkRim 41 = .ok (.iconst 1, 1) := by decide +kernel
theorem dX1_walkRim_42 : decode cX1_walkRim 42 = .ok (.iadd, 1) := by decide +kernel
theorem dX1_walkRim_43 : decode cX1_walkRim 43 = .ok (.putfield 35, 3) := by decide +kernel
theorem dX1_walkRim_46 : decode cX1_walkRim 46 = .ok (.aload_n 0, 1) := by decide +kernel
theorem dX1_walkRim_47 : decode cX1_walkRim 47 = .ok (.iload_n 2, 1) := by decide +kernel
theorem dX1_walkRim_48 : decode cX1_walkRim 48 = .ok (.invokevirtual 114, 3) := by decide +kernel
theorem dX1_walkRim_51 : decode cX1_walkRim 51 = .ok (.istore_n 3, 1) := by decide +kernel
theorem dX1_walkRim_52 : decode cX1_walkRim 52 = .ok (.iload_n 3, 1) := by decide +kernel
theorem dX1_walkRim_53 : decode cX1_walkRim 53 = .ok (.iload_n 1, 1) := by decide +kernel
theorem dX1_walkRim_54 : decode cX1_walkRim 54 = .ok (.if_icmp .ne 7, 3) := by decide +kernel
theorem dX1_walkRim_57 : decode cX1_walkRim 57 = .ok (.iconst (-1), 1) := by decide +kernel
theorem dX1_walkRim_58 : decode cX1_walkRim 58 = .ok (.goto 4, 3) := by decide +kernel
theorem dX1_walkRim_61 : decode cX1_walkRim 61 = .ok (.iload_n 3, 1) := by decide +kernel
theorem dX1_walkRim_62 : decode cX1_walkRim 62 = .ok (.istore_n 2, 1) := by decide +kernel
theorem dX1_walkRim_63 : decode cX1_walkRim 63 = .ok (.goto (-51), 3) := by decide +kernel
theorem dX1_walkRim_66 : decode cX1_walkRim 66 = .ok (.return_, 1) := by decide +kernel
set_option maxRecDepth 20000 in
theorem ggX1_firstOnRim_X1_nextOnRim : GoodIn wsX1_firstOnRim wsX1_nextOnRim := goodIn_r _ [7, 1, 2, 8, 9, 10, 6, 11, 12, 13, 14, 15, 16, 17, 18, 19, 20, 21, 22] (by decide +kernel) (by decide +kernel)
set_option maxRecDepth 20000 in
theorem gX1_firstOnRim_X1_nextOnRim : GoodIn wsX1_firstOnRim (wsV RX1 114 RX1 yX1_nextOnRim wsX1_nextOnRim) := goodIn_app (goodIn_of _ (by decide +kernel)) ggX1_firstOnRim_X1_nextOnRim
theorem dX1_firstOnRim_0 : decode cX1_firstOnRim 0 = .ok (.iconst 0, 1) := by decide +kernel
theorem dX1_firstOnRim_1 : decode cX1_firstOnRim 1 = .ok (.istore_n 1, 1) := by decide +kernel
theorem dX1_firstOnRim_2 : decode cX1_firstOnRim 2 = .ok (.iload_n 1, 1) := by decide +kernel
theorem dX1_firstOnRim_3 : decode cX1_firstOnRim 3 = .ok (.aload_n 0, 1) := by decide +kernel
theorem dX1_firstOnRim_4 : decode cX1_firstOnRim 4 = .ok (.getfield 38, 3) := by decide +kernel
theorem dX1_firstOnRim_7 : decode cX1_firstOnRim 7 = .ok (.getfield 48, 3) := by decide +kernel
theorem dX1_firstOnRim_10 : decode cX1_firstOnRim 10 = .ok (.if_icmp .ge 20, 3) := by decide +kernel
theorem dX1_firstOnRim_13 : decode cX1_firstOnRim 13 = .ok (.aload_n 0, 1) := by decide +kernel
theorem dX1_firstOnRim_14 : decode cX1_firstOnRim 14 = .ok (.iload_n 1, 1) := by decide +kernel
theorem dX1_firstOnRim_15 : decode cX1_firstOnRim 15 = .ok (.invokevirtual 114, 3) := by decide +kernel
theorem dX1_firstOnRim_18 : decode cX1_firstOnRim 18 = .ok (.iconst (-1), 1) := by decide +kernel
theorem dX1_firstOnRim_19 : decode cX1_firstOnRim 19 = .ok (.if_icmp .eq 5, 3) := by decide +kernel
theorem dX1_firstOnRim_22 : decode cX1_firstOnRim 22 = .ok (.iload_n 1, 1) := by decide +kernel
theorem dX1_firstOnRim_23 : decode cX1_firstOnRim 23 = .ok (.ireturn, 1) := by decide +kernel
theorem dX1_firstOnRim_24 : decode cX1_firstOnRim 24 = .ok (.iinc 1 1, 3) := by decide +kernel
theorem dX1_firstOnRim_27 : decode cX1_firstOnRim 27 = .ok (.goto (-25), 3) := by decide +kernel
theorem dX1_firstOnRim_30 : decode cX1_firstOnRim 30 = .ok (.iconst (-1), 1) := by decide +kernel
theorem dX1_firstOnRim_31 : decode cX1_firstOnRim 31 = .ok (.ireturn, 1) := by decide +kernel
set_option maxRecDepth 20000 in
theorem ggX1_nextOnRim_X1_sideKey : GoodIn wsX1_nextOnRim wsX1_sideKey := goodIn_r _ [7] (by decide +kernel) (by decide +kernel)
set_option maxRecDepth 20000 in
theorem gX1_nextOnRim_X1_sideKey : GoodIn wsX1_nextOnRim (va_wsS RX1 107 yX1_sideKey wsX1_sideKey) := goodIn_app (goodIn_of _ (by decide +kernel)) ggX1_nextOnRim_X1_sideKey
theorem dX1_nextOnRim_0 : decode cX1_nextOnRim 0 = .ok (.iconst 0, 1) := by decide +kernel
theorem dX1_nextOnRim_1 : decode cX1_nextOnRim 1 = .ok (.istore_n 2, 1) := by decide +kernel
theorem dX1_nextOnRim_2 : decode cX1_nextOnRim 2 = .ok (.iload_n 2, 1) := by decide +kernel
theorem dX1_nextOnRim_3 : decode cX1_nextOnRim 3 = .ok (.aload_n 0, 1) := by decide +kernel
theorem dX1_nextOnRim_4 : decode cX1_nextOnRim 4 = .ok (.getfield 38, 3) := by decide +kernel
theorem dX1_nextOnRim_7 : decode cX1_nextOnRim 7 = .ok (.getfield 48, 3) := by decide +kernel
theorem dX1_nextOnRim_10 : decode cX1_nextOnRim 10 = .ok (.if_icmp .ge 39, 3) := by decide +kernel
theorem dX1_nextOnRim_13 : decode cX1_nextOnRim 13 = .ok (.aload_n 0, 1) := by decide +kernel
theorem dX1_nextOnRim_14 : decode cX1_nextOnRim 14 = .ok (.getfield 25, 3) := by decide +kernel
theorem dX1_nextOnRim_17 : decode cX1_nextOnRim 17 = .ok (.iload_n 1, 1) := by decide +kernel
theorem dX1_nextOnRim_18 : decode cX1_nextOnRim 18 = .ok (.iload_n 2, 1) := by decide +kernel
theorem dX1_nextOnRim_19 : decode cX1_nextOnRim 19 = .ok (.invokestatic 107, 3) := by decide +kernel
theorem dX1_nextOnRim_22 : decode cX1_nextOnRim 22 = .ok (.iaload, 1) := by decide +kernel
theorem dX1_nextOnRim_23 : decode cX1_nextOnRim 23 = .ok (.iconst (-1), 1) := by decide +kernel
theorem dX1_nextOnRim_24 : decode cX1_nextOnRim 24 = .ok (.if_icmp .eq 19, 3) := by decide +kernel
theorem dX1_nextOnRim_27 : decode cX1_nextOnRim 27 = .ok (.aload_n 0, 1) := by decide +kernel
theorem dX1_nextOnRim_28 : decode cX1_nextOnRim 28 = .ok (.getfield 25, 3) := by decide +kernel
theorem dX1_nextOnRim_31 : decode cX1_nextOnRim 31 = .ok (.iload_n 2, 1) := by decide +kernel
theorem dX1_nextOnRim_32 : decode cX1_nextOnRim 32 = .ok (.iload_n 1, 1) := by decide +kernel
theorem dX1_nextOnRim_33 : decode cX1_nextOnRim 33 = .ok (.invokestatic 107, 3) := by decide +kernel
theorem dX1_nextOnRim_36 : decode cX1_nextOnRim 36 = .ok (.iaload, 1) := by decide +kernel
theorem dX1_nextOnRim_37 : decode cX1_nextOnRim 37 = .ok (.iconst (-1), 1) := by decide +kernel
theorem dX1_nextOnRim_38 : decode cX1_nextOnRim 38 = .ok (.if_icmp .ne 5, 3) := by decide +kernel
theorem dX1_nextOnRim_41 : decode cX1_nextOnRim 41 = .ok (.iload_n 2, 1) := by decide +kernel
theorem dX1_nextOnRim_42 : decode cX1_nextOnRim 42 = .ok (.ireturn, 1) := by decide +kernel
theorem dX1_nextOnRim_43 : decode cX1_nextOnRim 43 = .ok (.iinc 2 1, 3) := by decide +kernel
theorem dX1_nextOnRim_46 : decode cX1_nextOnRim 46 = .ok (.goto (-44), 3) := by decide +kernel
theorem dX1_nextOnRim_49 : decode cX1_nextOnRim 49 = .ok (.iconst (-1), 1) := by decide +kernel
theorem dX1_nextOnRim_50 : decode cX1_nextOnRim 50 = .ok (.ireturn, 1) := by decide +kernel
theorem dX1_sideCount_0 : decode cX1_sideCount 0 = .ok (.aload_n 0, 1) := by decide +kernel
theorem dX1_sideCount_1 : decode cX1_sideCount 1 = .ok (.getfield 22, 3) := by decide +kernel
theorem dX1_sideCount_4 : decode cX1_sideCount 4 = .ok (.iload_n 1, 1) := by decide +kernel
theorem dX1_sideCount_5 : decode cX1_sideCount 5 = .ok (.iconst 1, 1) := by decide +kernel
theorem dX1_sideCount_6 : decode cX1_sideCount 6 = .ok (.iadd, 1) := by decide +kernel
theorem dX1_sideCount_7 : decode cX1_sideCount 7 = .ok (.iaload, 1) := by decide +kernel
theorem dX1_sideCount_8 : decode cX1_sideCount 8 = .ok (.aload_n 0, 1) := by decide +kernel
theorem dX1_sideCount_9 : decode cX1_sideCount 9 = .ok (.getfield 22, 3) := by decide +kernel
theorem dX1_sideCount_12 : decode cX1_sideCount 12 = .ok (.iload_n 1, 1) := by decide +kernel
theorem dX1_sideCount_13 : decode cX1_sideCount 13 = .ok (.iaload, 1) := by decide +kernel
theorem dX1_sideCount_14 : decode cX1_sideCount 14 = .ok (.isub, 1) := by decide +kernel
theorem dX1_sideCount_15 : decode cX1_sideCount 15 = .ok (.ireturn, 1) := by decide +kernel
theorem dX1_siteOf_0 : decode cX1_siteOf 0 = .ok (.aload_n 0, 1) := by decide +kernel
theorem dX1_siteOf_1 : decode cX1_siteOf 1 = .ok (.getfield 18, 3) := by decide +kernel
theorem dX1_siteOf_4 : decode cX1_siteOf 4 = .ok (.aload_n 0, 1) := by decide +kernel
theorem dX1_siteOf_5 : decode cX1_siteOf 5 = .ok (.getfield 22, 3) := by decide +kernel
theorem dX1_siteOf_8 : decode cX1_siteOf 8 = .ok (.iload_n 1, 1) := by decide +kernel
theorem dX1_siteOf_9 : decode cX1_siteOf 9 = .ok (.iaload, 1) := by decide +kernel
theorem dX1_siteOf_10 : decode cX1_siteOf 10 = .ok (.iload_n 2, 1) := by decide +kernel
theorem dX1_siteOf_11 : decode cX1_siteOf 11 = .ok (.iadd, 1) := by decide +kernel
theorem dX1_siteOf_12 : decode cX1_siteOf 12 = .ok (.iaload, 1) := by decide +kernel
theorem dX1_siteOf_13 : decode cX1_siteOf 13 = .ok (.ireturn, 1) := by decide +kernel
set_option maxRecDepth 20000 in
theorem ggX1_siteAfter_X1_sideCount : GoodIn wsX1_siteAfter wsX1_sideCount := goodIn_r _ [5, 6, 12, 13, 14, 15, 16, 17, 18, 19] (by decide +kernel) (by decide +kernel)
set_option maxRecDepth 20000 in
theorem gX1_siteAfter_X1_sideCount : GoodIn wsX1_siteAfter (wsV RX1 96 RX1 yX1_sideCount wsX1_sideCount) := goodIn_app (goodIn_of _ (by decide +kernel)) ggX1_siteAfter_X1_sideCount
set_option maxRecDepth 20000 in
theorem ggX1_siteAfter_X1_siteOf : GoodIn wsX1_siteAfter wsX1_siteOf := goodIn_r _ [10, 11, 6, 12, 13, 14, 15, 16, 17, 18, 19] (by decide +kernel) (by decide +kernel)
set_option maxRecDepth 20000 in
theorem gX1_siteAfter_X1_siteOf : GoodIn wsX1_siteAfter (wsV RX1 100 RX1 yX1_siteOf wsX1_siteOf) := goodIn_app (goodIn_of _ (by decide +kernel)) ggX1_siteAfter_X1_siteOf
theorem dX1_siteAfter_0 : decode cX1_siteAfter 0 = .ok (.aload_n 0, 1) := by decide +kernel
theorem dX1_siteAfter_1 : decode cX1_siteAfter 1 = .ok (.iload_n 1, 1) := by decide +kernel
theorem dX1_siteAfter_2 : decode cX1_siteAfter 2 = .ok (.iload_n 2, 1) := by decide +kernel
theorem dX1_siteAfter_3 : decode cX1_siteAfter 3 = .ok (.iconst 1, 1) := by decide +kernel
theorem dX1_siteAfter_4 : decode cX1_siteAfter 4 = .ok (.iadd, 1) := by decide +kernel
theorem dX1_siteAfter_5 : decode cX1_siteAfter 5 = .ok (.aload_n 0, 1) := by decide +kernel
theorem dX1_siteAfter_6 : decode cX1_siteAfter 6 = .ok (.iload_n 1, 1) := by decide +kernel
theorem dX1_siteAfter_7 : decode cX1_siteAfter 7 = .ok (.invokevirtual 96, 3) := by decide +kernel
theorem dX1_siteAfter_10 : decode cX1_siteAfter 10 = .ok (.if_icmp .ge 9, 3) := by decide +kernel
theorem dX1_siteAfter_13 : decode cX1_siteAfter 13 = .ok (.iload_n 2, 1) := by decide +kernel
theorem dX1_siteAfter_14 : decode cX1_siteAfter 14 = .ok (.iconst 1, 1) := by decide +kernel
theorem dX1_siteAfter_15 : decode cX1_siteAfter 15 = .ok (.iadd, 1) := by decide +kernel
theorem dX1_siteAfter_16 : decode cX1_siteAfter 16 = .ok (.goto 4, 3) := by decide +kernel
theorem dX1_siteAfter_19 : decode cX1_siteAfter 19 = .ok (.iconst 0, 1) := by decide +kernel
theorem dX1_siteAfter_20 : decode cX1_siteAfter 20 = .ok (.invokevirtual 100, 3) := by decide +kernel
theorem dX1_siteAfter_23 : decode cX1_siteAfter 23 = .ok (.ireturn, 1) := by decide +kernel
set_option maxRecDepth 20000 in
theorem ggX1_across_X1_siteAfter : GoodIn wsX1_across wsX1_siteAfter := goodIn_r _ [6, 7, 8, 9, 5, 10, 11, 12, 13, 14, 15, 16, 20, 21, 22, 23, 24, 25, 26, 27] (by decide +kernel) (by decide +kernel)
set_option maxRecDepth 20000 in
theorem gX1_across_X1_siteAfter : GoodIn wsX1_across (wsV RX1 104 RX1 yX1_siteAfter wsX1_siteAfter) := goodIn_app (goodIn_of _ (by decide +kernel)) ggX1_across_X1_siteAfter
set_option maxRecDepth 20000 in
theorem ggX1_across_X1_siteOf : GoodIn wsX1_across wsX1_siteOf := goodIn_r _ [15, 16, 11, 20, 21, 22, 23, 24, 25, 26, 27] (by decide +kernel) (by decide +kernel)
set_option maxRecDepth 20000 in
theorem gX1_across_X1_siteOf : GoodIn wsX1_across (wsV RX1 100 RX1 yX1_siteOf wsX1_siteOf) := goodIn_app (goodIn_of _ (by decide +kernel)) ggX1_across_X1_siteOf
set_option maxRecDepth 20000 in
theorem ggX1_across_X1_sideKey : GoodIn wsX1_across wsX1_sideKey := goodIn_r _ [19] (by decide +kernel) (by decide +kernel)
set_option maxRecDepth 20000 in
theorem gX1_across_X1_sideKey : GoodIn wsX1_across (va_wsS RX1 107 yX1_sideKey wsX1_sideKey) := goodIn_app (goodIn_of _ (by decide +kernel)) ggX1_across_X1_sideKey
theorem dX1_across_0 : decode cX1_across 0 = .ok (.aload_n 0, 1) := by decide +kernel
theorem dX1_across_1 : decode cX1_across 1 = .ok (.getfield 25, 3) := by decide +kernel
theorem dX1_across_4 : decode cX1_across 4 = .ok (.aload_n 0, 1) := by decide +kernel
theorem dX1_across_5 : decode cX1_across 5 = .ok (.iload_n 1, 1) := by decide +kernel
theorem dX1_across_6 : decode cX1_across 6 = .ok (.iload_n 2, 1) := by decide +kernel
theorem dX1_across_7 : decode cX1_across 7 = .ok (.invokevirtual 104, 3) := by decide +kernel
theorem dX1_across_10 : decode cX1_across 10 = .ok (.aload_n 0, 1) := by decide +kernel
theorem dX1_across_11 : decode cX1_across 11 = .ok (.iload_n 1, 1) := by decide +kernel
theorem dX1_across_12 : decode cX1_across 12 = .ok (.iload_n 2, 1) := by decide +kernel
theorem dX1_across_13 : decode cX1_across 13 = .ok (.invokevirtual 100, 3) := by decide +kernel
theorem dX1_across_16 : decode cX1_across 16 = .ok (.invokestatic 107, 3) := by decide +kernel
theorem dX1_across_19 : decode cX1_across 19 = .ok (.iaload, 1) := by decide +kernel
theorem dX1_across_20 : decode cX1_across 20 = .ok (.ireturn, 1) := by decide +kernel
set_option maxRecDepth 20000 in
theorem ggX1_circleOf_X1_siteOf : GoodIn wsX1_circleOf wsX1_siteOf := goodIn_r _ [7, 8, 9, 23, 24, 25, 26, 27, 28, 29, 30] (by decide +kernel) (by decide +kernel)
set_option maxRecDepth 20000 in
theorem gX1_circleOf_X1_siteOf : GoodIn wsX1_circleOf (wsV RX1 100 RX1 yX1_siteOf wsX1_siteOf) := goodIn_app (goodIn_of _ (by decide +kernel)) ggX1_circleOf_X1_siteOf
set_option maxRecDepth 20000 in
theorem ggX1_circleOf_X0_layThrough : GoodIn wsX1_circleOf wsX0_layThrough := goodIn_r _ [14, 15, 16, 17, 18, 19, 20, 21, 22, 31, 32, 33, 34, 35, 36, 37, 38] (by decide +kernel) (by decide +kernel)
set_option maxRecDepth 20000 in
theorem gX1_circleOf_X0_layThrough : GoodIn wsX1_circleOf (wsV RX1 75 RX0 yX0_layThrough wsX0_layThrough) := goodIn_app (goodIn_of _ (by decide +kernel)) ggX1_circleOf_X0_layThrough
theorem dX1_circleOf_0 : decode cX1_circleOf 0 = .ok (.aload_n 0, 1) := by decide +kernel
theorem dX1_circleOf_1 : decode cX1_circleOf 1 = .ok (.getfield 12, 3) := by decide +kernel
theorem dX1_circleOf_4 : decode cX1_circleOf 4 = .ok (.aload_n 0, 1) := by decide +kernel
theorem dX1_circleOf_5 : decode cX1_circleOf 5 = .ok (.getfield 38, 3) := by decide +kernel
theorem dX1_circleOf_8 : decode cX1_circleOf 8 = .ok (.aload_n 0, 1) := by decide +kernel
theorem dX1_circleOf_9 : decode cX1_circleOf 9 = .ok (.iload_n 1, 1) := by decide +kernel
theorem dX1_circleOf_10 : decode cX1_circleOf 10 = .ok (.iconst 0, 1) := by decide +kernel
theorem dX1_circleOf_11 : decode cX1_circleOf 11 = .ok (.invokevirtual 100, 3) := by decide +kernel
theorem dX1_circleOf_14 : decode cX1_circleOf 14 = .ok (.aload_n 0, 1) := by decide +kernel
theorem dX1_circleOf_15 : decode cX1_circleOf 15 = .ok (.iload_n 1, 1) := by decide +kernel
theorem dX1_circleOf_16 : decode cX1_circleOf 16 = .ok (.iconst 1, 1) := by decide +kernel
theorem dX1_circleOf_17 : decode cX1_circleOf 17 = .ok (.invokevirtual 100, 3) := by decide +kernel
theorem dX1_circleOf_20 : decode cX1_circleOf 20 = .ok (.aload_n 0, 1) := by decide +kernel
theorem dX1_circleOf_21 : decode cX1_circleOf 21 = .ok (.iload_n 1, 1) := by decide +kernel
theorem dX1_circleOf_22 : decode cX1_circleOf 22 = .ok (.iconst 2, 1) := by decide +kernel
theorem dX1_circleOf_23 : decode cX1_circleOf 23 = .ok (.invokevirtual 100, 3) := by decide +kernel
theorem dX1_circleOf_26 : decode cX1_circleOf 26 = .ok (.invokevirtual 75, 3) := by decide +kernel
theorem dX1_circleOf_29 : decode cX1_circleOf 29 = .ok (.aload_n 0, 1) := by decide +kernel
theorem dX1_circleOf_30 : decode cX1_circleOf 30 = .ok (.getfield 12, 3) := by decide +kernel
theorem dX1_circleOf_33 : decode cX1_circleOf 33 = .ok (.areturn, 1) := by decide +kernel
set_option maxRecDepth 20000 in
theorem ggX1_firstWith_X1_holds : GoodIn wsX1_firstWith wsX1_holds := goodIn_r _ [6, 7, 8, 9, 10, 5, 11, 12, 13, 14, 15, 16, 17, 18, 19, 20, 21, 22, 23, 24, 25, 26, 27, 28, 29, 30, 31, 32, 33, 34, 35, 36, 37, 38, 39] (by decide +kernel) (by decide +kernel)
set_option maxRecDepth 20000 in
theorem gX1_firstWith_X1_holds : GoodIn wsX1_firstWith (wsV RX1 117 RX1 yX1_holds wsX1_holds) := goodIn_app (goodIn_of _ (by decide +kernel)) ggX1_firstWith_X1_holds
theorem dX1_firstWith_0 : decode cX1_firstWith 0 = .ok (.iconst 0, 1) := by decide +kernel
theorem dX1_firstWith_1 : decode cX1_firstWith 1 = .ok (.istore_n 3, 1) := by decide +kernel
theorem dX1_firstWith_2 : decode cX1_firstWith 2 = .ok (.iload_n 3, 1) := by decide +kernel
theorem dX1_firstWith_3 : decode cX1_firstWith 3 = .ok (.aload_n 0, 1) := by decide +kernel
theorem dX1_firstWith_4 : decode cX1_firstWith 4 = .ok (.getfield 28, 3) := by decide +kernel
theorem dX1_firstWith_7 : decode cX1_firstWith 7 = .ok (.if_icmp .ge 21, 3) := by decide +kernel
theorem dX1_firstWith_10 : decode cX1_firstWith 10 = .ok (.aload_n 0, 1) := by decide +kernel
theorem dX1_firstWith_11 : decode cX1_firstWith 11 = .ok (.iload_n 3, 1) := by decide +kernel
theorem dX1_firstWith_12 : decode cX1_firstWith 12 = .ok (.iload_n 1, 1) := by decide +kernel
theorem dX1_firstWith_13 : decode cX1_firstWith 13 = .ok (.iload_n 2, 1) := by decide +kernel
theorem dX1_firstWith_14 : decode cX1_firstWith 14 = .ok (.invokevirtual 117, 3) := by decide +kernel
theorem dX1_firstWith_17 : decode cX1_firstWith 17 = .ok (.ifCond .eq 5, 3) := by decide +kernel
theorem dX1_firstWith_20 : decode cX1_firstWith 20 = .ok (.iload_n 3, 1) := by decide +kernel
theorem dX1_firstWith_21 : decode cX1_firstWith 21 = .ok (.ireturn, 1) := by decide +kernel
theorem dX1_firstWith_22 : decode cX1_firstWith 22 = .ok (.iinc 3 1, 3) := by decide +kernel
theorem dX1_firstWith_25 : decode cX1_firstWith 25 = .ok (.goto (-23), 3) := by decide +kernel
theorem dX1_firstWith_28 : decode cX1_firstWith 28 = .ok (.iconst (-1), 1) := by decide +kernel
theorem dX1_firstWith_29 : decode cX1_firstWith 29 = .ok (.ireturn, 1) := by decide +kernel
set_option maxRecDepth 20000 in
theorem ggX1_holds_X1_sideCount : GoodIn wsX1_holds wsX1_sideCount := goodIn_r _ [6, 7, 24, 25, 26, 27, 28, 29, 30, 31] (by decide +kernel) (by decide +kernel)
set_option maxRecDepth 20000 in
theorem gX1_holds_X1_sideCount : GoodIn wsX1_holds (wsV RX1 96 RX1 yX1_sideCount wsX1_sideCount) := goodIn_app (goodIn_of _ (by decide +kernel)) ggX1_holds_X1_sideCount
set_option maxRecDepth 20000 in
theorem ggX1_holds_X1_siteOf : GoodIn wsX1_holds wsX1_siteOf := goodIn_r _ [11, 12, 7, 24, 25, 26, 27, 28, 29, 30, 31] (by decide +kernel) (by decide +kernel)
set_option maxRecDepth 20000 in
theorem gX1_holds_X1_siteOf : GoodIn wsX1_holds (wsV RX1 100 RX1 yX1_siteOf wsX1_siteOf) := goodIn_app (goodIn_of _ (by decide +kernel)) ggX1_holds_X1_siteOf
set_option maxRecDepth 20000 in
theorem ggX1_holds_X1_siteAfter : GoodIn wsX1_holds wsX1_siteAfter := goodIn_r _ [16, 2, 3, 4, 5, 6, 7, 8, 9, 10, 11, 12, 24, 25, 26, 27, 28, 29, 30, 31] (by decide +kernel) (by decide +kernel)
set_option maxRecDepth 20000 in
theorem gX1_holds_X1_siteAfter : GoodIn wsX1_holds (wsV RX1 104 RX1 yX1_siteAfter wsX1_siteAfter) := goodIn_app (goodIn_of _ (by decide +kernel)) ggX1_holds_X1_siteAfter
set_option maxRecDepth 20000 in
theorem ggX1_holds_X2_turn : GoodIn wsX1_holds wsX2_turn := goodIn_r _ [21, 22, 23, 32, 33, 34] (by decide +kernel) (by decide +kernel)
set_option maxRecDepth 20000 in
theorem gX1_holds_X2_turn : GoodIn wsX1_holds (wsV RX1 121 RX2 yX2_turn wsX2_turn) := goodIn_app (goodIn_of _ (by decide +kernel)) ggX1_holds_X2_turn
theorem dX1_holds_0 : decode cX1_holds 0 = .ok (.aload_n 0, 1) := by decide +kernel
theorem dX1_holds_1 : decode cX1_holds 1 = .ok (.iload_n 1, 1) := by decide +kernel
theorem dX1_holds_2 : decode cX1_holds 2 = .ok (.invokevirtual 96, 3) := by decide +kernel
theorem dX1_holds_5 : decode cX1_holds 5 = .ok (.istore 4, 2) := by decide +kernel
theorem dX1_holds_7 : decode cX1_holds 7 = .ok (.iconst 0, 1) := by decide +kernel
theorem dX1_holds_8 : decode cX1_holds 8 = .ok (.istore 5, 2) := by decide +kernel
theorem dX1_holds_10 : decode cX1_holds 10 = .ok (.iload 5, 2) := by decide +kernel
theorem dX1_holds_12 : decode cX1_holds 12 = .ok (.iload 4, 2) := by decide +kernel
theorem dX1_holds_14 : decode cX1_holds 14 = .ok (.if_icmp .ge 37, 3) := by decide +kernel
theorem dX1_holds_17 : decode cX1_holds 17 = .ok (.aload_n 0, 1) := by decide +kernel
theorem dX1_holds_18 : decode cX1_holds 18 = .ok (.getfield 38, 3) := by decide +kernel
theorem dX1_holds_21 : decode cX1_holds 21 = .ok (.aload_n 0, 1) := by decide +kernel
theorem dX1_holds_22 : decode cX1_holds 22 = .ok (.iload_n 1, 1) := by decide +kernel
theorem dX1_holds_23 : decode cX1_holds 23 = .ok (.iload 5, 2) := by decide +kernel
theorem dX1_holds_25 : decode cX1_holds 25 = .ok (.invokevirtual 100, 3) := by decide +kernel
theorem dX1_holds_28 : decode cX1_holds 28 = .ok (.aload_n 0, 1) := by decide +kernel
theorem dX1_holds_29 : decode cX1_holds 29 = .ok (.iload_n 1, 1) := by decide +kernel
theorem dX1_holds_30 : decode cX1_holds 30 = .ok (.iload 5, 2) := by decide +kernel
theorem dX1_holds_32 : decode cX1_holds 32 = .ok (.invokevirtual 104, 3) := by decide +kernel
theorem dX1_holds_35 : decode cX1_holds 35 = .ok (.iload_n 2, 1) := by decide +kernel
theorem dX1_holds_36 : decode cX1_holds 36 = .ok (.iload_n 3, 1) := by decide +kernel
theorem dX1_holds_37 : decode cX1_holds 37 = .ok (.invokevirtual 121, 3) := by decide +kernel
theorem dX1_holds_40 : decode cX1_holds 40 = .ok (.ifCond .ge 5, 3) := by decide +kernel
theorem dX1_holds_43 : decode cX1_holds 43 = .ok (.iconst 0, 1) := by decide +kernel
theorem dX1_holds_44 : decode cX1_holds 44 = .ok (.ireturn, 1) := by decide +kernel
theorem dX1_holds_45 : decode cX1_holds 45 = .ok (.iinc 5 1, 3) := by decide +kernel
theorem dX1_holds_48 : decode cX1_holds 48 = .ok (.goto (-38), 3) := by decide +kernel
theorem dX1_holds_51 : decode cX1_holds 51 = .ok (.iconst 1, 1) := by decide +kernel
theorem dX1_holds_52 : decode cX1_holds 52 = .ok (.ireturn, 1) := by decide +kernel
theorem dX2_init_0 : decode cX2_init 0 = .ok (.aload_n 0, 1) := by decide +kernel
theorem dX2_init_1 : decode cX2_init 1 = .ok (.invokespecial 3, 3) := by decide +kernel
theorem dX2_init_4 : decode cX2_init 4 = .ok (.aload_n 0, 1) := by decide +kernel
theorem dX2_init_5 : decode cX2_init 5 = .ok (.bipush 20, 2) := by decide +kernel
theorem dX2_init_7 : decode cX2_init 7 = .ok (.newarray .int, 2) := by decide +kernel
theorem dX2_init_9 : decode cX2_init 9 = .ok (.putfield 9, 3) := by decide +kernel
theorem dX2_init_12 : decode cX2_init 12 = .ok (.aload_n 0, 1) := by decide +kernel
theorem dX2_init_13 : decode cX2_init 13 = .ok (.bipush 20, 2) := by decide +kernel
theorem dX2_init_15 : decode cX2_init 15 = .ok (.newarray .int, 2) := by decide +kernel
theorem dX2_init_17 : decode cX2_init 17 = .ok (.putfield 15, 3) := by decide +kernel
theorem dX2_init_20 : decode cX2_init 20 = .ok (.aload_n 0, 1) := by decide +kernel
theorem dX2_init_21 : decode cX2_init 21 = .ok (.iconst 0, 1) := by decide +kernel
theorem dX2_init_22 : decode cX2_init 22 = .ok (.putfield 18, 3) := by decide +kernel
theorem dX2_init_25 : decode cX2_init 25 = .ok (.return_, 1) := by decide +kernel
set_option maxRecDepth 20000 in
theorem ggX2_append_X2_put : GoodIn wsX2_append wsX2_put := goodIn_r _ [6, 7, 8, 9, 10, 11] (by decide +kernel) (by decide +kernel)
set_option maxRecDepth 20000 in
theorem gX2_append_X2_put : GoodIn wsX2_append (wsV RX2 22 RX2 yX2_put wsX2_put) := goodIn_app (goodIn_of _ (by decide +kernel)) ggX2_append_X2_put
theorem dX2_append_0 : decode cX2_append 0 = .ok (.aload_n 0, 1) := by decide +kernel
theorem dX2_append_1 : decode cX2_append 1 = .ok (.getfield 18, 3) := by decide +kernel
theorem dX2_append_4 : decode cX2_append 4 = .ok (.istore_n 3, 1) := by decide +kernel
theorem dX2_append_5 : decode cX2_append 5 = .ok (.aload_n 0, 1) := by decide +kernel
theorem dX2_append_6 : decode cX2_append 6 = .ok (.iload_n 3, 1) := by decide +kernel
theorem dX2_append_7 : decode cX2_append 7 = .ok (.iload_n 1, 1) := by decide +kernel
theorem dX2_append_8 : decode cX2_append 8 = .ok (.iload_n 2, 1) := by decide +kernel
theorem dX2_append_9 : decode cX2_append 9 = .ok (.invokevirtual 22, 3) := by decide +kernel
theorem dX2_append_12 : decode cX2_append 12 = .ok (.aload_n 0, 1) := by decide +kernel
theorem dX2_append_13 : decode cX2_append 13 = .ok (.dup, 1) := by decide +kernel
theorem dX2_append_14 : decode cX2_append 14 = .ok (.getfield 18, 3) := by decide +kernel
theorem dX2_append_17 : decode cX2_append 17 = .ok (.iconst 1, 1) := by decide +kernel
theorem dX2_append_18 : decode cX2_append 18 = .ok (.iadd, 1) := by decide +kernel
theorem dX2_append_19 : decode cX2_append 19 = .ok (.putfield 18, 3) := by decide +kernel
theorem dX2_append_22 : decode cX2_append 22 = .ok (.iload_n 3, 1) := by decide +kernel
theorem dX2_append_23 : decode cX2_append 23 = .ok (.ireturn, 1) := by decide +kernel
theorem dX2_put_0 : decode cX2_put 0 = .ok (.aload_n 0, 1) := by decide +kernel
theorem dX2_put_1 : decode cX2_put 1 = .ok (.getfield 9, 3) := by decide +kernel
theorem dX2_put_4 : decode cX2_put 4 = .ok (.iload_n 1, 1) := by decide +kernel
theorem dX2_put_5 : decode cX2_put 5 = .ok (.iload_n 2, 1) := by decide +kernel
theorem dX2_put_6 : decode cX2_put 6 = .ok (.iastore, 1) := by decide +kernel
theorem dX2_put_7 : decode cX2_put 7 = .ok (.aload_n 0, 1) := by decide +kernel
theorem dX2_put_8 : decode cX2_put 8 = .ok (.getfield 15, 3) := by decide +kernel
theorem dX2_put_11 : decode cX2_put 11 = .ok (.iload_n 1, 1) := by decide +kernel
theorem dX2_put_12 : decode cX2_put 12 = .ok (.iload_n 3, 1) := by decide +kernel
theorem dX2_put_13 : decode cX2_put 13 = .ok (.iastore, 1) := by decide +kernel
theorem dX2_put_14 : decode cX2_put 14 = .ok (.return_, 1) := by decide +kernel
set_option maxRecDepth 20000 in
theorem ggX2_drop_X2_put : GoodIn wsX2_drop wsX2_put := goodIn_r _ [8, 2, 3, 9, 10, 11] (by decide +kernel) (by decide +kernel)
set_option maxRecDepth 20000 in
theorem gX2_drop_X2_put : GoodIn wsX2_drop (wsV RX2 22 RX2 yX2_put wsX2_put) := goodIn_app (goodIn_of _ (by decide +kernel)) ggX2_drop_X2_put
theorem dX2_drop_0 : decode cX2_drop 0 = .ok (.iload_n 1, 1) := by decide +kernel
theorem dX2_drop_1 : decode cX2_drop 1 = .ok (.iconst 1, 1) := by decide +kernel
theorem dX2_drop_2 : decode cX2_drop 2 = .ok (.iadd, 1) := by decide +kernel
theorem dX2_drop_3 : decode cX2_drop 3 = .ok (.istore_n 2, 1) := by decide +kernel
theorem dX2_drop_4 : decode cX2_drop 4 = .ok (.iload_n 2, 1) := by decide +kernel
theorem dX2_drop_5 : decode cX2_drop 5 = .ok (.aload_n 0, 1) := by decide +kernel
theorem dX2_drop_6 : decode cX2_drop 6 = .ok (.getfield 18, 3) := by decide +kernel
theorem dX2_drop_9 : decode cX2_drop 9 = .ok (.if_icmp .ge 28, 3) := by decide +kernel
theorem dX2_drop_12 : decode cX2_drop 12 = .ok (.aload_n 0, 1) := by decide +kernel
theorem dX2_drop_13 : decode cX2_drop 13 = .ok (.iload_n 2, 1) := by decide +kernel
theorem dX2_drop_14 : decode cX2_drop 14 = .ok (.iconst 1, 1) := by decide +kernel
theorem dX2_drop_15 : decode cX2_drop 15 = .ok (.isub, 1) := by decide +kernel
theorem dX2_drop_16 : decode cX2_drop 16 = .ok (.aload_n 0, 1) := by decide +kernel
theorem dX2_drop_17 : decode cX2_drop 17 = .ok (.getfield 9, 3) := by decide +kernel
theorem dX2_drop_20 : decode cX2_drop 20 = .ok (.iload_n 2, 1) := by decide +kernel
theorem dX2_drop_21 : decode cX2_drop 21 = .ok (.iaload, 1) := by decide +kernel
theorem dX2_drop_22 : decode cX2_drop 22 = .ok (.aload_n 0, 1) := by decide +kernel
theorem dX2_drop_23 : decode cX2_drop 23 = .ok (.getfield 15, 3) := by decide +kernel
theorem dX2_drop_26 : decode cX2_drop 26 = .ok (.iload_n 2, 1) := by decide +kernel
theorem dX2_drop_27 : decode cX2_drop 27 = .ok (.iaload, 1) := by decide +kernel
theorem dX2_drop_28 : decode cX2_drop 28 = .ok (.invokevirtual 22, 3) := by decide +kernel
theorem dX2_drop_31 : decode cX2_drop 31 = .ok (.iinc 2 1, 3) := by decide +kernel
theorem dX2_drop_34 : decode cX2_drop 34 = .ok (.goto (-30), 3) := by decide +kernel
theorem dX2_drop_37 : decode cX2_drop 37 = .ok (.aload_n 0, 1) := by decide +kernel
theorem dX2_drop_38 : decode cX2_drop 38 = .ok (.dup, 1) := by decide +kernel
theorem dX2_drop_39 : decode cX2_drop 39 = .ok (.getfield 18, 3) := by decide +kernel
theorem dX2_drop_42 : decode cX2_drop 42 = .ok (.iconst 1, 1) := by decide +kernel
theorem dX2_drop_43 : decode cX2_drop 43 = .ok (.isub, 1) := by decide +kernel
theorem dX2_drop_44 : decode cX2_drop 44 = .ok (.putfield 18, 3) := by decide +kernel
theorem dX2_drop_47 : decode cX2_drop 47 = .ok (.return_, 1) := by decide +kernel
theorem dX2_dropAll_0 : decode cX2_dropAll 0 = .ok (.aload_n 0, 1) := by decide +kernel
theorem dX2_dropAll_1 : decode cX2_dropAll 1 = .ok (.iconst 0, 1) := by decide +kernel
theorem dX2_dropAll_2 : decode cX2_dropAll 2 = .ok (.putfield 18, 3) := by decide +kernel
theorem dX2_dropAll_5 : decode cX2_dropAll 5 = .ok (.return_, 1) := by decide +kernel
theorem dX2_numberAt_0 : decode cX2_numberAt 0 = .ok (.iconst 0, 1) := by decide +kernel
theorem dX2_numberAt_1 : decode cX2_numberAt 1 = .ok (.istore_n 3, 1) := by decide +kernel
theorem dX2_numberAt_2 : decode cX2_numberAt 2 = .ok (.iload_n 3, 1) := by decide +kernel
theorem dX2_numberAt_3 : decode cX2_numberAt 3 = .ok (.aload_n 0, 1) := by decide +kernel
theorem dX2_numberAt_4 : decode cX2_numberAt 4 = .ok (.getfield 18, 3) := by decide +kernel
theorem dX2_numberAt_7 : decode cX2_numberAt 7 = .ok (.if_icmp .ge 31, 3) := by decide +kernel
theorem dX2_numberAt_10 : decode cX2_numberAt 10 = .ok (.aload_n 0, 1) := by decide +kernel
theorem dX2_numberAt_11 : decode cX2_numberAt 11 = .ok (.getfield 9, 3) := by decide +kernel
theorem dX2_numberAt_14 : decode cX2_numberAt 14 = .ok (.iload_n 3, 1) := by decide +kernel
theorem dX2_numberAt_15 : decode cX2_numberAt 15 = .ok (.iaload, 1) := by decide +kernel
theorem dX2_numberAt_16 : decode cX2_numberAt 16 = .ok (.iload_n 1, 1) := by decide +kernel
theorem dX2_numberAt_17 : decode cX2_numberAt 17 = .ok (.if_icmp .ne 15, 3) := by decide +kernel
theorem dX2_numberAt_20 : decode cX2_numberAt 20 = .ok (.aload_n 0, 1) := by decide +kernel
theorem dX2_numberAt_21 : decode cX2_numberAt 21 = .ok (.getfield 15, 3) := by decide +kernel
theorem dX2_numberAt_24 : decode cX2_numberAt 24 = .ok (.iload_n 3, 1) := by decide +kernel
theorem dX2_numberAt_25 : decode cX2_numberAt 25 = .ok (.iaload, 1) := by decide +kernel
theorem dX2_numberAt_26 : decode cX2_numberAt 26 = .ok (.iload_n 2, 1) := by decide +kernel
theorem dX2_numberAt_27 : decode cX2_numberAt 27 = .ok (.if_icmp .ne 5, 3) := by decide +kernel
theorem dX2_numberAt_30 : decode cX2_numberAt 30 = .ok (.iload_n 3, 1) := by decide +kernel
theorem dX2_numberAt_31 : decode cX2_numberAt 31 = .ok (.ireturn, 1) := by decide +kernel
theorem dX2_numberAt_32 : decode cX2_numberAt 32 = .ok (.iinc 3 1, 3) := by decide +kernel
theorem dX2_numberAt_35 : decode cX2_numberAt 35 = .ok (.goto (-33), 3) := by decide +kernel
theorem dX2_numberAt_38 : decode cX2_numberAt 38 = .ok (.iconst (-1), 1) := by decide +kernel
theorem dX2_numberAt_39 : decode cX2_numberAt 39 = .ok (.ireturn, 1) := by decide +kernel
set_option maxRecDepth 20000 in
theorem ggX2_closestTo_X2_squareTo : GoodIn wsX2_closestTo wsX2_squareTo := goodIn_r _ [6, 7, 8, 9, 10, 11] (by decide +kernel) (by decide +kernel)
set_option maxRecDepth 20000 in
theorem gX2_closestTo_X2_squareTo : GoodIn wsX2_closestTo (wsV RX2 26 RX2 yX2_squareTo wsX2_squareTo) := goodIn_app (goodIn_of _ (by decide +kernel)) ggX2_closestTo_X2_squareTo
theorem dX2_closestTo_0 : decode cX2_closestTo 0 = .ok (.iconst 0, 1) := by decide +kernel
theorem dX2_closestTo_1 : decode cX2_closestTo 1 = .ok (.istore_n 3, 1) := by decide +kernel
theorem dX2_closestTo_2 : decode cX2_closestTo 2 = .ok (.iconst 1, 1) := by decide +kernel
theorem dX2_closestTo_3 : decode cX2_closestTo 3 = .ok (.istore 4, 2) := by decide +kernel
theorem dX2_closestTo_5 : decode cX2_closestTo 5 = .ok (.iload 4, 2) := by decide +kernel
theorem dX2_closestTo_7 : decode cX2_closestTo 7 = .ok (.aload_n 0, 1) := by decide +kernel
theorem dX2_closestTo_8 : decode cX2_closestTo 8 = .ok (.getfield 18, 3) := by decide +kernel
theorem dX2_closestTo_11 : decode cX2_closestTo 11 = .ok (.if_icmp .ge 30, 3) := by decide +kernel
theorem dX2_closestTo_14 : decode cX2_closestTo 14 = .ok (.aload_n 0, 1) := by decide +kernel
theorem dX2_closestTo_15 : decode cX2_closestTo 15 = .ok (.iload 4, 2) := by decide +kernel
theorem dX2_closestTo_17 : decode cX2_closestTo 17 = .ok (.iload_n 1, 1) := by decide +kernel
theorem dX2_closestTo_18 : decode cX2_closestTo 18 = .ok (.iload_n 2, 1) := by decide +kernel
theorem dX2_closestTo_19 : decode cX2_closestTo 19 = .ok (.invokevirtual 26, 3) := by decide +kernel
theorem dX2_closestTo_22 : decode cX2_closestTo 22 = .ok (.aload_n 0, 1) := by decide +kernel
theorem dX2_closestTo_23 : decode cX2_closestTo 23 = .ok (.iload_n 3, 1) := by decide +kernel
theorem dX2_closestTo_24 : decode cX2_closestTo 24 = .ok (.iload_n 1, 1) := by decide +kernel
theorem dX2_closestTo_25 : decode cX2_closestTo 25 = .ok (.iload_n 2, 1) := by decide +kernel
theorem dX2_closestTo_26 : decode cX2_closestTo 26 = .ok (.invokevirtual 26, 3) := by decide +kernel
theorem dX2_closestTo_29 : decode cX2_closestTo 29 = .ok (.if_icmp .ge 6, 3) := by decide +kernel
theorem dX2_closestTo_32 : decode cX2_closestTo 32 = .ok (.iload 4, 2) := by decide +kernel
theorem dX2_closestTo_34 : decode cX2_closestTo 34 = .ok (.istore_n 3, 1) := by decide +kernel
theorem dX2_closestTo_35 : decode cX2_closestTo 35 = .ok (.iinc 4 1, 3) := by decide +kernel
theorem dX2_closestTo_38 : decode cX2_closestTo 38 = .ok (.goto (-33), 3) := by decide +kernel
theorem dX2_closestTo_41 : decode cX2_closestTo 41 = .ok (.iload_n 3, 1) := by decide +kernel
theorem dX2_closestTo_42 : decode cX2_closestTo 42 = .ok (.ireturn, 1) := by decide +kernel
theorem dX2_squareTo_0 : decode cX2_squareTo 0 = .ok (.aload_n 0, 1) := by decide +kernel
theorem dX2_squareTo_1 : decode cX2_squareTo 1 = .ok (.getfield 9, 3) := by decide +kernel
theorem dX2_squareTo_4 : decode cX2_squareTo 4 = .ok (.iload_n 1, 1) := by decide +kernel
theorem dX2_squareTo_5 : decode cX2_squareTo 5 = .ok (.iaload, 1) := by decide +kernel
theorem dX2_squareTo_6 : decode cX2_squareTo 6 = .ok (.iload_n 2, 1) := by decide +kernel
theorem dX2_squareTo_7 : decode cX2_squareTo 7 = .ok (.isub, 1) := by decide +kernel
theorem dX2_squareTo_8 : decode cX2_squareTo 8 = .ok (.istore 4, 2) := by decide +kernel
theorem dX2_squareTo_10 : decode cX2_squareTo 10 = .ok (.aload_n 0, 1) := by decide +kernel
theorem dX2_squareTo_11 : decode cX2_squareTo 11 = .ok (.getfield 15, 3) := by decide +kernel
theorem dX2_squareTo_14 : decode cX2_squareTo 14 = .ok (.iload_n 1, 1) := by decide +kernel
theorem dX2_squareTo_15 : decode cX2_squareTo 15 = .ok (.iaload, 1) := by decide +kernel
theorem dX2_squareTo_16 : decode cX2_squareTo 16 = .ok (.iload_n 3, 1) := by decide +kernel
theorem dX2_squareTo_17 : decode cX2_squareTo 17 = .ok (.isub, 1) := by decide +kernel
theorem dX2_squareTo_18 : decode cX2_squareTo 18 = .ok (.istore 5, 2) := by decide +kernel
theorem dX2_squareTo_20 : decode cX2_squareTo 20 = .ok (.iload 4, 2) := by decide +kernel
theorem dX2_squareTo_22 : decode cX2_squareTo 22 = .ok (.iload 4, 2) := by decide +kernel
theorem dX2_squareTo_24 : decode cX2_squareTo 24 = .ok (.imul, 1) := by decide +kernel
theorem dX2_squareTo_25 : decode cX2_squareTo 25 = .ok (.iload 5, 2) := by decide +kernel
theorem dX2_squareTo_27 : decode cX2_squareTo 27 = .ok (.iload 5, 2) := by decide +kernel
theorem dX2_squareTo_29 : decode cX2_squareTo 29 = .ok (.imul, 1) := by decide +kernel
theorem dX2_squareTo_30 : decode cX2_squareTo 30 = .ok (.iadd, 1) := by decide +kernel
theorem dX2_squareTo_31 : decode cX2_squareTo 31 = .ok (.ireturn, 1) := by decide +kernel
theorem dX2_turn_0 : decode cX2_turn 0 = .ok (.aload_n 0, 1) := by decide +kernel
theorem dX2_turn_1 : decode cX2_turn 1 = .ok (.getfield 9, 3) := by decide +kernel
theorem dX2_turn_4 : decode cX2_turn 4 = .ok (.iload_n 2, 1) := by decide +kernel
theorem dX2_turn_5 : decode cX2_turn 5 = .ok (.iaload, 1) := by decide +kernel
theorem dX2_turn_6 : decode cX2_turn 6 = .ok (.aload_n 0, 1) := by decide +kernel
theorem dX2_turn_7 : decode cX2_turn 7 = .ok (.getfield 9, 3) := by decide +kernel
theorem dX2_turn_10 : decode cX2_turn 10 = .ok (.iload_n 1, 1) := by decide +kernel
theorem dX2_turn_11 : decode cX2_turn 11 = .ok (.iaload, 1) := by decide +kernel
theorem dX2_turn_12 : decode cX2_turn 12 = .ok (.isub, 1) := by decide +kernel
theorem dX2_turn_13 : decode cX2_turn 13 = .ok (.iload 4, 2) := by decide +kernel
theorem dX2_turn_15 : decode cX2_turn 15 = .ok (.aload_n 0, 1) := by decide +kernel
theorem dX2_turn_16 : decode cX2_turn 16 = .ok (.getfield 15, 3) := by decide +kernel
theorem dX2_turn_19 : decode cX2_turn 19 = .ok (.iload_n 1, 1) := by decide +kernel
theorem dX2_turn_20 : decode cX2_turn 20 = .ok (.iaload, 1) := by decide +kernel
theorem dX2_turn_21 : decode cX2_turn 21 = .ok (.isub, 1) := by decide +kernel
theorem dX2_turn_22 : decode cX2_turn 22 = .ok (.imul, 1) := by decide +kernel
theorem dX2_turn_23 : decode cX2_turn 23 = .ok (.aload_n 0, 1) := by decide +kernel
theorem dX2_turn_24 : decode cX2_turn 24 = .ok (.getfield 15, 3) := by decide +kernel
theorem dX2_turn_27 : decode cX2_turn 27 = .ok (.iload_n 2, 1) := by decide +kernel
theorem dX2_turn_28 : decode cX2_turn 28 = .ok (.iaload, 1) := by decide +kernel
theorem dX2_turn_29 : decode cX2_turn 29 = .ok (.aload_n 0, 1) := by decide +kernel
theorem dX2_turn_30 : decode cX2_turn 30 = .ok (.getfield 15, 3) := by decide +kernel
theorem dX2_turn_33 : decode cX2_turn 33 = .ok (.iload_n 1, 1) := by decide +kernel
theorem dX2_turn_34 : decode cX2_turn 34 = .ok (.iaload, 1) := by decide +kernel
theorem dX2_turn_35 : decode cX2_turn 35 = .ok (.isub, 1) := by decide +kernel
theorem dX2_turn_36 : decode cX2_turn 36 = .ok (.iload_n 3, 1) := by decide +kernel
theorem dX2_turn_37 : decode cX2_turn 37 = .ok (.aload_n 0, 1) := by decide +kernel
theorem dX2_turn_38 : decode cX2_turn 38 = .ok (.getfield 9, 3) := by decide +kernel
theorem dX2_turn_41 : decode cX2_turn 41 = .ok (.iload_n 1, 1) := by decide +kernel
theorem dX2_turn_42 : decode cX2_turn 42 = .ok (.iaload, 1) := by decide +kernel
theorem dX2_turn_43 : decode cX2_turn 43 = .ok (.isub, 1) := by decide +kernel
theorem dX2_turn_44 : decode cX2_turn 44 = .ok (.imul, 1) := by decide +kernel
theorem dX2_turn_45 : decode cX2_turn 45 = .ok (.isub, 1) := by decide +kernel
theorem dX2_turn_46 : decode cX2_turn 46 = .ok (.ireturn, 1) := by decide +kernel
set_option maxRecDepth 20000 in
theorem ggX2_turn__X2_turn : GoodIn wsX2_turn_ wsX2_turn := goodIn_r _ [7, 1, 2, 8, 9, 10] (by decide +kernel) (by decide +kernel)
set_option maxRecDepth 20000 in
theorem gX2_turn__X2_turn : GoodIn wsX2_turn_ (wsV RX2 30 RX2 yX2_turn wsX2_turn) := goodIn_app (goodIn_of _ (by decide +kernel)) ggX2_turn__X2_turn
theorem dX2_turn__0 : decode cX2_turn_ 0 = .ok (.aload_n 0, 1) := by decide +kernel
theorem dX2_turn__1 : decode cX2_turn_ 1 = .ok (.iload_n 1, 1) := by decide +kernel
theorem dX2_turn__2 : decode cX2_turn_ 2 = .ok (.iload_n 2, 1) := by decide +kernel
theorem dX2_turn__3 : decode cX2_turn_ 3 = .ok (.aload_n 0, 1) := by decide +kernel
theorem dX2_turn__4 : decode cX2_turn_ 4 = .ok (.getfield 9, 3) := by decide +kernel
theorem dX2_turn__7 : decode cX2_turn_ 7 = .ok (.iload_n 3, 1) := by decide +kernel
theorem dX2_turn__8 : decode cX2_turn_ 8 = .ok (.iaload, 1) := by decide +kernel
theorem dX2_turn__9 : decode cX2_turn_ 9 = .ok (.aload_n 0, 1) := by decide +kernel
theorem dX2_turn__10 : decode cX2_turn_ 10 = .ok (.getfield 15, 3) := by decide +kernel
theorem dX2_turn__13 : decode cX2_turn_ 13 = .ok (.iload_n 3, 1) := by decide +kernel
theorem dX2_turn__14 : decode cX2_turn_ 14 = .ok (.iaload, 1) := by decide +kernel
theorem dX2_turn__15 : decode cX2_turn_ 15 = .ok (.invokevirtual 30, 3) := by decide +kernel
theorem dX2_turn__18 : decode cX2_turn_ 18 = .ok (.ireturn, 1) := by decide +kernel
set_option maxRecDepth 20000 in
theorem ggX3_init_X2_init : GoodIn wsX3_init wsX2_init := goodIn_r _ [14, 15, 2, 3, 16, 17, 18, 19, 38, 39, 40] (by decide +kernel) (by decide +kernel)
set_option maxRecDepth 20000 in
theorem gX3_init_X2_init_n11 : GoodIn wsX3_init (wsX2_init) := ggX3_init_X2_init
set_option maxRecDepth 20000 in
theorem ggX3_init_X1_init : GoodIn wsX3_init wsX1_init := goodIn_r _ [22, 23, 2, 3, 24, 25, 26, 27, 16, 28, 29, 30, 31, 32, 33, 34, 35, 36, 37, 52, 53, 54, 55, 56, 44, 45, 46, 47, 48, 49, 50, 51] (by decide +kernel) (by decide +kernel)
set_option maxRecDepth 20000 in
theorem gX3_init_X1_init : GoodIn wsX3_init (wsX1_init) := ggX3_init_X1_init
