set_option maxRecDepth 20000 in
theorem ggX0_init_X0_turned : GoodIn wsX0_init wsX0_turned := goodIn_r _ [14, 15, 4, 8, 16, 6, 17, 18, 19, 13, 20, 21, 22, 23, 24, 25, 26, 27, 28, 29, 30, 31, 32, 33, 34, 35, 36, 37, 38, 39, 40, 41, 42, 43, 44, 45, 46, 47, 48, 49, 50, 51, 52, 53, 54, 55, 56, 57, 58, 59, 60, 61, 62, 63, 64, 65, 66, 67, 68, 69, 70, 71, 72, 73, 74, 75, 76, 77, 78, 79, 80, 81, 82, 83] (by decide +kernel) (by decide +kernel)
set_option maxRecDepth 20000 in
theorem gX0_init_X0_turned : GoodIn wsX0_init (wsV RX0 28 RX0 yX0_turned wsX0_turned) := goodIn_app (goodIn_of _ (by decide +kernel)) ggX0_init_X0_turned
theorem dX0_init_0 : decode cX0_init 0 = .ok (.aload_n 0, 1) := by decide +kernel
theorem dX0_init_1 : decode cX0_init 1 = .ok (.invokespecial 3, 3) := by decide +kernel
theorem dX0_init_4 : decode cX0_init 4 = .ok (.aload_n 0, 1) := by decide +kernel
theorem dX0_init_5 : decode cX0_init 5 = .ok (.aload_n 1, 1) := by decide +kernel
theorem dX0_init_6 : decode cX0_init 6 = .ok (.putfield 9, 3) := by decide +kernel
theorem dX0_init_9 : decode cX0_init 9 = .ok (.aload_n 0, 1) := by decide +kernel
theorem dX0_init_10 : decode cX0_init 10 = .ok (.aload_n 1, 1) := by decide +kernel
theorem dX0_init_11 : decode cX0_init 11 = .ok (.getfield 15, 3) := by decide +kernel
theorem dX0_init_14 : decode cX0_init 14 = .ok (.putfield 21, 3) := by decide +kernel
theorem dX0_init_17 : decode cX0_init 17 = .ok (.aload_n 0, 1) := by decide +kernel
theorem dX0_init_18 : decode cX0_init 18 = .ok (.lload_n 2, 1) := by decide +kernel
theorem dX0_init_19 : decode cX0_init 19 = .ok (.putfield 22, 3) := by decide +kernel
theorem dX0_init_22 : decode cX0_init 22 = .ok (.aload_n 0, 1) := by decide +kernel
theorem dX0_init_23 : decode cX0_init 23 = .ok (.aload_n 1, 1) := by decide +kernel
theorem dX0_init_24 : decode cX0_init 24 = .ok (.getfield 15, 3) := by decide +kernel
theorem dX0_init_27 : decode cX0_init 27 = .ok (.lconst 1, 1) := by decide +kernel
theorem dX0_init_28 : decode cX0_init 28 = .ok (.ladd, 1) := by decide +kernel
theorem dX0_init_29 : decode cX0_init 29 = .ok (.lload_n 2, 1) := by decide +kernel
theorem dX0_init_30 : decode cX0_init 30 = .ok (.ldiv, 1) := by decide +kernel
theorem dX0_init_31 : decode cX0_init 31 = .ok (.putfield 25, 3) := by decide +kernel
theorem dX0_init_34 : decode cX0_init 34 = .ok (.aload_n 0, 1) := by decide +kernel
theorem dX0_init_35 : decode cX0_init 35 = .ok (.aload_n 0, 1) := by decide +kernel
theorem dX0_init_36 : decode cX0_init 36 = .ok (.lconst 1, 1) := by decide +kernel
theorem dX0_init_37 : decode cX0_init 37 = .ok (.invokevirtual 28, 3) := by decide +kernel
theorem dX0_init_40 : decode cX0_init 40 = .ok (.putfield 32, 3) := by decide +kernel
theorem dX0_init_43 : decode cX0_init 43 = .ok (.return_, 1) := by decide +kernel
theorem dX0_isKey_0 : decode cX0_isKey 0 = .ok (.iload_n 1, 1) := by decide +kernel
theorem dX0_isKey_1 : decode cX0_isKey 1 = .ok (.iconst 1, 1) := by decide +kernel
theorem dX0_isKey_2 : decode cX0_isKey 2 = .ok (.if_icmp .lt 17, 3) := by decide +kernel
theorem dX0_isKey_5 : decode cX0_isKey 5 = .ok (.iload_n 1, 1) := by decide +kernel
theorem dX0_isKey_6 : decode cX0_isKey 6 = .ok (.i2l, 1) := by decide +kernel
theorem dX0_isKey_7 : decode cX0_isKey 7 = .ok (.aload_n 0, 1) := by decide +kernel
theorem dX0_isKey_8 : decode cX0_isKey 8 = .ok (.getfield 22, 3) := by decide +kernel
theorem dX0_isKey_11 : decode cX0_isKey 11 = .ok (.lcmp, 1) := by decide +kernel
theorem dX0_isKey_12 : decode cX0_isKey 12 = .ok (.ifCond .ge 7, 3) := by decide +kernel
theorem dX0_isKey_15 : decode cX0_isKey 15 = .ok (.iconst 1, 1) := by decide +kernel
theorem dX0_isKey_16 : decode cX0_isKey 16 = .ok (.goto 4, 3) := by decide +kernel
theorem dX0_isKey_19 : decode cX0_isKey 19 = .ok (.iconst 0, 1) := by decide +kernel
theorem dX0_isKey_20 : decode cX0_isKey 20 = .ok (.ireturn, 1) := by decide +kernel
set_option maxRecDepth 20000 in
theorem ggX0_squareOfY_X2_product : GoodIn wsX0_squareOfY wsX2_product := goodIn_r _ [7, 8, 15] (by decide +kernel) (by decide +kernel)
set_option maxRecDepth 20000 in
theorem gX0_squareOfY_X2_product : GoodIn wsX0_squareOfY (wsV RX0 35 RX2 yX2_product wsX2_product) := goodIn_app (goodIn_of _ (by decide +kernel)) ggX0_squareOfY_X2_product
theorem dX0_squareOfY_0 : decode cX0_squareOfY 0 = .ok (.aload_n 0, 1) := by decide +kernel
theorem dX0_squareOfY_1 : decode cX0_squareOfY 1 = .ok (.getfield 9, 3) := by decide +kernel
theorem dX0_squareOfY_4 : decode cX0_squareOfY 4 = .ok (.aload_n 0, 1) := by decide +kernel
theorem dX0_squareOfY_5 : decode cX0_squareOfY 5 = .ok (.getfield 9, 3) := by decide +kernel
theorem dX0_squareOfY_8 : decode cX0_squareOfY 8 = .ok (.lload_n 1, 1) := by decide +kernel
theorem dX0_squareOfY_9 : decode cX0_squareOfY 9 = .ok (.lload_n 1, 1) := by decide +kernel
theorem dX0_squareOfY_10 : decode cX0_squareOfY 10 = .ok (.invokevirtual 35, 3) := by decide +kernel
theorem dX0_squareOfY_13 : decode cX0_squareOfY 13 = .ok (.lload_n 1, 1) := by decide +kernel
theorem dX0_squareOfY_14 : decode cX0_squareOfY 14 = .ok (.invokevirtual 35, 3) := by decide +kernel
theorem dX0_squareOfY_17 : decode cX0_squareOfY 17 = .ok (.lload_n 1, 1) := by decide +kernel
theorem dX0_squareOfY_18 : decode cX0_squareOfY 18 = .ok (.ladd, 1) := by decide +kernel
theorem dX0_squareOfY_19 : decode cX0_squareOfY 19 = .ok (.aload_n 0, 1) := by decide +kernel
theorem dX0_squareOfY_20 : decode cX0_squareOfY 20 = .ok (.getfield 21, 3) := by decide +kernel
theorem dX0_squareOfY_23 : decode cX0_squareOfY 23 = .ok (.lrem, 1) := by decide +kernel
theorem dX0_squareOfY_24 : decode cX0_squareOfY 24 = .ok (.lreturn, 1) := by decide +kernel
set_option maxRecDepth 20000 in
theorem ggX0_passes_X2_product : GoodIn wsX0_passes wsX2_product := goodIn_r _ [6, 7, 20] (by decide +kernel) (by decide +kernel)
set_option maxRecDepth 20000 in
theorem gX0_passes_X2_product : GoodIn wsX0_passes (wsV RX0 35 RX2 yX2_product wsX2_product) := goodIn_app (goodIn_of _ (by decide +kernel)) ggX0_passes_X2_product
set_option maxRecDepth 20000 in
theorem ggX0_passes_X0_squareOfY : GoodIn wsX0_passes wsX0_squareOfY := goodIn_r _ [12, 1, 13, 2, 3, 4, 5, 6, 7, 14, 15, 16, 17, 18, 19, 20] (by decide +kernel) (by decide +kernel)
set_option maxRecDepth 20000 in
theorem gX0_passes_X0_squareOfY : GoodIn wsX0_passes (wsV RX0 39 RX0 yX0_squareOfY wsX0_squareOfY) := goodIn_app (goodIn_of _ (by decide +kernel)) ggX0_passes_X0_squareOfY
theorem dX0_passes_0 : decode cX0_passes 0 = .ok (.aload_n 0, 1) := by decide +kernel
theorem dX0_passes_1 : decode cX0_passes 1 = .ok (.getfield 9, 3) := by decide +kernel
theorem dX0_passes_4 : decode cX0_passes 4 = .ok (.lload_n 3, 1) := by decide +kernel
theorem dX0_passes_5 : decode cX0_passes 5 = .ok (.lload_n 3, 1) := by decide +kernel
theorem dX0_passes_6 : decode cX0_passes 6 = .ok (.invokevirtual 35, 3) := by decide +kernel
theorem dX0_passes_9 : decode cX0_passes 9 = .ok (.aload_n 0, 1) := by decide +kernel
theorem dX0_passes_10 : decode cX0_passes 10 = .ok (.lload_n 1, 1) := by decide +kernel
theorem dX0_passes_11 : decode cX0_passes 11 = .ok (.invokevirtual 39, 3) := by decide +kernel
theorem dX0_passes_14 : decode cX0_passes 14 = .ok (.lcmp, 1) := by decide +kernel
theorem dX0_passes_15 : decode cX0_passes 15 = .ok (.ifCond .ne 7, 3) := by decide +kernel
theorem dX0_passes_18 : decode cX0_passes 18 = .ok (.iconst 1, 1) := by decide +kernel
theorem dX0_passes_19 : decode cX0_passes 19 = .ok (.goto 4, 3) := by decide +kernel
theorem dX0_passes_22 : decode cX0_passes 22 = .ok (.iconst 0, 1) := by decide +kernel
theorem dX0_passes_23 : decode cX0_passes 23 = .ok (.ireturn, 1) := by decide +kernel
set_option maxRecDepth 20000 in
theorem ggX0_areOpposite_X3_upper : GoodIn wsX0_areOpposite wsX3_upper := goodIn_r _ [4] (by decide +kernel) (by decide +kernel)
set_option maxRecDepth 20000 in
theorem gX0_areOpposite_X3_upper_n42 : GoodIn wsX0_areOpposite (wsX3_upper) := ggX0_areOpposite_X3_upper
set_option maxRecDepth 20000 in
theorem ggX0_areOpposite_X3_lower : GoodIn wsX0_areOpposite wsX3_lower := goodIn_r _ [6, 7] (by decide +kernel) (by decide +kernel)
set_option maxRecDepth 20000 in
theorem gX0_areOpposite_X3_lower_n45 : GoodIn wsX0_areOpposite (wsX3_lower) := ggX0_areOpposite_X3_lower
theorem dX0_areOpposite_0 : decode cX0_areOpposite 0 = .ok (.lload_n 1, 1) := by decide +kernel
theorem dX0_areOpposite_1 : decode cX0_areOpposite 1 = .ok (.invokestatic 42, 3) := by decide +kernel
theorem dX0_areOpposite_4 : decode cX0_areOpposite 4 = .ok (.lload_n 3, 1) := by decide +kernel
theorem dX0_areOpposite_5 : decode cX0_areOpposite 5 = .ok (.invokestatic 42, 3) := by decide +kernel
theorem dX0_areOpposite_8 : decode cX0_areOpposite 8 = .ok (.lcmp, 1) := by decide +kernel
theorem dX0_areOpposite_9 : decode cX0_areOpposite 9 = .ok (.ifCond .ne 26, 3) := by decide +kernel
theorem dX0_areOpposite_12 : decode cX0_areOpposite 12 = .ok (.lload_n 1, 1) := by decide +kernel
theorem dX0_areOpposite_13 : decode cX0_areOpposite 13 = .ok (.invokestatic 45, 3) := by decide +kernel
theorem dX0_areOpposite_16 : decode cX0_areOpposite 16 = .ok (.lload_n 3, 1) := by decide +kernel
theorem dX0_areOpposite_17 : decode cX0_areOpposite 17 = .ok (.invokestatic 45, 3) := by decide +kernel
theorem dX0_areOpposite_20 : decode cX0_areOpposite 20 = .ok (.ladd, 1) := by decide +kernel
theorem dX0_areOpposite_21 : decode cX0_areOpposite 21 = .ok (.aload_n 0, 1) := by decide +kernel
theorem dX0_areOpposite_22 : decode cX0_areOpposite 22 = .ok (.getfield 21, 3) := by decide +kernel
theorem dX0_areOpposite_25 : decode cX0_areOpposite 25 = .ok (.lrem, 1) := by decide +kernel
theorem dX0_areOpposite_26 : decode cX0_areOpposite 26 = .ok (.lconst 0, 1) := by decide +kernel
theorem dX0_areOpposite_27 : decode cX0_areOpposite 27 = .ok (.lcmp, 1) := by decide +kernel
theorem dX0_areOpposite_28 : decode cX0_areOpposite 28 = .ok (.ifCond .ne 7, 3) := by decide +kernel
theorem dX0_areOpposite_31 : decode cX0_areOpposite 31 = .ok (.iconst 1, 1) := by decide +kernel
theorem dX0_areOpposite_32 : decode cX0_areOpposite 32 = .ok (.goto 4, 3) := by decide +kernel
theorem dX0_areOpposite_35 : decode cX0_areOpposite 35 = .ok (.iconst 0, 1) := by decide +kernel
theorem dX0_areOpposite_36 : decode cX0_areOpposite 36 = .ok (.ireturn, 1) := by decide +kernel
set_option maxRecDepth 20000 in
theorem ggX0_slope_X3_upper : GoodIn wsX0_slope wsX3_upper := goodIn_r _ [7] (by decide +kernel) (by decide +kernel)
set_option maxRecDepth 20000 in
theorem gX0_slope_X3_upper_n42 : GoodIn wsX0_slope (wsX3_upper) := ggX0_slope_X3_upper
set_option maxRecDepth 20000 in
theorem ggX0_slope_X3_lower : GoodIn wsX0_slope wsX3_lower := goodIn_r _ [9, 10] (by decide +kernel) (by decide +kernel)
set_option maxRecDepth 20000 in
theorem gX0_slope_X3_lower_n45 : GoodIn wsX0_slope (wsX3_lower) := ggX0_slope_X3_lower
set_option maxRecDepth 20000 in
theorem ggX0_slope_X2_product : GoodIn wsX0_slope wsX2_product := goodIn_r _ [15, 16, 31] (by decide +kernel) (by decide +kernel)
set_option maxRecDepth 20000 in
theorem gX0_slope_X2_product : GoodIn wsX0_slope (wsV RX0 35 RX2 yX2_product wsX2_product) := goodIn_app (goodIn_of _ (by decide +kernel)) ggX0_slope_X2_product
set_option maxRecDepth 20000 in
theorem ggX0_slope_X2_inverse : GoodIn wsX0_slope wsX2_inverse := goodIn_r _ [20, 16, 31] (by decide +kernel) (by decide +kernel)
set_option maxRecDepth 20000 in
theorem gX0_slope_X2_inverse : GoodIn wsX0_slope (wsV RX0 52 RX2 yX2_inverse wsX2_inverse) := goodIn_app (goodIn_of _ (by decide +kernel)) ggX0_slope_X2_inverse
set_option maxRecDepth 20000 in
theorem ggX0_slope_X2_difference : GoodIn wsX0_slope wsX2_difference := goodIn_r _ [24, 16, 31] (by decide +kernel) (by decide +kernel)
set_option maxRecDepth 20000 in
theorem gX0_slope_X2_difference : GoodIn wsX0_slope (wsV RX0 55 RX2 yX2_difference wsX2_difference) := goodIn_app (goodIn_of _ (by decide +kernel)) ggX0_slope_X2_difference
theorem dX0_slope_0 : decode cX0_slope 0 = .ok (.lload_n 1, 1) := by decide +kernel
theorem dX0_slope_1 : decode cX0_slope 1 = .ok (.invokestatic 42, 3) := by decide +kernel
theorem dX0_slope_4 : decode cX0_slope 4 = .ok (.lstore 5, 2) := by decide +kernel
theorem dX0_slope_6 : decode cX0_slope 6 = .ok (.lload_n 1, 1) := by decide +kernel
theorem dX0_slope_7 : decode cX0_slope 7 = .ok (.invokestatic 45, 3) := by decide +kernel
theorem dX0_slope_10 : decode cX0_slope 10 = .ok (.lstore 7, 2) := by decide +kernel
theorem dX0_slope_12 : decode cX0_slope 12 = .ok (.lload 5, 2) := by decide +kernel
theorem dX0_slope_14 : decode cX0_slope 14 = .ok (.lload_n 3, 1) := by decide +kernel
theorem dX0_slope_15 : decode cX0_slope 15 = .ok (.invokestatic 42, 3) := by decide +kernel
theorem dX0_slope_18 : decode cX0_slope 18 = .ok (.lcmp, 1) := by decide +kernel
theorem dX0_slope_19 : decode cX0_slope 19 = .ok (.ifCond .ne 55, 3) := by decide +kernel
theorem dX0_slope_22 : decode cX0_slope 22 = .ok (.ldc2_w 48, 3) := by decide +kernel
theorem dX0_slope_25 : decode cX0_slope 25 = .ok (.aload_n 0, 1) := by decide +kernel
theorem dX0_slope_26 : decode cX0_slope 26 = .ok (.getfield 9, 3) := by decide +kernel
theorem dX0_slope_29 : decode cX0_slope 29 = .ok (.lload 5, 2) := by decide +kernel
theorem dX0_slope_31 : decode cX0_slope 31 = .ok (.lload 5, 2) := by decide +kernel
theorem dX0_slope_33 : decode cX0_slope 33 = .ok (.invokevirtual 35, 3) := by decide +kernel
theorem dX0_slope_36 : decode cX0_slope 36 = .ok (.lmul, 1) := by decide +kernel
theorem dX0_slope_37 : decode cX0_slope 37 = .ok (.lconst 1, 1) := by decide +kernel
theorem dX0_slope_38 : decode cX0_slope 38 = .ok (.ladd, 1) := by decide +kernel
theorem dX0_slope_39 : decode cX0_slope 39 = .ok (.aload_n 0, 1) := by decide +kernel
theorem dX0_slope_40 : decode cX0_slope 40 = .ok (.getfield 21, 3) := by decide +kernel
theorem dX0_slope_43 : decode cX0_slope 43 = .ok (.lrem, 1) := by decide +kernel
theorem dX0_slope_44 : decode cX0_slope 44 = .ok (.lstore 9, 2) := by decide +kernel
theorem dX0_slope_46 : decode cX0_slope 46 = .ok (.aload_n 0, 1) := by decide +kernel
theorem dX0_slope_47 : decode cX0_slope 47 = .ok (.getfield 9, 3) := by decide +kernel
theorem dX0_slope_50 : decode cX0_slope 50 = .ok (.lload 9, 2) := by decide +kernel
theorem dX0_slope_52 : decode cX0_slope 52 = .ok (.aload_n 0, 1) := by decide +kernel
theorem dX0_slope_53 : decode cX0_slope 53 = .ok (.getfield 9, 3) := by decide +kernel
theorem dX0_slope_56 : decode cX0_slope 56 = .ok (.ldc2_w 50, 3) := by decide +kernel
theorem dX0_slope_59 : decode cX0_slope 59 = .ok (.lload 7, 2) := by decide +kernel
theorem dX0_slope_61 : decode cX0_slope 61 = .ok (.lmul, 1) := by decide +kernel
theorem dX0_slope_62 : decode cX0_slope 62 = .ok (.aload_n 0, 1) := by decide +kernel
theorem dX0_slope_63 : decode cX0_slope 63 = .ok (.getfield 21, 3) := by decide +kernel
theorem dX0_slope_66 : decode cX0_slope 66 = .ok (.lrem, 1) := by decide +kernel
theorem dX0_slope_67 : decode cX0_slope 67 = .ok (.invokevirtual 52, 3) := by decide +kernel
theorem dX0_slope_70 : decode cX0_slope 70 = .ok (.invokevirtual 35, 3) := by decide +kernel
theorem dX0_slope_73 : decode cX0_slope 73 = .ok (.lreturn, 1) := by decide +kernel
theorem dX0_slope_74 : decode cX0_slope 74 = .ok (.aload_n 0, 1) := by decide +kernel
theorem dX0_slope_75 : decode cX0_slope 75 = .ok (.getfield 9, 3) := by decide +kernel
theorem dX0_slope_78 : decode cX0_slope 78 = .ok (.lload_n 3, 1) := by decide +kernel
theorem dX0_slope_79 : decode cX0_slope 79 = .ok (.invokestatic 45, 3) := by decide +kernel
theorem dX0_slope_82 : decode cX0_slope 82 = .ok (.lload 7, 2) := by decide +kernel
theorem dX0_slope_84 : decode cX0_slope 84 = .ok (.invokevirtual 55, 3) := by decide +kernel
theorem dX0_slope_87 : decode cX0_slope 87 = .ok (.lstore 9, 2) := by decide +kernel
theorem dX0_slope_89 : decode cX0_slope 89 = .ok (.aload_n 0, 1) := by decide +kernel
theorem dX0_slope_90 : decode cX0_slope 90 = .ok (.getfield 9, 3) := by decide +kernel
theorem dX0_slope_93 : decode cX0_slope 93 = .ok (.lload 9, 2) := by decide +kernel
theorem dX0_slope_95 : decode cX0_slope 95 = .ok (.aload_n 0, 1) := by decide +kernel
theorem dX0_slope_96 : decode cX0_slope 96 = .ok (.getfield 9, 3) := by decide +kernel
theorem dX0_slope_99 : decode cX0_slope 99 = .ok (.aload_n 0, 1) := by decide +kernel
theorem dX0_slope_100 : decode cX0_slope 100 = .ok (.getfield 9, 3) := by decide +kernel
theorem dX0_slope_103 : decode cX0_slope 103 = .ok (.lload_n 3, 1) := by decide +kernel
theorem dX0_slope_104 : decode cX0_slope 104 = .ok (.invokestatic 42, 3) := by decide +kernel
theorem dX0_slope_107 : decode cX0_slope 107 = .ok (.lload 5, 2) := by decide +kernel
theorem dX0_slope_109 : decode cX0_slope 109 = .ok (.invokevirtual 55, 3) := by decide +kernel
theorem dX0_slope_112 : decode cX0_slope 112 = .ok (.invokevirtual 52, 3) := by decide +kernel
theorem dX0_slope_115 : decode cX0_slope 115 = .ok (.invokevirtual 35, 3) := by decide +kernel
theorem dX0_slope_118 : decode cX0_slope 118 = .ok (.lreturn, 1) := by decide +kernel
set_option maxRecDepth 20000 in
theorem ggX0_sum_X0_areOpposite : GoodIn wsX0_sum wsX0_areOpposite := goodIn_r _ [7, 8, 9, 10, 11, 12, 13, 14, 37, 38, 39, 40, 41, 42] (by decide +kernel) (by decide +kernel)
set_option maxRecDepth 20000 in
theorem gX0_sum_X0_areOpposite : GoodIn wsX0_sum (wsV RX0 60 RX0 yX0_areOpposite wsX0_areOpposite) := goodIn_app (goodIn_of _ (by decide +kernel)) ggX0_sum_X0_areOpposite
set_option maxRecDepth 20000 in
theorem ggX0_sum_X0_slope : GoodIn wsX0_sum wsX0_slope := goodIn_r _ [18, 19, 2, 8, 20, 9, 10, 11, 12, 13, 14, 21, 22, 23, 24, 25, 26, 27, 28, 29, 30, 31, 32, 33, 34, 37, 38, 39, 40, 41, 42, 43] (by decide +kernel) (by decide +kernel)
set_option maxRecDepth 20000 in
theorem gX0_sum_X0_slope : GoodIn wsX0_sum (wsV RX0 64 RX0 yX0_slope wsX0_slope) := goodIn_app (goodIn_of _ (by decide +kernel)) ggX0_sum_X0_slope
set_option maxRecDepth 20000 in
theorem ggX0_sum_X2_product : GoodIn wsX0_sum wsX2_product := goodIn_r _ [25, 26, 43] (by decide +kernel) (by decide +kernel)
set_option maxRecDepth 20000 in
theorem gX0_sum_X2_product : GoodIn wsX0_sum (wsV RX0 35 RX2 yX2_product wsX2_product) := goodIn_app (goodIn_of _ (by decide +kernel)) ggX0_sum_X2_product
set_option maxRecDepth 20000 in
theorem ggX0_sum_X3_upper : GoodIn wsX0_sum wsX3_upper := goodIn_r _ [11] (by decide +kernel) (by decide +kernel)
set_option maxRecDepth 20000 in
theorem gX0_sum_X3_upper_n42 : GoodIn wsX0_sum (wsX3_upper) := ggX0_sum_X3_upper
set_option maxRecDepth 20000 in
theorem ggX0_sum_X2_difference : GoodIn wsX0_sum wsX2_difference := goodIn_r _ [34, 26, 43] (by decide +kernel) (by decide +kernel)
set_option maxRecDepth 20000 in
theorem gX0_sum_X2_difference : GoodIn wsX0_sum (wsV RX0 55 RX2 yX2_difference wsX2_difference) := goodIn_app (goodIn_of _ (by decide +kernel)) ggX0_sum_X2_difference
set_option maxRecDepth 20000 in
theorem ggX0_sum_X3_lower : GoodIn wsX0_sum wsX3_lower := goodIn_r _ [13, 14] (by decide +kernel) (by decide +kernel)
set_option maxRecDepth 20000 in
theorem gX0_sum_X3_lower_n45 : GoodIn wsX0_sum (wsX3_lower) := ggX0_sum_X3_lower
set_option maxRecDepth 20000 in
theorem ggX0_sum_X3_joined : GoodIn wsX0_sum wsX3_joined := goodIn_r _ [36] (by decide +kernel) (by decide +kernel)
set_option maxRecDepth 20000 in
theorem gX0_sum_X3_joined_n67 : GoodIn wsX0_sum (wsX3_joined) := ggX0_sum_X3_joined
theorem dX0_sum_0 : decode cX0_sum 0 = .ok (.lload_n 1, 1) := by decide +kernel
theorem dX0_sum_1 : decode cX0_sum 1 = .ok (.ldc2_w 58, 3) := by decide +kernel
theorem dX0_sum_4 : decode cX0_sum 4 = .ok (.lcmp, 1) := by decide +kernel
theorem dX0_sum_5 : decode cX0_sum 5 = .ok (.ifCond .ne 5, 3) := by decide +kernel
theorem dX0_sum_8 : decode cX0_sum 8 = .ok (.lload_n 3, 1) := by decide +kernel
theorem dX0_sum_9 : decode cX0_sum 9 = .ok (.lreturn, 1) := by decide +kernel
theorem dX0_sum_10 : decode cX0_sum 10 = .ok (.lload_n 3, 1) := by decide +kernel
theorem dX0_sum_11 : decode cX0_sum 11 = .ok (.ldc2_w 58, 3) := by decide +kernel
theorem dX0_sum_14 : decode cX0_sum 14 = .ok (.lcmp, 1) := by decide +kernel
theorem dX0_sum_15 : decode cX0_sum 15 = .ok (.ifCond .ne 5, 3) := by decide +kernel
theorem dX0_sum_18 : decode cX0_sum 18 = .ok (.lload_n 1, 1) := by decide +kernel
theorem dX0_sum_19 : decode cX0_sum 19 = .ok (.lreturn, 1) := by decide +kernel
theorem dX0_sum_20 : decode cX0_sum 20 = .ok (.aload_n 0, 1) := by decide +kernel
theorem dX0_sum_21 : decode cX0_sum 21 = .ok (.lload_n 1, 1) := by decide +kernel
theorem dX0_sum_22 : decode cX0_sum 22 = .ok (.lload_n 3, 1) := by decide +kernel
theorem dX0_sum_23 : decode cX0_sum 23 = .ok (.invokevirtual 60, 3) := by decide +kernel
theorem dX0_sum_26 : decode cX0_sum 26 = .ok (.ifCond .eq 7, 3) := by decide +kernel
theorem dX0_sum_29 : decode cX0_sum 29 = .ok (.ldc2_w 58, 3) := by decide +kernel
theorem dX0_sum_32 : decode cX0_sum 32 = .ok (.lreturn, 1) := by decide +kernel
theorem dX0_sum_33 : decode cX0_sum 33 = .ok (.aload_n 0, 1) := by decide +kernel
theorem dX0_sum_34 : decode cX0_sum 34 = .ok (.lload_n 1, 1) := by decide +kernel
theorem dX0_sum_35 : decode cX0_sum 35 = .ok (.lload_n 3, 1) := by decide +kernel
theorem dX0_sum_36 : decode cX0_sum 36 = .ok (.invokevirtual 64, 3) := by decide +kernel
theorem dX0_sum_39 : decode cX0_sum 39 = .ok (.lstore 5, 2) := by decide +kernel
theorem dX0_sum_41 : decode cX0_sum 41 = .ok (.aload_n 0, 1) := by decide +kernel
theorem dX0_sum_42 : decode cX0_sum 42 = .ok (.getfield 9, 3) := by decide +kernel
theorem dX0_sum_45 : decode cX0_sum 45 = .ok (.aload_n 0, 1) := by decide +kernel
theorem dX0_sum_46 : decode cX0_sum 46 = .ok (.getfield 9, 3) := by decide +kernel
theorem dX0_sum_49 : decode cX0_sum 49 = .ok (.aload_n 0, 1) := by decide +kernel
theorem dX0_sum_50 : decode cX0_sum 50 = .ok (.getfield 9, 3) := by decide +kernel
theorem dX0_sum_53 : decode cX0_sum 53 = .ok (.lload 5, 2) := by decide +kernel
theorem dX0_sum_55 : decode cX0_sum 55 = .ok (.lload 5, 2) := by decide +kernel
theorem dX0_sum_57 : decode cX0_sum 57 = .ok (.invokevirtual 35, 3) := by decide +kernel
theorem dX0_sum_60 : decode cX0_sum 60 = .ok (.lload_n 1, 1) := by decide +kernel
theorem dX0_sum_61 : decode cX0_sum 61 = .ok (.invokestatic 42, 3) := by decide +kernel
theorem dX0_sum_64 : decode cX0_sum 64 = .ok (.invokevirtual 55, 3) := by decide +kernel
theorem dX0_sum_67 : decode cX0_sum 67 = .ok (.lload_n 3, 1) := by decide +kernel
theorem dX0_sum_68 : decode cX0_sum 68 = .ok (.invokestatic 42, 3) := by decide +kernel
theorem dX0_sum_71 : decode cX0_sum 71 = .ok (.invokevirtual 55, 3) := by decide +kernel
theorem dX0_sum_74 : decode cX0_sum 74 = .ok (.lstore 7, 2) := by decide +kernel
theorem dX0_sum_76 : decode cX0_sum 76 = .ok (.aload_n 0, 1) := by decide +kernel
theorem dX0_sum_77 : decode cX0_sum 77 = .ok (.getfield 9, 3) := by decide +kernel
theorem dX0_sum_80 : decode cX0_sum 80 = .ok (.aload_n 0, 1) := by decide +kernel
theorem dX0_sum_81 : decode cX0_sum 81 = .ok (.getfield 9, 3) := by decide +kernel
theorem dX0_sum_84 : decode cX0_sum 84 = .ok (.lload 5, 2) := by decide +kernel
theorem dX0_sum_86 : decode cX0_sum 86 = .ok (.aload_n 0, 1) := by decide +kernel
theorem dX0_sum_87 : decode cX0_sum 87 = .ok (.getfield 9, 3) := by decide +kernel
theorem dX0_sum_90 : decode cX0_sum 90 = .ok (.lload_n 1, 1) := by decide +kernel
theorem dX0_sum_91 : decode cX0_sum 91 = .ok (.invokestatic 42, 3) := by decide +kernel
theorem dX0_sum_94 : decode cX0_sum 94 = .ok (.lload 7, 2) := by decide +kernel
theorem dX0_sum_96 : decode cX0_sum 96 = .ok (.invokevirtual 55, 3) := by decide +kernel
theorem dX0_sum_99 : decode cX0_sum 99 = .ok (.invokevirtual 35, 3) := by decide +kernel
theorem dX0_sum_102 : decode cX0_sum 102 = .ok (.lload_n 1, 1) := by decide +kernel
theorem dX0_sum_103 : decode cX0_sum 103 = .ok (.invokestatic 45, 3) := by decide +kernel
theorem dX0_sum_106 : decode cX0_sum 106 = .ok (.invokevirtual 55, 3) := by decide +kernel
theorem dX0_sum_109 : decode cX0_sum 109 = .ok (.lstore 9, 2) := by decide +kernel
theorem dX0_sum_111 : decode cX0_sum 111 = .ok (.lload 7, 2) := by decide +kernel
theorem dX0_sum_113 : decode cX0_sum 113 = .ok (.lload 9, 2) := by decide +kernel
theorem dX0_sum_115 : decode cX0_sum 115 = .ok (.invokestatic 67, 3) := by decide +kernel
theorem dX0_sum_118 : decode cX0_sum 118 = .ok (.lreturn, 1) := by decide +kernel
set_option maxRecDepth 20000 in
theorem ggX0_multiple_J9_floorMod_f86c9 : GoodIn wsX0_multiple wsJ9_floorMod_f86c9 := goodIn_r _ [7] (by decide +kernel) (by decide +kernel)
set_option maxRecDepth 20000 in
theorem gX0_multiple_J9_floorMod_f86c9 : GoodIn wsX0_multiple (va_wsS RX0 70 yJ9_floorMod_f86c9 wsJ9_floorMod_f86c9) := goodIn_app (goodIn_of _ (by decide +kernel)) ggX0_multiple_J9_floorMod_f86c9
set_option maxRecDepth 20000 in
theorem ggX0_multiple_X0_sum : GoodIn wsX0_multiple wsX0_sum := goodIn_r _ [12, 1, 13, 14, 15, 16, 11, 17, 2, 18, 19, 20, 21, 22, 23, 24, 25, 26, 27, 28, 3, 29, 30, 31, 32, 33, 34, 35, 36, 37, 38, 39, 40, 41, 42, 43, 44, 45, 46, 47, 48, 49, 50, 51] (by decide +kernel) (by decide +kernel)
set_option maxRecDepth 20000 in
theorem gX0_multiple_X0_sum : GoodIn wsX0_multiple (wsV RX0 75 RX0 yX0_sum wsX0_sum) := goodIn_app (goodIn_of _ (by decide +kernel)) ggX0_multiple_X0_sum
theorem dX0_multiple_0 : decode cX0_multiple 0 = .ok (.ldc2_w 58, 3) := by decide +kernel
theorem dX0_multiple_3 : decode cX0_multiple 3 = .ok (.lstore 5, 2) := by decide +kernel
theorem dX0_multiple_5 : decode cX0_multiple 5 = .ok (.lload_n 3, 1) := by decide +kernel
theorem dX0_multiple_6 : decode cX0_multiple 6 = .ok (.lstore 7, 2) := by decide +kernel
theorem dX0_multiple_8 : decode cX0_multiple 8 = .ok (.lload_n 1, 1) := by decide +kernel
theorem dX0_multiple_9 : decode cX0_multiple 9 = .ok (.aload_n 0, 1) := by decide +kernel
theorem dX0_multiple_10 : decode cX0_multiple 10 = .ok (.getfield 21, 3) := by decide +kernel
theorem dX0_multiple_13 : decode cX0_multiple 13 = .ok (.lconst 1, 1) := by decide +kernel
theorem dX0_multiple_14 : decode cX0_multiple 14 = .ok (.ladd, 1) := by decide +kernel
theorem dX0_multiple_15 : decode cX0_multiple 15 = .ok (.invokestatic 70, 3) := by decide +kernel
theorem dX0_multiple_18 : decode cX0_multiple 18 = .ok (.lstore 9, 2) := by decide +kernel
theorem dX0_multiple_20 : decode cX0_multiple 20 = .ok (.lload 9, 2) := by decide +kernel
theorem dX0_multiple_22 : decode cX0_multiple 22 = .ok (.lconst 0, 1) := by decide +kernel
theorem dX0_multiple_23 : decode cX0_multiple 23 = .ok (.lcmp, 1) := by decide +kernel
theorem dX0_multiple_24 : decode cX0_multiple 24 = .ok (.ifCond .le 43, 3) := by decide +kernel
theorem dX0_multiple_27 : decode cX0_multiple 27 = .ok (.lload 9, 2) := by decide +kernel
theorem dX0_multiple_29 : decode cX0_multiple 29 = .ok (.ldc2_w 50, 3) := by decide +kernel
theorem dX0_multiple_32 : decode cX0_multiple 32 = .ok (.lrem, 1) := by decide +kernel
theorem dX0_multiple_33 : decode cX0_multiple 33 = .ok (.lconst 1, 1) := by decide +kernel
theorem dX0_multiple_34 : decode cX0_multiple 34 = .ok (.lcmp, 1) := by decide +kernel
theorem dX0_multiple_35 : decode cX0_multiple 35 = .ok (.ifCond .ne 13, 3) := by decide +kernel
theorem dX0_multiple_38 : decode cX0_multiple 38 = .ok (.aload_n 0, 1) := by decide +kernel
theorem dX0_multiple_39 : decode cX0_multiple 39 = .ok (.lload 5, 2) := by decide +kernel
theorem dX0_multiple_41 : decode cX0_multiple 41 = .ok (.lload 7, 2) := by decide +kernel
theorem dX0_multiple_43 : decode cX0_multiple 43 = .ok (.invokevirtual 75, 3) := by decide +kernel
theorem dX0_multiple_46 : decode cX0_multiple 46 = .ok (.lstore 5, 2) := by decide +kernel
theorem dX0_multiple_48 : decode cX0_multiple 48 = .ok (.aload_n 0, 1) := by decide +kernel
theorem dX0_multiple_49 : decode cX0_multiple 49 = .ok (.lload 7, 2) := by decide +kernel
theorem dX0_multiple_51 : decode cX0_multiple 51 = .ok (.lload 7, 2) := by decide +kernel
theorem dX0_multiple_53 : decode cX0_multiple 53 = .ok (.invokevirtual 75, 3) := by decide +kernel
theorem dX0_multiple_56 : decode cX0_multiple 56 = .ok (.lstore 7, 2) := by decide +kernel
theorem dX0_multiple_58 : decode cX0_multiple 58 = .ok (.lload 9, 2) := by decide +kernel
theorem dX0_multiple_60 : decode cX0_multiple 60 = .ok (.iconst 1, 1) := by decide +kernel
theorem dX0_multiple_61 : decode cX0_multiple 61 = .ok (.lshr, 1) := by decide +kernel
theorem dX0_multiple_62 : decode cX0_multiple 62 = .ok (.lstore 9, 2) := by decide +kernel
theorem dX0_multiple_64 : decode cX0_multiple 64 = .ok (.goto (-44), 3) := by decide +kernel
theorem dX0_multiple_67 : decode cX0_multiple 67 = .ok (.lload 5, 2) := by decide +kernel
theorem dX0_multiple_69 : decode cX0_multiple 69 = .ok (.lreturn, 1) := by decide +kernel
set_option maxRecDepth 20000 in
theorem ggX0_orderOf_X0_orderWithout : GoodIn wsX0_orderOf wsX0_orderWithout := goodIn_r _ [7, 8, 9, 10, 11, 6, 12, 1, 2, 13, 14, 15, 16, 17, 18, 19, 20, 21, 22, 23, 24, 25, 26, 27, 28, 29, 30, 31, 32, 33, 34, 35, 36, 37, 38, 39, 40, 41, 42, 43, 44, 45, 46, 47, 48, 49, 50, 51, 52, 53, 54, 55, 56, 57, 58, 59] (by decide +kernel) (by decide +kernel)
set_option maxRecDepth 20000 in
theorem gX0_orderOf_X0_orderWithout : GoodIn wsX0_orderOf (wsV RX0 78 RX0 yX0_orderWithout wsX0_orderWithout) := goodIn_app (goodIn_of _ (by decide +kernel)) ggX0_orderOf_X0_orderWithout
theorem dX0_orderOf_0 : decode cX0_orderOf 0 = .ok (.aload_n 0, 1) := by decide +kernel
theorem dX0_orderOf_1 : decode cX0_orderOf 1 = .ok (.getfield 21, 3) := by decide +kernel
theorem dX0_orderOf_4 : decode cX0_orderOf 4 = .ok (.lconst 1, 1) := by decide +kernel
theorem dX0_orderOf_5 : decode cX0_orderOf 5 = .ok (.ladd, 1) := by decide +kernel
theorem dX0_orderOf_6 : decode cX0_orderOf 6 = .ok (.lstore_n 3, 1) := by decide +kernel
theorem dX0_orderOf_7 : decode cX0_orderOf 7 = .ok (.aload_n 0, 1) := by decide +kernel
theorem dX0_orderOf_8 : decode cX0_orderOf 8 = .ok (.getfield 21, 3) := by decide +kernel
theorem dX0_orderOf_11 : decode cX0_orderOf 11 = .ok (.lconst 1, 1) := by decide +kernel
theorem dX0_orderOf_12 : decode cX0_orderOf 12 = .ok (.ladd, 1) := by decide +kernel
theorem dX0_orderOf_13 : decode cX0_orderOf 13 = .ok (.lstore 5, 2) := by decide +kernel
theorem dX0_orderOf_15 : decode cX0_orderOf 15 = .ok (.ldc2_w 50, 3) := by decide +kernel
theorem dX0_orderOf_18 : decode cX0_orderOf 18 = .ok (.lstore 7, 2) := by decide +kernel
theorem dX0_orderOf_20 : decode cX0_orderOf 20 = .ok (.lload 7, 2) := by decide +kernel
theorem dX0_orderOf_22 : decode cX0_orderOf 22 = .ok (.lload 7, 2) := by decide +kernel
theorem dX0_orderOf_24 : decode cX0_orderOf 24 = .ok (.lmul, 1) := by decide +kernel
theorem dX0_orderOf_25 : decode cX0_orderOf 25 = .ok (.lload 5, 2) := by decide +kernel
theorem dX0_orderOf_27 : decode cX0_orderOf 27 = .ok (.lcmp, 1) := by decide +kernel
theorem dX0_orderOf_28 : decode cX0_orderOf 28 = .ok (.ifCond .gt 54, 3) := by decide +kernel
theorem dX0_orderOf_31 : decode cX0_orderOf 31 = .ok (.iconst 0, 1) := by decide +kernel
theorem dX0_orderOf_32 : decode cX0_orderOf 32 = .ok (.istore 9, 2) := by decide +kernel
theorem dX0_orderOf_34 : decode cX0_orderOf 34 = .ok (.iload 9, 2) := by decide +kernel
theorem dX0_orderOf_36 : decode cX0_orderOf 36 = .ok (.bipush 32, 2) := by decide +kernel
theorem dX0_orderOf_38 : decode cX0_orderOf 38 = .ok (.if_icmp .ge 35, 3) := by decide +kernel
theorem dX0_orderOf_41 : decode cX0_orderOf 41 = .ok (.lload 5, 2) := by decide +kernel
theorem dX0_orderOf_43 : decode cX0_orderOf 43 = .ok (.lload 7, 2) := by decide +kernel
theorem dX0_orderOf_45 : decode cX0_orderOf 45 = .ok (.lrem, 1) := by decide +kernel
theorem dX0_orderOf_46 : decode cX0_orderOf 46 = .ok (.lconst 0, 1) := by decide +kernel
theorem dX0_orderOf_47 : decode cX0_orderOf 47 = .ok (.lcmp, 1) := by decide +kernel
theorem dX0_orderOf_48 : decode cX0_orderOf 48 = .ok (.ifCond .ne 25, 3) := by decide +kernel
theorem dX0_orderOf_51 : decode cX0_orderOf 51 = .ok (.lload 5, 2) := by decide +kernel
theorem dX0_orderOf_53 : decode cX0_orderOf 53 = .ok (.lload 7, 2) := by decide +kernel
theorem dX0_orderOf_55 : decode cX0_orderOf 55 = .ok (.ldiv, 1) := by decide +kernel
theorem dX0_orderOf_56 : decode cX0_orderOf 56 = .ok (.lstore 5, 2) := by decide +kernel
theorem dX0_orderOf_58 : decode cX0_orderOf 58 = .ok (.aload_n 0, 1) := by decide +kernel
theorem dX0_orderOf_59 : decode cX0_orderOf 59 = .ok (.lload 7, 2) := by decide +kernel
theorem dX0_orderOf_61 : decode cX0_orderOf 61 = .ok (.lload_n 3, 1) := by decide +kernel
theorem dX0_orderOf_62 : decode cX0_orderOf 62 = .ok (.lload_n 1, 1) := by decide +kernel
theorem dX0_orderOf_63 : decode cX0_orderOf 63 = .ok (.invokevirtual 78, 3) := by decide +kernel
theorem dX0_orderOf_66 : decode cX0_orderOf 66 = .ok (.lstore_n 3, 1) := by decide +kernel
theorem dX0_orderOf_67 : decode cX0_orderOf 67 = .ok (.iinc 9 1, 3) := by decide +kernel
theorem dX0_orderOf_70 : decode cX0_orderOf 70 = .ok (.goto (-36), 3) := by decide +kernel
theorem dX0_orderOf_73 : decode cX0_orderOf 73 = .ok (.lload 7, 2) := by decide +kernel
theorem dX0_orderOf_75 : decode cX0_orderOf 75 = .ok (.lconst 1, 1) := by decide +kernel
theorem dX0_orderOf_76 : decode cX0_orderOf 76 = .ok (.ladd, 1) := by decide +kernel
theorem dX0_orderOf_77 : decode cX0_orderOf 77 = .ok (.lstore 7, 2) := by decide +kernel
theorem dX0_orderOf_79 : decode cX0_orderOf 79 = .ok (.goto (-59), 3) := by decide +kernel
theorem dX0_orderOf_82 : decode cX0_orderOf 82 = .ok (.lload 5, 2) := by decide +kernel
theorem dX0_orderOf_84 : decode cX0_orderOf 84 = .ok (.lconst 1, 1) := by decide +kernel
theorem dX0_orderOf_85 : decode cX0_orderOf 85 = .ok (.lcmp, 1) := by decide +kernel
theorem dX0_orderOf_86 : decode cX0_orderOf 86 = .ok (.ifCond .le 14, 3) := by decide +kernel
theorem dX0_orderOf_89 : decode cX0_orderOf 89 = .ok (.aload_n 0, 1) := by decide +kernel
theorem dX0_orderOf_90 : decode cX0_orderOf 90 = .ok (.lload 5, 2) := by decide +kernel
theorem dX0_orderOf_92 : decode cX0_orderOf 92 = .ok (.lload_n 3, 1) := by decide +kernel
theorem dX0_orderOf_93 : decode cX0_orderOf 93 = .ok (.lload_n 1, 1) := by decide +kernel
theorem dX0_orderOf_94 : decode cX0_orderOf 94 = .ok (.invokevirtual 78, 3) := by decide +kernel
theorem dX0_orderOf_97 : decode cX0_orderOf 97 = .ok (.goto 4, 3) := by decide +kernel
theorem dX0_orderOf_100 : decode cX0_orderOf 100 = .ok (.lload_n 3, 1) := by decide +kernel
theorem dX0_orderOf_101 : decode cX0_orderOf 101 = .ok (.lreturn, 1) := by decide +kernel
set_option maxRecDepth 20000 in
theorem ggX0_orderWithout_X0_multiple : GoodIn wsX0_orderWithout wsX0_multiple := goodIn_r _ [6, 1, 7, 8, 9, 10, 11, 12, 13, 14, 15, 5, 16, 17, 18, 19, 20, 21, 22, 23, 24, 25, 26, 27, 28, 29, 30, 31, 32, 33, 34, 35, 36, 37, 38, 39, 40, 41, 42, 43, 44, 45, 46, 47, 48, 49, 50, 51, 52, 53, 54, 55] (by decide +kernel) (by decide +kernel)
set_option maxRecDepth 20000 in
theorem gX0_orderWithout_X0_multiple : GoodIn wsX0_orderWithout (wsV RX0 82 RX0 yX0_multiple wsX0_multiple) := goodIn_app (goodIn_of _ (by decide +kernel)) ggX0_orderWithout_X0_multiple
theorem dX0_orderWithout_0 : decode cX0_orderWithout 0 = .ok (.aload_n 0, 1) := by decide +kernel
theorem dX0_orderWithout_1 : decode cX0_orderWithout 1 = .ok (.lload_n 3, 1) := by decide +kernel
theorem dX0_orderWithout_2 : decode cX0_orderWithout 2 = .ok (.lload_n 1, 1) := by decide +kernel
theorem dX0_orderWithout_3 : decode cX0_orderWithout 3 = .ok (.ldiv, 1) := by decide +kernel
theorem dX0_orderWithout_4 : decode cX0_orderWithout 4 = .ok (.lload 5, 2) := by decide +kernel
theorem dX0_orderWithout_6 : decode cX0_orderWithout 6 = .ok (.invokevirtual 82, 3) := by decide +kernel
theorem dX0_orderWithout_9 : decode cX0_orderWithout 9 = .ok (.ldc2_w 58, 3) := by decide +kernel
theorem dX0_orderWithout_12 : decode cX0_orderWithout 12 = .ok (.lcmp, 1) := by decide +kernel
theorem dX0_orderWithout_13 : decode cX0_orderWithout 13 = .ok (.ifCond .ne 9, 3) := by decide +kernel
theorem dX0_orderWithout_16 : decode cX0_orderWithout 16 = .ok (.lload_n 3, 1) := by decide +kernel
theorem dX0_orderWithout_17 : decode cX0_orderWithout 17 = .ok (.lload_n 1, 1) := by decide +kernel
theorem dX0_orderWithout_18 : decode cX0_orderWithout 18 = .ok (.ldiv, 1) := by decide +kernel
theorem dX0_orderWithout_19 : decode cX0_orderWithout 19 = .ok (.goto 4, 3) := by decide +kernel
theorem dX0_orderWithout_22 : decode cX0_orderWithout 22 = .ok (.lload_n 3, 1) := by decide +kernel
theorem dX0_orderWithout_23 : decode cX0_orderWithout 23 = .ok (.lreturn, 1) := by decide +kernel
theorem dX0_firstTried_0 : decode cX0_firstTried 0 = .ok (.lload_n 1, 1) := by decide +kernel
theorem dX0_firstTried_1 : decode cX0_firstTried 1 = .ok (.iconst 1, 1) := by decide +kernel
theorem dX0_firstTried_2 : decode cX0_firstTried 2 = .ok (.lushr, 1) := by decide +kernel
theorem dX0_firstTried_3 : decode cX0_firstTried 3 = .ok (.aload_n 0, 1) := by decide +kernel
theorem dX0_firstTried_4 : decode cX0_firstTried 4 = .ok (.getfield 21, 3) := by decide +kernel
theorem dX0_firstTried_7 : decode cX0_firstTried 7 = .ok (.lrem, 1) := by decide +kernel
theorem dX0_firstTried_8 : decode cX0_firstTried 8 = .ok (.ldc2_w 50, 3) := by decide +kernel
theorem dX0_firstTried_11 : decode cX0_firstTried 11 = .ok (.lmul, 1) := by decide +kernel
theorem dX0_firstTried_12 : decode cX0_firstTried 12 = .ok (.lload_n 1, 1) := by decide +kernel
theorem dX0_firstTried_13 : decode cX0_firstTried 13 = .ok (.lconst 1, 1) := by decide +kernel
theorem dX0_firstTried_14 : decode cX0_firstTried 14 = .ok (.land, 1) := by decide +kernel
theorem dX0_firstTried_15 : decode cX0_firstTried 15 = .ok (.ladd, 1) := by decide +kernel
theorem dX0_firstTried_16 : decode cX0_firstTried 16 = .ok (.aload_n 0, 1) := by decide +kernel
theorem dX0_firstTried_17 : decode cX0_firstTried 17 = .ok (.getfield 21, 3) := by decide +kernel
theorem dX0_firstTried_20 : decode cX0_firstTried 20 = .ok (.lrem, 1) := by decide +kernel
theorem dX0_firstTried_21 : decode cX0_firstTried 21 = .ok (.lreturn, 1) := by decide +kernel
set_option maxRecDepth 20000 in
theorem ggX0_turned_X0_firstTried : GoodIn wsX0_turned wsX0_firstTried := goodIn_r _ [10, 5, 11, 67, 68, 69, 70, 71, 72] (by decide +kernel) (by decide +kernel)
set_option maxRecDepth 20000 in
theorem gX0_turned_X0_firstTried : GoodIn wsX0_turned (wsV RX0 85 RX0 yX0_firstTried wsX0_firstTried) := goodIn_app (goodIn_of _ (by decide +kernel)) ggX0_turned_X0_firstTried
set_option maxRecDepth 20000 in
theorem ggX0_turned_X0_squareOfY : GoodIn wsX0_turned wsX0_squareOfY := goodIn_r _ [15, 2, 5, 16, 17, 18, 19, 20, 21, 67, 68, 69, 70, 71, 72, 73] (by decide +kernel) (by decide +kernel)
set_option maxRecDepth 20000 in
theorem gX0_turned_X0_squareOfY : GoodIn wsX0_turned (wsV RX0 39 RX0 yX0_squareOfY wsX0_squareOfY) := goodIn_app (goodIn_of _ (by decide +kernel)) ggX0_turned_X0_squareOfY
set_option maxRecDepth 20000 in
theorem ggX0_turned_X2_evenRoot : GoodIn wsX0_turned wsX2_evenRoot := goodIn_r _ [25, 21, 26, 27, 28, 29, 17, 18, 19, 20, 73] (by decide +kernel) (by decide +kernel)
set_option maxRecDepth 20000 in
theorem gX0_turned_X2_evenRoot : GoodIn wsX0_turned (wsV RX0 92 RX2 yX2_evenRoot wsX2_evenRoot) := goodIn_app (goodIn_of _ (by decide +kernel)) ggX0_turned_X2_evenRoot
set_option maxRecDepth 20000 in
theorem ggX0_turned_X3_joined : GoodIn wsX0_turned wsX3_joined := goodIn_r _ [32] (by decide +kernel) (by decide +kernel)
set_option maxRecDepth 20000 in
theorem gX0_turned_X3_joined_n67 : GoodIn wsX0_turned (wsX3_joined) := ggX0_turned_X3_joined
set_option maxRecDepth 20000 in
theorem ggX0_turned_X0_multiple : GoodIn wsX0_turned wsX0_multiple := goodIn_r _ [36, 4, 5, 11, 37, 38, 39, 40, 41, 42, 43, 9, 44, 2, 45, 46, 47, 48, 49, 31, 50, 51, 52, 53, 54, 55, 56, 57, 58, 16, 17, 18, 19, 20, 21, 59, 60, 61, 62, 63, 64, 65, 66, 30, 32, 67, 68, 69, 70, 71, 72, 73] (by decide +kernel) (by decide +kernel)
set_option maxRecDepth 20000 in
theorem gX0_turned_X0_multiple : GoodIn wsX0_turned (wsV RX0 82 RX0 yX0_multiple wsX0_multiple) := goodIn_app (goodIn_of _ (by decide +kernel)) ggX0_turned_X0_multiple
theorem dX0_turned_0 : decode cX0_turned 0 = .ok (.aload_n 0, 1) := by decide +kernel
theorem dX0_turned_1 : decode cX0_turned 1 = .ok (.lload_n 1, 1) := by decide +kernel
theorem dX0_turned_2 : decode cX0_turned 2 = .ok (.invokevirtual 85, 3) := by decide +kernel
theorem dX0_turned_5 : decode cX0_turned 5 = .ok (.lstore_n 3, 1) := by decide +kernel
theorem dX0_turned_6 : decode cX0_turned 6 = .ok (.iconst 1, 1) := by decide +kernel
theorem dX0_turned_7 : decode cX0_turned 7 = .ok (.istore 5, 2) := by decide +kernel
theorem dX0_turned_9 : decode cX0_turned 9 = .ok (.iload 5, 2) := by decide +kernel
theorem dX0_turned_11 : decode cX0_turned 11 = .ok (.sipush 1000, 3) := by decide +kernel
theorem dX0_turned_14 : decode cX0_turned 14 = .ok (.if_icmp .gt 79, 3) := by decide +kernel
theorem dX0_turned_17 : decode cX0_turned 17 = .ok (.aload_n 0, 1) := by decide +kernel
theorem dX0_turned_18 : decode cX0_turned 18 = .ok (.iload 5, 2) := by decide +kernel
theorem dX0_turned_20 : decode cX0_turned 20 = .ok (.putfield 88, 3) := by decide +kernel
theorem dX0_turned_23 : decode cX0_turned 23 = .ok (.aload_n 0, 1) := by decide +kernel
theorem dX0_turned_24 : decode cX0_turned 24 = .ok (.getfield 9, 3) := by decide +kernel
theorem dX0_turned_27 : decode cX0_turned 27 = .ok (.aload_n 0, 1) := by decide +kernel
theorem dX0_turned_28 : decode cX0_turned 28 = .ok (.lload_n 3, 1) := by decide +kernel
theorem dX0_turned_29 : decode cX0_turned 29 = .ok (.invokevirtual 39, 3) := by decide +kernel
theorem dX0_turned_32 : decode cX0_turned 32 = .ok (.invokevirtual 92, 3) := by decide +kernel
theorem dX0_turned_35 : decode cX0_turned 35 = .ok (.lstore 6, 2) := by decide +kernel
theorem dX0_turned_37 : decode cX0_turned 37 = .ok (.lload 6, 2) := by decide +kernel
theorem dX0_turned_39 : decode cX0_turned 39 = .ok (.lconst 0, 1) := by decide +kernel
theorem dX0_turned_40 : decode cX0_turned 40 = .ok (.lcmp, 1) := by decide +kernel
theorem dX0_turned_41 : decode cX0_turned 41 = .ok (.ifCond .le 20, 3) := by decide +kernel
theorem dX0_turned_44 : decode cX0_turned 44 = .ok (.aload_n 0, 1) := by decide +kernel
theorem dX0_turned_45 : decode cX0_turned 45 = .ok (.aload_n 0, 1) := by decide +kernel
theorem dX0_turned_46 : decode cX0_turned 46 = .ok (.getfield 25, 3) := by decide +kernel
theorem dX0_turned_49 : decode cX0_turned 49 = .ok (.lload_n 3, 1) := by decide +kernel
theorem dX0_turned_50 : decode cX0_turned 50 = .ok (.lload 6, 2) := by decide +kernel
theorem dX0_turned_52 : decode cX0_turned 52 = .ok (.invokestatic 67, 3) := by decide +kernel
theorem dX0_turned_55 : decode cX0_turned 55 = .ok (.invokevirtual 82, 3) := by decide +kernel
theorem dX0_turned_58 : decode cX0_turned 58 = .ok (.goto 6, 3) := by decide +kernel
theorem dX0_turned_61 : decode cX0_turned 61 = .ok (.ldc2_w 58, 3) := by decide +kernel
theorem dX0_turned_64 : decode cX0_turned 64 = .ok (.lstore 8, 2) := by decide +kernel
theorem dX0_turned_66 : decode cX0_turned 66 = .ok (.lload 8, 2) := by decide +kernel
theorem dX0_turned_68 : decode cX0_turned 68 = .ok (.ldc2_w 58, 3) := by decide +kernel
theorem dX0_turned_71 : decode cX0_turned 71 = .ok (.lcmp, 1) := by decide +kernel
theorem dX0_turned_72 : decode cX0_turned 72 = .ok (.ifCond .eq 6, 3) := by decide +kernel
theorem dX0_turned_75 : decode cX0_turned 75 = .ok (.lload 8, 2) := by decide +kernel
theorem dX0_turned_77 : decode cX0_turned 77 = .ok (.lreturn, 1) := by decide +kernel
theorem dX0_turned_78 : decode cX0_turned 78 = .ok (.lload_n 3, 1) := by decide +kernel
theorem dX0_turned_79 : decode cX0_turned 79 = .ok (.lconst 1, 1) := by decide +kernel
theorem dX0_turned_80 : decode cX0_turned 80 = .ok (.ladd, 1) := by decide +kernel
theorem dX0_turned_81 : decode cX0_turned 81 = .ok (.aload_n 0, 1) := by decide +kernel
theorem dX0_turned_82 : decode cX0_turned 82 = .ok (.getfield 21, 3) := by decide +kernel
theorem dX0_turned_85 : decode cX0_turned 85 = .ok (.lrem, 1) := by decide +kernel
theorem dX0_turned_86 : decode cX0_turned 86 = .ok (.lstore_n 3, 1) := by decide +kernel
theorem dX0_turned_87 : decode cX0_turned 87 = .ok (.iinc 5 1, 3) := by decide +kernel
theorem dX0_turned_90 : decode cX0_turned 90 = .ok (.goto (-81), 3) := by decide +kernel
theorem dX0_turned_93 : decode cX0_turned 93 = .ok (.ldc2_w 58, 3) := by decide +kernel
theorem dX0_turned_96 : decode cX0_turned 96 = .ok (.lreturn, 1) := by decide +kernel
set_option maxRecDepth 20000 in
theorem ggX0_pointWritten_X0_squareOfY : GoodIn wsX0_pointWritten wsX0_squareOfY := goodIn_r _ [10, 5, 3, 11, 12, 13, 14, 15, 16, 28, 29, 30, 31, 32, 33, 34] (by decide +kernel) (by decide +kernel)
set_option maxRecDepth 20000 in
theorem gX0_pointWritten_X0_squareOfY : GoodIn wsX0_pointWritten (wsV RX0 39 RX0 yX0_squareOfY wsX0_squareOfY) := goodIn_app (goodIn_of _ (by decide +kernel)) ggX0_pointWritten_X0_squareOfY
set_option maxRecDepth 20000 in
theorem ggX0_pointWritten_X2_evenRoot : GoodIn wsX0_pointWritten wsX2_evenRoot := goodIn_r _ [20, 16, 21, 22, 23, 24, 12, 13, 14, 15, 34] (by decide +kernel) (by decide +kernel)
set_option maxRecDepth 20000 in
theorem gX0_pointWritten_X2_evenRoot : GoodIn wsX0_pointWritten (wsV RX0 92 RX2 yX2_evenRoot wsX2_evenRoot) := goodIn_app (goodIn_of _ (by decide +kernel)) ggX0_pointWritten_X2_evenRoot
set_option maxRecDepth 20000 in
theorem ggX0_pointWritten_X3_joined : GoodIn wsX0_pointWritten wsX3_joined := goodIn_r _ [27] (by decide +kernel) (by decide +kernel)
set_option maxRecDepth 20000 in
theorem gX0_pointWritten_X3_joined_n67 : GoodIn wsX0_pointWritten (wsX3_joined) := ggX0_pointWritten_X3_joined
theorem dX0_pointWritten_0 : decode cX0_pointWritten 0 = .ok (.lload_n 1, 1) := by decide +kernel
theorem dX0_pointWritten_1 : decode cX0_pointWritten 1 = .ok (.ldc2_w 58, 3) := by decide +kernel
theorem dX0_pointWritten_4 : decode cX0_pointWritten 4 = .ok (.lcmp, 1) := by decide +kernel
theorem dX0_pointWritten_5 : decode cX0_pointWritten 5 = .ok (.ifCond .ne 7, 3) := by decide +kernel
theorem dX0_pointWritten_8 : decode cX0_pointWritten 8 = .ok (.ldc2_w 58, 3) := by decide +kernel
theorem dX0_pointWritten_11 : decode cX0_pointWritten 11 = .ok (.lreturn, 1) := by decide +kernel
theorem dX0_pointWritten_12 : decode cX0_pointWritten 12 = .ok (.lload_n 1, 1) := by decide +kernel
theorem dX0_pointWritten_13 : decode cX0_pointWritten 13 = .ok (.lconst 0, 1) := by decide +kernel
theorem dX0_pointWritten_14 : decode cX0_pointWritten 14 = .ok (.lcmp, 1) := by decide +kernel
theorem dX0_pointWritten_15 : decode cX0_pointWritten 15 = .ok (.ifCond .lt 16, 3) := by decide +kernel
theorem dX0_pointWritten_18 : decode cX0_pointWritten 18 = .ok (.lload_n 1, 1) := by decide +kernel
theorem dX0_pointWritten_19 : decode cX0_pointWritten 19 = .ok (.ldc2_w 50, 3) := by decide +kernel
theorem dX0_pointWritten_22 : decode cX0_pointWritten 22 = .ok (.ldiv, 1) := by decide +kernel
theorem dX0_pointWritten_23 : decode cX0_pointWritten 23 = .ok (.aload_n 0, 1) := by decide +kernel
theorem dX0_pointWritten_24 : decode cX0_pointWritten 24 = .ok (.getfield 21, 3) := by decide +kernel
theorem dX0_pointWritten_27 : decode cX0_pointWritten 27 = .ok (.lcmp, 1) := by decide +kernel
theorem dX0_pointWritten_28 : decode cX0_pointWritten 28 = .ok (.ifCond .lt 7, 3) := by decide +kernel
theorem dX0_pointWritten_31 : decode cX0_pointWritten 31 = .ok (.ldc2_w 95, 3) := by decide +kernel
theorem dX0_pointWritten_34 : decode cX0_pointWritten 34 = .ok (.lreturn, 1) := by decide +kernel
theorem dX0_pointWritten_35 : decode cX0_pointWritten 35 = .ok (.lload_n 1, 1) := by decide +kernel
theorem dX0_pointWritten_36 : decode cX0_pointWritten 36 = .ok (.ldc2_w 50, 3) := by decide +kernel
theorem dX0_pointWritten_39 : decode cX0_pointWritten 39 = .ok (.ldiv, 1) := by decide +kernel
theorem dX0_pointWritten_40 : decode cX0_pointWritten 40 = .ok (.lstore_n 3, 1) := by decide +kernel
theorem dX0_pointWritten_41 : decode cX0_pointWritten 41 = .ok (.aload_n 0, 1) := by decide +kernel
theorem dX0_pointWritten_42 : decode cX0_pointWritten 42 = .ok (.getfield 9, 3) := by decide +kernel
theorem dX0_pointWritten_45 : decode cX0_pointWritten 45 = .ok (.aload_n 0, 1) := by decide +kernel
theorem dX0_pointWritten_46 : decode cX0_pointWritten 46 = .ok (.lload_n 3, 1) := by decide +kernel
theorem dX0_pointWritten_47 : decode cX0_pointWritten 47 = .ok (.invokevirtual 39, 3) := by decide +kernel
theorem dX0_pointWritten_50 : decode cX0_pointWritten 50 = .ok (.invokevirtual 92, 3) := by decide +kernel
theorem dX0_pointWritten_53 : decode cX0_pointWritten 53 = .ok (.lstore 5, 2) := by decide +kernel
theorem dX0_pointWritten_55 : decode cX0_pointWritten 55 = .ok (.lload 5, 2) := by decide +kernel
theorem dX0_pointWritten_57 : decode cX0_pointWritten 57 = .ok (.ldc2_w 58, 3) := by decide +kernel
theorem dX0_pointWritten_60 : decode cX0_pointWritten 60 = .ok (.lcmp, 1) := by decide +kernel
theorem dX0_pointWritten_61 : decode cX0_pointWritten 61 = .ok (.ifCond .eq 20, 3) := by decide +kernel
theorem dX0_pointWritten_64 : decode cX0_pointWritten 64 = .ok (.lload 5, 2) := by decide +kernel
theorem dX0_pointWritten_66 : decode cX0_pointWritten 66 = .ok (.lconst 0, 1) := by decide +kernel
theorem dX0_pointWritten_67 : decode cX0_pointWritten 67 = .ok (.lcmp, 1) := by decide +kernel
theorem dX0_pointWritten_68 : decode cX0_pointWritten 68 = .ok (.ifCond .ne 17, 3) := by decide +kernel
theorem dX0_pointWritten_71 : decode cX0_pointWritten 71 = .ok (.lload_n 1, 1) := by decide +kernel
theorem dX0_pointWritten_72 : decode cX0_pointWritten 72 = .ok (.ldc2_w 50, 3) := by decide +kernel
theorem dX0_pointWritten_75 : decode cX0_pointWritten 75 = .ok (.lrem, 1) := by decide +kernel
theorem dX0_pointWritten_76 : decode cX0_pointWritten 76 = .ok (.lconst 1, 1) := by decide +kernel
theorem dX0_pointWritten_77 : decode cX0_pointWritten 77 = .ok (.lcmp, 1) := by decide +kernel
theorem dX0_pointWritten_78 : decode cX0_pointWritten 78 = .ok (.ifCond .ne 7, 3) := by decide +kernel
theorem dX0_pointWritten_81 : decode cX0_pointWritten 81 = .ok (.ldc2_w 95, 3) := by decide +kernel
theorem dX0_pointWritten_84 : decode cX0_pointWritten 84 = .ok (.lreturn, 1) := by decide +kernel
theorem dX0_pointWritten_85 : decode cX0_pointWritten 85 = .ok (.lload_n 3, 1) := by decide +kernel
theorem dX0_pointWritten_86 : decode cX0_pointWritten 86 = .ok (.lload_n 1, 1) := by decide +kernel
theorem dX0_pointWritten_87 : decode cX0_pointWritten 87 = .ok (.ldc2_w 50, 3) := by decide +kernel
theorem dX0_pointWritten_90 : decode cX0_pointWritten 90 = .ok (.lrem, 1) := by decide +kernel
theorem dX0_pointWritten_91 : decode cX0_pointWritten 91 = .ok (.lconst 1, 1) := by decide +kernel
theorem dX0_pointWritten_92 : decode cX0_pointWritten 92 = .ok (.lcmp, 1) := by decide +kernel
theorem dX0_pointWritten_93 : decode cX0_pointWritten 93 = .ok (.ifCond .ne 13, 3) := by decide +kernel
theorem dX0_pointWritten_96 : decode cX0_pointWritten 96 = .ok (.aload_n 0, 1) := by decide +kernel
theorem dX0_pointWritten_97 : decode cX0_pointWritten 97 = .ok (.getfield 21, 3) := by decide +kernel
theorem dX0_pointWritten_100 : decode cX0_pointWritten 100 = .ok (.lload 5, 2) := by decide +kernel
theorem dX0_pointWritten_102 : decode cX0_pointWritten 102 = .ok (.lsub, 1) := by decide +kernel
theorem dX0_pointWritten_103 : decode cX0_pointWritten 103 = .ok (.goto 5, 3) := by decide +kernel
theorem dX0_pointWritten_106 : decode cX0_pointWritten 106 = .ok (.lload 5, 2) := by decide +kernel
theorem dX0_pointWritten_108 : decode cX0_pointWritten 108 = .ok (.invokestatic 67, 3) := by decide +kernel
theorem dX0_pointWritten_111 : decode cX0_pointWritten 111 = .ok (.lreturn, 1) := by decide +kernel
theorem dX1_init_0 : decode cX1_init 0 = .ok (.aload_n 0, 1) := by decide +kernel
theorem dX1_init_1 : decode cX1_init 1 = .ok (.invokespecial 3, 3) := by decide +kernel
theorem dX1_init_4 : decode cX1_init 4 = .ok (.aload_n 0, 1) := by decide +kernel
theorem dX1_init_5 : decode cX1_init 5 = .ok (.aload_n 1, 1) := by decide +kernel
theorem dX1_init_6 : decode cX1_init 6 = .ok (.putfield 9, 3) := by decide +kernel
theorem dX1_init_9 : decode cX1_init 9 = .ok (.aload_n 0, 1) := by decide +kernel
theorem dX1_init_10 : decode cX1_init 10 = .ok (.aload_n 1, 1) := by decide +kernel
theorem dX1_init_11 : decode cX1_init 11 = .ok (.getfield 15, 3) := by decide +kernel
theorem dX1_init_14 : decode cX1_init 14 = .ok (.putfield 21, 3) := by decide +kernel
theorem dX1_init_17 : decode cX1_init 17 = .ok (.aload_n 0, 1) := by decide +kernel
theorem dX1_init_18 : decode cX1_init 18 = .ok (.aload_n 1, 1) := by decide +kernel
theorem dX1_init_19 : decode cX1_init 19 = .ok (.getfield 22, 3) := by decide +kernel
theorem dX1_init_22 : decode cX1_init 22 = .ok (.putfield 25, 3) := by decide +kernel
theorem dX1_init_25 : decode cX1_init 25 = .ok (.return_, 1) := by decide +kernel
set_option maxRecDepth 20000 in
theorem ggX1_takes_X0_multiple : GoodIn wsX1_takes wsX0_multiple := goodIn_r _ [8, 9, 10, 11, 12, 13, 14, 15, 16, 17, 18, 7, 19, 20, 21, 22, 23, 24, 25, 26, 27, 28, 29, 30, 31, 32, 33, 34, 35, 36, 37, 38, 39, 40, 41, 42, 43, 44, 45, 46, 47, 48, 49, 50, 51, 55, 56, 57, 58, 59, 60, 61] (by decide +kernel) (by decide +kernel)
set_option maxRecDepth 20000 in
theorem gX1_takes_X0_multiple : GoodIn wsX1_takes (wsV RX1 26 RX0 yX0_multiple wsX0_multiple) := goodIn_app (goodIn_of _ (by decide +kernel)) ggX1_takes_X0_multiple
theorem dX1_takes_0 : decode cX1_takes 0 = .ok (.aload_n 0, 1) := by decide +kernel
theorem dX1_takes_1 : decode cX1_takes 1 = .ok (.getfield 9, 3) := by decide +kernel
theorem dX1_takes_4 : decode cX1_takes 4 = .ok (.aload_n 0, 1) := by decide +kernel
theorem dX1_takes_5 : decode cX1_takes 5 = .ok (.getfield 25, 3) := by decide +kernel
theorem dX1_takes_8 : decode cX1_takes 8 = .ok (.lload_n 1, 1) := by decide +kernel
theorem dX1_takes_9 : decode cX1_takes 9 = .ok (.invokevirtual 26, 3) := by decide +kernel
theorem dX1_takes_12 : decode cX1_takes 12 = .ok (.ldc2_w 30, 3) := by decide +kernel
theorem dX1_takes_15 : decode cX1_takes 15 = .ok (.lcmp, 1) := by decide +kernel
theorem dX1_takes_16 : decode cX1_takes 16 = .ok (.ifCond .ne 7, 3) := by decide +kernel
theorem dX1_takes_19 : decode cX1_takes 19 = .ok (.iconst 1, 1) := by decide +kernel
theorem dX1_takes_20 : decode cX1_takes 20 = .ok (.goto 4, 3) := by decide +kernel
theorem dX1_takes_23 : decode cX1_takes 23 = .ok (.iconst 0, 1) := by decide +kernel
theorem dX1_takes_24 : decode cX1_takes 24 = .ok (.ireturn, 1) := by decide +kernel
set_option maxRecDepth 20000 in
theorem ggX1_product_X3_upper : GoodIn wsX1_product wsX3_upper := goodIn_r _ [4] (by decide +kernel) (by decide +kernel)
set_option maxRecDepth 20000 in
theorem gX1_product_X3_upper_n32 : GoodIn wsX1_product (wsX3_upper) := ggX1_product_X3_upper
set_option maxRecDepth 20000 in
theorem ggX1_product_X3_lower : GoodIn wsX1_product wsX3_lower := goodIn_r _ [6, 7] (by decide +kernel) (by decide +kernel)
set_option maxRecDepth 20000 in
theorem gX1_product_X3_lower_n36 : GoodIn wsX1_product (wsX3_lower) := ggX1_product_X3_lower
set_option maxRecDepth 20000 in
theorem ggX1_product_J9_floorMod_f86c9 : GoodIn wsX1_product wsJ9_floorMod_f86c9 := goodIn_r _ [11] (by decide +kernel) (by decide +kernel)
set_option maxRecDepth 20000 in
theorem gX1_product_J9_floorMod_f86c9 : GoodIn wsX1_product (va_wsS RX1 39 yJ9_floorMod_f86c9 wsJ9_floorMod_f86c9) := goodIn_app (goodIn_of _ (by decide +kernel)) ggX1_product_J9_floorMod_f86c9
set_option maxRecDepth 20000 in
theorem ggX1_product_X3_joined : GoodIn wsX1_product wsX3_joined := goodIn_r _ [13] (by decide +kernel) (by decide +kernel)
set_option maxRecDepth 20000 in
theorem gX1_product_X3_joined_n44 : GoodIn wsX1_product (wsX3_joined) := ggX1_product_X3_joined
theorem dX1_product_0 : decode cX1_product 0 = .ok (.lload_n 1, 1) := by decide +kernel
theorem dX1_product_1 : decode cX1_product 1 = .ok (.invokestatic 32, 3) := by decide +kernel
theorem dX1_product_4 : decode cX1_product 4 = .ok (.lload_n 3, 1) := by decide +kernel
theorem dX1_product_5 : decode cX1_product 5 = .ok (.invokestatic 32, 3) := by decide +kernel
theorem dX1_product_8 : decode cX1_product 8 = .ok (.lmul, 1) := by decide +kernel
theorem dX1_product_9 : decode cX1_product 9 = .ok (.lload_n 1, 1) := by decide +kernel
theorem dX1_product_10 : decode cX1_product 10 = .ok (.invokestatic 36, 3) := by decide +kernel
theorem dX1_product_13 : decode cX1_product 13 = .ok (.lload_n 3, 1) := by decide +kernel
theorem dX1_product_14 : decode cX1_product 14 = .ok (.invokestatic 36, 3) := by decide +kernel
theorem dX1_product_17 : decode cX1_product 17 = .ok (.lmul, 1) := by decide +kernel
theorem dX1_product_18 : decode cX1_product 18 = .ok (.lsub, 1) := by decide +kernel
theorem dX1_product_19 : decode cX1_product 19 = .ok (.lstore 5, 2) := by decide +kernel
theorem dX1_product_21 : decode cX1_product 21 = .ok (.lload_n 1, 1) := by decide +kernel
theorem dX1_product_22 : decode cX1_product 22 = .ok (.invokestatic 32, 3) := by decide +kernel
theorem dX1_product_25 : decode cX1_product 25 = .ok (.lload_n 3, 1) := by decide +kernel
theorem dX1_product_26 : decode cX1_product 26 = .ok (.invokestatic 36, 3) := by decide +kernel
theorem dX1_product_29 : decode cX1_product 29 = .ok (.lmul, 1) := by decide +kernel
theorem dX1_product_30 : decode cX1_product 30 = .ok (.lload_n 1, 1) := by decide +kernel
theorem dX1_product_31 : decode cX1_product 31 = .ok (.invokestatic 36, 3) := by decide +kernel
theorem dX1_product_34 : decode cX1_product 34 = .ok (.lload_n 3, 1) := by decide +kernel
theorem dX1_product_35 : decode cX1_product 35 = .ok (.invokestatic 32, 3) := by decide +kernel
theorem dX1_product_38 : decode cX1_product 38 = .ok (.lmul, 1) := by decide +kernel
theorem dX1_product_39 : decode cX1_product 39 = .ok (.ladd, 1) := by decide +kernel
theorem dX1_product_40 : decode cX1_product 40 = .ok (.lstore 7, 2) := by decide +kernel
theorem dX1_product_42 : decode cX1_product 42 = .ok (.lload 5, 2) := by decide +kernel
theorem dX1_product_44 : decode cX1_product 44 = .ok (.aload_n 0, 1) := by decide +kernel
theorem dX1_product_45 : decode cX1_product 45 = .ok (.getfield 21, 3) := by decide +kernel
theorem dX1_product_48 : decode cX1_product 48 = .ok (.invokestatic 39, 3) := by decide +kernel
theorem dX1_product_51 : decode cX1_product 51 = .ok (.lload 7, 2) := by decide +kernel
theorem dX1_product_53 : decode cX1_product 53 = .ok (.aload_n 0, 1) := by decide +kernel
theorem dX1_product_54 : decode cX1_product 54 = .ok (.getfield 21, 3) := by decide +kernel
theorem dX1_product_57 : decode cX1_product 57 = .ok (.lrem, 1) := by decide +kernel
theorem dX1_product_58 : decode cX1_product 58 = .ok (.invokestatic 44, 3) := by decide +kernel
theorem dX1_product_61 : decode cX1_product 61 = .ok (.lreturn, 1) := by decide +kernel
set_option maxRecDepth 20000 in
theorem ggX1_raised_X1_product : GoodIn wsX1_raised wsX1_product := goodIn_r _ [7, 8, 9, 10, 11, 12, 13, 14, 15, 16, 17, 18, 19, 20, 21, 22, 23] (by decide +kernel) (by decide +kernel)
set_option maxRecDepth 20000 in
theorem gX1_raised_X1_product : GoodIn wsX1_raised (wsV RX1 51 RX1 yX1_product wsX1_product) := goodIn_app (goodIn_of _ (by decide +kernel)) ggX1_raised_X1_product
theorem dX1_raised_0 : decode cX1_raised 0 = .ok (.ldc2_w 47, 3) := by decide +kernel
theorem dX1_raised_3 : decode cX1_raised 3 = .ok (.lstore 5, 2) := by decide +kernel
theorem dX1_raised_5 : decode cX1_raised 5 = .ok (.lload_n 1, 1) := by decide +kernel
theorem dX1_raised_6 : decode cX1_raised 6 = .ok (.lstore 7, 2) := by decide +kernel
theorem dX1_raised_8 : decode cX1_raised 8 = .ok (.lload_n 3, 1) := by decide +kernel
theorem dX1_raised_9 : decode cX1_raised 9 = .ok (.lstore 9, 2) := by decide +kernel
theorem dX1_raised_11 : decode cX1_raised 11 = .ok (.lload 9, 2) := by decide +kernel
theorem dX1_raised_13 : decode cX1_raised 13 = .ok (.lconst 0, 1) := by decide +kernel
theorem dX1_raised_14 : decode cX1_raised 14 = .ok (.lcmp, 1) := by decide +kernel
theorem dX1_raised_15 : decode cX1_raised 15 = .ok (.ifCond .le 43, 3) := by decide +kernel
theorem dX1_raised_18 : decode cX1_raised 18 = .ok (.lload 9, 2) := by decide +kernel
theorem dX1_raised_20 : decode cX1_raised 20 = .ok (.ldc2_w 49, 3) := by decide +kernel
theorem dX1_raised_23 : decode cX1_raised 23 = .ok (.lrem, 1) := by decide +kernel
theorem dX1_raised_24 : decode cX1_raised 24 = .ok (.lconst 1, 1) := by decide +kernel
theorem dX1_raised_25 : decode cX1_raised 25 = .ok (.lcmp, 1) := by decide +kernel
theorem dX1_raised_26 : decode cX1_raised 26 = .ok (.ifCond .ne 13, 3) := by decide +kernel
theorem dX1_raised_29 : decode cX1_raised 29 = .ok (.aload_n 0, 1) := by decide +kernel
theorem dX1_raised_30 : decode cX1_raised 30 = .ok (.lload 5, 2) := by decide +kernel
theorem dX1_raised_32 : decode cX1_raised 32 = .ok (.lload 7, 2) := by decide +kernel
theorem dX1_raised_34 : decode cX1_raised 34 = .ok (.invokevirtual 51, 3) := by decide +kernel
theorem dX1_raised_37 : decode cX1_raised 37 = .ok (.lstore 5, 2) := by decide +kernel
theorem dX1_raised_39 : decode cX1_raised 39 = .ok (.aload_n 0, 1) := by decide +kernel
theorem dX1_raised_40 : decode cX1_raised 40 = .ok (.lload 7, 2) := by decide +kernel
theorem dX1_raised_42 : decode cX1_raised 42 = .ok (.lload 7, 2) := by decide +kernel
theorem dX1_raised_44 : decode cX1_raised 44 = .ok (.invokevirtual 51, 3) := by decide +kernel
theorem dX1_raised_47 : decode cX1_raised 47 = .ok (.lstore 7, 2) := by decide +kernel
theorem dX1_raised_49 : decode cX1_raised 49 = .ok (.lload 9, 2) := by decide +kernel
theorem dX1_raised_51 : decode cX1_raised 51 = .ok (.iconst 1, 1) := by decide +kernel
theorem dX1_raised_52 : decode cX1_raised 52 = .ok (.lshr, 1) := by decide +kernel
theorem dX1_raised_53 : decode cX1_raised 53 = .ok (.lstore 9, 2) := by decide +kernel
theorem dX1_raised_55 : decode cX1_raised 55 = .ok (.goto (-44), 3) := by decide +kernel
theorem dX1_raised_58 : decode cX1_raised 58 = .ok (.lload 5, 2) := by decide +kernel
theorem dX1_raised_60 : decode cX1_raised 60 = .ok (.lreturn, 1) := by decide +kernel
set_option maxRecDepth 20000 in
theorem ggX1_bitsBehindHighest_J13_numberOfLeadingZeros_95d88 : GoodIn wsX1_bitsBehindHighest wsJ13_numberOfLeadingZeros_95d88 := goodIn_r _ [5, 6, 7, 8, 9, 10] (by decide +kernel) (by decide +kernel)
set_option maxRecDepth 20000 in
theorem gX1_bitsBehindHighest_J13_numberOfLeadingZeros_95d88 : GoodIn wsX1_bitsBehindHighest (va_wsS RX1 54 yJ13_numberOfLeadingZeros_95d88 wsJ13_numberOfLeadingZeros_95d88) := goodIn_app (goodIn_of _ (by decide +kernel)) ggX1_bitsBehindHighest_J13_numberOfLeadingZeros_95d88
theorem dX1_bitsBehindHighest_0 : decode cX1_bitsBehindHighest 0 = .ok (.bipush 63, 2) := by decide +kernel
theorem dX1_bitsBehindHighest_2 : decode cX1_bitsBehindHighest 2 = .ok (.aload_n 0, 1) := by decide +kernel
theorem dX1_bitsBehindHighest_3 : decode cX1_bitsBehindHighest 3 = .ok (.getfield 25, 3) := by decide +kernel
theorem dX1_bitsBehindHighest_6 : decode cX1_bitsBehindHighest 6 = .ok (.invokestatic 54, 3) := by decide +kernel
theorem dX1_bitsBehindHighest_9 : decode cX1_bitsBehindHighest 9 = .ok (.isub, 1) := by decide +kernel
theorem dX1_bitsBehindHighest_10 : decode cX1_bitsBehindHighest 10 = .ok (.ireturn, 1) := by decide +kernel
set_option maxRecDepth 20000 in
theorem ggX1_linesOf_X1_bitsBehindHighest : GoodIn wsX1_linesOf wsX1_bitsBehindHighest := goodIn_r _ [7, 2, 8, 9, 10, 11, 12, 13, 14, 15, 16, 23, 24, 25] (by decide +kernel) (by decide +kernel)
set_option maxRecDepth 20000 in
theorem gX1_linesOf_X1_bitsBehindHighest : GoodIn wsX1_linesOf (wsV RX1 60 RX1 yX1_bitsBehindHighest wsX1_bitsBehindHighest) := goodIn_app (goodIn_of _ (by decide +kernel)) ggX1_linesOf_X1_bitsBehindHighest
set_option maxRecDepth 20000 in
theorem ggX1_linesOf_J13_bitCount_95d88 : GoodIn wsX1_linesOf wsJ13_bitCount_95d88 := goodIn_r _ [19, 20, 21, 22] (by decide +kernel) (by decide +kernel)
set_option maxRecDepth 20000 in
theorem gX1_linesOf_J13_bitCount_95d88 : GoodIn wsX1_linesOf (va_wsS RX1 64 yJ13_bitCount_95d88 wsJ13_bitCount_95d88) := goodIn_app (goodIn_of _ (by decide +kernel)) ggX1_linesOf_J13_bitCount_95d88
theorem dX1_linesOf_0 : decode cX1_linesOf 0 = .ok (.lload_n 1, 1) := by decide +kernel
theorem dX1_linesOf_1 : decode cX1_linesOf 1 = .ok (.ldc2_w 30, 3) := by decide +kernel
theorem dX1_linesOf_4 : decode cX1_linesOf 4 = .ok (.lcmp, 1) := by decide +kernel
theorem dX1_linesOf_5 : decode cX1_linesOf 5 = .ok (.ifCond .eq 11, 3) := by decide +kernel
theorem dX1_linesOf_8 : decode cX1_linesOf 8 = .ok (.lload_n 3, 1) := by decide +kernel
theorem dX1_linesOf_9 : decode cX1_linesOf 9 = .ok (.ldc2_w 30, 3) := by decide +kernel
theorem dX1_linesOf_12 : decode cX1_linesOf 12 = .ok (.lcmp, 1) := by decide +kernel
theorem dX1_linesOf_13 : decode cX1_linesOf 13 = .ok (.ifCond .ne 7, 3) := by decide +kernel
theorem dX1_linesOf_16 : decode cX1_linesOf 16 = .ok (.iconst 0, 1) := by decide +kernel
theorem dX1_linesOf_17 : decode cX1_linesOf 17 = .ok (.goto 17, 3) := by decide +kernel
theorem dX1_linesOf_20 : decode cX1_linesOf 20 = .ok (.aload_n 0, 1) := by decide +kernel
theorem dX1_linesOf_21 : decode cX1_linesOf 21 = .ok (.invokevirtual 60, 3) := by decide +kernel
theorem dX1_linesOf_24 : decode cX1_linesOf 24 = .ok (.aload_n 0, 1) := by decide +kernel
theorem dX1_linesOf_25 : decode cX1_linesOf 25 = .ok (.getfield 25, 3) := by decide +kernel
theorem dX1_linesOf_28 : decode cX1_linesOf 28 = .ok (.invokestatic 64, 3) := by decide +kernel
theorem dX1_linesOf_31 : decode cX1_linesOf 31 = .ok (.iadd, 1) := by decide +kernel
theorem dX1_linesOf_32 : decode cX1_linesOf 32 = .ok (.iconst 1, 1) := by decide +kernel
theorem dX1_linesOf_33 : decode cX1_linesOf 33 = .ok (.isub, 1) := by decide +kernel
theorem dX1_linesOf_34 : decode cX1_linesOf 34 = .ok (.ireturn, 1) := by decide +kernel
set_option maxRecDepth 20000 in
theorem ggX1_of_X1_bitsBehindHighest : GoodIn wsX1_of wsX1_bitsBehindHighest := goodIn_r _ [10, 4, 11, 12, 13, 14, 15, 16, 17, 18, 19, 82, 83, 84] (by decide +kernel) (by decide +kernel)
set_option maxRecDepth 20000 in
theorem gX1_of_X1_bitsBehindHighest : GoodIn wsX1_of (wsV RX1 60 RX1 yX1_bitsBehindHighest wsX1_bitsBehindHighest) := goodIn_app (goodIn_of _ (by decide +kernel)) ggX1_of_X1_bitsBehindHighest
set_option maxRecDepth 20000 in
theorem ggX1_of_X1_product : GoodIn wsX1_of wsX1_product := goodIn_r _ [23, 5, 24, 25, 26, 27, 28, 29, 30, 31, 32, 33, 34, 35, 82, 83, 84] (by decide +kernel) (by decide +kernel)
set_option maxRecDepth 20000 in
theorem gX1_of_X1_product : GoodIn wsX1_of (wsV RX1 51 RX1 yX1_product wsX1_product) := goodIn_app (goodIn_of _ (by decide +kernel)) ggX1_of_X1_product
set_option maxRecDepth 20000 in
theorem ggX1_of_X1_line : GoodIn wsX1_of wsX1_line := goodIn_r _ [39, 1, 2, 3, 40, 5, 24, 25, 26, 41, 42, 43, 44, 45, 46, 47, 48, 49, 50, 51, 52, 27, 28, 29, 34, 35, 53, 54, 55, 56, 57, 58, 59, 60, 61, 62, 63, 64, 65, 66, 67, 68, 69, 82, 83, 84, 85, 86, 87, 88, 89, 90, 91] (by decide +kernel) (by decide +kernel)
set_option maxRecDepth 20000 in
theorem gX1_of_X1_line : GoodIn wsX1_of (wsV RX1 67 RX1 yX1_line wsX1_line) := goodIn_app (goodIn_of _ (by decide +kernel)) ggX1_of_X1_line
set_option maxRecDepth 20000 in
theorem ggX1_of_X0_sum : GoodIn wsX1_of wsX0_sum := goodIn_r _ [73, 74, 58, 75, 48, 49, 50, 51, 52, 24, 25, 26, 27, 28, 29, 76, 54, 55, 56, 57, 59, 60, 61, 62, 44, 63, 46, 64, 65, 66, 67, 68, 42, 43, 45, 34, 35, 85, 86, 87, 88, 89, 90, 91] (by decide +kernel) (by decide +kernel)
set_option maxRecDepth 20000 in
theorem gX1_of_X0_sum : GoodIn wsX1_of (wsV RX1 71 RX0 yX0_sum wsX0_sum) := goodIn_app (goodIn_of _ (by decide +kernel)) ggX1_of_X0_sum
set_option maxRecDepth 20000 in
theorem ggX1_of_X1_raised : GoodIn wsX1_of wsX1_raised := goodIn_r _ [80, 2, 81, 20, 21, 22, 9, 23, 5, 24, 25, 26, 27, 28, 29, 30, 31, 32, 33, 34, 35, 82, 83, 84] (by decide +kernel) (by decide +kernel)
set_option maxRecDepth 20000 in
theorem gX1_of_X1_raised : GoodIn wsX1_of (wsV RX1 74 RX1 yX1_raised wsX1_raised) := goodIn_app (goodIn_of _ (by decide +kernel)) ggX1_of_X1_raised
theorem dX1_of_0 : decode cX1_of 0 = .ok (.lload_n 1, 1) := by decide +kernel
theorem dX1_of_1 : decode cX1_of 1 = .ok (.ldc2_w 30, 3) := by decide +kernel
theorem dX1_of_4 : decode cX1_of 4 = .ok (.lcmp, 1) := by decide +kernel
theorem dX1_of_5 : decode cX1_of 5 = .ok (.ifCond .eq 11, 3) := by decide +kernel
theorem dX1_of_8 : decode cX1_of 8 = .ok (.lload_n 3, 1) := by decide +kernel
theorem dX1_of_9 : decode cX1_of 9 = .ok (.ldc2_w 30, 3) := by decide +kernel
theorem dX1_of_12 : decode cX1_of 12 = .ok (.lcmp, 1) := by decide +kernel
theorem dX1_of_13 : decode cX1_of 13 = .ok (.ifCond .ne 7, 3) := by decide +kernel
theorem dX1_of_16 : decode cX1_of 16 = .ok (.ldc2_w 47, 3) := by decide +kernel
theorem dX1_of_19 : decode cX1_of 19 = .ok (.lreturn, 1) := by decide +kernel
theorem dX1_of_20 : decode cX1_of 20 = .ok (.ldc2_w 47, 3) := by decide +kernel
theorem dX1_of_23 : decode cX1_of 23 = .ok (.lstore 5, 2) := by decide +kernel
theorem dX1_of_25 : decode cX1_of 25 = .ok (.lload_n 1, 1) := by decide +kernel
theorem dX1_of_26 : decode cX1_of 26 = .ok (.lstore 7, 2) := by decide +kernel
theorem dX1_of_28 : decode cX1_of 28 = .ok (.aload_n 0, 1) := by decide +kernel
theorem dX1_of_29 : decode cX1_of 29 = .ok (.invokevirtual 60, 3) := by decide +kernel
theorem dX1_of_32 : decode cX1_of 32 = .ok (.iconst 1, 1) := by decide +kernel
theorem dX1_of_33 : decode cX1_of 33 = .ok (.isub, 1) := by decide +kernel
theorem dX1_of_34 : decode cX1_of 34 = .ok (.istore 9, 2) := by decide +kernel
theorem dX1_of_36 : decode cX1_of 36 = .ok (.iload 9, 2) := by decide +kernel
theorem dX1_of_38 : decode cX1_of 38 = .ok (.ifCond .lt 87, 3) := by decide +kernel
theorem dX1_of_41 : decode cX1_of 41 = .ok (.aload_n 0, 1) := by decide +kernel
theorem dX1_of_42 : decode cX1_of 42 = .ok (.aload_n 0, 1) := by decide +kernel
theorem dX1_of_43 : decode cX1_of 43 = .ok (.lload 5, 2) := by decide +kernel
theorem dX1_of_45 : decode cX1_of 45 = .ok (.lload 5, 2) := by decide +kernel
theorem dX1_of_47 : decode cX1_of 47 = .ok (.invokevirtual 51, 3) := by decide +kernel
theorem dX1_of_50 : decode cX1_of 50 = .ok (.aload_n 0, 1) := by decide +kernel
theorem dX1_of_51 : decode cX1_of 51 = .ok (.lload 7, 2) := by decide +kernel
theorem dX1_of_53 : decode cX1_of 53 = .ok (.lload 7, 2) := by decide +kernel
theorem dX1_of_55 : decode cX1_of 55 = .ok (.lload_n 3, 1) := by decide +kernel
theorem dX1_of_56 : decode cX1_of 56 = .ok (.invokevirtual 67, 3) := by decide +kernel
theorem dX1_of_59 : decode cX1_of 59 = .ok (.invokevirtual 51, 3) := by decide +kernel
theorem dX1_of_62 : decode cX1_of 62 = .ok (.lstore 5, 2) := by decide +kernel
theorem dX1_of_64 : decode cX1_of 64 = .ok (.aload_n 0, 1) := by decide +kernel
theorem dX1_of_65 : decode cX1_of 65 = .ok (.getfield 9, 3) := by decide +kernel
theorem dX1_of_68 : decode cX1_of 68 = .ok (.lload 7, 2) := by decide +kernel
theorem dX1_of_70 : decode cX1_of 70 = .ok (.lload 7, 2) := by decide +kernel
theorem dX1_of_72 : decode cX1_of 72 = .ok (.invokevirtual 71, 3) := by decide +kernel
theorem dX1_of_75 : decode cX1_of 75 = .ok (.lstore 7, 2) := by decide +kernel
theorem dX1_of_77 : decode cX1_of 77 = .ok (.aload_n 0, 1) := by decide +kernel
theorem dX1_of_78 : decode cX1_of 78 = .ok (.getfield 25, 3) := by decide +kernel
theorem dX1_of_81 : decode cX1_of 81 = .ok (.iload 9, 2) := by decide +kernel
theorem dX1_of_83 : decode cX1_of 83 = .ok (.lshr, 1) := by decide +kernel
theorem dX1_of_84 : decode cX1_of 84 = .ok (.lconst 1, 1) := by decide +kernel
theorem dX1_of_85 : decode cX1_of 85 = .ok (.land, 1) := by decide +kernel
theorem dX1_of_86 : decode cX1_of 86 = .ok (.lconst 1, 1) := by decide +kernel
theorem dX1_of_87 : decode cX1_of 87 = .ok (.lcmp, 1) := by decide +kernel
theorem dX1_of_88 : decode cX1_of 88 = .ok (.ifCond .ne 31, 3) := by decide +kernel
theorem dX1_of_91 : decode cX1_of 91 = .ok (.aload_n 0, 1) := by decide +kernel
theorem dX1_of_92 : decode cX1_of 92 = .ok (.lload 5, 2) := by decide +kernel
theorem dX1_of_94 : decode cX1_of 94 = .ok (.aload_n 0, 1) := by decide +kernel
theorem dX1_of_95 : decode cX1_of 95 = .ok (.lload 7, 2) := by decide +kernel
theorem dX1_of_97 : decode cX1_of 97 = .ok (.lload_n 1, 1) := by decide +kernel
theorem dX1_of_98 : decode cX1_of 98 = .ok (.lload_n 3, 1) := by decide +kernel
theorem dX1_of_99 : decode cX1_of 99 = .ok (.invokevirtual 67, 3) := by decide +kernel
theorem dX1_of_102 : decode cX1_of 102 = .ok (.invokevirtual 51, 3) := by decide +kernel
theorem dX1_of_105 : decode cX1_of 105 = .ok (.lstore 5, 2) := by decide +kernel
theorem dX1_of_107 : decode cX1_of 107 = .ok (.aload_n 0, 1) := by decide +kernel
theorem dX1_of_108 : decode cX1_of 108 = .ok (.getfield 9, 3) := by decide +kernel
theorem dX1_of_111 : decode cX1_of 111 = .ok (.lload 7, 2) := by decide +kernel
theorem dX1_of_113 : decode cX1_of 113 = .ok (.lload_n 1, 1) := by decide +kernel
theorem dX1_of_114 : decode cX1_of 114 = .ok (.invokevirtual 71, 3) := by decide +kernel
theorem dX1_of_117 : decode cX1_of 117 = .ok (.lstore 7, 2) := by decide +kernel
theorem dX1_of_119 : decode cX1_of 119 = .ok (.iinc 9 (-1), 3) := by decide +kernel
theorem dX1_of_122 : decode cX1_of 122 = .ok (.goto (-86), 3) := by decide +kernel
theorem dX1_of_125 : decode cX1_of 125 = .ok (.aload_n 0, 1) := by decide +kernel
theorem dX1_of_126 : decode cX1_of 126 = .ok (.lload 5, 2) := by decide +kernel
theorem dX1_of_128 : decode cX1_of 128 = .ok (.aload_n 0, 1) := by decide +kernel
theorem dX1_of_129 : decode cX1_of 129 = .ok (.getfield 21, 3) := by decide +kernel
theorem dX1_of_132 : decode cX1_of 132 = .ok (.aload_n 0, 1) := by decide +kernel
theorem dX1_of_133 : decode cX1_of 133 = .ok (.getfield 21, 3) := by decide +kernel
theorem dX1_of_136 : decode cX1_of 136 = .ok (.lmul, 1) := by decide +kernel
theorem dX1_of_137 : decode cX1_of 137 = .ok (.lconst 1, 1) := by decide +kernel
theorem dX1_of_138 : decode cX1_of 138 = .ok (.lsub, 1) := by decide +kernel
theorem dX1_of_139 : decode cX1_of 139 = .ok (.aload_n 0, 1) := by decide +kernel
theorem dX1_of_140 : decode cX1_of 140 = .ok (.getfield 25, 3) := by decide +kernel
theorem dX1_of_143 : decode cX1_of 143 = .ok (.ldiv, 1) := by decide +kernel
theorem dX1_of_144 : decode cX1_of 144 = .ok (.invokevirtual 74, 3) := by decide +kernel
theorem dX1_of_147 : decode cX1_of 147 = .ok (.lreturn, 1) := by decide +kernel
set_option maxRecDepth 20000 in
theorem ggX1_line_X3_upper : GoodIn wsX1_line wsX3_upper := goodIn_r _ [8] (by decide +kernel) (by decide +kernel)
set_option maxRecDepth 20000 in
theorem gX1_line_X3_upper_n32 : GoodIn wsX1_line (wsX3_upper) := ggX1_line_X3_upper
set_option maxRecDepth 20000 in
theorem ggX1_line_X2_difference : GoodIn wsX1_line wsX2_difference := goodIn_r _ [13, 14, 52] (by decide +kernel) (by decide +kernel)
set_option maxRecDepth 20000 in
theorem gX1_line_X2_difference : GoodIn wsX1_line (wsV RX1 81 RX2 yX2_difference wsX2_difference) := goodIn_app (goodIn_of _ (by decide +kernel)) ggX1_line_X2_difference
set_option maxRecDepth 20000 in
theorem ggX1_line_X0_areOpposite : GoodIn wsX1_line wsX0_areOpposite := goodIn_r _ [19, 20, 6, 7, 8, 21, 22, 23, 46, 47, 48, 49, 50, 51] (by decide +kernel) (by decide +kernel)
set_option maxRecDepth 20000 in
theorem gX1_line_X0_areOpposite : GoodIn wsX1_line (wsV RX1 86 RX0 yX0_areOpposite wsX0_areOpposite) := goodIn_app (goodIn_of _ (by decide +kernel)) ggX1_line_X0_areOpposite
set_option maxRecDepth 20000 in
theorem ggX1_line_X3_joined : GoodIn wsX1_line wsX3_joined := goodIn_r _ [25] (by decide +kernel) (by decide +kernel)
set_option maxRecDepth 20000 in
theorem gX1_line_X3_joined_n44 : GoodIn wsX1_line (wsX3_joined) := ggX1_line_X3_joined
set_option maxRecDepth 20000 in
theorem ggX1_line_X0_slope : GoodIn wsX1_line wsX0_slope := goodIn_r _ [29, 30, 31, 20, 32, 6, 7, 8, 21, 22, 23, 33, 34, 35, 12, 36, 14, 37, 38, 39, 40, 41, 10, 11, 13, 46, 47, 48, 49, 50, 51, 52] (by decide +kernel) (by decide +kernel)
set_option maxRecDepth 20000 in
theorem gX1_line_X0_slope : GoodIn wsX1_line (wsV RX1 90 RX0 yX0_slope wsX0_slope) := goodIn_app (goodIn_of _ (by decide +kernel)) ggX1_line_X0_slope
set_option maxRecDepth 20000 in
theorem ggX1_line_X2_product : GoodIn wsX1_line wsX2_product := goodIn_r _ [36, 14, 52] (by decide +kernel) (by decide +kernel)
set_option maxRecDepth 20000 in
theorem gX1_line_X2_product : GoodIn wsX1_line (wsV RX1 93 RX2 yX2_product wsX2_product) := goodIn_app (goodIn_of _ (by decide +kernel)) ggX1_line_X2_product
set_option maxRecDepth 20000 in
theorem ggX1_line_X3_lower : GoodIn wsX1_line wsX3_lower := goodIn_r _ [22, 23] (by decide +kernel) (by decide +kernel)
set_option maxRecDepth 20000 in
theorem gX1_line_X3_lower_n36 : GoodIn wsX1_line (wsX3_lower) := ggX1_line_X3_lower
theorem dX1_line_0 : decode cX1_line 0 = .ok (.lload_n 1, 1) := by decide +kernel
theorem dX1_line_1 : decode cX1_line 1 = .ok (.ldc2_w 30, 3) := by decide +kernel
theorem dX1_line_4 : decode cX1_line 4 = .ok (.lcmp, 1) := by decide +kernel
theorem dX1_line_5 : decode cX1_line 5 = .ok (.ifCond .eq 11, 3) := by decide +kernel
theorem dX1_line_8 : decode cX1_line 8 = .ok (.lload_n 3, 1) := by decide +kernel
theorem dX1_line_9 : decode cX1_line 9 = .ok (.ldc2_w 30, 3) := by decide +kernel
theorem dX1_line_12 : decode cX1_line 12 = .ok (.lcmp, 1) := by decide +kernel
theorem dX1_line_13 : decode cX1_line 13 = .ok (.ifCond .ne 7, 3) := by decide +kernel
theorem dX1_line_16 : decode cX1_line 16 = .ok (.ldc2_w 47, 3) := by decide +kernel
theorem dX1_line_19 : decode cX1_line 19 = .ok (.lreturn, 1) := by decide +kernel
theorem dX1_line_20 : decode cX1_line 20 = .ok (.aload_n 0, 1) := by decide +kernel
theorem dX1_line_21 : decode cX1_line 21 = .ok (.getfield 9, 3) := by decide +kernel
theorem dX1_line_24 : decode cX1_line 24 = .ok (.getfield 77, 3) := by decide +kernel
theorem dX1_line_27 : decode cX1_line 27 = .ok (.aload_n 0, 1) := by decide +kernel
theorem dX1_line_28 : decode cX1_line 28 = .ok (.getfield 21, 3) := by decide +kernel
theorem dX1_line_31 : decode cX1_line 31 = .ok (.lload 5, 2) := by decide +kernel
theorem dX1_line_33 : decode cX1_line 33 = .ok (.invokestatic 32, 3) := by decide +kernel
theorem dX1_line_36 : decode cX1_line 36 = .ok (.lsub, 1) := by decide +kernel
theorem dX1_line_37 : decode cX1_line 37 = .ok (.aload_n 0, 1) := by decide +kernel
theorem dX1_line_38 : decode cX1_line 38 = .ok (.getfield 21, 3) := by decide +kernel
theorem dX1_line_41 : decode cX1_line 41 = .ok (.lrem, 1) := by decide +kernel
theorem dX1_line_42 : decode cX1_line 42 = .ok (.lload_n 1, 1) := by decide +kernel
theorem dX1_line_43 : decode cX1_line 43 = .ok (.invokestatic 32, 3) := by decide +kernel
theorem dX1_line_46 : decode cX1_line 46 = .ok (.invokevirtual 81, 3) := by decide +kernel
theorem dX1_line_49 : decode cX1_line 49 = .ok (.lstore 7, 2) := by decide +kernel
theorem dX1_line_51 : decode cX1_line 51 = .ok (.aload_n 0, 1) := by decide +kernel
theorem dX1_line_52 : decode cX1_line 52 = .ok (.getfield 9, 3) := by decide +kernel
theorem dX1_line_55 : decode cX1_line 55 = .ok (.lload_n 1, 1) := by decide +kernel
theorem dX1_line_56 : decode cX1_line 56 = .ok (.lload_n 3, 1) := by decide +kernel
theorem dX1_line_57 : decode cX1_line 57 = .ok (.invokevirtual 86, 3) := by decide +kernel
theorem dX1_line_60 : decode cX1_line 60 = .ok (.ifCond .eq 10, 3) := by decide +kernel
theorem dX1_line_63 : decode cX1_line 63 = .ok (.lload 7, 2) := by decide +kernel
theorem dX1_line_65 : decode cX1_line 65 = .ok (.lconst 0, 1) := by decide +kernel
theorem dX1_line_66 : decode cX1_line 66 = .ok (.invokestatic 44, 3) := by decide +kernel
theorem dX1_line_69 : decode cX1_line 69 = .ok (.lreturn, 1) := by decide +kernel
theorem dX1_line_70 : decode cX1_line 70 = .ok (.aload_n 0, 1) := by decide +kernel
theorem dX1_line_71 : decode cX1_line 71 = .ok (.getfield 9, 3) := by decide +kernel
theorem dX1_line_74 : decode cX1_line 74 = .ok (.getfield 77, 3) := by decide +kernel
theorem dX1_line_77 : decode cX1_line 77 = .ok (.aload_n 0, 1) := by decide +kernel
theorem dX1_line_78 : decode cX1_line 78 = .ok (.getfield 9, 3) := by decide +kernel
theorem dX1_line_81 : decode cX1_line 81 = .ok (.lload_n 1, 1) := by decide +kernel
theorem dX1_line_82 : decode cX1_line 82 = .ok (.lload_n 3, 1) := by decide +kernel
theorem dX1_line_83 : decode cX1_line 83 = .ok (.invokevirtual 90, 3) := by decide +kernel
theorem dX1_line_86 : decode cX1_line 86 = .ok (.lload 7, 2) := by decide +kernel
theorem dX1_line_88 : decode cX1_line 88 = .ok (.invokevirtual 93, 3) := by decide +kernel
theorem dX1_line_91 : decode cX1_line 91 = .ok (.lstore 9, 2) := by decide +kernel
theorem dX1_line_93 : decode cX1_line 93 = .ok (.aload_n 0, 1) := by decide +kernel
theorem dX1_line_94 : decode cX1_line 94 = .ok (.getfield 9, 3) := by decide +kernel
theorem dX1_line_97 : decode cX1_line 97 = .ok (.getfield 77, 3) := by decide +kernel
theorem dX1_line_100 : decode cX1_line 100 = .ok (.aload_n 0, 1) := by decide +kernel
theorem dX1_line_101 : decode cX1_line 101 = .ok (.getfield 21, 3) := by decide +kernel
theorem dX1_line_104 : decode cX1_line 104 = .ok (.lload_n 1, 1) := by decide +kernel
theorem dX1_line_105 : decode cX1_line 105 = .ok (.invokestatic 36, 3) := by decide +kernel
theorem dX1_line_108 : decode cX1_line 108 = .ok (.lsub, 1) := by decide +kernel
theorem dX1_line_109 : decode cX1_line 109 = .ok (.aload_n 0, 1) := by decide +kernel
theorem dX1_line_110 : decode cX1_line 110 = .ok (.getfield 21, 3) := by decide +kernel
theorem dX1_line_113 : decode cX1_line 113 = .ok (.lrem, 1) := by decide +kernel
theorem dX1_line_114 : decode cX1_line 114 = .ok (.lload 9, 2) := by decide +kernel
theorem dX1_line_116 : decode cX1_line 116 = .ok (.invokevirtual 81, 3) := by decide +kernel
theorem dX1_line_119 : decode cX1_line 119 = .ok (.lload 5, 2) := by decide +kernel
theorem dX1_line_121 : decode cX1_line 121 = .ok (.invokestatic 36, 3) := by decide +kernel
theorem dX1_line_124 : decode cX1_line 124 = .ok (.invokestatic 44, 3) := by decide +kernel
theorem dX1_line_127 : decode cX1_line 127 = .ok (.lreturn, 1) := by decide +kernel
set_option maxRecDepth 20000 in
theorem ggX1_agree_X1_takes : GoodIn wsX1_agree wsX1_takes := goodIn_r _ [8, 2, 9, 10, 11, 12, 13, 14, 15, 16, 17, 18, 19, 20, 21, 22, 23, 24, 25, 26, 27, 28, 29, 30, 31, 32, 33, 34, 35, 36, 37, 38, 39, 40, 41, 42, 43, 44, 45, 46, 47, 48, 49, 50, 51, 52, 53, 54, 55, 56, 57, 58, 124, 125, 126, 127, 128, 129, 130, 131, 132, 133] (by decide +kernel) (by decide +kernel)
set_option maxRecDepth 20000 in
theorem gX1_agree_X1_takes : GoodIn wsX1_agree (wsV RX1 94 RX1 yX1_takes wsX1_takes) := goodIn_app (goodIn_of _ (by decide +kernel)) ggX1_agree_X1_takes
set_option maxRecDepth 20000 in
theorem ggX1_agree_X1_takeAll : GoodIn wsX1_agree wsX1_takeAll := goodIn_r _ [62, 10, 4, 5, 6, 7, 8, 2, 9, 11, 12, 13, 14, 15, 16, 17, 18, 19, 20, 21, 22, 23, 24, 25, 26, 27, 28, 29, 30, 31, 32, 33, 34, 35, 36, 37, 38, 39, 40, 41, 42, 43, 44, 45, 46, 47, 48, 49, 50, 51, 52, 53, 54, 55, 56, 57, 58, 124, 125, 126, 127, 128, 129, 130, 131, 132, 133] (by decide +kernel) (by decide +kernel)
set_option maxRecDepth 20000 in
theorem gX1_agree_X1_takeAll : GoodIn wsX1_agree (wsV RX1 98 RX1 yX1_takeAll wsX1_takeAll) := goodIn_app (goodIn_of _ (by decide +kernel)) ggX1_agree_X1_takeAll
set_option maxRecDepth 20000 in
theorem ggX1_agree_X0_turned : GoodIn wsX1_agree wsX0_turned := goodIn_r _ [66, 67, 27, 68, 16, 17, 69, 70, 71, 14, 72, 18, 73, 74, 75, 76, 43, 44, 45, 46, 47, 48, 77, 78, 79, 80, 81, 82, 83, 84, 57, 33, 58, 85, 12, 13, 15, 19, 20, 21, 22, 23, 24, 25, 26, 28, 29, 30, 31, 32, 34, 35, 36, 37, 38, 39, 40, 41, 42, 49, 50, 51, 52, 53, 54, 55, 56, 127, 128, 129, 130, 131, 132, 133] (by decide +kernel) (by decide +kernel)
set_option maxRecDepth 20000 in
theorem gX1_agree_X0_turned : GoodIn wsX1_agree (wsV RX1 102 RX0 yX0_turned wsX0_turned) := goodIn_app (goodIn_of _ (by decide +kernel)) ggX1_agree_X0_turned
set_option maxRecDepth 20000 in
theorem ggX1_agree_X1_of : GoodIn wsX1_agree wsX1_of := goodIn_r _ [89, 10, 1, 2, 9, 90, 91, 92, 93, 7, 94, 95, 96, 97, 98, 99, 100, 101, 102, 103, 104, 105, 106, 107, 32, 33, 34, 35, 36, 37, 108, 20, 21, 22, 57, 58, 109, 110, 111, 112, 113, 114, 54, 55, 46, 56, 48, 115, 29, 30, 14, 31, 17, 116, 39, 40, 41, 42, 27, 18, 43, 44, 45, 47, 49, 50, 51, 52, 53, 117, 118, 24, 25, 26, 16, 28, 38, 119, 120, 121, 122, 123, 124, 125, 126, 127, 128, 129, 130, 131, 132, 133] (by decide +kernel) (by decide +kernel)
set_option maxRecDepth 20000 in
theorem gX1_agree_X1_of : GoodIn wsX1_agree (wsV RX1 105 RX1 yX1_of wsX1_of) := goodIn_app (goodIn_of _ (by decide +kernel)) ggX1_agree_X1_of
set_option maxRecDepth 20000 in
theorem ggX1_agree_X1_product : GoodIn wsX1_agree wsX1_product := goodIn_r _ [107, 90, 32, 33, 34, 35, 36, 37, 108, 20, 21, 22, 57, 58, 124, 125, 126] (by decide +kernel) (by decide +kernel)
set_option maxRecDepth 20000 in
theorem gX1_agree_X1_product : GoodIn wsX1_agree (wsV RX1 51 RX1 yX1_product wsX1_product) := goodIn_app (goodIn_of _ (by decide +kernel)) ggX1_agree_X1_product
theorem dX1_agree_0 : decode cX1_agree 0 = .ok (.aload_n 0, 1) := by decide +kernel
theorem dX1_agree_1 : decode cX1_agree 1 = .ok (.lload_n 1, 1) := by decide +kernel
theorem dX1_agree_2 : decode cX1_agree 2 = .ok (.invokevirtual 94, 3) := by decide +kernel
theorem dX1_agree_5 : decode cX1_agree 5 = .ok (.ifCond .eq 15, 3) := by decide +kernel
theorem dX1_agree_8 : decode cX1_agree 8 = .ok (.aload_n 0, 1) := by decide +kernel
theorem dX1_agree_9 : decode cX1_agree 9 = .ok (.aload_n 3, 1) := by decide +kernel
theorem dX1_agree_10 : decode cX1_agree 10 = .ok (.iload 4, 2) := by decide +kernel
theorem dX1_agree_12 : decode cX1_agree 12 = .ok (.iload 5, 2) := by decide +kernel
theorem dX1_agree_14 : decode cX1_agree 14 = .ok (.invokevirtual 98, 3) := by decide +kernel
theorem dX1_agree_17 : decode cX1_agree 17 = .ok (.ifCond .ne 5, 3) := by decide +kernel
theorem dX1_agree_20 : decode cX1_agree 20 = .ok (.iconst 0, 1) := by decide +kernel
theorem dX1_agree_21 : decode cX1_agree 21 = .ok (.ireturn, 1) := by decide +kernel
theorem dX1_agree_22 : decode cX1_agree 22 = .ok (.ldc2_w 47, 3) := by decide +kernel
theorem dX1_agree_25 : decode cX1_agree 25 = .ok (.lstore 8, 2) := by decide +kernel
theorem dX1_agree_27 : decode cX1_agree 27 = .ok (.iconst 0, 1) := by decide +kernel
theorem dX1_agree_28 : decode cX1_agree 28 = .ok (.istore 10, 2) := by decide +kernel
theorem dX1_agree_30 : decode cX1_agree 30 = .ok (.iload 10, 2) := by decide +kernel
theorem dX1_agree_32 : decode cX1_agree 32 = .ok (.iload 5, 2) := by decide +kernel
theorem dX1_agree_34 : decode cX1_agree 34 = .ok (.if_icmp .ge 41, 3) := by decide +kernel
theorem dX1_agree_37 : decode cX1_agree 37 = .ok (.aload_n 0, 1) := by decide +kernel
theorem dX1_agree_38 : decode cX1_agree 38 = .ok (.lload 8, 2) := by decide +kernel
theorem dX1_agree_40 : decode cX1_agree 40 = .ok (.aload_n 0, 1) := by decide +kernel
theorem dX1_agree_41 : decode cX1_agree 41 = .ok (.aload_n 0, 1) := by decide +kernel
theorem dX1_agree_42 : decode cX1_agree 42 = .ok (.getfield 9, 3) := by decide +kernel
theorem dX1_agree_45 : decode cX1_agree 45 = .ok (.lload 6, 2) := by decide +kernel
theorem dX1_agree_47 : decode cX1_agree 47 = .ok (.iload 10, 2) := by decide +kernel
theorem dX1_agree_49 : decode cX1_agree 49 = .ok (.i2l, 1) := by decide +kernel
theorem dX1_agree_50 : decode cX1_agree 50 = .ok (.ladd, 1) := by decide +kernel
theorem dX1_agree_51 : decode cX1_agree 51 = .ok (.invokevirtual 102, 3) := by decide +kernel
theorem dX1_agree_54 : decode cX1_agree 54 = .ok (.aload_n 3, 1) := by decide +kernel
theorem dX1_agree_55 : decode cX1_agree 55 = .ok (.iload 4, 2) := by decide +kernel
theorem dX1_agree_57 : decode cX1_agree 57 = .ok (.iload 10, 2) := by decide +kernel
theorem dX1_agree_59 : decode cX1_agree 59 = .ok (.iadd, 1) := by decide +kernel
theorem dX1_agree_60 : decode cX1_agree 60 = .ok (.laload, 1) := by decide +kernel
theorem dX1_agree_61 : decode cX1_agree 61 = .ok (.invokevirtual 105, 3) := by decide +kernel
theorem dX1_agree_64 : decode cX1_agree 64 = .ok (.invokevirtual 51, 3) := by decide +kernel
theorem dX1_agree_67 : decode cX1_agree 67 = .ok (.lstore 8, 2) := by decide +kernel
theorem dX1_agree_69 : decode cX1_agree 69 = .ok (.iinc 10 1, 3) := by decide +kernel
theorem dX1_agree_72 : decode cX1_agree 72 = .ok (.goto (-42), 3) := by decide +kernel
theorem dX1_agree_75 : decode cX1_agree 75 = .ok (.aload_n 0, 1) := by decide +kernel
theorem dX1_agree_76 : decode cX1_agree 76 = .ok (.lload_n 1, 1) := by decide +kernel
theorem dX1_agree_77 : decode cX1_agree 77 = .ok (.aload_n 0, 1) := by decide +kernel
theorem dX1_agree_78 : decode cX1_agree 78 = .ok (.getfield 9, 3) := by decide +kernel
theorem dX1_agree_81 : decode cX1_agree 81 = .ok (.getfield 108, 3) := by decide +kernel
theorem dX1_agree_84 : decode cX1_agree 84 = .ok (.invokevirtual 105, 3) := by decide +kernel
theorem dX1_agree_87 : decode cX1_agree 87 = .ok (.lload 8, 2) := by decide +kernel
theorem dX1_agree_89 : decode cX1_agree 89 = .ok (.lcmp, 1) := by decide +kernel
theorem dX1_agree_90 : decode cX1_agree 90 = .ok (.ifCond .ne 7, 3) := by decide +kernel
theorem dX1_agree_93 : decode cX1_agree 93 = .ok (.iconst 1, 1) := by decide +kernel
theorem dX1_agree_94 : decode cX1_agree 94 = .ok (.goto 4, 3) := by decide +kernel
theorem dX1_agree_97 : decode cX1_agree 97 = .ok (.iconst 0, 1) := by decide +kernel
theorem dX1_agree_98 : decode cX1_agree 98 = .ok (.ireturn, 1) := by decide +kernel
set_option maxRecDepth 20000 in
theorem ggX1_takeAll_X1_takes : GoodIn wsX1_takeAll wsX1_takes := goodIn_r _ [6, 7, 8, 1, 9, 10, 11, 12, 13, 14, 15, 16, 17, 18, 19, 20, 21, 22, 23, 24, 25, 26, 27, 28, 29, 30, 31, 32, 33, 34, 35, 36, 37, 38, 39, 40, 41, 42, 43, 44, 45, 46, 47, 48, 49, 50, 51, 52, 53, 54, 55, 56, 57, 58, 59, 60, 61, 62, 63, 64, 65, 66] (by decide +kernel) (by decide +kernel)
set_option maxRecDepth 20000 in
theorem gX1_takeAll_X1_takes : GoodIn wsX1_takeAll (wsV RX1 94 RX1 yX1_takes wsX1_takes) := goodIn_app (goodIn_of _ (by decide +kernel)) ggX1_takeAll_X1_takes
theorem dX1_takeAll_0 : decode cX1_takeAll 0 = .ok (.iload_n 2, 1) := by decide +kernel
theorem dX1_takeAll_1 : decode cX1_takeAll 1 = .ok (.istore 4, 2) := by decide +kernel
theorem dX1_takeAll_3 : decode cX1_takeAll 3 = .ok (.iload 4, 2) := by decide +kernel
theorem dX1_takeAll_5 : decode cX1_takeAll 5 = .ok (.iload_n 2, 1) := by decide +kernel
theorem dX1_takeAll_6 : decode cX1_takeAll 6 = .ok (.iload_n 3, 1) := by decide +kernel
theorem dX1_takeAll_7 : decode cX1_takeAll 7 = .ok (.iadd, 1) := by decide +kernel
theorem dX1_takeAll_8 : decode cX1_takeAll 8 = .ok (.if_icmp .ge 33, 3) := by decide +kernel
theorem dX1_takeAll_11 : decode cX1_takeAll 11 = .ok (.aload_n 1, 1) := by decide +kernel
theorem dX1_takeAll_12 : decode cX1_takeAll 12 = .ok (.iload 4, 2) := by decide +kernel
theorem dX1_takeAll_14 : decode cX1_takeAll 14 = .ok (.laload, 1) := by decide +kernel
theorem dX1_takeAll_15 : decode cX1_takeAll 15 = .ok (.ldc2_w 30, 3) := by decide +kernel
theorem dX1_takeAll_18 : decode cX1_takeAll 18 = .ok (.lcmp, 1) := by decide +kernel
theorem dX1_takeAll_19 : decode cX1_takeAll 19 = .ok (.ifCond .eq 14, 3) := by decide +kernel
theorem dX1_takeAll_22 : decode cX1_takeAll 22 = .ok (.aload_n 0, 1) := by decide +kernel
theorem dX1_takeAll_23 : decode cX1_takeAll 23 = .ok (.aload_n 1, 1) := by decide +kernel
theorem dX1_takeAll_24 : decode cX1_takeAll 24 = .ok (.iload 4, 2) := by decide +kernel
theorem dX1_takeAll_26 : decode cX1_takeAll 26 = .ok (.laload, 1) := by decide +kernel
theorem dX1_takeAll_27 : decode cX1_takeAll 27 = .ok (.invokevirtual 94, 3) := by decide +kernel
theorem dX1_takeAll_30 : decode cX1_takeAll 30 = .ok (.ifCond .ne 5, 3) := by decide +kernel
theorem dX1_takeAll_33 : decode cX1_takeAll 33 = .ok (.iconst 0, 1) := by decide +kernel
theorem dX1_takeAll_34 : decode cX1_takeAll 34 = .ok (.ireturn, 1) := by decide +kernel
theorem dX1_takeAll_35 : decode cX1_takeAll 35 = .ok (.iinc 4 1, 3) := by decide +kernel
theorem dX1_takeAll_38 : decode cX1_takeAll 38 = .ok (.goto (-35), 3) := by decide +kernel
theorem dX1_takeAll_41 : decode cX1_takeAll 41 = .ok (.iconst 1, 1) := by decide +kernel
theorem dX1_takeAll_42 : decode cX1_takeAll 42 = .ok (.ireturn, 1) := by decide +kernel
theorem dX2_init_0 : decode cX2_init 0 = .ok (.aload_n 0, 1) := by decide +kernel
theorem dX2_init_1 : decode cX2_init 1 = .ok (.invokespecial 3, 3) := by decide +kernel
theorem dX2_init_4 : decode cX2_init 4 = .ok (.aload_n 0, 1) := by decide +kernel
theorem dX2_init_5 : decode cX2_init 5 = .ok (.lload_n 1, 1) := by decide +kernel
theorem dX2_init_6 : decode cX2_init 6 = .ok (.putfield 9, 3) := by decide +kernel
theorem dX2_init_9 : decode cX2_init 9 = .ok (.return_, 1) := by decide +kernel
theorem dX2_has_0 : decode cX2_has 0 = .ok (.iload_n 1, 1) := by decide +kernel
theorem dX2_has_1 : decode cX2_has 1 = .ok (.ifCond .lt 17, 3) := by decide +kernel
theorem dX2_has_4 : decode cX2_has 4 = .ok (.iload_n 1, 1) := by decide +kernel
theorem dX2_has_5 : decode cX2_has 5 = .ok (.i2l, 1) := by decide +kernel
theorem dX2_has_6 : decode cX2_has 6 = .ok (.aload_n 0, 1) := by decide +kernel
theorem dX2_has_7 : decode cX2_has 7 = .ok (.getfield 9, 3) := by decide +kernel
theorem dX2_has_10 : decode cX2_has 10 = .ok (.lcmp, 1) := by decide +kernel
theorem dX2_has_11 : decode cX2_has 11 = .ok (.ifCond .ge 7, 3) := by decide +kernel
theorem dX2_has_14 : decode cX2_has 14 = .ok (.iconst 1, 1) := by decide +kernel
theorem dX2_has_15 : decode cX2_has 15 = .ok (.goto 4, 3) := by decide +kernel
theorem dX2_has_18 : decode cX2_has 18 = .ok (.iconst 0, 1) := by decide +kernel
theorem dX2_has_19 : decode cX2_has 19 = .ok (.ireturn, 1) := by decide +kernel
theorem dX2_product_0 : decode cX2_product 0 = .ok (.lload_n 1, 1) := by decide +kernel
theorem dX2_product_1 : decode cX2_product 1 = .ok (.lload_n 3, 1) := by decide +kernel
theorem dX2_product_2 : decode cX2_product 2 = .ok (.lmul, 1) := by decide +kernel
theorem dX2_product_3 : decode cX2_product 3 = .ok (.aload_n 0, 1) := by decide +kernel
theorem dX2_product_4 : decode cX2_product 4 = .ok (.getfield 9, 3) := by decide +kernel
theorem dX2_product_7 : decode cX2_product 7 = .ok (.lrem, 1) := by decide +kernel
theorem dX2_product_8 : decode cX2_product 8 = .ok (.lreturn, 1) := by decide +kernel
theorem dX2_difference_0 : decode cX2_difference 0 = .ok (.lload_n 1, 1) := by decide +kernel
theorem dX2_difference_1 : decode cX2_difference 1 = .ok (.lload_n 3, 1) := by decide +kernel
theorem dX2_difference_2 : decode cX2_difference 2 = .ok (.lcmp, 1) := by decide +kernel
theorem dX2_difference_3 : decode cX2_difference 3 = .ok (.ifCond .ge 14, 3) := by decide +kernel
theorem dX2_difference_6 : decode cX2_difference 6 = .ok (.lload_n 1, 1) := by decide +kernel
theorem dX2_difference_7 : decode cX2_difference 7 = .ok (.lload_n 3, 1) := by decide +kernel
theorem dX2_difference_8 : decode cX2_difference 8 = .ok (.lsub, 1) := by decide +kernel
theorem dX2_difference_9 : decode cX2_difference 9 = .ok (.aload_n 0, 1) := by decide +kernel
theorem dX2_difference_10 : decode cX2_difference 10 = .ok (.getfield 9, 3) := by decide +kernel
theorem dX2_difference_13 : decode cX2_difference 13 = .ok (.ladd, 1) := by decide +kernel
theorem dX2_difference_14 : decode cX2_difference 14 = .ok (.goto 6, 3) := by decide +kernel
theorem dX2_difference_17 : decode cX2_difference 17 = .ok (.lload_n 1, 1) := by decide +kernel
theorem dX2_difference_18 : decode cX2_difference 18 = .ok (.lload_n 3, 1) := by decide +kernel
theorem dX2_difference_19 : decode cX2_difference 19 = .ok (.lsub, 1) := by decide +kernel
theorem dX2_difference_20 : decode cX2_difference 20 = .ok (.lreturn, 1) := by decide +kernel
theorem dX2_inverse_0 : decode cX2_inverse 0 = .ok (.aload_n 0, 1) := by decide +kernel
theorem dX2_inverse_1 : decode cX2_inverse 1 = .ok (.getfield 9, 3) := by decide +kernel
theorem dX2_inverse_4 : decode cX2_inverse 4 = .ok (.lstore_n 3, 1) := by decide +kernel
theorem dX2_inverse_5 : decode cX2_inverse 5 = .ok (.lload_n 1, 1) := by decide +kernel
theorem dX2_inverse_6 : decode cX2_inverse 6 = .ok (.lstore 5, 2) := by decide +kernel
theorem dX2_inverse_8 : decode cX2_inverse 8 = .ok (.lconst 0, 1) := by decide +kernel
theorem dX2_inverse_9 : decode cX2_inverse 9 = .ok (.lstore 7, 2) := by decide +kernel
theorem dX2_inverse_11 : decode cX2_inverse 11 = .ok (.lconst 1, 1) := by decide +kernel
theorem dX2_inverse_12 : decode cX2_inverse 12 = .ok (.lstore 9, 2) := by decide +kernel
theorem dX2_inverse_14 : decode cX2_inverse 14 = .ok (.iconst 0, 1) := by decide +kernel
theorem dX2_inverse_15 : decode cX2_inverse 15 = .ok (.istore 11, 2) := by decide +kernel
theorem dX2_inverse_17 : decode cX2_inverse 17 = .ok (.iload 11, 2) := by decide +kernel
theorem dX2_inverse_19 : decode cX2_inverse 19 = .ok (.bipush 64, 2) := by decide +kernel
theorem dX2_inverse_21 : decode cX2_inverse 21 = .ok (.if_icmp .ge 56, 3) := by decide +kernel
theorem dX2_inverse_24 : decode cX2_inverse 24 = .ok (.lload 5, 2) := by decide +kernel
theorem dX2_inverse_26 : decode cX2_inverse 26 = .ok (.lconst 0, 1) := by decide +kernel
theorem dX2_inverse_27 : decode cX2_inverse 27 = .ok (.lcmp, 1) := by decide +kernel
theorem dX2_inverse_28 : decode cX2_inverse 28 = .ok (.ifCond .eq 49, 3) := by decide +kernel
theorem dX2_inverse_31 : decode cX2_inverse 31 = .ok (.lload_n 3, 1) := by decide +kernel
theorem dX2_inverse_32 : decode cX2_inverse 32 = .ok (.lload 5, 2) := by decide +kernel
theorem dX2_inverse_34 : decode cX2_inverse 34 = .ok (.ldiv, 1) := by decide +kernel
theorem dX2_inverse_35 : decode cX2_inverse 35 = .ok (.lstore 12, 2) := by decide +kernel
theorem dX2_inverse_37 : decode cX2_inverse 37 = .ok (.lload_n 3, 1) := by decide +kernel
theorem dX2_inverse_38 : decode cX2_inverse 38 = .ok (.lload 12, 2) := by decide +kernel
theorem dX2_inverse_40 : decode cX2_inverse 40 = .ok (.lload 5, 2) := by decide +kernel
theorem dX2_inverse_42 : decode cX2_inverse 42 = .ok (.lmul, 1) := by decide +kernel
theorem dX2_inverse_43 : decode cX2_inverse 43 = .ok (.lsub, 1) := by decide +kernel
theorem dX2_inverse_44 : decode cX2_inverse 44 = .ok (.lstore 14, 2) := by decide +kernel
theorem dX2_inverse_46 : decode cX2_inverse 46 = .ok (.lload 7, 2) := by decide +kernel
theorem dX2_inverse_48 : decode cX2_inverse 48 = .ok (.lload 12, 2) := by decide +kernel
theorem dX2_inverse_50 : decode cX2_inverse 50 = .ok (.lload 9, 2) := by decide +kernel
theorem dX2_inverse_52 : decode cX2_inverse 52 = .ok (.lmul, 1) := by decide +kernel
theorem dX2_inverse_53 : decode cX2_inverse 53 = .ok (.lsub, 1) := by decide +kernel
theorem dX2_inverse_54 : decode cX2_inverse 54 = .ok (.lstore 16, 2) := by decide +kernel
theorem dX2_inverse_56 : decode cX2_inverse 56 = .ok (.lload 5, 2) := by decide +kernel
theorem dX2_inverse_58 : decode cX2_inverse 58 = .ok (.lstore_n 3, 1) := by decide +kernel
theorem dX2_inverse_59 : decode cX2_inverse 59 = .ok (.lload 14, 2) := by decide +kernel
theorem dX2_inverse_61 : decode cX2_inverse 61 = .ok (.lstore 5, 2) := by decide +kernel
theorem dX2_inverse_63 : decode cX2_inverse 63 = .ok (.lload 9, 2) := by decide +kernel
theorem dX2_inverse_65 : decode cX2_inverse 65 = .ok (.lstore 7, 2) := by decide +kernel
theorem dX2_inverse_67 : decode cX2_inverse 67 = .ok (.lload 16, 2) := by decide +kernel
theorem dX2_inverse_69 : decode cX2_inverse 69 = .ok (.lstore 9, 2) := by decide +kernel
theorem dX2_inverse_71 : decode cX2_inverse 71 = .ok (.iinc 11 1, 3) := by decide +kernel
theorem dX2_inverse_74 : decode cX2_inverse 74 = .ok (.goto (-57), 3) := by decide +kernel
theorem dX2_inverse_77 : decode cX2_inverse 77 = .ok (.lload 7, 2) := by decide +kernel
theorem dX2_inverse_79 : decode cX2_inverse 79 = .ok (.lconst 0, 1) := by decide +kernel
theorem dX2_inverse_80 : decode cX2_inverse 80 = .ok (.lcmp, 1) := by decide +kernel
theorem dX2_inverse_81 : decode cX2_inverse 81 = .ok (.ifCond .ge 13, 3) := by decide +kernel
theorem dX2_inverse_84 : decode cX2_inverse 84 = .ok (.lload 7, 2) := by decide +kernel
theorem dX2_inverse_86 : decode cX2_inverse 86 = .ok (.aload_n 0, 1) := by decide +kernel
theorem dX2_inverse_87 : decode cX2_inverse 87 = .ok (.getfield 9, 3) := by decide +kernel
theorem dX2_inverse_90 : decode cX2_inverse 90 = .ok (.ladd, 1) := by decide +kernel
theorem dX2_inverse_91 : decode cX2_inverse 91 = .ok (.goto 5, 3) := by decide +kernel
theorem dX2_inverse_94 : decode cX2_inverse 94 = .ok (.lload 7, 2) := by decide +kernel
theorem dX2_inverse_96 : decode cX2_inverse 96 = .ok (.lreturn, 1) := by decide +kernel
set_option maxRecDepth 20000 in
theorem ggX2_evenRoot_X2_product : GoodIn wsX2_evenRoot wsX2_product := goodIn_r _ [9, 1, 10] (by decide +kernel) (by decide +kernel)
set_option maxRecDepth 20000 in
theorem gX2_evenRoot_X2_product : GoodIn wsX2_evenRoot (wsV RX2 19 RX2 yX2_product wsX2_product) := goodIn_app (goodIn_of _ (by decide +kernel)) ggX2_evenRoot_X2_product
theorem dX2_evenRoot_0 : decode cX2_evenRoot 0 = .ok (.lconst 1, 1) := by decide +kernel
theorem dX2_evenRoot_1 : decode cX2_evenRoot 1 = .ok (.lstore_n 3, 1) := by decide +kernel
theorem dX2_evenRoot_2 : decode cX2_evenRoot 2 = .ok (.lload_n 1, 1) := by decide +kernel
theorem dX2_evenRoot_3 : decode cX2_evenRoot 3 = .ok (.lstore 5, 2) := by decide +kernel
theorem dX2_evenRoot_5 : decode cX2_evenRoot 5 = .ok (.aload_n 0, 1) := by decide +kernel
theorem dX2_evenRoot_6 : decode cX2_evenRoot 6 = .ok (.getfield 9, 3) := by decide +kernel
theorem dX2_evenRoot_9 : decode cX2_evenRoot 9 = .ok (.lconst 1, 1) := by decide +kernel
theorem dX2_evenRoot_10 : decode cX2_evenRoot 10 = .ok (.ladd, 1) := by decide +kernel
theorem dX2_evenRoot_11 : decode cX2_evenRoot 11 = .ok (.ldc2_w 15, 3) := by decide +kernel
theorem dX2_evenRoot_14 : decode cX2_evenRoot 14 = .ok (.ldiv, 1) := by decide +kernel
theorem dX2_evenRoot_15 : decode cX2_evenRoot 15 = .ok (.lstore 7, 2) := by decide +kernel
theorem dX2_evenRoot_17 : decode cX2_evenRoot 17 = .ok (.lload 7, 2) := by decide +kernel
theorem dX2_evenRoot_19 : decode cX2_evenRoot 19 = .ok (.lconst 0, 1) := by decide +kernel
theorem dX2_evenRoot_20 : decode cX2_evenRoot 20 = .ok (.lcmp, 1) := by decide +kernel
theorem dX2_evenRoot_21 : decode cX2_evenRoot 21 = .ok (.ifCond .le 41, 3) := by decide +kernel
theorem dX2_evenRoot_24 : decode cX2_evenRoot 24 = .ok (.lload 7, 2) := by decide +kernel
theorem dX2_evenRoot_26 : decode cX2_evenRoot 26 = .ok (.ldc2_w 17, 3) := by decide +kernel
theorem dX2_evenRoot_29 : decode cX2_evenRoot 29 = .ok (.lrem, 1) := by decide +kernel
theorem dX2_evenRoot_30 : decode cX2_evenRoot 30 = .ok (.lconst 1, 1) := by decide +kernel
theorem dX2_evenRoot_31 : decode cX2_evenRoot 31 = .ok (.lcmp, 1) := by decide +kernel
theorem dX2_evenRoot_32 : decode cX2_evenRoot 32 = .ok (.ifCond .ne 11, 3) := by decide +kernel
theorem dX2_evenRoot_35 : decode cX2_evenRoot 35 = .ok (.aload_n 0, 1) := by decide +kernel
theorem dX2_evenRoot_36 : decode cX2_evenRoot 36 = .ok (.lload_n 3, 1) := by decide +kernel
theorem dX2_evenRoot_37 : decode cX2_evenRoot 37 = .ok (.lload 5, 2) := by decide +kernel
theorem dX2_evenRoot_39 : decode cX2_evenRoot 39 = .ok (.invokevirtual 19, 3) := by decide +kernel
theorem dX2_evenRoot_42 : decode cX2_evenRoot 42 = .ok (.lstore_n 3, 1) := by decide +kernel
theorem dX2_evenRoot_43 : decode cX2_evenRoot 43 = .ok (.aload_n 0, 1) := by decide +kernel
theorem dX2_evenRoot_44 : decode cX2_evenRoot 44 = .ok (.lload 5, 2) := by decide +kernel
theorem dX2_evenRoot_46 : decode cX2_evenRoot 46 = .ok (.lload 5, 2) := by decide +kernel
theorem dX2_evenRoot_48 : decode cX2_evenRoot 48 = .ok (.invokevirtual 19, 3) := by decide +kernel
theorem dX2_evenRoot_51 : decode cX2_evenRoot 51 = .ok (.lstore 5, 2) := by decide +kernel
theorem dX2_evenRoot_53 : decode cX2_evenRoot 53 = .ok (.lload 7, 2) := by decide +kernel
theorem dX2_evenRoot_55 : decode cX2_evenRoot 55 = .ok (.iconst 1, 1) := by decide +kernel
theorem dX2_evenRoot_56 : decode cX2_evenRoot 56 = .ok (.lshr, 1) := by decide +kernel
theorem dX2_evenRoot_57 : decode cX2_evenRoot 57 = .ok (.lstore 7, 2) := by decide +kernel
theorem dX2_evenRoot_59 : decode cX2_evenRoot 59 = .ok (.goto (-42), 3) := by decide +kernel
theorem dX2_evenRoot_62 : decode cX2_evenRoot 62 = .ok (.aload_n 0, 1) := by decide +kernel
theorem dX2_evenRoot_63 : decode cX2_evenRoot 63 = .ok (.lload_n 3, 1) := by decide +kernel
theorem dX2_evenRoot_64 : decode cX2_evenRoot 64 = .ok (.lload_n 3, 1) := by decide +kernel
theorem dX2_evenRoot_65 : decode cX2_evenRoot 65 = .ok (.invokevirtual 19, 3) := by decide +kernel
theorem dX2_evenRoot_68 : decode cX2_evenRoot 68 = .ok (.lload_n 1, 1) := by decide +kernel
theorem dX2_evenRoot_69 : decode cX2_evenRoot 69 = .ok (.lcmp, 1) := by decide +kernel
theorem dX2_evenRoot_70 : decode cX2_evenRoot 70 = .ok (.ifCond .eq 7, 3) := by decide +kernel
theorem dX2_evenRoot_73 : decode cX2_evenRoot 73 = .ok (.ldc2_w 23, 3) := by decide +kernel
theorem dX2_evenRoot_76 : decode cX2_evenRoot 76 = .ok (.lreturn, 1) := by decide +kernel
theorem dX2_evenRoot_77 : decode cX2_evenRoot 77 = .ok (.lload_n 3, 1) := by decide +kernel
theorem dX2_evenRoot_78 : decode cX2_evenRoot 78 = .ok (.ldc2_w 17, 3) := by decide +kernel
theorem dX2_evenRoot_81 : decode cX2_evenRoot 81 = .ok (.lrem, 1) := by decide +kernel
theorem dX2_evenRoot_82 : decode cX2_evenRoot 82 = .ok (.lconst 0, 1) := by decide +kernel
theorem dX2_evenRoot_83 : decode cX2_evenRoot 83 = .ok (.lcmp, 1) := by decide +kernel
theorem dX2_evenRoot_84 : decode cX2_evenRoot 84 = .ok (.ifCond .ne 7, 3) := by decide +kernel
theorem dX2_evenRoot_87 : decode cX2_evenRoot 87 = .ok (.lload_n 3, 1) := by decide +kernel
theorem dX2_evenRoot_88 : decode cX2_evenRoot 88 = .ok (.goto 9, 3) := by decide +kernel
theorem dX2_evenRoot_91 : decode cX2_evenRoot 91 = .ok (.aload_n 0, 1) := by decide +kernel
theorem dX2_evenRoot_92 : decode cX2_evenRoot 92 = .ok (.getfield 9, 3) := by decide +kernel
theorem dX2_evenRoot_95 : decode cX2_evenRoot 95 = .ok (.lload_n 3, 1) := by decide +kernel
theorem dX2_evenRoot_96 : decode cX2_evenRoot 96 = .ok (.lsub, 1) := by decide +kernel
theorem dX2_evenRoot_97 : decode cX2_evenRoot 97 = .ok (.lreturn, 1) := by decide +kernel
theorem dJ6_numberOfLeadingZeros_0f7a4_0 : decode cJ6_numberOfLeadingZeros_0f7a4 0 = .ok (.iload_n 0, 1) := by decide +kernel
theorem dJ6_numberOfLeadingZeros_0f7a4_1 : decode cJ6_numberOfLeadingZeros_0f7a4 1 = .ok (.ifCond .gt 14, 3) := by decide +kernel
theorem dJ6_numberOfLeadingZeros_0f7a4_4 : decode cJ6_numberOfLeadingZeros_0f7a4 4 = .ok (.iload_n 0, 1) := by decide +kernel
theorem dJ6_numberOfLeadingZeros_0f7a4_5 : decode cJ6_numberOfLeadingZeros_0f7a4 5 = .ok (.ifCond .ne 8, 3) := by decide +kernel
theorem dJ6_numberOfLeadingZeros_0f7a4_8 : decode cJ6_numberOfLeadingZeros_0f7a4 8 = .ok (.bipush 32, 2) := by decide +kernel
theorem dJ6_numberOfLeadingZeros_0f7a4_10 : decode cJ6_numberOfLeadingZeros_0f7a4 10 = .ok (.goto 4, 3) := by decide +kernel
theorem dJ6_numberOfLeadingZeros_0f7a4_13 : decode cJ6_numberOfLeadingZeros_0f7a4 13 = .ok (.iconst 0, 1) := by decide +kernel
theorem dJ6_numberOfLeadingZeros_0f7a4_14 : decode cJ6_numberOfLeadingZeros_0f7a4 14 = .ok (.ireturn, 1) := by decide +kernel
theorem dJ6_numberOfLeadingZeros_0f7a4_15 : decode cJ6_numberOfLeadingZeros_0f7a4 15 = .ok (.bipush 31, 2) := by decide +kernel
theorem dJ6_numberOfLeadingZeros_0f7a4_17 : decode cJ6_numberOfLeadingZeros_0f7a4 17 = .ok (.istore_n 1, 1) := by decide +kernel
theorem dJ6_numberOfLeadingZeros_0f7a4_18 : decode cJ6_numberOfLeadingZeros_0f7a4 18 = .ok (.iload_n 0, 1) := by decide +kernel
theorem dJ6_numberOfLeadingZeros_0f7a4_19 : decode cJ6_numberOfLeadingZeros_0f7a4 19 = .ok (.ldc_w 264, 3) := by decide +kernel
theorem dJ6_numberOfLeadingZeros_0f7a4_22 : decode cJ6_numberOfLeadingZeros_0f7a4 22 = .ok (.if_icmp .lt 11, 3) := by decide +kernel
theorem dJ6_numberOfLeadingZeros_0f7a4_25 : decode cJ6_numberOfLeadingZeros_0f7a4 25 = .ok (.iinc 1 (-16), 3) := by decide +kernel
theorem dJ6_numberOfLeadingZeros_0f7a4_28 : decode cJ6_numberOfLeadingZeros_0f7a4 28 = .ok (.iload_n 0, 1) := by decide +kernel
theorem dJ6_numberOfLeadingZeros_0f7a4_29 : decode cJ6_numberOfLeadingZeros_0f7a4 29 = .ok (.bipush 16, 2) := by decide +kernel
theorem dJ6_numberOfLeadingZeros_0f7a4_31 : decode cJ6_numberOfLeadingZeros_0f7a4 31 = .ok (.iushr, 1) := by decide +kernel
theorem dJ6_numberOfLeadingZeros_0f7a4_32 : decode cJ6_numberOfLeadingZeros_0f7a4 32 = .ok (.istore_n 0, 1) := by decide +kernel
theorem dJ6_numberOfLeadingZeros_0f7a4_33 : decode cJ6_numberOfLeadingZeros_0f7a4 33 = .ok (.iload_n 0, 1) := by decide +kernel
theorem dJ6_numberOfLeadingZeros_0f7a4_34 : decode cJ6_numberOfLeadingZeros_0f7a4 34 = .ok (.sipush 256, 3) := by decide +kernel
theorem dJ6_numberOfLeadingZeros_0f7a4_37 : decode cJ6_numberOfLeadingZeros_0f7a4 37 = .ok (.if_icmp .lt 11, 3) := by decide +kernel
theorem dJ6_numberOfLeadingZeros_0f7a4_40 : decode cJ6_numberOfLeadingZeros_0f7a4 40 = .ok (.iinc 1 (-8), 3) := by decide +kernel
theorem dJ6_numberOfLeadingZeros_0f7a4_43 : decode cJ6_numberOfLeadingZeros_0f7a4 43 = .ok (.iload_n 0, 1) := by decide +kernel
theorem dJ6_numberOfLeadingZeros_0f7a4_44 : decode cJ6_numberOfLeadingZeros_0f7a4 44 = .ok (.bipush 8, 2) := by decide +kernel
theorem dJ6_numberOfLeadingZeros_0f7a4_46 : decode cJ6_numberOfLeadingZeros_0f7a4 46 = .ok (.iushr, 1) := by decide +kernel
theorem dJ6_numberOfLeadingZeros_0f7a4_47 : decode cJ6_numberOfLeadingZeros_0f7a4 47 = .ok (.istore_n 0, 1) := by decide +kernel
theorem dJ6_numberOfLeadingZeros_0f7a4_48 : decode cJ6_numberOfLeadingZeros_0f7a4 48 = .ok (.iload_n 0, 1) := by decide +kernel
theorem dJ6_numberOfLeadingZeros_0f7a4_49 : decode cJ6_numberOfLeadingZeros_0f7a4 49 = .ok (.bipush 16, 2) := by decide +kernel
theorem dJ6_numberOfLeadingZeros_0f7a4_51 : decode cJ6_numberOfLeadingZeros_0f7a4 51 = .ok (.if_icmp .lt 10, 3) := by decide +kernel
theorem dJ6_numberOfLeadingZeros_0f7a4_54 : decode cJ6_numberOfLeadingZeros_0f7a4 54 = .ok (.iinc 1 (-4), 3) := by decide +kernel
theorem dJ6_numberOfLeadingZeros_0f7a4_57 : decode cJ6_numberOfLeadingZeros_0f7a4 57 = .ok (.iload_n 0, 1) := by decide +kernel
theorem dJ6_numberOfLeadingZeros_0f7a4_58 : decode cJ6_numberOfLeadingZeros_0f7a4 58 = .ok (.iconst 4, 1) := by decide +kernel
theorem dJ6_numberOfLeadingZeros_0f7a4_59 : decode cJ6_numberOfLeadingZeros_0f7a4 59 = .ok (.iushr, 1) := by decide +kernel
theorem dJ6_numberOfLeadingZeros_0f7a4_60 : decode cJ6_numberOfLeadingZeros_0f7a4 60 = .ok (.istore_n 0, 1) := by decide +kernel
theorem dJ6_numberOfLeadingZeros_0f7a4_61 : decode cJ6_numberOfLeadingZeros_0f7a4 61 = .ok (.iload_n 0, 1) := by decide +kernel
theorem dJ6_numberOfLeadingZeros_0f7a4_62 : decode cJ6_numberOfLeadingZeros_0f7a4 62 = .ok (.iconst 4, 1) := by decide +kernel
theorem dJ6_numberOfLeadingZeros_0f7a4_63 : decode cJ6_numberOfLeadingZeros_0f7a4 63 = .ok (.if_icmp .lt 10, 3) := by decide +kernel
theorem dJ6_numberOfLeadingZeros_0f7a4_66 : decode cJ6_numberOfLeadingZeros_0f7a4 66 = .ok (.iinc 1 (-2), 3) := by decide +kernel
theorem dJ6_numberOfLeadingZeros_0f7a4_69 : decode cJ6_numberOfLeadingZeros_0f7a4 69 = .ok (.iload_n 0, 1) := by decide +kernel
theorem dJ6_numberOfLeadingZeros_0f7a4_70 : decode cJ6_numberOfLeadingZeros_0f7a4 70 = .ok (.iconst 2, 1) := by decide +kernel
theorem dJ6_numberOfLeadingZeros_0f7a4_71 : decode cJ6_numberOfLeadingZeros_0f7a4 71 = .ok (.iushr, 1) := by decide +kernel
theorem dJ6_numberOfLeadingZeros_0f7a4_72 : decode cJ6_numberOfLeadingZeros_0f7a4 72 = .ok (.istore_n 0, 1) := by decide +kernel
theorem dJ6_numberOfLeadingZeros_0f7a4_73 : decode cJ6_numberOfLeadingZeros_0f7a4 73 = .ok (.iload_n 1, 1) := by decide +kernel
theorem dJ6_numberOfLeadingZeros_0f7a4_74 : decode cJ6_numberOfLeadingZeros_0f7a4 74 = .ok (.iload_n 0, 1) := by decide +kernel
theorem dJ6_numberOfLeadingZeros_0f7a4_75 : decode cJ6_numberOfLeadingZeros_0f7a4 75 = .ok (.iconst 1, 1) := by decide +kernel
theorem dJ6_numberOfLeadingZeros_0f7a4_76 : decode cJ6_numberOfLeadingZeros_0f7a4 76 = .ok (.iushr, 1) := by decide +kernel
theorem dJ6_numberOfLeadingZeros_0f7a4_77 : decode cJ6_numberOfLeadingZeros_0f7a4 77 = .ok (.isub, 1) := by decide +kernel
theorem dJ6_numberOfLeadingZeros_0f7a4_78 : decode cJ6_numberOfLeadingZeros_0f7a4 78 = .ok (.ireturn, 1) := by decide +kernel
set_option maxRecDepth 20000 in
theorem ggJ13_numberOfLeadingZeros_95d88_J6_numberOfLeadingZeros_0f7a4 : GoodIn wsJ13_numberOfLeadingZeros_95d88 wsJ6_numberOfLeadingZeros_0f7a4 := goodIn_r _ [4, 5] (by decide +kernel) (by decide +kernel)
set_option maxRecDepth 20000 in
theorem gJ13_numberOfLeadingZeros_95d88_J6_numberOfLeadingZeros_0f7a4 : GoodIn wsJ13_numberOfLeadingZeros_95d88 (va_wsS RJ13 308 yJ6_numberOfLeadingZeros_0f7a4 wsJ6_numberOfLeadingZeros_0f7a4) := goodIn_app (goodIn_of _ (by decide +kernel)) ggJ13_numberOfLeadingZeros_95d88_J6_numberOfLeadingZeros_0f7a4
theorem dJ13_numberOfLeadingZeros_95d88_0 : decode cJ13_numberOfLeadingZeros_95d88 0 = .ok (.lload_n 0, 1) := by decide +kernel
theorem dJ13_numberOfLeadingZeros_95d88_1 : decode cJ13_numberOfLeadingZeros_95d88 1 = .ok (.bipush 32, 2) := by decide +kernel
theorem dJ13_numberOfLeadingZeros_95d88_3 : decode cJ13_numberOfLeadingZeros_95d88 3 = .ok (.lushr, 1) := by decide +kernel
theorem dJ13_numberOfLeadingZeros_95d88_4 : decode cJ13_numberOfLeadingZeros_95d88 4 = .ok (.l2i, 1) := by decide +kernel
theorem dJ13_numberOfLeadingZeros_95d88_5 : decode cJ13_numberOfLeadingZeros_95d88 5 = .ok (.istore_n 2, 1) := by decide +kernel
theorem dJ13_numberOfLeadingZeros_95d88_6 : decode cJ13_numberOfLeadingZeros_95d88 6 = .ok (.iload_n 2, 1) := by decide +kernel
theorem dJ13_numberOfLeadingZeros_95d88_7 : decode cJ13_numberOfLeadingZeros_95d88 7 = .ok (.ifCond .ne 14, 3) := by decide +kernel
theorem dJ13_numberOfLeadingZeros_95d88_10 : decode cJ13_numberOfLeadingZeros_95d88 10 = .ok (.bipush 32, 2) := by decide +kernel
theorem dJ13_numberOfLeadingZeros_95d88_12 : decode cJ13_numberOfLeadingZeros_95d88 12 = .ok (.lload_n 0, 1) := by decide +kernel
theorem dJ13_numberOfLeadingZeros_95d88_13 : decode cJ13_numberOfLeadingZeros_95d88 13 = .ok (.l2i, 1) := by decide +kernel
theorem dJ13_numberOfLeadingZeros_95d88_14 : decode cJ13_numberOfLeadingZeros_95d88 14 = .ok (.invokestatic 308, 3) := by decide +kernel
theorem dJ13_numberOfLeadingZeros_95d88_17 : decode cJ13_numberOfLeadingZeros_95d88 17 = .ok (.iadd, 1) := by decide +kernel
theorem dJ13_numberOfLeadingZeros_95d88_18 : decode cJ13_numberOfLeadingZeros_95d88 18 = .ok (.goto 7, 3) := by decide +kernel
theorem dJ13_numberOfLeadingZeros_95d88_21 : decode cJ13_numberOfLeadingZeros_95d88 21 = .ok (.iload_n 2, 1) := by decide +kernel
theorem dJ13_numberOfLeadingZeros_95d88_22 : decode cJ13_numberOfLeadingZeros_95d88 22 = .ok (.invokestatic 308, 3) := by decide +kernel
theorem dJ13_numberOfLeadingZeros_95d88_25 : decode cJ13_numberOfLeadingZeros_95d88 25 = .ok (.ireturn, 1) := by decide +kernel
theorem dJ13_bitCount_95d88_0 : decode cJ13_bitCount_95d88 0 = .ok (.lload_n 0, 1) := by decide +kernel
theorem dJ13_bitCount_95d88_1 : decode cJ13_bitCount_95d88 1 = .ok (.lload_n 0, 1) := by decide +kernel
theorem dJ13_bitCount_95d88_2 : decode cJ13_bitCount_95d88 2 = .ok (.iconst 1, 1) := by decide +kernel
theorem dJ13_bitCount_95d88_3 : decode cJ13_bitCount_95d88 3 = .ok (.lushr, 1) := by decide +kernel
theorem dJ13_bitCount_95d88_4 : decode cJ13_bitCount_95d88 4 = .ok (.ldc2_w 314, 3) := by decide +kernel
theorem dJ13_bitCount_95d88_7 : decode cJ13_bitCount_95d88 7 = .ok (.land, 1) := by decide +kernel
theorem dJ13_bitCount_95d88_8 : decode cJ13_bitCount_95d88 8 = .ok (.lsub, 1) := by decide +kernel
theorem dJ13_bitCount_95d88_9 : decode cJ13_bitCount_95d88 9 = .ok (.lstore_n 0, 1) := by decide +kernel
theorem dJ13_bitCount_95d88_10 : decode cJ13_bitCount_95d88 10 = .ok (.lload_n 0, 1) := by decide +kernel
theorem dJ13_bitCount_95d88_11 : decode cJ13_bitCount_95d88 11 = .ok (.ldc2_w 316, 3) := by decide +kernel
theorem dJ13_bitCount_95d88_14 : decode cJ13_bitCount_95d88 14 = .ok (.land, 1) := by decide +kernel
theorem dJ13_bitCount_95d88_15 : decode cJ13_bitCount_95d88 15 = .ok (.lload_n 0, 1) := by decide +kernel
theorem dJ13_bitCount_95d88_16 : decode cJ13_bitCount_95d88 16 = .ok (.iconst 2, 1) := by decide +kernel
theorem dJ13_bitCount_95d88_17 : decode cJ13_bitCount_95d88 17 = .ok (.lushr, 1) := by decide +kernel
theorem dJ13_bitCount_95d88_18 : decode cJ13_bitCount_95d88 18 = .ok (.ldc2_w 316, 3) := by decide +kernel
theorem dJ13_bitCount_95d88_21 : decode cJ13_bitCount_95d88 21 = .ok (.land, 1) := by decide +kernel
theorem dJ13_bitCount_95d88_22 : decode cJ13_bitCount_95d88 22 = .ok (.ladd, 1) := by decide +kernel
theorem dJ13_bitCount_95d88_23 : decode cJ13_bitCount_95d88 23 = .ok (.lstore_n 0, 1) := by decide +kernel
theorem dJ13_bitCount_95d88_24 : decode cJ13_bitCount_95d88 24 = .ok (.lload_n 0, 1) := by decide +kernel
theorem dJ13_bitCount_95d88_25 : decode cJ13_bitCount_95d88 25 = .ok (.lload_n 0, 1) := by decide +kernel
theorem dJ13_bitCount_95d88_26 : decode cJ13_bitCount_95d88 26 = .ok (.iconst 4, 1) := by decide +kernel
theorem dJ13_bitCount_95d88_27 : decode cJ13_bitCount_95d88 27 = .ok (.lushr, 1) := by decide +kernel
theorem dJ13_bitCount_95d88_28 : decode cJ13_bitCount_95d88 28 = .ok (.ladd, 1) := by decide +kernel
theorem dJ13_bitCount_95d88_29 : decode cJ13_bitCount_95d88 29 = .ok (.ldc2_w 318, 3) := by decide +kernel
theorem dJ13_bitCount_95d88_32 : decode cJ13_bitCount_95d88 32 = .ok (.land, 1) := by decide +kernel
theorem dJ13_bitCount_95d88_33 : decode cJ13_bitCount_95d88 33 = .ok (.lstore_n 0, 1) := by decide +kernel
theorem dJ13_bitCount_95d88_34 : decode cJ13_bitCount_95d88 34 = .ok (.lload_n 0, 1) := by decide +kernel
theorem dJ13_bitCount_95d88_35 : decode cJ13_bitCount_95d88 35 = .ok (.lload_n 0, 1) := by decide +kernel
theorem dJ13_bitCount_95d88_36 : decode cJ13_bitCount_95d88 36 = .ok (.bipush 8, 2) := by decide +kernel
theorem dJ13_bitCount_95d88_38 : decode cJ13_bitCount_95d88 38 = .ok (.lushr, 1) := by decide +kernel
theorem dJ13_bitCount_95d88_39 : decode cJ13_bitCount_95d88 39 = .ok (.ladd, 1) := by decide +kernel
theorem dJ13_bitCount_95d88_40 : decode cJ13_bitCount_95d88 40 = .ok (.lstore_n 0, 1) := by decide +kernel
theorem dJ13_bitCount_95d88_41 : decode cJ13_bitCount_95d88 41 = .ok (.lload_n 0, 1) := by decide +kernel
theorem dJ13_bitCount_95d88_42 : decode cJ13_bitCount_95d88 42 = .ok (.lload_n 0, 1) := by decide +kernel
theorem dJ13_bitCount_95d88_43 : decode cJ13_bitCount_95d88 43 = .ok (.bipush 16, 2) := by decide +kernel
theorem dJ13_bitCount_95d88_45 : decode cJ13_bitCount_95d88 45 = .ok (.lushr, 1) := by decide +kernel
theorem dJ13_bitCount_95d88_46 : decode cJ13_bitCount_95d88 46 = .ok (.ladd, 1) := by decide +kernel
theorem dJ13_bitCount_95d88_47 : decode cJ13_bitCount_95d88 47 = .ok (.lstore_n 0, 1) := by decide +kernel
theorem dJ13_bitCount_95d88_48 : decode cJ13_bitCount_95d88 48 = .ok (.lload_n 0, 1) := by decide +kernel
theorem dJ13_bitCount_95d88_49 : decode cJ13_bitCount_95d88 49 = .ok (.lload_n 0, 1) := by decide +kernel
theorem dJ13_bitCount_95d88_50 : decode cJ13_bitCount_95d88 50 = .ok (.bipush 32, 2) := by decide +kernel
theorem dJ13_bitCount_95d88_52 : decode cJ13_bitCount_95d88 52 = .ok (.lushr, 1) := by decide +kernel
theorem dJ13_bitCount_95d88_53 : decode cJ13_bitCount_95d88 53 = .ok (.ladd, 1) := by decide +kernel
theorem dJ13_bitCount_95d88_54 : decode cJ13_bitCount_95d88 54 = .ok (.lstore_n 0, 1) := by decide +kernel
theorem dJ13_bitCount_95d88_55 : decode cJ13_bitCount_95d88 55 = .ok (.lload_n 0, 1) := by decide +kernel
theorem dJ13_bitCount_95d88_56 : decode cJ13_bitCount_95d88 56 = .ok (.l2i, 1) := by decide +kernel
theorem dJ13_bitCount_95d88_57 : decode cJ13_bitCount_95d88 57 = .ok (.bipush 127, 2) := by decide +kernel
theorem dJ13_bitCount_95d88_59 : decode cJ13_bitCount_95d88 59 = .ok (.iand, 1) := by decide +kernel
theorem dJ13_bitCount_95d88_60 : decode cJ13_bitCount_95d88 60 = .ok (.ireturn, 1) := by decide +kernel
theorem dJ9_floorMod_f86c9_0 : decode cJ9_floorMod_f86c9 0 = .ok (.lload_n 0, 1) := by decide +kernel
theorem dJ9_floorMod_f86c9_1 : decode cJ9_floorMod_f86c9 1 = .ok (.lload_n 2, 1) := by decide +kernel
theorem dJ9_floorMod_f86c9_2 : decode cJ9_floorMod_f86c9 2 = .ok (.lrem, 1) := by decide +kernel
theorem dJ9_floorMod_f86c9_3 : decode cJ9_floorMod_f86c9 3 = .ok (.lstore 4, 2) := by decide +kernel
theorem dJ9_floorMod_f86c9_5 : decode cJ9_floorMod_f86c9 5 = .ok (.lload_n 0, 1) := by decide +kernel
theorem dJ9_floorMod_f86c9_6 : decode cJ9_floorMod_f86c9 6 = .ok (.lload_n 2, 1) := by decide +kernel
theorem dJ9_floorMod_f86c9_7 : decode cJ9_floorMod_f86c9 7 = .ok (.lxor, 1) := by decide +kernel
theorem dJ9_floorMod_f86c9_8 : decode cJ9_floorMod_f86c9 8 = .ok (.lconst 0, 1) := by decide +kernel
theorem dJ9_floorMod_f86c9_9 : decode cJ9_floorMod_f86c9 9 = .ok (.lcmp, 1) := by decide +kernel
theorem dJ9_floorMod_f86c9_10 : decode cJ9_floorMod_f86c9 10 = .ok (.ifCond .ge 15, 3) := by decide +kernel
theorem dJ9_floorMod_f86c9_13 : decode cJ9_floorMod_f86c9 13 = .ok (.lload 4, 2) := by decide +kernel
theorem dJ9_floorMod_f86c9_15 : decode cJ9_floorMod_f86c9 15 = .ok (.lconst 0, 1) := by decide +kernel
theorem dJ9_floorMod_f86c9_16 : decode cJ9_floorMod_f86c9 16 = .ok (.lcmp, 1) := by decide +kernel
theorem dJ9_floorMod_f86c9_17 : decode cJ9_floorMod_f86c9 17 = .ok (.ifCond .eq 8, 3) := by decide +kernel
theorem dJ9_floorMod_f86c9_20 : decode cJ9_floorMod_f86c9 20 = .ok (.lload 4, 2) := by decide +kernel
theorem dJ9_floorMod_f86c9_22 : decode cJ9_floorMod_f86c9 22 = .ok (.lload_n 2, 1) := by decide +kernel
theorem dJ9_floorMod_f86c9_23 : decode cJ9_floorMod_f86c9 23 = .ok (.ladd, 1) := by decide +kernel
theorem dJ9_floorMod_f86c9_24 : decode cJ9_floorMod_f86c9 24 = .ok (.lreturn, 1) := by decide +kernel
theorem dJ9_floorMod_f86c9_25 : decode cJ9_floorMod_f86c9 25 = .ok (.lload 4, 2) := by decide +kernel
theorem dJ9_floorMod_f86c9_27 : decode cJ9_floorMod_f86c9 27 = .ok (.lreturn, 1) := by decide +kernel
