set_option maxRecDepth 20000 in
theorem ggX3_init_X3_clearRows : GoodIn wsX3_init wsX3_clearRows := goodIn_r _ [11, 5, 12, 6, 13, 14, 15, 16, 17] (by decide +kernel) (by decide +kernel)
set_option maxRecDepth 20000 in
theorem gX3_init_X3_clearRows : GoodIn wsX3_init (wsV RX3 16 RX3 yX3_clearRows wsX3_clearRows) := goodIn_app (goodIn_of _ (by decide +kernel)) ggX3_init_X3_clearRows
theorem dX3_init_0 : decode cX3_init 0 = .ok (.aload_n 0, 1) := by decide +kernel
theorem dX3_init_1 : decode cX3_init 1 = .ok (.invokespecial 3, 3) := by decide +kernel
theorem dX3_init_4 : decode cX3_init 4 = .ok (.aload_n 0, 1) := by decide +kernel
theorem dX3_init_5 : decode cX3_init 5 = .ok (.bipush 16, 2) := by decide +kernel
theorem dX3_init_7 : decode cX3_init 7 = .ok (.newarray .long, 2) := by decide +kernel
theorem dX3_init_9 : decode cX3_init 9 = .ok (.putfield 9, 3) := by decide +kernel
theorem dX3_init_12 : decode cX3_init 12 = .ok (.aload_n 0, 1) := by decide +kernel
theorem dX3_init_13 : decode cX3_init 13 = .ok (.bipush 8, 2) := by decide +kernel
theorem dX3_init_15 : decode cX3_init 15 = .ok (.newarray .long, 2) := by decide +kernel
theorem dX3_init_17 : decode cX3_init 17 = .ok (.putfield 13, 3) := by decide +kernel
theorem dX3_init_20 : decode cX3_init 20 = .ok (.aload_n 0, 1) := by decide +kernel
theorem dX3_init_21 : decode cX3_init 21 = .ok (.invokevirtual 16, 3) := by decide +kernel
theorem dX3_init_24 : decode cX3_init 24 = .ok (.return_, 1) := by decide +kernel
set_option maxRecDepth 20000 in
theorem ggX3_field_X3_fitTogether : GoodIn wsX3_field wsX3_fitTogether := goodIn_r _ [16, 17, 18, 15, 19, 20, 21] (by decide +kernel) (by decide +kernel)
set_option maxRecDepth 20000 in
theorem gX3_field_X3_fitTogether : GoodIn wsX3_field (va_wsS RX3 19 yX3_fitTogether wsX3_fitTogether) := goodIn_app (goodIn_of _ (by decide +kernel)) ggX3_field_X3_fitTogether
set_option maxRecDepth 20000 in
theorem ggX3_field_X2_init : GoodIn wsX3_field wsX2_init := goodIn_r _ [24, 25, 26, 27, 28, 125] (by decide +kernel) (by decide +kernel)
set_option maxRecDepth 20000 in
theorem gX3_field_X2_init : GoodIn wsX3_field (wsX2_init) := ggX3_field_X2_init
set_option maxRecDepth 20000 in
theorem ggX3_field_X0_init : GoodIn wsX3_field wsX0_init := goodIn_r _ [31, 32, 26, 27, 33, 34, 35, 36, 37, 38, 39, 40, 41, 3, 42, 43, 44, 45, 46, 47, 48, 49, 50, 51, 52, 53, 54, 55, 56, 6, 57, 28, 58, 59, 60, 61, 62, 63, 64, 65, 66, 15, 67, 68, 69, 70, 71, 72, 73, 74, 75, 76, 77, 78, 79, 80, 81, 82, 83, 84, 85, 86, 87, 88, 89, 90, 91, 92, 93, 94, 95, 96, 97, 98, 99, 100, 101, 119, 120, 121, 122, 123, 124, 125] (by decide +kernel) (by decide +kernel)
set_option maxRecDepth 20000 in
theorem gX3_field_X0_init : GoodIn wsX3_field (wsX0_init) := ggX3_field_X0_init
set_option maxRecDepth 20000 in
theorem ggX3_field_X1_init : GoodIn wsX3_field wsX1_init := goodIn_r _ [104, 105, 26, 27, 106, 107, 108, 109, 110, 130, 131, 132, 119, 120, 121, 122, 123, 124] (by decide +kernel) (by decide +kernel)
set_option maxRecDepth 20000 in
theorem gX3_field_X1_init : GoodIn wsX3_field (wsX1_init) := ggX3_field_X1_init
set_option maxRecDepth 20000 in
theorem ggX3_field_X3_clearRows : GoodIn wsX3_field wsX3_clearRows := goodIn_r _ [114, 115, 116, 117, 118, 126, 127, 128, 129] (by decide +kernel) (by decide +kernel)
set_option maxRecDepth 20000 in
theorem gX3_field_X3_clearRows : GoodIn wsX3_field (wsV RX3 16 RX3 yX3_clearRows wsX3_clearRows) := goodIn_app (goodIn_of _ (by decide +kernel)) ggX3_field_X3_clearRows
theorem dX3_field_0 : decode cX3_field 0 = .ok (.iload_n 1, 1) := by decide +kernel
theorem dX3_field_1 : decode cX3_field 1 = .ok (.iload_n 2, 1) := by decide +kernel
theorem dX3_field_2 : decode cX3_field 2 = .ok (.invokestatic 19, 3) := by decide +kernel
theorem dX3_field_5 : decode cX3_field 5 = .ok (.ifCond .ne 6, 3) := by decide +kernel
theorem dX3_field_8 : decode cX3_field 8 = .ok (.bipush (-2), 2) := by decide +kernel
theorem dX3_field_10 : decode cX3_field 10 = .ok (.ireturn, 1) := by decide +kernel
theorem dX3_field_11 : decode cX3_field 11 = .ok (.aload_n 0, 1) := by decide +kernel
theorem dX3_field_12 : decode cX3_field 12 = .ok (.new 23, 3) := by decide +kernel
theorem dX3_field_15 : decode cX3_field 15 = .ok (.dup, 1) := by decide +kernel
theorem dX3_field_16 : decode cX3_field 16 = .ok (.new 25, 3) := by decide +kernel
theorem dX3_field_19 : decode cX3_field 19 = .ok (.dup, 1) := by decide +kernel
theorem dX3_field_20 : decode cX3_field 20 = .ok (.iload_n 1, 1) := by decide +kernel
theorem dX3_field_21 : decode cX3_field 21 = .ok (.i2l, 1) := by decide +kernel
theorem dX3_field_22 : decode cX3_field 22 = .ok (.invokespecial 27, 3) := by decide +kernel
theorem dX3_field_25 : decode cX3_field 25 = .ok (.iload_n 2, 1) := by decide +kernel
theorem dX3_field_26 : decode cX3_field 26 = .ok (.i2l, 1) := by decide +kernel
theorem dX3_field_27 : decode cX3_field 27 = .ok (.invokespecial 30, 3) := by decide +kernel
theorem dX3_field_30 : decode cX3_field 30 = .ok (.putfield 33, 3) := by decide +kernel
theorem dX3_field_33 : decode cX3_field 33 = .ok (.aload_n 0, 1) := by decide +kernel
theorem dX3_field_34 : decode cX3_field 34 = .ok (.new 37, 3) := by decide +kernel
theorem dX3_field_37 : decode cX3_field 37 = .ok (.dup, 1) := by decide +kernel
theorem dX3_field_38 : decode cX3_field 38 = .ok (.aload_n 0, 1) := by decide +kernel
theorem dX3_field_39 : decode cX3_field 39 = .ok (.getfield 33, 3) := by decide +kernel
theorem dX3_field_42 : decode cX3_field 42 = .ok (.invokespecial 39, 3) := by decide +kernel
theorem dX3_field_45 : decode cX3_field 45 = .ok (.putfield 42, 3) := by decide +kernel
theorem dX3_field_48 : decode cX3_field 48 = .ok (.aload_n 0, 1) := by decide +kernel
theorem dX3_field_49 : decode cX3_field 49 = .ok (.invokevirtual 16, 3) := by decide +kernel
theorem dX3_field_52 : decode cX3_field 52 = .ok (.aload_n 0, 1) := by decide +kernel
theorem dX3_field_53 : decode cX3_field 53 = .ok (.getfield 33, 3) := by decide +kernel
theorem dX3_field_56 : decode cX3_field 56 = .ok (.getfield 46, 3) := by decide +kernel
theorem dX3_field_59 : decode cX3_field 59 = .ok (.l2i, 1) := by decide +kernel
theorem dX3_field_60 : decode cX3_field 60 = .ok (.ireturn, 1) := by decide +kernel
theorem dX3_told_0 : decode cX3_told 0 = .ok (.iload_n 1, 1) := by decide +kernel
theorem dX3_told_1 : decode cX3_told 1 = .ok (.ifCond .lt 8, 3) := by decide +kernel
theorem dX3_told_4 : decode cX3_told 4 = .ok (.iload_n 1, 1) := by decide +kernel
theorem dX3_told_5 : decode cX3_told 5 = .ok (.iconst 2, 1) := by decide +kernel
theorem dX3_told_6 : decode cX3_told 6 = .ok (.if_icmp .le 6, 3) := by decide +kernel
theorem dX3_told_9 : decode cX3_told 9 = .ok (.bipush (-2), 2) := by decide +kernel
theorem dX3_told_11 : decode cX3_told 11 = .ok (.ireturn, 1) := by decide +kernel
theorem dX3_told_12 : decode cX3_told 12 = .ok (.aload_n 0, 1) := by decide +kernel
theorem dX3_told_13 : decode cX3_told 13 = .ok (.getfield 33, 3) := by decide +kernel
theorem dX3_told_16 : decode cX3_told 16 = .ok (.ifnonnull 6, 3) := by decide +kernel
theorem dX3_told_19 : decode cX3_told 19 = .ok (.bipush (-3), 2) := by decide +kernel
theorem dX3_told_21 : decode cX3_told 21 = .ok (.ireturn, 1) := by decide +kernel
theorem dX3_told_22 : decode cX3_told 22 = .ok (.iload_n 1, 1) := by decide +kernel
theorem dX3_told_23 : decode cX3_told 23 = .ok (.ifCond .ne 13, 3) := by decide +kernel
theorem dX3_told_26 : decode cX3_told 26 = .ok (.aload_n 0, 1) := by decide +kernel
theorem dX3_told_27 : decode cX3_told 27 = .ok (.getfield 33, 3) := by decide +kernel
theorem dX3_told_30 : decode cX3_told 30 = .ok (.getfield 50, 3) := by decide +kernel
theorem dX3_told_33 : decode cX3_told 33 = .ok (.goto 25, 3) := by decide +kernel
theorem dX3_told_36 : decode cX3_told 36 = .ok (.iload_n 1, 1) := by decide +kernel
theorem dX3_told_37 : decode cX3_told 37 = .ok (.iconst 1, 1) := by decide +kernel
theorem dX3_told_38 : decode cX3_told 38 = .ok (.if_icmp .ne 13, 3) := by decide +kernel
theorem dX3_told_41 : decode cX3_told 41 = .ok (.aload_n 0, 1) := by decide +kernel
theorem dX3_told_42 : decode cX3_told 42 = .ok (.getfield 33, 3) := by decide +kernel
theorem dX3_told_45 : decode cX3_told 45 = .ok (.getfield 53, 3) := by decide +kernel
theorem dX3_told_48 : decode cX3_told 48 = .ok (.goto 10, 3) := by decide +kernel
theorem dX3_told_51 : decode cX3_told 51 = .ok (.aload_n 0, 1) := by decide +kernel
theorem dX3_told_52 : decode cX3_told 52 = .ok (.getfield 33, 3) := by decide +kernel
theorem dX3_told_55 : decode cX3_told 55 = .ok (.getfield 46, 3) := by decide +kernel
theorem dX3_told_58 : decode cX3_told 58 = .ok (.l2i, 1) := by decide +kernel
theorem dX3_told_59 : decode cX3_told 59 = .ok (.ireturn, 1) := by decide +kernel
set_option maxRecDepth 20000 in
theorem ggX3_root_X2_has : GoodIn wsX3_root wsX2_has := goodIn_r _ [7, 8, 30] (by decide +kernel) (by decide +kernel)
set_option maxRecDepth 20000 in
theorem gX3_root_X2_has : GoodIn wsX3_root (wsV RX3 60 RX2 yX2_has wsX2_has) := goodIn_app (goodIn_of _ (by decide +kernel)) ggX3_root_X2_has
set_option maxRecDepth 20000 in
theorem ggX3_root_X2_evenRoot : GoodIn wsX3_root wsX2_evenRoot := goodIn_r _ [12, 8, 13, 14, 15, 16, 17, 18, 6, 19, 30] (by decide +kernel) (by decide +kernel)
set_option maxRecDepth 20000 in
theorem gX3_root_X2_evenRoot : GoodIn wsX3_root (wsV RX3 64 RX2 yX2_evenRoot wsX2_evenRoot) := goodIn_app (goodIn_of _ (by decide +kernel)) ggX3_root_X2_evenRoot
theorem dX3_root_0 : decode cX3_root 0 = .ok (.aload_n 0, 1) := by decide +kernel
theorem dX3_root_1 : decode cX3_root 1 = .ok (.getfield 33, 3) := by decide +kernel
theorem dX3_root_4 : decode cX3_root 4 = .ok (.ifnonnull 6, 3) := by decide +kernel
theorem dX3_root_7 : decode cX3_root 7 = .ok (.bipush (-3), 2) := by decide +kernel
theorem dX3_root_9 : decode cX3_root 9 = .ok (.ireturn, 1) := by decide +kernel
theorem dX3_root_10 : decode cX3_root 10 = .ok (.aload_n 0, 1) := by decide +kernel
theorem dX3_root_11 : decode cX3_root 11 = .ok (.getfield 33, 3) := by decide +kernel
theorem dX3_root_14 : decode cX3_root 14 = .ok (.getfield 56, 3) := by decide +kernel
theorem dX3_root_17 : decode cX3_root 17 = .ok (.iload_n 1, 1) := by decide +kernel
theorem dX3_root_18 : decode cX3_root 18 = .ok (.invokevirtual 60, 3) := by decide +kernel
theorem dX3_root_21 : decode cX3_root 21 = .ok (.ifCond .ne 6, 3) := by decide +kernel
theorem dX3_root_24 : decode cX3_root 24 = .ok (.bipush (-2), 2) := by decide +kernel
theorem dX3_root_26 : decode cX3_root 26 = .ok (.ireturn, 1) := by decide +kernel
theorem dX3_root_27 : decode cX3_root 27 = .ok (.aload_n 0, 1) := by decide +kernel
theorem dX3_root_28 : decode cX3_root 28 = .ok (.getfield 33, 3) := by decide +kernel
theorem dX3_root_31 : decode cX3_root 31 = .ok (.getfield 56, 3) := by decide +kernel
theorem dX3_root_34 : decode cX3_root 34 = .ok (.iload_n 1, 1) := by decide +kernel
theorem dX3_root_35 : decode cX3_root 35 = .ok (.i2l, 1) := by decide +kernel
theorem dX3_root_36 : decode cX3_root 36 = .ok (.invokevirtual 64, 3) := by decide +kernel
theorem dX3_root_39 : decode cX3_root 39 = .ok (.l2i, 1) := by decide +kernel
theorem dX3_root_40 : decode cX3_root 40 = .ok (.ireturn, 1) := by decide +kernel
set_option maxRecDepth 20000 in
theorem ggX3_point_X3_isSlot : GoodIn wsX3_point wsX3_isSlot := goodIn_r _ [7] (by decide +kernel) (by decide +kernel)
set_option maxRecDepth 20000 in
theorem gX3_point_X3_isSlot : GoodIn wsX3_point (va_wsS RX3 68 yX3_isSlot wsX3_isSlot) := goodIn_app (goodIn_of _ (by decide +kernel)) ggX3_point_X3_isSlot
set_option maxRecDepth 20000 in
theorem ggX3_point_X2_has : GoodIn wsX3_point wsX2_has := goodIn_r _ [12, 13, 42] (by decide +kernel) (by decide +kernel)
set_option maxRecDepth 20000 in
theorem gX3_point_X2_has : GoodIn wsX3_point (wsV RX3 60 RX2 yX2_has wsX2_has) := goodIn_app (goodIn_of _ (by decide +kernel)) ggX3_point_X2_has
set_option maxRecDepth 20000 in
theorem ggX3_point_X0_passes : GoodIn wsX3_point wsX0_passes := goodIn_r _ [18, 19, 20, 21, 22, 11, 23, 13, 24, 25, 26, 17, 27, 28, 36, 37, 38, 39, 40, 41, 42] (by decide +kernel) (by decide +kernel)
set_option maxRecDepth 20000 in
theorem gX3_point_X0_passes : GoodIn wsX3_point (wsV RX3 71 RX0 yX0_passes wsX0_passes) := goodIn_app (goodIn_of _ (by decide +kernel)) ggX3_point_X0_passes
set_option maxRecDepth 20000 in
theorem ggX3_point_X3_joined : GoodIn wsX3_point wsX3_joined := goodIn_r _ [31] (by decide +kernel) (by decide +kernel)
set_option maxRecDepth 20000 in
theorem gX3_point_X3_joined : GoodIn wsX3_point (va_wsS RX3 75 yX3_joined wsX3_joined) := goodIn_app (goodIn_of _ (by decide +kernel)) ggX3_point_X3_joined
theorem dX3_point_0 : decode cX3_point 0 = .ok (.aload_n 0, 1) := by decide +kernel
theorem dX3_point_1 : decode cX3_point 1 = .ok (.getfield 33, 3) := by decide +kernel
theorem dX3_point_4 : decode cX3_point 4 = .ok (.ifnonnull 6, 3) := by decide +kernel
theorem dX3_point_7 : decode cX3_point 7 = .ok (.bipush (-3), 2) := by decide +kernel
theorem dX3_point_9 : decode cX3_point 9 = .ok (.ireturn, 1) := by decide +kernel
theorem dX3_point_10 : decode cX3_point 10 = .ok (.iload_n 1, 1) := by decide +kernel
theorem dX3_point_11 : decode cX3_point 11 = .ok (.invokestatic 68, 3) := by decide +kernel
theorem dX3_point_14 : decode cX3_point 14 = .ok (.ifCond .eq 31, 3) := by decide +kernel
theorem dX3_point_17 : decode cX3_point 17 = .ok (.aload_n 0, 1) := by decide +kernel
theorem dX3_point_18 : decode cX3_point 18 = .ok (.getfield 33, 3) := by decide +kernel
theorem dX3_point_21 : decode cX3_point 21 = .ok (.getfield 56, 3) := by decide +kernel
theorem dX3_point_24 : decode cX3_point 24 = .ok (.iload_n 2, 1) := by decide +kernel
theorem dX3_point_25 : decode cX3_point 25 = .ok (.invokevirtual 60, 3) := by decide +kernel
theorem dX3_point_28 : decode cX3_point 28 = .ok (.ifCond .eq 17, 3) := by decide +kernel
theorem dX3_point_31 : decode cX3_point 31 = .ok (.aload_n 0, 1) := by decide +kernel
theorem dX3_point_32 : decode cX3_point 32 = .ok (.getfield 33, 3) := by decide +kernel
theorem dX3_point_35 : decode cX3_point 35 = .ok (.getfield 56, 3) := by decide +kernel
theorem dX3_point_38 : decode cX3_point 38 = .ok (.iload_n 3, 1) := by decide +kernel
theorem dX3_point_39 : decode cX3_point 39 = .ok (.invokevirtual 60, 3) := by decide +kernel
theorem dX3_point_42 : decode cX3_point 42 = .ok (.ifCond .ne 6, 3) := by decide +kernel
theorem dX3_point_45 : decode cX3_point 45 = .ok (.bipush (-2), 2) := by decide +kernel
theorem dX3_point_47 : decode cX3_point 47 = .ok (.ireturn, 1) := by decide +kernel
theorem dX3_point_48 : decode cX3_point 48 = .ok (.aload_n 0, 1) := by decide +kernel
theorem dX3_point_49 : decode cX3_point 49 = .ok (.getfield 33, 3) := by decide +kernel
theorem dX3_point_52 : decode cX3_point 52 = .ok (.iload_n 2, 1) := by decide +kernel
theorem dX3_point_53 : decode cX3_point 53 = .ok (.i2l, 1) := by decide +kernel
theorem dX3_point_54 : decode cX3_point 54 = .ok (.iload_n 3, 1) := by decide +kernel
theorem dX3_point_55 : decode cX3_point 55 = .ok (.i2l, 1) := by decide +kernel
theorem dX3_point_56 : decode cX3_point 56 = .ok (.invokevirtual 71, 3) := by decide +kernel
theorem dX3_point_59 : decode cX3_point 59 = .ok (.ifCond .ne 5, 3) := by decide +kernel
theorem dX3_point_62 : decode cX3_point 62 = .ok (.iconst (-1), 1) := by decide +kernel
theorem dX3_point_63 : decode cX3_point 63 = .ok (.ireturn, 1) := by decide +kernel
theorem dX3_point_64 : decode cX3_point 64 = .ok (.aload_n 0, 1) := by decide +kernel
theorem dX3_point_65 : decode cX3_point 65 = .ok (.getfield 9, 3) := by decide +kernel
theorem dX3_point_68 : decode cX3_point 68 = .ok (.iload_n 1, 1) := by decide +kernel
theorem dX3_point_69 : decode cX3_point 69 = .ok (.iload_n 2, 1) := by decide +kernel
theorem dX3_point_70 : decode cX3_point 70 = .ok (.i2l, 1) := by decide +kernel
theorem dX3_point_71 : decode cX3_point 71 = .ok (.iload_n 3, 1) := by decide +kernel
theorem dX3_point_72 : decode cX3_point 72 = .ok (.i2l, 1) := by decide +kernel
theorem dX3_point_73 : decode cX3_point 73 = .ok (.invokestatic 75, 3) := by decide +kernel
theorem dX3_point_76 : decode cX3_point 76 = .ok (.lastore, 1) := by decide +kernel
theorem dX3_point_77 : decode cX3_point 77 = .ok (.iconst 1, 1) := by decide +kernel
theorem dX3_point_78 : decode cX3_point 78 = .ok (.ireturn, 1) := by decide +kernel
set_option maxRecDepth 20000 in
theorem ggX3_nowhere_X3_isSlot : GoodIn wsX3_nowhere wsX3_isSlot := goodIn_r _ [7] (by decide +kernel) (by decide +kernel)
set_option maxRecDepth 20000 in
theorem gX3_nowhere_X3_isSlot : GoodIn wsX3_nowhere (va_wsS RX3 68 yX3_isSlot wsX3_isSlot) := goodIn_app (goodIn_of _ (by decide +kernel)) ggX3_nowhere_X3_isSlot
theorem dX3_nowhere_0 : decode cX3_nowhere 0 = .ok (.aload_n 0, 1) := by decide +kernel
theorem dX3_nowhere_1 : decode cX3_nowhere 1 = .ok (.getfield 33, 3) := by decide +kernel
theorem dX3_nowhere_4 : decode cX3_nowhere 4 = .ok (.ifnonnull 6, 3) := by decide +kernel
theorem dX3_nowhere_7 : decode cX3_nowhere 7 = .ok (.bipush (-3), 2) := by decide +kernel
theorem dX3_nowhere_9 : decode cX3_nowhere 9 = .ok (.ireturn, 1) := by decide +kernel
theorem dX3_nowhere_10 : decode cX3_nowhere 10 = .ok (.iload_n 1, 1) := by decide +kernel
theorem dX3_nowhere_11 : decode cX3_nowhere 11 = .ok (.invokestatic 68, 3) := by decide +kernel
theorem dX3_nowhere_14 : decode cX3_nowhere 14 = .ok (.ifCond .ne 6, 3) := by decide +kernel
theorem dX3_nowhere_17 : decode cX3_nowhere 17 = .ok (.bipush (-2), 2) := by decide +kernel
theorem dX3_nowhere_19 : decode cX3_nowhere 19 = .ok (.ireturn, 1) := by decide +kernel
theorem dX3_nowhere_20 : decode cX3_nowhere 20 = .ok (.aload_n 0, 1) := by decide +kernel
theorem dX3_nowhere_21 : decode cX3_nowhere 21 = .ok (.getfield 9, 3) := by decide +kernel
theorem dX3_nowhere_24 : decode cX3_nowhere 24 = .ok (.iload_n 1, 1) := by decide +kernel
theorem dX3_nowhere_25 : decode cX3_nowhere 25 = .ok (.ldc2_w 79, 3) := by decide +kernel
theorem dX3_nowhere_28 : decode cX3_nowhere 28 = .ok (.lastore, 1) := by decide +kernel
theorem dX3_nowhere_29 : decode cX3_nowhere 29 = .ok (.iconst 1, 1) := by decide +kernel
theorem dX3_nowhere_30 : decode cX3_nowhere 30 = .ok (.ireturn, 1) := by decide +kernel
set_option maxRecDepth 20000 in
theorem ggX3_turn_X3_isSlot : GoodIn wsX3_turn wsX3_isSlot := goodIn_r _ [7] (by decide +kernel) (by decide +kernel)
set_option maxRecDepth 20000 in
theorem gX3_turn_X3_isSlot : GoodIn wsX3_turn (va_wsS RX3 68 yX3_isSlot wsX3_isSlot) := goodIn_app (goodIn_of _ (by decide +kernel)) ggX3_turn_X3_isSlot
set_option maxRecDepth 20000 in
theorem ggX3_turn_X0_turned : GoodIn wsX3_turn wsX0_turned := goodIn_r _ [12, 13, 14, 15, 16, 17, 18, 19, 20, 11, 21, 22, 23, 24, 25, 26, 27, 28, 29, 30, 31, 32, 33, 34, 35, 36, 37, 38, 39, 40, 41, 6, 42, 43, 44, 45, 46, 47, 48, 49, 50, 51, 52, 53, 54, 55, 56, 57, 58, 59, 60, 61, 62, 63, 64, 65, 66, 67, 68, 69, 70, 71, 72, 73, 74, 75, 76, 81, 82, 83, 84, 85, 86, 87] (by decide +kernel) (by decide +kernel)
set_option maxRecDepth 20000 in
theorem gX3_turn_X0_turned : GoodIn wsX3_turn (wsV RX3 81 RX0 yX0_turned wsX0_turned) := goodIn_app (goodIn_of _ (by decide +kernel)) ggX3_turn_X0_turned
theorem dX3_turn_0 : decode cX3_turn 0 = .ok (.aload_n 0, 1) := by decide +kernel
theorem dX3_turn_1 : decode cX3_turn 1 = .ok (.getfield 33, 3) := by decide +kernel
theorem dX3_turn_4 : decode cX3_turn 4 = .ok (.ifnonnull 6, 3) := by decide +kernel
theorem dX3_turn_7 : decode cX3_turn 7 = .ok (.bipush (-3), 2) := by decide +kernel
theorem dX3_turn_9 : decode cX3_turn 9 = .ok (.ireturn, 1) := by decide +kernel
theorem dX3_turn_10 : decode cX3_turn 10 = .ok (.iload_n 1, 1) := by decide +kernel
theorem dX3_turn_11 : decode cX3_turn 11 = .ok (.invokestatic 68, 3) := by decide +kernel
theorem dX3_turn_14 : decode cX3_turn 14 = .ok (.ifCond .ne 6, 3) := by decide +kernel
theorem dX3_turn_17 : decode cX3_turn 17 = .ok (.bipush (-2), 2) := by decide +kernel
theorem dX3_turn_19 : decode cX3_turn 19 = .ok (.ireturn, 1) := by decide +kernel
theorem dX3_turn_20 : decode cX3_turn 20 = .ok (.aload_n 0, 1) := by decide +kernel
theorem dX3_turn_21 : decode cX3_turn 21 = .ok (.getfield 9, 3) := by decide +kernel
theorem dX3_turn_24 : decode cX3_turn 24 = .ok (.iload_n 1, 1) := by decide +kernel
theorem dX3_turn_25 : decode cX3_turn 25 = .ok (.aload_n 0, 1) := by decide +kernel
theorem dX3_turn_26 : decode cX3_turn 26 = .ok (.getfield 33, 3) := by decide +kernel
theorem dX3_turn_29 : decode cX3_turn 29 = .ok (.lload_n 2, 1) := by decide +kernel
theorem dX3_turn_30 : decode cX3_turn 30 = .ok (.invokevirtual 81, 3) := by decide +kernel
theorem dX3_turn_33 : decode cX3_turn 33 = .ok (.lastore, 1) := by decide +kernel
theorem dX3_turn_34 : decode cX3_turn 34 = .ok (.aload_n 0, 1) := by decide +kernel
theorem dX3_turn_35 : decode cX3_turn 35 = .ok (.getfield 33, 3) := by decide +kernel
theorem dX3_turn_38 : decode cX3_turn 38 = .ok (.getfield 84, 3) := by decide +kernel
theorem dX3_turn_41 : decode cX3_turn 41 = .ok (.ireturn, 1) := by decide +kernel
set_option maxRecDepth 20000 in
theorem ggX3_add_X3_isSlot : GoodIn wsX3_add wsX3_isSlot := goodIn_r _ [7] (by decide +kernel) (by decide +kernel)
set_option maxRecDepth 20000 in
theorem gX3_add_X3_isSlot : GoodIn wsX3_add (va_wsS RX3 68 yX3_isSlot wsX3_isSlot) := goodIn_app (goodIn_of _ (by decide +kernel)) ggX3_add_X3_isSlot
set_option maxRecDepth 20000 in
theorem ggX3_add_X0_sum : GoodIn wsX3_add wsX0_sum := goodIn_r _ [12, 13, 14, 15, 16, 17, 11, 18, 19, 20, 6, 21, 22, 23, 24, 25, 26, 27, 28, 29, 30, 31, 32, 33, 34, 35, 36, 37, 38, 39, 40, 41, 42, 43, 44, 45, 46, 51, 52, 53, 54, 55, 56, 57] (by decide +kernel) (by decide +kernel)
set_option maxRecDepth 20000 in
theorem gX3_add_X0_sum : GoodIn wsX3_add (wsV RX3 88 RX0 yX0_sum wsX0_sum) := goodIn_app (goodIn_of _ (by decide +kernel)) ggX3_add_X0_sum
theorem dX3_add_0 : decode cX3_add 0 = .ok (.aload_n 0, 1) := by decide +kernel
theorem dX3_add_1 : decode cX3_add 1 = .ok (.getfield 33, 3) := by decide +kernel
theorem dX3_add_4 : decode cX3_add 4 = .ok (.ifnonnull 6, 3) := by decide +kernel
theorem dX3_add_7 : decode cX3_add 7 = .ok (.bipush (-3), 2) := by decide +kernel
theorem dX3_add_9 : decode cX3_add 9 = .ok (.ireturn, 1) := by decide +kernel
theorem dX3_add_10 : decode cX3_add 10 = .ok (.iload_n 1, 1) := by decide +kernel
theorem dX3_add_11 : decode cX3_add 11 = .ok (.invokestatic 68, 3) := by decide +kernel
theorem dX3_add_14 : decode cX3_add 14 = .ok (.ifCond .eq 17, 3) := by decide +kernel
theorem dX3_add_17 : decode cX3_add 17 = .ok (.iload_n 2, 1) := by decide +kernel
theorem dX3_add_18 : decode cX3_add 18 = .ok (.invokestatic 68, 3) := by decide +kernel
theorem dX3_add_21 : decode cX3_add 21 = .ok (.ifCond .eq 10, 3) := by decide +kernel
theorem dX3_add_24 : decode cX3_add 24 = .ok (.iload_n 3, 1) := by decide +kernel
theorem dX3_add_25 : decode cX3_add 25 = .ok (.invokestatic 68, 3) := by decide +kernel
theorem dX3_add_28 : decode cX3_add 28 = .ok (.ifCond .ne 6, 3) := by decide +kernel
theorem dX3_add_31 : decode cX3_add 31 = .ok (.bipush (-2), 2) := by decide +kernel
theorem dX3_add_33 : decode cX3_add 33 = .ok (.ireturn, 1) := by decide +kernel
theorem dX3_add_34 : decode cX3_add 34 = .ok (.aload_n 0, 1) := by decide +kernel
theorem dX3_add_35 : decode cX3_add 35 = .ok (.getfield 9, 3) := by decide +kernel
theorem dX3_add_38 : decode cX3_add 38 = .ok (.iload_n 1, 1) := by decide +kernel
theorem dX3_add_39 : decode cX3_add 39 = .ok (.aload_n 0, 1) := by decide +kernel
theorem dX3_add_40 : decode cX3_add 40 = .ok (.getfield 33, 3) := by decide +kernel
theorem dX3_add_43 : decode cX3_add 43 = .ok (.aload_n 0, 1) := by decide +kernel
theorem dX3_add_44 : decode cX3_add 44 = .ok (.getfield 9, 3) := by decide +kernel
theorem dX3_add_47 : decode cX3_add 47 = .ok (.iload_n 2, 1) := by decide +kernel
theorem dX3_add_48 : decode cX3_add 48 = .ok (.laload, 1) := by decide +kernel
theorem dX3_add_49 : decode cX3_add 49 = .ok (.aload_n 0, 1) := by decide +kernel
theorem dX3_add_50 : decode cX3_add 50 = .ok (.getfield 9, 3) := by decide +kernel
theorem dX3_add_53 : decode cX3_add 53 = .ok (.iload_n 3, 1) := by decide +kernel
theorem dX3_add_54 : decode cX3_add 54 = .ok (.laload, 1) := by decide +kernel
theorem dX3_add_55 : decode cX3_add 55 = .ok (.invokevirtual 88, 3) := by decide +kernel
theorem dX3_add_58 : decode cX3_add 58 = .ok (.lastore, 1) := by decide +kernel
theorem dX3_add_59 : decode cX3_add 59 = .ok (.aload_n 0, 1) := by decide +kernel
theorem dX3_add_60 : decode cX3_add 60 = .ok (.getfield 9, 3) := by decide +kernel
theorem dX3_add_63 : decode cX3_add 63 = .ok (.iload_n 1, 1) := by decide +kernel
theorem dX3_add_64 : decode cX3_add 64 = .ok (.laload, 1) := by decide +kernel
theorem dX3_add_65 : decode cX3_add 65 = .ok (.ldc2_w 79, 3) := by decide +kernel
theorem dX3_add_68 : decode cX3_add 68 = .ok (.lcmp, 1) := by decide +kernel
theorem dX3_add_69 : decode cX3_add 69 = .ok (.ifCond .ne 7, 3) := by decide +kernel
theorem dX3_add_72 : decode cX3_add 72 = .ok (.iconst 0, 1) := by decide +kernel
theorem dX3_add_73 : decode cX3_add 73 = .ok (.goto 4, 3) := by decide +kernel
theorem dX3_add_76 : decode cX3_add 76 = .ok (.iconst 1, 1) := by decide +kernel
theorem dX3_add_77 : decode cX3_add 77 = .ok (.ireturn, 1) := by decide +kernel
set_option maxRecDepth 20000 in
theorem ggX3_times_X3_isSlot : GoodIn wsX3_times wsX3_isSlot := goodIn_r _ [7] (by decide +kernel) (by decide +kernel)
set_option maxRecDepth 20000 in
theorem gX3_times_X3_isSlot : GoodIn wsX3_times (va_wsS RX3 68 yX3_isSlot wsX3_isSlot) := goodIn_app (goodIn_of _ (by decide +kernel)) ggX3_times_X3_isSlot
set_option maxRecDepth 20000 in
theorem ggX3_times_X0_multiple : GoodIn wsX3_times wsX0_multiple := goodIn_r _ [12, 13, 14, 15, 16, 17, 18, 19, 20, 21, 22, 11, 23, 24, 25, 26, 27, 28, 29, 6, 30, 31, 32, 33, 34, 35, 36, 37, 38, 39, 40, 41, 42, 43, 44, 45, 46, 47, 48, 49, 50, 51, 52, 53, 54, 59, 60, 61, 62, 63, 64, 65] (by decide +kernel) (by decide +kernel)
set_option maxRecDepth 20000 in
theorem gX3_times_X0_multiple : GoodIn wsX3_times (wsV RX3 91 RX0 yX0_multiple wsX0_multiple) := goodIn_app (goodIn_of _ (by decide +kernel)) ggX3_times_X0_multiple
theorem dX3_times_0 : decode cX3_times 0 = .ok (.aload_n 0, 1) := by decide +kernel
theorem dX3_times_1 : decode cX3_times 1 = .ok (.getfield 33, 3) := by decide +kernel
theorem dX3_times_4 : decode cX3_times 4 = .ok (.ifnonnull 6, 3) := by decide +kernel
theorem dX3_times_7 : decode cX3_times 7 = .ok (.bipush (-3), 2) := by decide +kernel
theorem dX3_times_9 : decode cX3_times 9 = .ok (.ireturn, 1) := by decide +kernel
theorem dX3_times_10 : decode cX3_times 10 = .ok (.iload_n 1, 1) := by decide +kernel
theorem dX3_times_11 : decode cX3_times 11 = .ok (.invokestatic 68, 3) := by decide +kernel
theorem dX3_times_14 : decode cX3_times 14 = .ok (.ifCond .eq 10, 3) := by decide +kernel
theorem dX3_times_17 : decode cX3_times 17 = .ok (.iload_n 2, 1) := by decide +kernel
theorem dX3_times_18 : decode cX3_times 18 = .ok (.invokestatic 68, 3) := by decide +kernel
theorem dX3_times_21 : decode cX3_times 21 = .ok (.ifCond .ne 6, 3) := by decide +kernel
theorem dX3_times_24 : decode cX3_times 24 = .ok (.bipush (-2), 2) := by decide +kernel
theorem dX3_times_26 : decode cX3_times 26 = .ok (.ireturn, 1) := by decide +kernel
theorem dX3_times_27 : decode cX3_times 27 = .ok (.aload_n 0, 1) := by decide +kernel
theorem dX3_times_28 : decode cX3_times 28 = .ok (.getfield 9, 3) := by decide +kernel
theorem dX3_times_31 : decode cX3_times 31 = .ok (.iload_n 1, 1) := by decide +kernel
theorem dX3_times_32 : decode cX3_times 32 = .ok (.aload_n 0, 1) := by decide +kernel
theorem dX3_times_33 : decode cX3_times 33 = .ok (.getfield 33, 3) := by decide +kernel
theorem dX3_times_36 : decode cX3_times 36 = .ok (.lload_n 3, 1) := by decide +kernel
theorem dX3_times_37 : decode cX3_times 37 = .ok (.aload_n 0, 1) := by decide +kernel
theorem dX3_times_38 : decode cX3_times 38 = .ok (.getfield 9, 3) := by decide +kernel
theorem dX3_times_41 : decode cX3_times 41 = .ok (.iload_n 2, 1) := by decide +kernel
theorem dX3_times_42 : decode cX3_times 42 = .ok (.laload, 1) := by decide +kernel
theorem dX3_times_43 : decode cX3_times 43 = .ok (.invokevirtual 91, 3) := by decide +kernel
theorem dX3_times_46 : decode cX3_times 46 = .ok (.lastore, 1) := by decide +kernel
theorem dX3_times_47 : decode cX3_times 47 = .ok (.aload_n 0, 1) := by decide +kernel
theorem dX3_times_48 : decode cX3_times 48 = .ok (.getfield 9, 3) := by decide +kernel
theorem dX3_times_51 : decode cX3_times 51 = .ok (.iload_n 1, 1) := by decide +kernel
theorem dX3_times_52 : decode cX3_times 52 = .ok (.laload, 1) := by decide +kernel
theorem dX3_times_53 : decode cX3_times 53 = .ok (.ldc2_w 79, 3) := by decide +kernel
theorem dX3_times_56 : decode cX3_times 56 = .ok (.lcmp, 1) := by decide +kernel
theorem dX3_times_57 : decode cX3_times 57 = .ok (.ifCond .ne 7, 3) := by decide +kernel
theorem dX3_times_60 : decode cX3_times 60 = .ok (.iconst 0, 1) := by decide +kernel
theorem dX3_times_61 : decode cX3_times 61 = .ok (.goto 4, 3) := by decide +kernel
theorem dX3_times_64 : decode cX3_times 64 = .ok (.iconst 1, 1) := by decide +kernel
theorem dX3_times_65 : decode cX3_times 65 = .ok (.ireturn, 1) := by decide +kernel
set_option maxRecDepth 20000 in
theorem ggX3_at_X3_isSlot : GoodIn wsX3_at wsX3_isSlot := goodIn_r _ [7] (by decide +kernel) (by decide +kernel)
set_option maxRecDepth 20000 in
theorem gX3_at_X3_isSlot : GoodIn wsX3_at (va_wsS RX3 68 yX3_isSlot wsX3_isSlot) := goodIn_app (goodIn_of _ (by decide +kernel)) ggX3_at_X3_isSlot
set_option maxRecDepth 20000 in
theorem ggX3_at_X3_isHalf : GoodIn wsX3_at wsX3_isHalf := goodIn_r _ [10] (by decide +kernel) (by decide +kernel)
set_option maxRecDepth 20000 in
theorem gX3_at_X3_isHalf : GoodIn wsX3_at (va_wsS RX3 94 yX3_isHalf wsX3_isHalf) := goodIn_app (goodIn_of _ (by decide +kernel)) ggX3_at_X3_isHalf
set_option maxRecDepth 20000 in
theorem ggX3_at_X3_half : GoodIn wsX3_at wsX3_half := goodIn_r _ [13, 14, 15, 6, 16, 17, 18, 19, 20] (by decide +kernel) (by decide +kernel)
set_option maxRecDepth 20000 in
theorem gX3_at_X3_half : GoodIn wsX3_at (va_wsS RX3 97 yX3_half wsX3_half) := goodIn_app (goodIn_of _ (by decide +kernel)) ggX3_at_X3_half
theorem dX3_at_0 : decode cX3_at 0 = .ok (.aload_n 0, 1) := by decide +kernel
theorem dX3_at_1 : decode cX3_at 1 = .ok (.getfield 33, 3) := by decide +kernel
theorem dX3_at_4 : decode cX3_at 4 = .ok (.ifnonnull 6, 3) := by decide +kernel
theorem dX3_at_7 : decode cX3_at 7 = .ok (.bipush (-3), 2) := by decide +kernel
theorem dX3_at_9 : decode cX3_at 9 = .ok (.ireturn, 1) := by decide +kernel
theorem dX3_at_10 : decode cX3_at 10 = .ok (.iload_n 1, 1) := by decide +kernel
theorem dX3_at_11 : decode cX3_at 11 = .ok (.invokestatic 68, 3) := by decide +kernel
theorem dX3_at_14 : decode cX3_at 14 = .ok (.ifCond .eq 10, 3) := by decide +kernel
theorem dX3_at_17 : decode cX3_at 17 = .ok (.iload_n 2, 1) := by decide +kernel
theorem dX3_at_18 : decode cX3_at 18 = .ok (.invokestatic 94, 3) := by decide +kernel
theorem dX3_at_21 : decode cX3_at 21 = .ok (.ifCond .ne 6, 3) := by decide +kernel
theorem dX3_at_24 : decode cX3_at 24 = .ok (.bipush (-2), 2) := by decide +kernel
theorem dX3_at_26 : decode cX3_at 26 = .ok (.ireturn, 1) := by decide +kernel
theorem dX3_at_27 : decode cX3_at 27 = .ok (.aload_n 0, 1) := by decide +kernel
theorem dX3_at_28 : decode cX3_at 28 = .ok (.getfield 9, 3) := by decide +kernel
theorem dX3_at_31 : decode cX3_at 31 = .ok (.iload_n 1, 1) := by decide +kernel
theorem dX3_at_32 : decode cX3_at 32 = .ok (.laload, 1) := by decide +kernel
theorem dX3_at_33 : decode cX3_at 33 = .ok (.ldc2_w 79, 3) := by decide +kernel
theorem dX3_at_36 : decode cX3_at 36 = .ok (.lcmp, 1) := by decide +kernel
theorem dX3_at_37 : decode cX3_at 37 = .ok (.ifCond .ne 7, 3) := by decide +kernel
theorem dX3_at_40 : decode cX3_at 40 = .ok (.iconst (-1), 1) := by decide +kernel
theorem dX3_at_41 : decode cX3_at 41 = .ok (.goto 13, 3) := by decide +kernel
theorem dX3_at_44 : decode cX3_at 44 = .ok (.aload_n 0, 1) := by decide +kernel
theorem dX3_at_45 : decode cX3_at 45 = .ok (.getfield 9, 3) := by decide +kernel
theorem dX3_at_48 : decode cX3_at 48 = .ok (.iload_n 1, 1) := by decide +kernel
theorem dX3_at_49 : decode cX3_at 49 = .ok (.laload, 1) := by decide +kernel
theorem dX3_at_50 : decode cX3_at 50 = .ok (.iload_n 2, 1) := by decide +kernel
theorem dX3_at_51 : decode cX3_at 51 = .ok (.invokestatic 97, 3) := by decide +kernel
theorem dX3_at_54 : decode cX3_at 54 = .ok (.ireturn, 1) := by decide +kernel
set_option maxRecDepth 20000 in
theorem ggX3_order_X3_isSlot : GoodIn wsX3_order wsX3_isSlot := goodIn_r _ [6] (by decide +kernel) (by decide +kernel)
set_option maxRecDepth 20000 in
theorem gX3_order_X3_isSlot : GoodIn wsX3_order (va_wsS RX3 68 yX3_isSlot wsX3_isSlot) := goodIn_app (goodIn_of _ (by decide +kernel)) ggX3_order_X3_isSlot
set_option maxRecDepth 20000 in
theorem ggX3_order_X0_orderOf : GoodIn wsX3_order wsX0_orderOf := goodIn_r _ [11, 12, 13, 14, 15, 16, 10, 17, 18, 19, 20, 21, 22, 23, 24, 25, 26, 27, 28, 29, 30, 31, 32, 33, 34, 35, 36, 5, 37, 38, 39, 40, 41, 42, 43, 44, 45, 46, 47, 48, 49, 50, 51, 52, 53, 54, 55, 56, 57, 58, 59, 60, 61, 66, 67, 68, 69, 70, 71, 72] (by decide +kernel) (by decide +kernel)
set_option maxRecDepth 20000 in
theorem gX3_order_X0_orderOf : GoodIn wsX3_order (wsV RX3 101 RX0 yX0_orderOf wsX0_orderOf) := goodIn_app (goodIn_of _ (by decide +kernel)) ggX3_order_X0_orderOf
theorem dX3_order_0 : decode cX3_order 0 = .ok (.aload_n 0, 1) := by decide +kernel
theorem dX3_order_1 : decode cX3_order 1 = .ok (.getfield 33, 3) := by decide +kernel
theorem dX3_order_4 : decode cX3_order 4 = .ok (.ifnonnull 6, 3) := by decide +kernel
theorem dX3_order_7 : decode cX3_order 7 = .ok (.bipush (-3), 2) := by decide +kernel
theorem dX3_order_9 : decode cX3_order 9 = .ok (.ireturn, 1) := by decide +kernel
theorem dX3_order_10 : decode cX3_order 10 = .ok (.iload_n 1, 1) := by decide +kernel
theorem dX3_order_11 : decode cX3_order 11 = .ok (.invokestatic 68, 3) := by decide +kernel
theorem dX3_order_14 : decode cX3_order 14 = .ok (.ifCond .ne 6, 3) := by decide +kernel
theorem dX3_order_17 : decode cX3_order 17 = .ok (.bipush (-2), 2) := by decide +kernel
theorem dX3_order_19 : decode cX3_order 19 = .ok (.ireturn, 1) := by decide +kernel
theorem dX3_order_20 : decode cX3_order 20 = .ok (.aload_n 0, 1) := by decide +kernel
theorem dX3_order_21 : decode cX3_order 21 = .ok (.getfield 33, 3) := by decide +kernel
theorem dX3_order_24 : decode cX3_order 24 = .ok (.aload_n 0, 1) := by decide +kernel
theorem dX3_order_25 : decode cX3_order 25 = .ok (.getfield 9, 3) := by decide +kernel
theorem dX3_order_28 : decode cX3_order 28 = .ok (.iload_n 1, 1) := by decide +kernel
theorem dX3_order_29 : decode cX3_order 29 = .ok (.laload, 1) := by decide +kernel
theorem dX3_order_30 : decode cX3_order 30 = .ok (.invokevirtual 101, 3) := by decide +kernel
theorem dX3_order_33 : decode cX3_order 33 = .ok (.l2i, 1) := by decide +kernel
theorem dX3_order_34 : decode cX3_order 34 = .ok (.ireturn, 1) := by decide +kernel
set_option maxRecDepth 20000 in
theorem ggX3_write_X3_isSlot : GoodIn wsX3_write wsX3_isSlot := goodIn_r _ [8] (by decide +kernel) (by decide +kernel)
set_option maxRecDepth 20000 in
theorem gX3_write_X3_isSlot : GoodIn wsX3_write (va_wsS RX3 68 yX3_isSlot wsX3_isSlot) := goodIn_app (goodIn_of _ (by decide +kernel)) ggX3_write_X3_isSlot
set_option maxRecDepth 20000 in
theorem ggX3_write_X3_written : GoodIn wsX3_write wsX3_written := goodIn_r _ [11, 12, 13, 14, 15, 7, 16, 17, 18, 19, 20] (by decide +kernel) (by decide +kernel)
set_option maxRecDepth 20000 in
theorem gX3_write_X3_written : GoodIn wsX3_write (va_wsS RX3 108 yX3_written wsX3_written) := goodIn_app (goodIn_of _ (by decide +kernel)) ggX3_write_X3_written
theorem dX3_write_0 : decode cX3_write 0 = .ok (.aload_n 0, 1) := by decide +kernel
theorem dX3_write_1 : decode cX3_write 1 = .ok (.getfield 33, 3) := by decide +kernel
theorem dX3_write_4 : decode cX3_write 4 = .ok (.ifnonnull 7, 3) := by decide +kernel
theorem dX3_write_7 : decode cX3_write 7 = .ok (.ldc2_w 104, 3) := by decide +kernel
theorem dX3_write_10 : decode cX3_write 10 = .ok (.lreturn, 1) := by decide +kernel
theorem dX3_write_11 : decode cX3_write 11 = .ok (.iload_n 1, 1) := by decide +kernel
theorem dX3_write_12 : decode cX3_write 12 = .ok (.invokestatic 68, 3) := by decide +kernel
theorem dX3_write_15 : decode cX3_write 15 = .ok (.ifCond .ne 7, 3) := by decide +kernel
theorem dX3_write_18 : decode cX3_write 18 = .ok (.ldc2_w 106, 3) := by decide +kernel
theorem dX3_write_21 : decode cX3_write 21 = .ok (.lreturn, 1) := by decide +kernel
theorem dX3_write_22 : decode cX3_write 22 = .ok (.aload_n 0, 1) := by decide +kernel
theorem dX3_write_23 : decode cX3_write 23 = .ok (.getfield 9, 3) := by decide +kernel
theorem dX3_write_26 : decode cX3_write 26 = .ok (.iload_n 1, 1) := by decide +kernel
theorem dX3_write_27 : decode cX3_write 27 = .ok (.laload, 1) := by decide +kernel
theorem dX3_write_28 : decode cX3_write 28 = .ok (.invokestatic 108, 3) := by decide +kernel
theorem dX3_write_31 : decode cX3_write 31 = .ok (.lreturn, 1) := by decide +kernel
set_option maxRecDepth 20000 in
theorem ggX3_read_X3_isSlot : GoodIn wsX3_read wsX3_isSlot := goodIn_r _ [7] (by decide +kernel) (by decide +kernel)
set_option maxRecDepth 20000 in
theorem gX3_read_X3_isSlot : GoodIn wsX3_read (va_wsS RX3 68 yX3_isSlot wsX3_isSlot) := goodIn_app (goodIn_of _ (by decide +kernel)) ggX3_read_X3_isSlot
set_option maxRecDepth 20000 in
theorem ggX3_read_X0_pointWritten : GoodIn wsX3_read wsX0_pointWritten := goodIn_r _ [12, 13, 14, 15, 16, 17, 18, 19, 20, 11, 21, 22, 23, 24, 25, 26, 27, 28, 29, 30, 31, 32, 33, 34, 35, 36, 6, 37, 42, 43, 44, 45, 46, 47, 48] (by decide +kernel) (by decide +kernel)
set_option maxRecDepth 20000 in
theorem gX3_read_X0_pointWritten : GoodIn wsX3_read (wsV RX3 111 RX0 yX0_pointWritten wsX0_pointWritten) := goodIn_app (goodIn_of _ (by decide +kernel)) ggX3_read_X0_pointWritten
theorem dX3_read_0 : decode cX3_read 0 = .ok (.aload_n 0, 1) := by decide +kernel
theorem dX3_read_1 : decode cX3_read 1 = .ok (.getfield 33, 3) := by decide +kernel
theorem dX3_read_4 : decode cX3_read 4 = .ok (.ifnonnull 6, 3) := by decide +kernel
theorem dX3_read_7 : decode cX3_read 7 = .ok (.bipush (-3), 2) := by decide +kernel
theorem dX3_read_9 : decode cX3_read 9 = .ok (.ireturn, 1) := by decide +kernel
theorem dX3_read_10 : decode cX3_read 10 = .ok (.iload_n 1, 1) := by decide +kernel
theorem dX3_read_11 : decode cX3_read 11 = .ok (.invokestatic 68, 3) := by decide +kernel
theorem dX3_read_14 : decode cX3_read 14 = .ok (.ifCond .ne 6, 3) := by decide +kernel
theorem dX3_read_17 : decode cX3_read 17 = .ok (.bipush (-2), 2) := by decide +kernel
theorem dX3_read_19 : decode cX3_read 19 = .ok (.ireturn, 1) := by decide +kernel
theorem dX3_read_20 : decode cX3_read 20 = .ok (.aload_n 0, 1) := by decide +kernel
theorem dX3_read_21 : decode cX3_read 21 = .ok (.getfield 33, 3) := by decide +kernel
theorem dX3_read_24 : decode cX3_read 24 = .ok (.lload_n 2, 1) := by decide +kernel
theorem dX3_read_25 : decode cX3_read 25 = .ok (.invokevirtual 111, 3) := by decide +kernel
theorem dX3_read_28 : decode cX3_read 28 = .ok (.lstore 4, 2) := by decide +kernel
theorem dX3_read_30 : decode cX3_read 30 = .ok (.lload 4, 2) := by decide +kernel
theorem dX3_read_32 : decode cX3_read 32 = .ok (.ldc2_w 106, 3) := by decide +kernel
theorem dX3_read_35 : decode cX3_read 35 = .ok (.lcmp, 1) := by decide +kernel
theorem dX3_read_36 : decode cX3_read 36 = .ok (.ifCond .ne 5, 3) := by decide +kernel
theorem dX3_read_39 : decode cX3_read 39 = .ok (.iconst (-1), 1) := by decide +kernel
theorem dX3_read_40 : decode cX3_read 40 = .ok (.ireturn, 1) := by decide +kernel
theorem dX3_read_41 : decode cX3_read 41 = .ok (.aload_n 0, 1) := by decide +kernel
theorem dX3_read_42 : decode cX3_read 42 = .ok (.getfield 9, 3) := by decide +kernel
theorem dX3_read_45 : decode cX3_read 45 = .ok (.iload_n 1, 1) := by decide +kernel
theorem dX3_read_46 : decode cX3_read 46 = .ok (.lload 4, 2) := by decide +kernel
theorem dX3_read_48 : decode cX3_read 48 = .ok (.lastore, 1) := by decide +kernel
theorem dX3_read_49 : decode cX3_read 49 = .ok (.iconst 1, 1) := by decide +kernel
theorem dX3_read_50 : decode cX3_read 50 = .ok (.ireturn, 1) := by decide +kernel
set_option maxRecDepth 20000 in
theorem ggX3_pair_X3_isValue : GoodIn wsX3_pair wsX3_isValue := goodIn_r _ [7] (by decide +kernel) (by decide +kernel)
set_option maxRecDepth 20000 in
theorem gX3_pair_X3_isValue : GoodIn wsX3_pair (va_wsS RX3 114 yX3_isValue wsX3_isValue) := goodIn_app (goodIn_of _ (by decide +kernel)) ggX3_pair_X3_isValue
set_option maxRecDepth 20000 in
theorem ggX3_pair_X3_isSlot : GoodIn wsX3_pair wsX3_isSlot := goodIn_r _ [10] (by decide +kernel) (by decide +kernel)
set_option maxRecDepth 20000 in
theorem gX3_pair_X3_isSlot : GoodIn wsX3_pair (va_wsS RX3 68 yX3_isSlot wsX3_isSlot) := goodIn_app (goodIn_of _ (by decide +kernel)) ggX3_pair_X3_isSlot
set_option maxRecDepth 20000 in
theorem ggX3_pair_X1_takes : GoodIn wsX3_pair wsX1_takes := goodIn_r _ [15, 16, 17, 18, 19, 20, 21, 22, 23, 24, 25, 26, 27, 28, 29, 30, 31, 32, 33, 34, 35, 36, 37, 38, 39, 40, 6, 41, 42, 43, 44, 45, 46, 47, 48, 49, 50, 51, 52, 53, 54, 55, 56, 57, 58, 59, 60, 61, 62, 63, 64, 65, 119, 120, 121, 122, 123, 124, 125, 126, 127, 128] (by decide +kernel) (by decide +kernel)
set_option maxRecDepth 20000 in
theorem gX3_pair_X1_takes : GoodIn wsX3_pair (wsV RX3 117 RX1 yX1_takes wsX1_takes) := goodIn_app (goodIn_of _ (by decide +kernel)) ggX3_pair_X1_takes
set_option maxRecDepth 20000 in
theorem ggX3_pair_X1_of : GoodIn wsX3_pair wsX1_of := goodIn_r _ [69, 18, 70, 16, 17, 71, 72, 73, 74, 14, 75, 76, 77, 78, 79, 80, 81, 82, 83, 84, 85, 86, 87, 88, 40, 6, 41, 42, 43, 44, 89, 28, 29, 30, 64, 65, 90, 91, 92, 93, 94, 95, 61, 62, 53, 63, 55, 96, 37, 38, 22, 39, 25, 97, 46, 47, 48, 49, 35, 26, 50, 51, 52, 54, 56, 57, 58, 59, 60, 98, 99, 32, 33, 34, 24, 36, 45, 100, 101, 102, 103, 104, 119, 120, 121, 122, 123, 124, 125, 126, 127, 128] (by decide +kernel) (by decide +kernel)
set_option maxRecDepth 20000 in
theorem gX3_pair_X1_of : GoodIn wsX3_pair (wsV RX3 121 RX1 yX1_of wsX1_of) := goodIn_app (goodIn_of _ (by decide +kernel)) ggX3_pair_X1_of
set_option maxRecDepth 20000 in
theorem ggX3_pair_X1_linesOf : GoodIn wsX3_pair wsX1_linesOf := goodIn_r _ [108, 18, 17, 72, 73, 74, 14, 75, 76, 77, 78, 79, 80, 81, 82, 83, 84, 109, 110, 111, 112, 113, 114, 119, 120, 121] (by decide +kernel) (by decide +kernel)
set_option maxRecDepth 20000 in
theorem gX3_pair_X1_linesOf : GoodIn wsX3_pair (wsV RX3 124 RX1 yX1_linesOf wsX1_linesOf) := goodIn_app (goodIn_of _ (by decide +kernel)) ggX3_pair_X1_linesOf
theorem dX3_pair_0 : decode cX3_pair 0 = .ok (.aload_n 0, 1) := by decide +kernel
theorem dX3_pair_1 : decode cX3_pair 1 = .ok (.getfield 42, 3) := by decide +kernel
theorem dX3_pair_4 : decode cX3_pair 4 = .ok (.ifnonnull 6, 3) := by decide +kernel
theorem dX3_pair_7 : decode cX3_pair 7 = .ok (.bipush (-3), 2) := by decide +kernel
theorem dX3_pair_9 : decode cX3_pair 9 = .ok (.ireturn, 1) := by decide +kernel
theorem dX3_pair_10 : decode cX3_pair 10 = .ok (.iload_n 1, 1) := by decide +kernel
theorem dX3_pair_11 : decode cX3_pair 11 = .ok (.invokestatic 114, 3) := by decide +kernel
theorem dX3_pair_14 : decode cX3_pair 14 = .ok (.ifCond .eq 17, 3) := by decide +kernel
theorem dX3_pair_17 : decode cX3_pair 17 = .ok (.iload_n 2, 1) := by decide +kernel
theorem dX3_pair_18 : decode cX3_pair 18 = .ok (.invokestatic 68, 3) := by decide +kernel
theorem dX3_pair_21 : decode cX3_pair 21 = .ok (.ifCond .eq 10, 3) := by decide +kernel
theorem dX3_pair_24 : decode cX3_pair 24 = .ok (.iload_n 3, 1) := by decide +kernel
theorem dX3_pair_25 : decode cX3_pair 25 = .ok (.invokestatic 68, 3) := by decide +kernel
theorem dX3_pair_28 : decode cX3_pair 28 = .ok (.ifCond .ne 6, 3) := by decide +kernel
theorem dX3_pair_31 : decode cX3_pair 31 = .ok (.bipush (-2), 2) := by decide +kernel
theorem dX3_pair_33 : decode cX3_pair 33 = .ok (.ireturn, 1) := by decide +kernel
theorem dX3_pair_34 : decode cX3_pair 34 = .ok (.aload_n 0, 1) := by decide +kernel
theorem dX3_pair_35 : decode cX3_pair 35 = .ok (.getfield 42, 3) := by decide +kernel
theorem dX3_pair_38 : decode cX3_pair 38 = .ok (.aload_n 0, 1) := by decide +kernel
theorem dX3_pair_39 : decode cX3_pair 39 = .ok (.getfield 9, 3) := by decide +kernel
theorem dX3_pair_42 : decode cX3_pair 42 = .ok (.iload_n 2, 1) := by decide +kernel
theorem dX3_pair_43 : decode cX3_pair 43 = .ok (.laload, 1) := by decide +kernel
theorem dX3_pair_44 : decode cX3_pair 44 = .ok (.invokevirtual 117, 3) := by decide +kernel
theorem dX3_pair_47 : decode cX3_pair 47 = .ok (.ifCond .eq 19, 3) := by decide +kernel
theorem dX3_pair_50 : decode cX3_pair 50 = .ok (.aload_n 0, 1) := by decide +kernel
theorem dX3_pair_51 : decode cX3_pair 51 = .ok (.getfield 42, 3) := by decide +kernel
theorem dX3_pair_54 : decode cX3_pair 54 = .ok (.aload_n 0, 1) := by decide +kernel
theorem dX3_pair_55 : decode cX3_pair 55 = .ok (.getfield 9, 3) := by decide +kernel
theorem dX3_pair_58 : decode cX3_pair 58 = .ok (.iload_n 3, 1) := by decide +kernel
theorem dX3_pair_59 : decode cX3_pair 59 = .ok (.laload, 1) := by decide +kernel
theorem dX3_pair_60 : decode cX3_pair 60 = .ok (.invokevirtual 117, 3) := by decide +kernel
theorem dX3_pair_63 : decode cX3_pair 63 = .ok (.ifCond .ne 5, 3) := by decide +kernel
theorem dX3_pair_66 : decode cX3_pair 66 = .ok (.iconst (-1), 1) := by decide +kernel
theorem dX3_pair_67 : decode cX3_pair 67 = .ok (.ireturn, 1) := by decide +kernel
theorem dX3_pair_68 : decode cX3_pair 68 = .ok (.aload_n 0, 1) := by decide +kernel
theorem dX3_pair_69 : decode cX3_pair 69 = .ok (.getfield 13, 3) := by decide +kernel
theorem dX3_pair_72 : decode cX3_pair 72 = .ok (.iload_n 1, 1) := by decide +kernel
theorem dX3_pair_73 : decode cX3_pair 73 = .ok (.aload_n 0, 1) := by decide +kernel
theorem dX3_pair_74 : decode cX3_pair 74 = .ok (.getfield 42, 3) := by decide +kernel
theorem dX3_pair_77 : decode cX3_pair 77 = .ok (.aload_n 0, 1) := by decide +kernel
theorem dX3_pair_78 : decode cX3_pair 78 = .ok (.getfield 9, 3) := by decide +kernel
theorem dX3_pair_81 : decode cX3_pair 81 = .ok (.iload_n 2, 1) := by decide +kernel
theorem dX3_pair_82 : decode cX3_pair 82 = .ok (.laload, 1) := by decide +kernel
theorem dX3_pair_83 : decode cX3_pair 83 = .ok (.aload_n 0, 1) := by decide +kernel
theorem dX3_pair_84 : decode cX3_pair 84 = .ok (.getfield 9, 3) := by decide +kernel
theorem dX3_pair_87 : decode cX3_pair 87 = .ok (.iload_n 3, 1) := by decide +kernel
theorem dX3_pair_88 : decode cX3_pair 88 = .ok (.laload, 1) := by decide +kernel
theorem dX3_pair_89 : decode cX3_pair 89 = .ok (.invokevirtual 121, 3) := by decide +kernel
theorem dX3_pair_92 : decode cX3_pair 92 = .ok (.lastore, 1) := by decide +kernel
theorem dX3_pair_93 : decode cX3_pair 93 = .ok (.aload_n 0, 1) := by decide +kernel
theorem dX3_pair_94 : decode cX3_pair 94 = .ok (.getfield 42, 3) := by decide +kernel
theorem dX3_pair_97 : decode cX3_pair 97 = .ok (.aload_n 0, 1) := by decide +kernel
theorem dX3_pair_98 : decode cX3_pair 98 = .ok (.getfield 9, 3) := by decide +kernel
theorem dX3_pair_101 : decode cX3_pair 101 = .ok (.iload_n 2, 1) := by decide +kernel
theorem dX3_pair_102 : decode cX3_pair 102 = .ok (.laload, 1) := by decide +kernel
theorem dX3_pair_103 : decode cX3_pair 103 = .ok (.aload_n 0, 1) := by decide +kernel
theorem dX3_pair_104 : decode cX3_pair 104 = .ok (.getfield 9, 3) := by decide +kernel
theorem dX3_pair_107 : decode cX3_pair 107 = .ok (.iload_n 3, 1) := by decide +kernel
theorem dX3_pair_108 : decode cX3_pair 108 = .ok (.laload, 1) := by decide +kernel
theorem dX3_pair_109 : decode cX3_pair 109 = .ok (.invokevirtual 124, 3) := by decide +kernel
theorem dX3_pair_112 : decode cX3_pair 112 = .ok (.ireturn, 1) := by decide +kernel
set_option maxRecDepth 20000 in
theorem ggX3_multiply_X3_isValue : GoodIn wsX3_multiply wsX3_isValue := goodIn_r _ [7] (by decide +kernel) (by decide +kernel)
set_option maxRecDepth 20000 in
theorem gX3_multiply_X3_isValue : GoodIn wsX3_multiply (va_wsS RX3 114 yX3_isValue wsX3_isValue) := goodIn_app (goodIn_of _ (by decide +kernel)) ggX3_multiply_X3_isValue
set_option maxRecDepth 20000 in
theorem ggX3_multiply_X1_product : GoodIn wsX3_multiply wsX1_product := goodIn_r _ [12, 13, 14, 6, 15, 16, 17, 18, 19, 20, 21, 22, 23, 24, 29, 30, 31] (by decide +kernel) (by decide +kernel)
set_option maxRecDepth 20000 in
theorem gX3_multiply_X1_product : GoodIn wsX3_multiply (wsV RX3 128 RX1 yX1_product wsX1_product) := goodIn_app (goodIn_of _ (by decide +kernel)) ggX3_multiply_X1_product
theorem dX3_multiply_0 : decode cX3_multiply 0 = .ok (.aload_n 0, 1) := by decide +kernel
theorem dX3_multiply_1 : decode cX3_multiply 1 = .ok (.getfield 42, 3) := by decide +kernel
theorem dX3_multiply_4 : decode cX3_multiply 4 = .ok (.ifnonnull 6, 3) := by decide +kernel
theorem dX3_multiply_7 : decode cX3_multiply 7 = .ok (.bipush (-3), 2) := by decide +kernel
theorem dX3_multiply_9 : decode cX3_multiply 9 = .ok (.ireturn, 1) := by decide +kernel
theorem dX3_multiply_10 : decode cX3_multiply 10 = .ok (.iload_n 1, 1) := by decide +kernel
theorem dX3_multiply_11 : decode cX3_multiply 11 = .ok (.invokestatic 114, 3) := by decide +kernel
theorem dX3_multiply_14 : decode cX3_multiply 14 = .ok (.ifCond .eq 17, 3) := by decide +kernel
theorem dX3_multiply_17 : decode cX3_multiply 17 = .ok (.iload_n 2, 1) := by decide +kernel
theorem dX3_multiply_18 : decode cX3_multiply 18 = .ok (.invokestatic 114, 3) := by decide +kernel
theorem dX3_multiply_21 : decode cX3_multiply 21 = .ok (.ifCond .eq 10, 3) := by decide +kernel
theorem dX3_multiply_24 : decode cX3_multiply 24 = .ok (.iload_n 3, 1) := by decide +kernel
theorem dX3_multiply_25 : decode cX3_multiply 25 = .ok (.invokestatic 114, 3) := by decide +kernel
theorem dX3_multiply_28 : decode cX3_multiply 28 = .ok (.ifCond .ne 6, 3) := by decide +kernel
theorem dX3_multiply_31 : decode cX3_multiply 31 = .ok (.bipush (-2), 2) := by decide +kernel
theorem dX3_multiply_33 : decode cX3_multiply 33 = .ok (.ireturn, 1) := by decide +kernel
theorem dX3_multiply_34 : decode cX3_multiply 34 = .ok (.aload_n 0, 1) := by decide +kernel
theorem dX3_multiply_35 : decode cX3_multiply 35 = .ok (.getfield 13, 3) := by decide +kernel
theorem dX3_multiply_38 : decode cX3_multiply 38 = .ok (.iload_n 1, 1) := by decide +kernel
theorem dX3_multiply_39 : decode cX3_multiply 39 = .ok (.aload_n 0, 1) := by decide +kernel
theorem dX3_multiply_40 : decode cX3_multiply 40 = .ok (.getfield 42, 3) := by decide +kernel
theorem dX3_multiply_43 : decode cX3_multiply 43 = .ok (.aload_n 0, 1) := by decide +kernel
theorem dX3_multiply_44 : decode cX3_multiply 44 = .ok (.getfield 13, 3) := by decide +kernel
theorem dX3_multiply_47 : decode cX3_multiply 47 = .ok (.iload_n 2, 1) := by decide +kernel
theorem dX3_multiply_48 : decode cX3_multiply 48 = .ok (.laload, 1) := by decide +kernel
theorem dX3_multiply_49 : decode cX3_multiply 49 = .ok (.aload_n 0, 1) := by decide +kernel
theorem dX3_multiply_50 : decode cX3_multiply 50 = .ok (.getfield 13, 3) := by decide +kernel
theorem dX3_multiply_53 : decode cX3_multiply 53 = .ok (.iload_n 3, 1) := by decide +kernel
theorem dX3_multiply_54 : decode cX3_multiply 54 = .ok (.laload, 1) := by decide +kernel
theorem dX3_multiply_55 : decode cX3_multiply 55 = .ok (.invokevirtual 128, 3) := by decide +kernel
theorem dX3_multiply_58 : decode cX3_multiply 58 = .ok (.lastore, 1) := by decide +kernel
theorem dX3_multiply_59 : decode cX3_multiply 59 = .ok (.aload_n 0, 1) := by decide +kernel
theorem dX3_multiply_60 : decode cX3_multiply 60 = .ok (.getfield 13, 3) := by decide +kernel
theorem dX3_multiply_63 : decode cX3_multiply 63 = .ok (.iload_n 1, 1) := by decide +kernel
theorem dX3_multiply_64 : decode cX3_multiply 64 = .ok (.laload, 1) := by decide +kernel
theorem dX3_multiply_65 : decode cX3_multiply 65 = .ok (.ldc2_w 131, 3) := by decide +kernel
theorem dX3_multiply_68 : decode cX3_multiply 68 = .ok (.lcmp, 1) := by decide +kernel
theorem dX3_multiply_69 : decode cX3_multiply 69 = .ok (.ifCond .ne 7, 3) := by decide +kernel
theorem dX3_multiply_72 : decode cX3_multiply 72 = .ok (.iconst 1, 1) := by decide +kernel
theorem dX3_multiply_73 : decode cX3_multiply 73 = .ok (.goto 4, 3) := by decide +kernel
theorem dX3_multiply_76 : decode cX3_multiply 76 = .ok (.iconst 0, 1) := by decide +kernel
theorem dX3_multiply_77 : decode cX3_multiply 77 = .ok (.ireturn, 1) := by decide +kernel
set_option maxRecDepth 20000 in
theorem ggX3_power_X3_isValue : GoodIn wsX3_power wsX3_isValue := goodIn_r _ [7] (by decide +kernel) (by decide +kernel)
set_option maxRecDepth 20000 in
theorem gX3_power_X3_isValue : GoodIn wsX3_power (va_wsS RX3 114 yX3_isValue wsX3_isValue) := goodIn_app (goodIn_of _ (by decide +kernel)) ggX3_power_X3_isValue
set_option maxRecDepth 20000 in
theorem ggX3_power_X1_raised : GoodIn wsX3_power wsX1_raised := goodIn_r _ [12, 13, 14, 15, 16, 17, 11, 18, 19, 20, 6, 21, 22, 23, 24, 25, 26, 27, 28, 29, 30, 35, 36, 37] (by decide +kernel) (by decide +kernel)
set_option maxRecDepth 20000 in
theorem gX3_power_X1_raised : GoodIn wsX3_power (wsV RX3 133 RX1 yX1_raised wsX1_raised) := goodIn_app (goodIn_of _ (by decide +kernel)) ggX3_power_X1_raised
theorem dX3_power_0 : decode cX3_power 0 = .ok (.aload_n 0, 1) := by decide +kernel
theorem dX3_power_1 : decode cX3_power 1 = .ok (.getfield 42, 3) := by decide +kernel
theorem dX3_power_4 : decode cX3_power 4 = .ok (.ifnonnull 6, 3) := by decide +kernel
theorem dX3_power_7 : decode cX3_power 7 = .ok (.bipush (-3), 2) := by decide +kernel
theorem dX3_power_9 : decode cX3_power 9 = .ok (.ireturn, 1) := by decide +kernel
theorem dX3_power_10 : decode cX3_power 10 = .ok (.iload_n 1, 1) := by decide +kernel
theorem dX3_power_11 : decode cX3_power 11 = .ok (.invokestatic 114, 3) := by decide +kernel
theorem dX3_power_14 : decode cX3_power 14 = .ok (.ifCond .eq 16, 3) := by decide +kernel
theorem dX3_power_17 : decode cX3_power 17 = .ok (.iload_n 2, 1) := by decide +kernel
theorem dX3_power_18 : decode cX3_power 18 = .ok (.invokestatic 114, 3) := by decide +kernel
theorem dX3_power_21 : decode cX3_power 21 = .ok (.ifCond .eq 9, 3) := by decide +kernel
theorem dX3_power_24 : decode cX3_power 24 = .ok (.lload_n 3, 1) := by decide +kernel
theorem dX3_power_25 : decode cX3_power 25 = .ok (.lconst 0, 1) := by decide +kernel
theorem dX3_power_26 : decode cX3_power 26 = .ok (.lcmp, 1) := by decide +kernel
theorem dX3_power_27 : decode cX3_power 27 = .ok (.ifCond .ge 6, 3) := by decide +kernel
theorem dX3_power_30 : decode cX3_power 30 = .ok (.bipush (-2), 2) := by decide +kernel
theorem dX3_power_32 : decode cX3_power 32 = .ok (.ireturn, 1) := by decide +kernel
theorem dX3_power_33 : decode cX3_power 33 = .ok (.aload_n 0, 1) := by decide +kernel
theorem dX3_power_34 : decode cX3_power 34 = .ok (.getfield 13, 3) := by decide +kernel
theorem dX3_power_37 : decode cX3_power 37 = .ok (.iload_n 1, 1) := by decide +kernel
theorem dX3_power_38 : decode cX3_power 38 = .ok (.aload_n 0, 1) := by decide +kernel
theorem dX3_power_39 : decode cX3_power 39 = .ok (.getfield 42, 3) := by decide +kernel
theorem dX3_power_42 : decode cX3_power 42 = .ok (.aload_n 0, 1) := by decide +kernel
theorem dX3_power_43 : decode cX3_power 43 = .ok (.getfield 13, 3) := by decide +kernel
theorem dX3_power_46 : decode cX3_power 46 = .ok (.iload_n 2, 1) := by decide +kernel
theorem dX3_power_47 : decode cX3_power 47 = .ok (.laload, 1) := by decide +kernel
theorem dX3_power_48 : decode cX3_power 48 = .ok (.lload_n 3, 1) := by decide +kernel
theorem dX3_power_49 : decode cX3_power 49 = .ok (.invokevirtual 133, 3) := by decide +kernel
theorem dX3_power_52 : decode cX3_power 52 = .ok (.lastore, 1) := by decide +kernel
theorem dX3_power_53 : decode cX3_power 53 = .ok (.aload_n 0, 1) := by decide +kernel
theorem dX3_power_54 : decode cX3_power 54 = .ok (.getfield 13, 3) := by decide +kernel
theorem dX3_power_57 : decode cX3_power 57 = .ok (.iload_n 1, 1) := by decide +kernel
theorem dX3_power_58 : decode cX3_power 58 = .ok (.laload, 1) := by decide +kernel
theorem dX3_power_59 : decode cX3_power 59 = .ok (.ldc2_w 131, 3) := by decide +kernel
theorem dX3_power_62 : decode cX3_power 62 = .ok (.lcmp, 1) := by decide +kernel
theorem dX3_power_63 : decode cX3_power 63 = .ok (.ifCond .ne 7, 3) := by decide +kernel
theorem dX3_power_66 : decode cX3_power 66 = .ok (.iconst 1, 1) := by decide +kernel
theorem dX3_power_67 : decode cX3_power 67 = .ok (.goto 4, 3) := by decide +kernel
theorem dX3_power_70 : decode cX3_power 70 = .ok (.iconst 0, 1) := by decide +kernel
theorem dX3_power_71 : decode cX3_power 71 = .ok (.ireturn, 1) := by decide +kernel
set_option maxRecDepth 20000 in
theorem ggX3_value_X3_isValue : GoodIn wsX3_value wsX3_isValue := goodIn_r _ [6] (by decide +kernel) (by decide +kernel)
set_option maxRecDepth 20000 in
theorem gX3_value_X3_isValue : GoodIn wsX3_value (va_wsS RX3 114 yX3_isValue wsX3_isValue) := goodIn_app (goodIn_of _ (by decide +kernel)) ggX3_value_X3_isValue
set_option maxRecDepth 20000 in
theorem ggX3_value_X3_isHalf : GoodIn wsX3_value wsX3_isHalf := goodIn_r _ [9] (by decide +kernel) (by decide +kernel)
set_option maxRecDepth 20000 in
theorem gX3_value_X3_isHalf : GoodIn wsX3_value (va_wsS RX3 94 yX3_isHalf wsX3_isHalf) := goodIn_app (goodIn_of _ (by decide +kernel)) ggX3_value_X3_isHalf
set_option maxRecDepth 20000 in
theorem ggX3_value_X3_half : GoodIn wsX3_value wsX3_half := goodIn_r _ [12, 13, 14, 5, 15, 16, 17, 18, 19] (by decide +kernel) (by decide +kernel)
set_option maxRecDepth 20000 in
theorem gX3_value_X3_half : GoodIn wsX3_value (va_wsS RX3 97 yX3_half wsX3_half) := goodIn_app (goodIn_of _ (by decide +kernel)) ggX3_value_X3_half
theorem dX3_value_0 : decode cX3_value 0 = .ok (.aload_n 0, 1) := by decide +kernel
theorem dX3_value_1 : decode cX3_value 1 = .ok (.getfield 42, 3) := by decide +kernel
theorem dX3_value_4 : decode cX3_value 4 = .ok (.ifnonnull 6, 3) := by decide +kernel
theorem dX3_value_7 : decode cX3_value 7 = .ok (.bipush (-3), 2) := by decide +kernel
theorem dX3_value_9 : decode cX3_value 9 = .ok (.ireturn, 1) := by decide +kernel
theorem dX3_value_10 : decode cX3_value 10 = .ok (.iload_n 1, 1) := by decide +kernel
theorem dX3_value_11 : decode cX3_value 11 = .ok (.invokestatic 114, 3) := by decide +kernel
theorem dX3_value_14 : decode cX3_value 14 = .ok (.ifCond .eq 10, 3) := by decide +kernel
theorem dX3_value_17 : decode cX3_value 17 = .ok (.iload_n 2, 1) := by decide +kernel
theorem dX3_value_18 : decode cX3_value 18 = .ok (.invokestatic 94, 3) := by decide +kernel
theorem dX3_value_21 : decode cX3_value 21 = .ok (.ifCond .ne 6, 3) := by decide +kernel
theorem dX3_value_24 : decode cX3_value 24 = .ok (.bipush (-2), 2) := by decide +kernel
theorem dX3_value_26 : decode cX3_value 26 = .ok (.ireturn, 1) := by decide +kernel
theorem dX3_value_27 : decode cX3_value 27 = .ok (.aload_n 0, 1) := by decide +kernel
theorem dX3_value_28 : decode cX3_value 28 = .ok (.getfield 13, 3) := by decide +kernel
theorem dX3_value_31 : decode cX3_value 31 = .ok (.iload_n 1, 1) := by decide +kernel
theorem dX3_value_32 : decode cX3_value 32 = .ok (.laload, 1) := by decide +kernel
theorem dX3_value_33 : decode cX3_value 33 = .ok (.iload_n 2, 1) := by decide +kernel
theorem dX3_value_34 : decode cX3_value 34 = .ok (.invokestatic 97, 3) := by decide +kernel
theorem dX3_value_37 : decode cX3_value 37 = .ok (.ireturn, 1) := by decide +kernel
set_option maxRecDepth 20000 in
theorem ggX3_open_X3_isSlot : GoodIn wsX3_open wsX3_isSlot := goodIn_r _ [7] (by decide +kernel) (by decide +kernel)
set_option maxRecDepth 20000 in
theorem gX3_open_X3_isSlot : GoodIn wsX3_open (va_wsS RX3 68 yX3_isSlot wsX3_isSlot) := goodIn_app (goodIn_of _ (by decide +kernel)) ggX3_open_X3_isSlot
set_option maxRecDepth 20000 in
theorem ggX3_open_X0_isKey : GoodIn wsX3_open wsX0_isKey := goodIn_r _ [12, 13, 64, 65, 66, 67, 68, 69] (by decide +kernel) (by decide +kernel)
set_option maxRecDepth 20000 in
theorem gX3_open_X0_isKey : GoodIn wsX3_open (wsV RX3 136 RX0 yX0_isKey wsX0_isKey) := goodIn_app (goodIn_of _ (by decide +kernel)) ggX3_open_X0_isKey
set_option maxRecDepth 20000 in
theorem ggX3_open_X0_multiple : GoodIn wsX3_open wsX0_multiple := goodIn_r _ [17, 18, 19, 20, 21, 22, 23, 24, 25, 26, 27, 11, 28, 29, 30, 31, 32, 33, 34, 6, 35, 36, 37, 38, 39, 40, 41, 42, 43, 44, 45, 46, 47, 48, 49, 50, 51, 52, 53, 54, 55, 56, 57, 58, 59, 64, 65, 66, 67, 68, 69, 70] (by decide +kernel) (by decide +kernel)
set_option maxRecDepth 20000 in
theorem gX3_open_X0_multiple : GoodIn wsX3_open (wsV RX3 91 RX0 yX0_multiple wsX0_multiple) := goodIn_app (goodIn_of _ (by decide +kernel)) ggX3_open_X0_multiple
theorem dX3_open_0 : decode cX3_open 0 = .ok (.aload_n 0, 1) := by decide +kernel
theorem dX3_open_1 : decode cX3_open 1 = .ok (.getfield 33, 3) := by decide +kernel
theorem dX3_open_4 : decode cX3_open 4 = .ok (.ifnonnull 6, 3) := by decide +kernel
theorem dX3_open_7 : decode cX3_open 7 = .ok (.bipush (-3), 2) := by decide +kernel
theorem dX3_open_9 : decode cX3_open 9 = .ok (.ireturn, 1) := by decide +kernel
theorem dX3_open_10 : decode cX3_open 10 = .ok (.iload_n 1, 1) := by decide +kernel
theorem dX3_open_11 : decode cX3_open 11 = .ok (.invokestatic 68, 3) := by decide +kernel
theorem dX3_open_14 : decode cX3_open 14 = .ok (.ifCond .eq 14, 3) := by decide +kernel
theorem dX3_open_17 : decode cX3_open 17 = .ok (.aload_n 0, 1) := by decide +kernel
theorem dX3_open_18 : decode cX3_open 18 = .ok (.getfield 33, 3) := by decide +kernel
theorem dX3_open_21 : decode cX3_open 21 = .ok (.iload_n 2, 1) := by decide +kernel
theorem dX3_open_22 : decode cX3_open 22 = .ok (.invokevirtual 136, 3) := by decide +kernel
theorem dX3_open_25 : decode cX3_open 25 = .ok (.ifCond .ne 6, 3) := by decide +kernel
theorem dX3_open_28 : decode cX3_open 28 = .ok (.bipush (-2), 2) := by decide +kernel
theorem dX3_open_30 : decode cX3_open 30 = .ok (.ireturn, 1) := by decide +kernel
theorem dX3_open_31 : decode cX3_open 31 = .ok (.aload_n 0, 1) := by decide +kernel
theorem dX3_open_32 : decode cX3_open 32 = .ok (.getfield 9, 3) := by decide +kernel
theorem dX3_open_35 : decode cX3_open 35 = .ok (.iload_n 1, 1) := by decide +kernel
theorem dX3_open_36 : decode cX3_open 36 = .ok (.aload_n 0, 1) := by decide +kernel
theorem dX3_open_37 : decode cX3_open 37 = .ok (.getfield 33, 3) := by decide +kernel
theorem dX3_open_40 : decode cX3_open 40 = .ok (.iload_n 2, 1) := by decide +kernel
theorem dX3_open_41 : decode cX3_open 41 = .ok (.i2l, 1) := by decide +kernel
theorem dX3_open_42 : decode cX3_open 42 = .ok (.aload_n 0, 1) := by decide +kernel
theorem dX3_open_43 : decode cX3_open 43 = .ok (.getfield 33, 3) := by decide +kernel
theorem dX3_open_46 : decode cX3_open 46 = .ok (.getfield 139, 3) := by decide +kernel
theorem dX3_open_49 : decode cX3_open 49 = .ok (.invokevirtual 91, 3) := by decide +kernel
theorem dX3_open_52 : decode cX3_open 52 = .ok (.lastore, 1) := by decide +kernel
theorem dX3_open_53 : decode cX3_open 53 = .ok (.iconst 1, 1) := by decide +kernel
theorem dX3_open_54 : decode cX3_open 54 = .ok (.ireturn, 1) := by decide +kernel
set_option maxRecDepth 20000 in
theorem ggX3_sign_X3_isSlot : GoodIn wsX3_sign wsX3_isSlot := goodIn_r _ [6] (by decide +kernel) (by decide +kernel)
set_option maxRecDepth 20000 in
theorem gX3_sign_X3_isSlot : GoodIn wsX3_sign (va_wsS RX3 68 yX3_isSlot wsX3_isSlot) := goodIn_app (goodIn_of _ (by decide +kernel)) ggX3_sign_X3_isSlot
set_option maxRecDepth 20000 in
theorem ggX3_sign_X0_isKey : GoodIn wsX3_sign wsX0_isKey := goodIn_r _ [11, 12, 86, 87, 88, 89, 90, 91] (by decide +kernel) (by decide +kernel)
set_option maxRecDepth 20000 in
theorem gX3_sign_X0_isKey : GoodIn wsX3_sign (wsV RX3 136 RX0 yX0_isKey wsX0_isKey) := goodIn_app (goodIn_of _ (by decide +kernel)) ggX3_sign_X0_isKey
set_option maxRecDepth 20000 in
theorem ggX3_sign_X0_turned : GoodIn wsX3_sign wsX0_turned := goodIn_r _ [16, 17, 18, 19, 20, 21, 22, 23, 24, 10, 25, 26, 27, 28, 29, 30, 31, 32, 33, 34, 35, 36, 37, 38, 39, 40, 41, 42, 43, 44, 45, 5, 46, 47, 48, 49, 50, 51, 52, 53, 54, 55, 56, 57, 58, 59, 60, 61, 62, 63, 64, 65, 66, 67, 68, 69, 70, 71, 72, 73, 74, 75, 76, 77, 78, 79, 80, 86, 87, 88, 89, 90, 91, 92] (by decide +kernel) (by decide +kernel)
set_option maxRecDepth 20000 in
theorem gX3_sign_X0_turned : GoodIn wsX3_sign (wsV RX3 81 RX0 yX0_turned wsX0_turned) := goodIn_app (goodIn_of _ (by decide +kernel)) ggX3_sign_X0_turned
set_option maxRecDepth 20000 in
theorem ggX3_sign_X0_multiple : GoodIn wsX3_sign wsX0_multiple := goodIn_r _ [50, 20, 21, 26, 51, 52, 53, 54, 55, 56, 57, 10, 58, 18, 59, 60, 61, 62, 63, 5, 64, 65, 66, 67, 68, 69, 70, 71, 72, 31, 32, 33, 34, 35, 36, 73, 74, 75, 76, 77, 78, 79, 80, 45, 46, 86, 87, 88, 89, 90, 91, 92] (by decide +kernel) (by decide +kernel)
set_option maxRecDepth 20000 in
theorem gX3_sign_X0_multiple : GoodIn wsX3_sign (wsV RX3 91 RX0 yX0_multiple wsX0_multiple) := goodIn_app (goodIn_of _ (by decide +kernel)) ggX3_sign_X0_multiple
theorem dX3_sign_0 : decode cX3_sign 0 = .ok (.aload_n 0, 1) := by decide +kernel
theorem dX3_sign_1 : decode cX3_sign 1 = .ok (.getfield 33, 3) := by decide +kernel
theorem dX3_sign_4 : decode cX3_sign 4 = .ok (.ifnonnull 6, 3) := by decide +kernel
theorem dX3_sign_7 : decode cX3_sign 7 = .ok (.bipush (-3), 2) := by decide +kernel
theorem dX3_sign_9 : decode cX3_sign 9 = .ok (.ireturn, 1) := by decide +kernel
theorem dX3_sign_10 : decode cX3_sign 10 = .ok (.iload_n 1, 1) := by decide +kernel
theorem dX3_sign_11 : decode cX3_sign 11 = .ok (.invokestatic 68, 3) := by decide +kernel
theorem dX3_sign_14 : decode cX3_sign 14 = .ok (.ifCond .eq 14, 3) := by decide +kernel
theorem dX3_sign_17 : decode cX3_sign 17 = .ok (.aload_n 0, 1) := by decide +kernel
theorem dX3_sign_18 : decode cX3_sign 18 = .ok (.getfield 33, 3) := by decide +kernel
theorem dX3_sign_21 : decode cX3_sign 21 = .ok (.iload_n 2, 1) := by decide +kernel
theorem dX3_sign_22 : decode cX3_sign 22 = .ok (.invokevirtual 136, 3) := by decide +kernel
theorem dX3_sign_25 : decode cX3_sign 25 = .ok (.ifCond .ne 6, 3) := by decide +kernel
theorem dX3_sign_28 : decode cX3_sign 28 = .ok (.bipush (-2), 2) := by decide +kernel
theorem dX3_sign_30 : decode cX3_sign 30 = .ok (.ireturn, 1) := by decide +kernel
theorem dX3_sign_31 : decode cX3_sign 31 = .ok (.aload_n 0, 1) := by decide +kernel
theorem dX3_sign_32 : decode cX3_sign 32 = .ok (.getfield 9, 3) := by decide +kernel
theorem dX3_sign_35 : decode cX3_sign 35 = .ok (.iload_n 1, 1) := by decide +kernel
theorem dX3_sign_36 : decode cX3_sign 36 = .ok (.aload_n 0, 1) := by decide +kernel
theorem dX3_sign_37 : decode cX3_sign 37 = .ok (.getfield 33, 3) := by decide +kernel
theorem dX3_sign_40 : decode cX3_sign 40 = .ok (.iload_n 2, 1) := by decide +kernel
theorem dX3_sign_41 : decode cX3_sign 41 = .ok (.i2l, 1) := by decide +kernel
theorem dX3_sign_42 : decode cX3_sign 42 = .ok (.aload_n 0, 1) := by decide +kernel
theorem dX3_sign_43 : decode cX3_sign 43 = .ok (.getfield 33, 3) := by decide +kernel
theorem dX3_sign_46 : decode cX3_sign 46 = .ok (.lload_n 3, 1) := by decide +kernel
theorem dX3_sign_47 : decode cX3_sign 47 = .ok (.invokevirtual 81, 3) := by decide +kernel
theorem dX3_sign_50 : decode cX3_sign 50 = .ok (.invokevirtual 91, 3) := by decide +kernel
theorem dX3_sign_53 : decode cX3_sign 53 = .ok (.lastore, 1) := by decide +kernel
theorem dX3_sign_54 : decode cX3_sign 54 = .ok (.iconst 1, 1) := by decide +kernel
theorem dX3_sign_55 : decode cX3_sign 55 = .ok (.ireturn, 1) := by decide +kernel
set_option maxRecDepth 20000 in
theorem ggX3_holds_X3_isSlot : GoodIn wsX3_holds wsX3_isSlot := goodIn_r _ [6] (by decide +kernel) (by decide +kernel)
set_option maxRecDepth 20000 in
theorem gX3_holds_X3_isSlot : GoodIn wsX3_holds (va_wsS RX3 68 yX3_isSlot wsX3_isSlot) := goodIn_app (goodIn_of _ (by decide +kernel)) ggX3_holds_X3_isSlot
set_option maxRecDepth 20000 in
theorem ggX3_holds_X1_agree : GoodIn wsX3_holds wsX1_agree := goodIn_r _ [11, 12, 13, 14, 15, 16, 17, 10, 18, 19, 20, 21, 22, 23, 24, 25, 26, 27, 28, 29, 30, 31, 32, 33, 34, 35, 36, 37, 38, 39, 40, 41, 42, 5, 43, 44, 45, 46, 47, 48, 49, 50, 51, 52, 53, 54, 55, 56, 57, 58, 59, 60, 61, 62, 63, 64, 65, 66, 67, 68, 69, 70, 71, 72, 73, 74, 75, 76, 77, 78, 79, 80, 81, 82, 83, 84, 85, 86, 87, 88, 89, 90, 91, 92, 93, 94, 95, 96, 97, 98, 99, 100, 101, 102, 103, 104, 105, 106, 107, 108, 109, 110, 111, 112, 113, 114, 115, 116, 117, 118, 119, 120, 121, 122, 123, 124, 125, 126, 127, 128, 129, 130, 131, 132, 137, 138, 139, 140, 141, 142, 143, 144, 145, 146] (by decide +kernel) (by decide +kernel)
set_option maxRecDepth 20000 in
theorem gX3_holds_X1_agree : GoodIn wsX3_holds (wsV RX3 142 RX1 yX1_agree wsX1_agree) := goodIn_app (goodIn_of _ (by decide +kernel)) ggX3_holds_X1_agree
theorem dX3_holds_0 : decode cX3_holds 0 = .ok (.aload_n 0, 1) := by decide +kernel
theorem dX3_holds_1 : decode cX3_holds 1 = .ok (.getfield 42, 3) := by decide +kernel
theorem dX3_holds_4 : decode cX3_holds 4 = .ok (.ifnonnull 6, 3) := by decide +kernel
theorem dX3_holds_7 : decode cX3_holds 7 = .ok (.bipush (-3), 2) := by decide +kernel
theorem dX3_holds_9 : decode cX3_holds 9 = .ok (.ireturn, 1) := by decide +kernel
theorem dX3_holds_10 : decode cX3_holds 10 = .ok (.iload_n 1, 1) := by decide +kernel
theorem dX3_holds_11 : decode cX3_holds 11 = .ok (.invokestatic 68, 3) := by decide +kernel
theorem dX3_holds_14 : decode cX3_holds 14 = .ok (.ifCond .eq 11, 3) := by decide +kernel
theorem dX3_holds_17 : decode cX3_holds 17 = .ok (.iload 4, 2) := by decide +kernel
theorem dX3_holds_19 : decode cX3_holds 19 = .ok (.invokestatic 68, 3) := by decide +kernel
theorem dX3_holds_22 : decode cX3_holds 22 = .ok (.ifCond .ne 6, 3) := by decide +kernel
theorem dX3_holds_25 : decode cX3_holds 25 = .ok (.bipush (-2), 2) := by decide +kernel
theorem dX3_holds_27 : decode cX3_holds 27 = .ok (.ireturn, 1) := by decide +kernel
theorem dX3_holds_28 : decode cX3_holds 28 = .ok (.aload_n 0, 1) := by decide +kernel
theorem dX3_holds_29 : decode cX3_holds 29 = .ok (.getfield 42, 3) := by decide +kernel
theorem dX3_holds_32 : decode cX3_holds 32 = .ok (.aload_n 0, 1) := by decide +kernel
theorem dX3_holds_33 : decode cX3_holds 33 = .ok (.getfield 9, 3) := by decide +kernel
theorem dX3_holds_36 : decode cX3_holds 36 = .ok (.iload 4, 2) := by decide +kernel
theorem dX3_holds_38 : decode cX3_holds 38 = .ok (.laload, 1) := by decide +kernel
theorem dX3_holds_39 : decode cX3_holds 39 = .ok (.aload_n 0, 1) := by decide +kernel
theorem dX3_holds_40 : decode cX3_holds 40 = .ok (.getfield 9, 3) := by decide +kernel
theorem dX3_holds_43 : decode cX3_holds 43 = .ok (.iload_n 1, 1) := by decide +kernel
theorem dX3_holds_44 : decode cX3_holds 44 = .ok (.iconst 1, 1) := by decide +kernel
theorem dX3_holds_45 : decode cX3_holds 45 = .ok (.lload_n 2, 1) := by decide +kernel
theorem dX3_holds_46 : decode cX3_holds 46 = .ok (.invokevirtual 142, 3) := by decide +kernel
theorem dX3_holds_49 : decode cX3_holds 49 = .ok (.ifCond .eq 7, 3) := by decide +kernel
theorem dX3_holds_52 : decode cX3_holds 52 = .ok (.iconst 1, 1) := by decide +kernel
theorem dX3_holds_53 : decode cX3_holds 53 = .ok (.goto 4, 3) := by decide +kernel
theorem dX3_holds_56 : decode cX3_holds 56 = .ok (.iconst 0, 1) := by decide +kernel
theorem dX3_holds_57 : decode cX3_holds 57 = .ok (.ireturn, 1) := by decide +kernel
set_option maxRecDepth 20000 in
theorem ggX3_holdsAll_X3_isSlot : GoodIn wsX3_holdsAll wsX3_isSlot := goodIn_r _ [6] (by decide +kernel) (by decide +kernel)
set_option maxRecDepth 20000 in
theorem gX3_holdsAll_X3_isSlot : GoodIn wsX3_holdsAll (va_wsS RX3 68 yX3_isSlot wsX3_isSlot) := goodIn_app (goodIn_of _ (by decide +kernel)) ggX3_holdsAll_X3_isSlot
set_option maxRecDepth 20000 in
theorem ggX3_holdsAll_X1_agree : GoodIn wsX3_holdsAll wsX1_agree := goodIn_r _ [11, 12, 13, 14, 15, 16, 17, 10, 18, 19, 20, 21, 22, 23, 24, 25, 26, 27, 28, 29, 30, 31, 32, 33, 34, 35, 36, 37, 38, 39, 40, 41, 42, 5, 43, 44, 45, 46, 47, 48, 49, 50, 51, 52, 53, 54, 55, 56, 57, 58, 59, 60, 61, 62, 63, 64, 65, 66, 67, 68, 69, 70, 71, 72, 73, 74, 75, 76, 77, 78, 79, 80, 81, 82, 83, 84, 85, 86, 87, 88, 89, 90, 91, 92, 93, 94, 95, 96, 97, 98, 99, 100, 101, 102, 103, 104, 105, 106, 107, 108, 109, 110, 111, 112, 113, 114, 115, 116, 117, 118, 119, 120, 121, 122, 123, 124, 125, 126, 127, 128, 129, 130, 131, 132, 137, 138, 139, 140, 141, 142, 143, 144, 145, 146] (by decide +kernel) (by decide +kernel)
set_option maxRecDepth 20000 in
theorem gX3_holdsAll_X1_agree : GoodIn wsX3_holdsAll (wsV RX3 142 RX1 yX1_agree wsX1_agree) := goodIn_app (goodIn_of _ (by decide +kernel)) ggX3_holdsAll_X1_agree
theorem dX3_holdsAll_0 : decode cX3_holdsAll 0 = .ok (.aload_n 0, 1) := by decide +kernel
theorem dX3_holdsAll_1 : decode cX3_holdsAll 1 = .ok (.getfield 42, 3) := by decide +kernel
theorem dX3_holdsAll_4 : decode cX3_holdsAll 4 = .ok (.ifnonnull 6, 3) := by decide +kernel
theorem dX3_holdsAll_7 : decode cX3_holdsAll 7 = .ok (.bipush (-3), 2) := by decide +kernel
theorem dX3_holdsAll_9 : decode cX3_holdsAll 9 = .ok (.ireturn, 1) := by decide +kernel
theorem dX3_holdsAll_10 : decode cX3_holdsAll 10 = .ok (.iload_n 1, 1) := by decide +kernel
theorem dX3_holdsAll_11 : decode cX3_holdsAll 11 = .ok (.invokestatic 68, 3) := by decide +kernel
theorem dX3_holdsAll_14 : decode cX3_holdsAll 14 = .ok (.ifCond .eq 30, 3) := by decide +kernel
theorem dX3_holdsAll_17 : decode cX3_holdsAll 17 = .ok (.iload_n 2, 1) := by decide +kernel
theorem dX3_holdsAll_18 : decode cX3_holdsAll 18 = .ok (.iconst 1, 1) := by decide +kernel
theorem dX3_holdsAll_19 : decode cX3_holdsAll 19 = .ok (.if_icmp .lt 25, 3) := by decide +kernel
theorem dX3_holdsAll_22 : decode cX3_holdsAll 22 = .ok (.iload_n 2, 1) := by decide +kernel
theorem dX3_holdsAll_23 : decode cX3_holdsAll 23 = .ok (.bipush 8, 2) := by decide +kernel
theorem dX3_holdsAll_25 : decode cX3_holdsAll 25 = .ok (.if_icmp .gt 19, 3) := by decide +kernel
theorem dX3_holdsAll_28 : decode cX3_holdsAll 28 = .ok (.iload_n 1, 1) := by decide +kernel
theorem dX3_holdsAll_29 : decode cX3_holdsAll 29 = .ok (.iload_n 2, 1) := by decide +kernel
theorem dX3_holdsAll_30 : decode cX3_holdsAll 30 = .ok (.iadd, 1) := by decide +kernel
theorem dX3_holdsAll_31 : decode cX3_holdsAll 31 = .ok (.bipush 16, 2) := by decide +kernel
theorem dX3_holdsAll_33 : decode cX3_holdsAll 33 = .ok (.if_icmp .gt 11, 3) := by decide +kernel
theorem dX3_holdsAll_36 : decode cX3_holdsAll 36 = .ok (.iload 5, 2) := by decide +kernel
theorem dX3_holdsAll_38 : decode cX3_holdsAll 38 = .ok (.invokestatic 68, 3) := by decide +kernel
theorem dX3_holdsAll_41 : decode cX3_holdsAll 41 = .ok (.ifCond .ne 6, 3) := by decide +kernel
theorem dX3_holdsAll_44 : decode cX3_holdsAll 44 = .ok (.bipush (-2), 2) := by decide +kernel
theorem dX3_holdsAll_46 : decode cX3_holdsAll 46 = .ok (.ireturn, 1) := by decide +kernel
theorem dX3_holdsAll_47 : decode cX3_holdsAll 47 = .ok (.aload_n 0, 1) := by decide +kernel
theorem dX3_holdsAll_48 : decode cX3_holdsAll 48 = .ok (.getfield 42, 3) := by decide +kernel
theorem dX3_holdsAll_51 : decode cX3_holdsAll 51 = .ok (.aload_n 0, 1) := by decide +kernel
theorem dX3_holdsAll_52 : decode cX3_holdsAll 52 = .ok (.getfield 9, 3) := by decide +kernel
theorem dX3_holdsAll_55 : decode cX3_holdsAll 55 = .ok (.iload 5, 2) := by decide +kernel
theorem dX3_holdsAll_57 : decode cX3_holdsAll 57 = .ok (.laload, 1) := by decide +kernel
theorem dX3_holdsAll_58 : decode cX3_holdsAll 58 = .ok (.aload_n 0, 1) := by decide +kernel
theorem dX3_holdsAll_59 : decode cX3_holdsAll 59 = .ok (.getfield 9, 3) := by decide +kernel
theorem dX3_holdsAll_62 : decode cX3_holdsAll 62 = .ok (.iload_n 1, 1) := by decide +kernel
theorem dX3_holdsAll_63 : decode cX3_holdsAll 63 = .ok (.iload_n 2, 1) := by decide +kernel
theorem dX3_holdsAll_64 : decode cX3_holdsAll 64 = .ok (.lload_n 3, 1) := by decide +kernel
theorem dX3_holdsAll_65 : decode cX3_holdsAll 65 = .ok (.invokevirtual 142, 3) := by decide +kernel
theorem dX3_holdsAll_68 : decode cX3_holdsAll 68 = .ok (.ifCond .eq 7, 3) := by decide +kernel
theorem dX3_holdsAll_71 : decode cX3_holdsAll 71 = .ok (.iconst 1, 1) := by decide +kernel
theorem dX3_holdsAll_72 : decode cX3_holdsAll 72 = .ok (.goto 4, 3) := by decide +kernel
theorem dX3_holdsAll_75 : decode cX3_holdsAll 75 = .ok (.iconst 0, 1) := by decide +kernel
theorem dX3_holdsAll_76 : decode cX3_holdsAll 76 = .ok (.ireturn, 1) := by decide +kernel
set_option maxRecDepth 20000 in
theorem ggX3_digest_X3_written : GoodIn wsX3_digest wsX3_written := goodIn_r _ [10, 11, 12, 13, 14, 9, 15, 16, 17, 18, 19] (by decide +kernel) (by decide +kernel)
set_option maxRecDepth 20000 in
theorem gX3_digest_X3_written : GoodIn wsX3_digest (va_wsS RX3 108 yX3_written wsX3_written) := goodIn_app (goodIn_of _ (by decide +kernel)) ggX3_digest_X3_written
set_option maxRecDepth 20000 in
theorem ggX3_digest_X3_upper : GoodIn wsX3_digest wsX3_upper := goodIn_r _ [15] (by decide +kernel) (by decide +kernel)
set_option maxRecDepth 20000 in
theorem gX3_digest_X3_upper : GoodIn wsX3_digest (va_wsS RX3 150 yX3_upper wsX3_upper) := goodIn_app (goodIn_of _ (by decide +kernel)) ggX3_digest_X3_upper
set_option maxRecDepth 20000 in
theorem ggX3_digest_X3_lower : GoodIn wsX3_digest wsX3_lower := goodIn_r _ [18, 19] (by decide +kernel) (by decide +kernel)
set_option maxRecDepth 20000 in
theorem gX3_digest_X3_lower : GoodIn wsX3_digest (va_wsS RX3 153 yX3_lower wsX3_lower) := goodIn_app (goodIn_of _ (by decide +kernel)) ggX3_digest_X3_lower
theorem dX3_digest_0 : decode cX3_digest 0 = .ok (.aload_n 0, 1) := by decide +kernel
theorem dX3_digest_1 : decode cX3_digest 1 = .ok (.getfield 33, 3) := by decide +kernel
theorem dX3_digest_4 : decode cX3_digest 4 = .ok (.ifnonnull 7, 3) := by decide +kernel
theorem dX3_digest_7 : decode cX3_digest 7 = .ok (.ldc2_w 104, 3) := by decide +kernel
theorem dX3_digest_10 : decode cX3_digest 10 = .ok (.lreturn, 1) := by decide +kernel
theorem dX3_digest_11 : decode cX3_digest 11 = .ok (.ldc2_w 146, 3) := by decide +kernel
theorem dX3_digest_14 : decode cX3_digest 14 = .ok (.lstore_n 1, 1) := by decide +kernel
theorem dX3_digest_15 : decode cX3_digest 15 = .ok (.iconst 0, 1) := by decide +kernel
theorem dX3_digest_16 : decode cX3_digest 16 = .ok (.istore_n 3, 1) := by decide +kernel
theorem dX3_digest_17 : decode cX3_digest 17 = .ok (.iload_n 3, 1) := by decide +kernel
theorem dX3_digest_18 : decode cX3_digest 18 = .ok (.bipush 16, 2) := by decide +kernel
theorem dX3_digest_20 : decode cX3_digest 20 = .ok (.if_icmp .ge 25, 3) := by decide +kernel
theorem dX3_digest_23 : decode cX3_digest 23 = .ok (.ldc2_w 148, 3) := by decide +kernel
theorem dX3_digest_26 : decode cX3_digest 26 = .ok (.lload_n 1, 1) := by decide +kernel
theorem dX3_digest_27 : decode cX3_digest 27 = .ok (.lmul, 1) := by decide +kernel
theorem dX3_digest_28 : decode cX3_digest 28 = .ok (.aload_n 0, 1) := by decide +kernel
theorem dX3_digest_29 : decode cX3_digest 29 = .ok (.getfield 9, 3) := by decide +kernel
theorem dX3_digest_32 : decode cX3_digest 32 = .ok (.iload_n 3, 1) := by decide +kernel
theorem dX3_digest_33 : decode cX3_digest 33 = .ok (.laload, 1) := by decide +kernel
theorem dX3_digest_34 : decode cX3_digest 34 = .ok (.invokestatic 108, 3) := by decide +kernel
theorem dX3_digest_37 : decode cX3_digest 37 = .ok (.ladd, 1) := by decide +kernel
theorem dX3_digest_38 : decode cX3_digest 38 = .ok (.lstore_n 1, 1) := by decide +kernel
theorem dX3_digest_39 : decode cX3_digest 39 = .ok (.iinc 3 1, 3) := by decide +kernel
theorem dX3_digest_42 : decode cX3_digest 42 = .ok (.goto (-25), 3) := by decide +kernel
theorem dX3_digest_45 : decode cX3_digest 45 = .ok (.iconst 0, 1) := by decide +kernel
theorem dX3_digest_46 : decode cX3_digest 46 = .ok (.istore_n 3, 1) := by decide +kernel
theorem dX3_digest_47 : decode cX3_digest 47 = .ok (.iload_n 3, 1) := by decide +kernel
theorem dX3_digest_48 : decode cX3_digest 48 = .ok (.bipush 8, 2) := by decide +kernel
theorem dX3_digest_50 : decode cX3_digest 50 = .ok (.if_icmp .ge 41, 3) := by decide +kernel
theorem dX3_digest_53 : decode cX3_digest 53 = .ok (.ldc2_w 148, 3) := by decide +kernel
theorem dX3_digest_56 : decode cX3_digest 56 = .ok (.lload_n 1, 1) := by decide +kernel
theorem dX3_digest_57 : decode cX3_digest 57 = .ok (.lmul, 1) := by decide +kernel
theorem dX3_digest_58 : decode cX3_digest 58 = .ok (.aload_n 0, 1) := by decide +kernel
theorem dX3_digest_59 : decode cX3_digest 59 = .ok (.getfield 13, 3) := by decide +kernel
theorem dX3_digest_62 : decode cX3_digest 62 = .ok (.iload_n 3, 1) := by decide +kernel
theorem dX3_digest_63 : decode cX3_digest 63 = .ok (.laload, 1) := by decide +kernel
theorem dX3_digest_64 : decode cX3_digest 64 = .ok (.invokestatic 150, 3) := by decide +kernel
theorem dX3_digest_67 : decode cX3_digest 67 = .ok (.ladd, 1) := by decide +kernel
theorem dX3_digest_68 : decode cX3_digest 68 = .ok (.lstore_n 1, 1) := by decide +kernel
theorem dX3_digest_69 : decode cX3_digest 69 = .ok (.ldc2_w 148, 3) := by decide +kernel
theorem dX3_digest_72 : decode cX3_digest 72 = .ok (.lload_n 1, 1) := by decide +kernel
theorem dX3_digest_73 : decode cX3_digest 73 = .ok (.lmul, 1) := by decide +kernel
theorem dX3_digest_74 : decode cX3_digest 74 = .ok (.aload_n 0, 1) := by decide +kernel
theorem dX3_digest_75 : decode cX3_digest 75 = .ok (.getfield 13, 3) := by decide +kernel
theorem dX3_digest_78 : decode cX3_digest 78 = .ok (.iload_n 3, 1) := by decide +kernel
theorem dX3_digest_79 : decode cX3_digest 79 = .ok (.laload, 1) := by decide +kernel
theorem dX3_digest_80 : decode cX3_digest 80 = .ok (.invokestatic 153, 3) := by decide +kernel
theorem dX3_digest_83 : decode cX3_digest 83 = .ok (.ladd, 1) := by decide +kernel
theorem dX3_digest_84 : decode cX3_digest 84 = .ok (.lstore_n 1, 1) := by decide +kernel
theorem dX3_digest_85 : decode cX3_digest 85 = .ok (.iinc 3 1, 3) := by decide +kernel
theorem dX3_digest_88 : decode cX3_digest 88 = .ok (.goto (-41), 3) := by decide +kernel
theorem dX3_digest_91 : decode cX3_digest 91 = .ok (.lload_n 1, 1) := by decide +kernel
theorem dX3_digest_92 : decode cX3_digest 92 = .ok (.lreturn, 1) := by decide +kernel
theorem dX3_clearRows_0 : decode cX3_clearRows 0 = .ok (.iconst 0, 1) := by decide +kernel
theorem dX3_clearRows_1 : decode cX3_clearRows 1 = .ok (.istore_n 1, 1) := by decide +kernel
theorem dX3_clearRows_2 : decode cX3_clearRows 2 = .ok (.iload_n 1, 1) := by decide +kernel
theorem dX3_clearRows_3 : decode cX3_clearRows 3 = .ok (.bipush 16, 2) := by decide +kernel
theorem dX3_clearRows_5 : decode cX3_clearRows 5 = .ok (.if_icmp .ge 18, 3) := by decide +kernel
theorem dX3_clearRows_8 : decode cX3_clearRows 8 = .ok (.aload_n 0, 1) := by decide +kernel
theorem dX3_clearRows_9 : decode cX3_clearRows 9 = .ok (.getfield 9, 3) := by decide +kernel
theorem dX3_clearRows_12 : decode cX3_clearRows 12 = .ok (.iload_n 1, 1) := by decide +kernel
theorem dX3_clearRows_13 : decode cX3_clearRows 13 = .ok (.ldc2_w 79, 3) := by decide +kernel
theorem dX3_clearRows_16 : decode cX3_clearRows 16 = .ok (.lastore, 1) := by decide +kernel
theorem dX3_clearRows_17 : decode cX3_clearRows 17 = .ok (.iinc 1 1, 3) := by decide +kernel
theorem dX3_clearRows_20 : decode cX3_clearRows 20 = .ok (.goto (-18), 3) := by decide +kernel
theorem dX3_clearRows_23 : decode cX3_clearRows 23 = .ok (.iconst 0, 1) := by decide +kernel
theorem dX3_clearRows_24 : decode cX3_clearRows 24 = .ok (.istore_n 1, 1) := by decide +kernel
theorem dX3_clearRows_25 : decode cX3_clearRows 25 = .ok (.iload_n 1, 1) := by decide +kernel
theorem dX3_clearRows_26 : decode cX3_clearRows 26 = .ok (.bipush 8, 2) := by decide +kernel
theorem dX3_clearRows_28 : decode cX3_clearRows 28 = .ok (.if_icmp .ge 18, 3) := by decide +kernel
theorem dX3_clearRows_31 : decode cX3_clearRows 31 = .ok (.aload_n 0, 1) := by decide +kernel
theorem dX3_clearRows_32 : decode cX3_clearRows 32 = .ok (.getfield 13, 3) := by decide +kernel
theorem dX3_clearRows_35 : decode cX3_clearRows 35 = .ok (.iload_n 1, 1) := by decide +kernel
theorem dX3_clearRows_36 : decode cX3_clearRows 36 = .ok (.ldc2_w 131, 3) := by decide +kernel
theorem dX3_clearRows_39 : decode cX3_clearRows 39 = .ok (.lastore, 1) := by decide +kernel
theorem dX3_clearRows_40 : decode cX3_clearRows 40 = .ok (.iinc 1 1, 3) := by decide +kernel
theorem dX3_clearRows_43 : decode cX3_clearRows 43 = .ok (.goto (-18), 3) := by decide +kernel
theorem dX3_clearRows_46 : decode cX3_clearRows 46 = .ok (.return_, 1) := by decide +kernel
theorem dX3_isSlot_0 : decode cX3_isSlot 0 = .ok (.iload_n 0, 1) := by decide +kernel
theorem dX3_isSlot_1 : decode cX3_isSlot 1 = .ok (.ifCond .lt 13, 3) := by decide +kernel
theorem dX3_isSlot_4 : decode cX3_isSlot 4 = .ok (.iload_n 0, 1) := by decide +kernel
theorem dX3_isSlot_5 : decode cX3_isSlot 5 = .ok (.bipush 16, 2) := by decide +kernel
theorem dX3_isSlot_7 : decode cX3_isSlot 7 = .ok (.if_icmp .ge 7, 3) := by decide +kernel
theorem dX3_isSlot_10 : decode cX3_isSlot 10 = .ok (.iconst 1, 1) := by decide +kernel
theorem dX3_isSlot_11 : decode cX3_isSlot 11 = .ok (.goto 4, 3) := by decide +kernel
theorem dX3_isSlot_14 : decode cX3_isSlot 14 = .ok (.iconst 0, 1) := by decide +kernel
theorem dX3_isSlot_15 : decode cX3_isSlot 15 = .ok (.ireturn, 1) := by decide +kernel
theorem dX3_isValue_0 : decode cX3_isValue 0 = .ok (.iload_n 0, 1) := by decide +kernel
theorem dX3_isValue_1 : decode cX3_isValue 1 = .ok (.ifCond .lt 13, 3) := by decide +kernel
theorem dX3_isValue_4 : decode cX3_isValue 4 = .ok (.iload_n 0, 1) := by decide +kernel
theorem dX3_isValue_5 : decode cX3_isValue 5 = .ok (.bipush 8, 2) := by decide +kernel
theorem dX3_isValue_7 : decode cX3_isValue 7 = .ok (.if_icmp .ge 7, 3) := by decide +kernel
theorem dX3_isValue_10 : decode cX3_isValue 10 = .ok (.iconst 1, 1) := by decide +kernel
theorem dX3_isValue_11 : decode cX3_isValue 11 = .ok (.goto 4, 3) := by decide +kernel
theorem dX3_isValue_14 : decode cX3_isValue 14 = .ok (.iconst 0, 1) := by decide +kernel
theorem dX3_isValue_15 : decode cX3_isValue 15 = .ok (.ireturn, 1) := by decide +kernel
theorem dX3_isHalf_0 : decode cX3_isHalf 0 = .ok (.iload_n 0, 1) := by decide +kernel
theorem dX3_isHalf_1 : decode cX3_isHalf 1 = .ok (.ifCond .eq 8, 3) := by decide +kernel
theorem dX3_isHalf_4 : decode cX3_isHalf 4 = .ok (.iload_n 0, 1) := by decide +kernel
theorem dX3_isHalf_5 : decode cX3_isHalf 5 = .ok (.iconst 1, 1) := by decide +kernel
theorem dX3_isHalf_6 : decode cX3_isHalf 6 = .ok (.if_icmp .ne 7, 3) := by decide +kernel
theorem dX3_isHalf_9 : decode cX3_isHalf 9 = .ok (.iconst 1, 1) := by decide +kernel
theorem dX3_isHalf_10 : decode cX3_isHalf 10 = .ok (.goto 4, 3) := by decide +kernel
theorem dX3_isHalf_13 : decode cX3_isHalf 13 = .ok (.iconst 0, 1) := by decide +kernel
theorem dX3_isHalf_14 : decode cX3_isHalf 14 = .ok (.ireturn, 1) := by decide +kernel
set_option maxRecDepth 20000 in
theorem ggX3_fitTogether_X3_isOddPrime : GoodIn wsX3_fitTogether wsX3_isOddPrime := goodIn_r _ [4, 5, 6] (by decide +kernel) (by decide +kernel)
set_option maxRecDepth 20000 in
theorem gX3_fitTogether_X3_isOddPrime : GoodIn wsX3_fitTogether (va_wsS RX3 156 yX3_isOddPrime wsX3_isOddPrime) := goodIn_app (goodIn_of _ (by decide +kernel)) ggX3_fitTogether_X3_isOddPrime
theorem dX3_fitTogether_0 : decode cX3_fitTogether 0 = .ok (.iload_n 0, 1) := by decide +kernel
theorem dX3_fitTogether_1 : decode cX3_fitTogether 1 = .ok (.bipush 11, 2) := by decide +kernel
theorem dX3_fitTogether_3 : decode cX3_fitTogether 3 = .ok (.if_icmp .lt 15, 3) := by decide +kernel
theorem dX3_fitTogether_6 : decode cX3_fitTogether 6 = .ok (.iload_n 0, 1) := by decide +kernel
theorem dX3_fitTogether_7 : decode cX3_fitTogether 7 = .ok (.iconst 4, 1) := by decide +kernel
theorem dX3_fitTogether_8 : decode cX3_fitTogether 8 = .ok (.irem, 1) := by decide +kernel
theorem dX3_fitTogether_9 : decode cX3_fitTogether 9 = .ok (.iconst 3, 1) := by decide +kernel
theorem dX3_fitTogether_10 : decode cX3_fitTogether 10 = .ok (.if_icmp .ne 8, 3) := by decide +kernel
theorem dX3_fitTogether_13 : decode cX3_fitTogether 13 = .ok (.iload_n 1, 1) := by decide +kernel
theorem dX3_fitTogether_14 : decode cX3_fitTogether 14 = .ok (.iconst 2, 1) := by decide +kernel
theorem dX3_fitTogether_15 : decode cX3_fitTogether 15 = .ok (.if_icmp .gt 5, 3) := by decide +kernel
theorem dX3_fitTogether_18 : decode cX3_fitTogether 18 = .ok (.iconst 0, 1) := by decide +kernel
theorem dX3_fitTogether_19 : decode cX3_fitTogether 19 = .ok (.ireturn, 1) := by decide +kernel
theorem dX3_fitTogether_20 : decode cX3_fitTogether 20 = .ok (.iload_n 0, 1) := by decide +kernel
theorem dX3_fitTogether_21 : decode cX3_fitTogether 21 = .ok (.i2l, 1) := by decide +kernel
theorem dX3_fitTogether_22 : decode cX3_fitTogether 22 = .ok (.lconst 1, 1) := by decide +kernel
theorem dX3_fitTogether_23 : decode cX3_fitTogether 23 = .ok (.ladd, 1) := by decide +kernel
theorem dX3_fitTogether_24 : decode cX3_fitTogether 24 = .ok (.lstore_n 2, 1) := by decide +kernel
theorem dX3_fitTogether_25 : decode cX3_fitTogether 25 = .ok (.lload_n 2, 1) := by decide +kernel
theorem dX3_fitTogether_26 : decode cX3_fitTogether 26 = .ok (.iload_n 1, 1) := by decide +kernel
theorem dX3_fitTogether_27 : decode cX3_fitTogether 27 = .ok (.i2l, 1) := by decide +kernel
theorem dX3_fitTogether_28 : decode cX3_fitTogether 28 = .ok (.lrem, 1) := by decide +kernel
theorem dX3_fitTogether_29 : decode cX3_fitTogether 29 = .ok (.lconst 0, 1) := by decide +kernel
theorem dX3_fitTogether_30 : decode cX3_fitTogether 30 = .ok (.lcmp, 1) := by decide +kernel
theorem dX3_fitTogether_31 : decode cX3_fitTogether 31 = .ok (.ifCond .ne 15, 3) := by decide +kernel
theorem dX3_fitTogether_34 : decode cX3_fitTogether 34 = .ok (.lload_n 2, 1) := by decide +kernel
theorem dX3_fitTogether_35 : decode cX3_fitTogether 35 = .ok (.iload_n 1, 1) := by decide +kernel
theorem dX3_fitTogether_36 : decode cX3_fitTogether 36 = .ok (.i2l, 1) := by decide +kernel
theorem dX3_fitTogether_37 : decode cX3_fitTogether 37 = .ok (.ldiv, 1) := by decide +kernel
theorem dX3_fitTogether_38 : decode cX3_fitTogether 38 = .ok (.iload_n 1, 1) := by decide +kernel
theorem dX3_fitTogether_39 : decode cX3_fitTogether 39 = .ok (.i2l, 1) := by decide +kernel
theorem dX3_fitTogether_40 : decode cX3_fitTogether 40 = .ok (.lrem, 1) := by decide +kernel
theorem dX3_fitTogether_41 : decode cX3_fitTogether 41 = .ok (.lconst 0, 1) := by decide +kernel
theorem dX3_fitTogether_42 : decode cX3_fitTogether 42 = .ok (.lcmp, 1) := by decide +kernel
theorem dX3_fitTogether_43 : decode cX3_fitTogether 43 = .ok (.ifCond .ne 5, 3) := by decide +kernel
theorem dX3_fitTogether_46 : decode cX3_fitTogether 46 = .ok (.iconst 0, 1) := by decide +kernel
theorem dX3_fitTogether_47 : decode cX3_fitTogether 47 = .ok (.ireturn, 1) := by decide +kernel
theorem dX3_fitTogether_48 : decode cX3_fitTogether 48 = .ok (.iload_n 0, 1) := by decide +kernel
theorem dX3_fitTogether_49 : decode cX3_fitTogether 49 = .ok (.i2l, 1) := by decide +kernel
theorem dX3_fitTogether_50 : decode cX3_fitTogether 50 = .ok (.invokestatic 156, 3) := by decide +kernel
theorem dX3_fitTogether_53 : decode cX3_fitTogether 53 = .ok (.ifCond .eq 15, 3) := by decide +kernel
theorem dX3_fitTogether_56 : decode cX3_fitTogether 56 = .ok (.iload_n 1, 1) := by decide +kernel
theorem dX3_fitTogether_57 : decode cX3_fitTogether 57 = .ok (.i2l, 1) := by decide +kernel
theorem dX3_fitTogether_58 : decode cX3_fitTogether 58 = .ok (.invokestatic 156, 3) := by decide +kernel
theorem dX3_fitTogether_61 : decode cX3_fitTogether 61 = .ok (.ifCond .eq 7, 3) := by decide +kernel
theorem dX3_fitTogether_64 : decode cX3_fitTogether 64 = .ok (.iconst 1, 1) := by decide +kernel
theorem dX3_fitTogether_65 : decode cX3_fitTogether 65 = .ok (.goto 4, 3) := by decide +kernel
theorem dX3_fitTogether_68 : decode cX3_fitTogether 68 = .ok (.iconst 0, 1) := by decide +kernel
theorem dX3_fitTogether_69 : decode cX3_fitTogether 69 = .ok (.ireturn, 1) := by decide +kernel
theorem dX3_isOddPrime_0 : decode cX3_isOddPrime 0 = .ok (.lload_n 0, 1) := by decide +kernel
theorem dX3_isOddPrime_1 : decode cX3_isOddPrime 1 = .ok (.ldc2_w 159, 3) := by decide +kernel
theorem dX3_isOddPrime_4 : decode cX3_isOddPrime 4 = .ok (.lrem, 1) := by decide +kernel
theorem dX3_isOddPrime_5 : decode cX3_isOddPrime 5 = .ok (.lconst 0, 1) := by decide +kernel
theorem dX3_isOddPrime_6 : decode cX3_isOddPrime 6 = .ok (.lcmp, 1) := by decide +kernel
theorem dX3_isOddPrime_7 : decode cX3_isOddPrime 7 = .ok (.ifCond .ne 5, 3) := by decide +kernel
theorem dX3_isOddPrime_10 : decode cX3_isOddPrime 10 = .ok (.iconst 0, 1) := by decide +kernel
theorem dX3_isOddPrime_11 : decode cX3_isOddPrime 11 = .ok (.ireturn, 1) := by decide +kernel
theorem dX3_isOddPrime_12 : decode cX3_isOddPrime 12 = .ok (.ldc2_w 161, 3) := by decide +kernel
theorem dX3_isOddPrime_15 : decode cX3_isOddPrime 15 = .ok (.lstore_n 2, 1) := by decide +kernel
theorem dX3_isOddPrime_16 : decode cX3_isOddPrime 16 = .ok (.lload_n 2, 1) := by decide +kernel
theorem dX3_isOddPrime_17 : decode cX3_isOddPrime 17 = .ok (.lload_n 2, 1) := by decide +kernel
theorem dX3_isOddPrime_18 : decode cX3_isOddPrime 18 = .ok (.lmul, 1) := by decide +kernel
theorem dX3_isOddPrime_19 : decode cX3_isOddPrime 19 = .ok (.lload_n 0, 1) := by decide +kernel
theorem dX3_isOddPrime_20 : decode cX3_isOddPrime 20 = .ok (.lcmp, 1) := by decide +kernel
theorem dX3_isOddPrime_21 : decode cX3_isOddPrime 21 = .ok (.ifCond .gt 22, 3) := by decide +kernel
theorem dX3_isOddPrime_24 : decode cX3_isOddPrime 24 = .ok (.lload_n 0, 1) := by decide +kernel
theorem dX3_isOddPrime_25 : decode cX3_isOddPrime 25 = .ok (.lload_n 2, 1) := by decide +kernel
theorem dX3_isOddPrime_26 : decode cX3_isOddPrime 26 = .ok (.lrem, 1) := by decide +kernel
theorem dX3_isOddPrime_27 : decode cX3_isOddPrime 27 = .ok (.lconst 0, 1) := by decide +kernel
theorem dX3_isOddPrime_28 : decode cX3_isOddPrime 28 = .ok (.lcmp, 1) := by decide +kernel
theorem dX3_isOddPrime_29 : decode cX3_isOddPrime 29 = .ok (.ifCond .ne 5, 3) := by decide +kernel
theorem dX3_isOddPrime_32 : decode cX3_isOddPrime 32 = .ok (.iconst 0, 1) := by decide +kernel
theorem dX3_isOddPrime_33 : decode cX3_isOddPrime 33 = .ok (.ireturn, 1) := by decide +kernel
theorem dX3_isOddPrime_34 : decode cX3_isOddPrime 34 = .ok (.lload_n 2, 1) := by decide +kernel
theorem dX3_isOddPrime_35 : decode cX3_isOddPrime 35 = .ok (.ldc2_w 159, 3) := by decide +kernel
theorem dX3_isOddPrime_38 : decode cX3_isOddPrime 38 = .ok (.ladd, 1) := by decide +kernel
theorem dX3_isOddPrime_39 : decode cX3_isOddPrime 39 = .ok (.lstore_n 2, 1) := by decide +kernel
theorem dX3_isOddPrime_40 : decode cX3_isOddPrime 40 = .ok (.goto (-24), 3) := by decide +kernel
theorem dX3_isOddPrime_43 : decode cX3_isOddPrime 43 = .ok (.iconst 1, 1) := by decide +kernel
theorem dX3_isOddPrime_44 : decode cX3_isOddPrime 44 = .ok (.ireturn, 1) := by decide +kernel
theorem dX3_joined_0 : decode cX3_joined 0 = .ok (.lload_n 0, 1) := by decide +kernel
theorem dX3_joined_1 : decode cX3_joined 1 = .ok (.bipush 31, 2) := by decide +kernel
theorem dX3_joined_3 : decode cX3_joined 3 = .ok (.lshl, 1) := by decide +kernel
theorem dX3_joined_4 : decode cX3_joined 4 = .ok (.lload_n 2, 1) := by decide +kernel
theorem dX3_joined_5 : decode cX3_joined 5 = .ok (.lor, 1) := by decide +kernel
theorem dX3_joined_6 : decode cX3_joined 6 = .ok (.lreturn, 1) := by decide +kernel
theorem dX3_upper_0 : decode cX3_upper 0 = .ok (.lload_n 0, 1) := by decide +kernel
theorem dX3_upper_1 : decode cX3_upper 1 = .ok (.bipush 31, 2) := by decide +kernel
theorem dX3_upper_3 : decode cX3_upper 3 = .ok (.lshr, 1) := by decide +kernel
theorem dX3_upper_4 : decode cX3_upper 4 = .ok (.lreturn, 1) := by decide +kernel
theorem dX3_lower_0 : decode cX3_lower 0 = .ok (.lload_n 0, 1) := by decide +kernel
theorem dX3_lower_1 : decode cX3_lower 1 = .ok (.ldc2_w 163, 3) := by decide +kernel
theorem dX3_lower_4 : decode cX3_lower 4 = .ok (.land, 1) := by decide +kernel
theorem dX3_lower_5 : decode cX3_lower 5 = .ok (.lreturn, 1) := by decide +kernel
set_option maxRecDepth 20000 in
theorem ggX3_half_X3_upper : GoodIn wsX3_half wsX3_upper := goodIn_r _ [4] (by decide +kernel) (by decide +kernel)
set_option maxRecDepth 20000 in
theorem gX3_half_X3_upper : GoodIn wsX3_half (va_wsS RX3 150 yX3_upper wsX3_upper) := goodIn_app (goodIn_of _ (by decide +kernel)) ggX3_half_X3_upper
set_option maxRecDepth 20000 in
theorem ggX3_half_X3_lower : GoodIn wsX3_half wsX3_lower := goodIn_r _ [7, 8] (by decide +kernel) (by decide +kernel)
set_option maxRecDepth 20000 in
theorem gX3_half_X3_lower : GoodIn wsX3_half (va_wsS RX3 153 yX3_lower wsX3_lower) := goodIn_app (goodIn_of _ (by decide +kernel)) ggX3_half_X3_lower
theorem dX3_half_0 : decode cX3_half 0 = .ok (.iload_n 2, 1) := by decide +kernel
theorem dX3_half_1 : decode cX3_half 1 = .ok (.ifCond .ne 10, 3) := by decide +kernel
theorem dX3_half_4 : decode cX3_half 4 = .ok (.lload_n 0, 1) := by decide +kernel
theorem dX3_half_5 : decode cX3_half 5 = .ok (.invokestatic 150, 3) := by decide +kernel
theorem dX3_half_8 : decode cX3_half 8 = .ok (.goto 7, 3) := by decide +kernel
theorem dX3_half_11 : decode cX3_half 11 = .ok (.lload_n 0, 1) := by decide +kernel
theorem dX3_half_12 : decode cX3_half 12 = .ok (.invokestatic 153, 3) := by decide +kernel
theorem dX3_half_15 : decode cX3_half 15 = .ok (.l2i, 1) := by decide +kernel
theorem dX3_half_16 : decode cX3_half 16 = .ok (.ireturn, 1) := by decide +kernel
set_option maxRecDepth 20000 in
theorem ggX3_written_X3_upper : GoodIn wsX3_written wsX3_upper := goodIn_r _ [6] (by decide +kernel) (by decide +kernel)
set_option maxRecDepth 20000 in
theorem gX3_written_X3_upper : GoodIn wsX3_written (va_wsS RX3 150 yX3_upper wsX3_upper) := goodIn_app (goodIn_of _ (by decide +kernel)) ggX3_written_X3_upper
set_option maxRecDepth 20000 in
theorem ggX3_written_X3_lower : GoodIn wsX3_written wsX3_lower := goodIn_r _ [9, 10] (by decide +kernel) (by decide +kernel)
set_option maxRecDepth 20000 in
theorem gX3_written_X3_lower : GoodIn wsX3_written (va_wsS RX3 153 yX3_lower wsX3_lower) := goodIn_app (goodIn_of _ (by decide +kernel)) ggX3_written_X3_lower
theorem dX3_written_0 : decode cX3_written 0 = .ok (.lload_n 0, 1) := by decide +kernel
theorem dX3_written_1 : decode cX3_written 1 = .ok (.ldc2_w 79, 3) := by decide +kernel
theorem dX3_written_4 : decode cX3_written 4 = .ok (.lcmp, 1) := by decide +kernel
theorem dX3_written_5 : decode cX3_written 5 = .ok (.ifCond .ne 9, 3) := by decide +kernel
theorem dX3_written_8 : decode cX3_written 8 = .ok (.ldc2_w 79, 3) := by decide +kernel
theorem dX3_written_11 : decode cX3_written 11 = .ok (.goto 20, 3) := by decide +kernel
theorem dX3_written_14 : decode cX3_written 14 = .ok (.ldc2_w 159, 3) := by decide +kernel
theorem dX3_written_17 : decode cX3_written 17 = .ok (.lload_n 0, 1) := by decide +kernel
theorem dX3_written_18 : decode cX3_written 18 = .ok (.invokestatic 150, 3) := by decide +kernel
theorem dX3_written_21 : decode cX3_written 21 = .ok (.lmul, 1) := by decide +kernel
theorem dX3_written_22 : decode cX3_written 22 = .ok (.lload_n 0, 1) := by decide +kernel
theorem dX3_written_23 : decode cX3_written 23 = .ok (.invokestatic 153, 3) := by decide +kernel
theorem dX3_written_26 : decode cX3_written 26 = .ok (.ldc2_w 159, 3) := by decide +kernel
theorem dX3_written_29 : decode cX3_written 29 = .ok (.lrem, 1) := by decide +kernel
theorem dX3_written_30 : decode cX3_written 30 = .ok (.ladd, 1) := by decide +kernel
theorem dX3_written_31 : decode cX3_written 31 = .ok (.lreturn, 1) := by decide +kernel
