theorem dX4_init_0 : decode cX4_init 0 = .ok (.aload_n 0, 1) := by decide +kernel
theorem dX4_init_1 : decode cX4_init 1 = .ok (.invokespecial 1, 3) := by decide +kernel
theorem dX4_init_4 : decode cX4_init 4 = .ok (.aload_n 0, 1) := by decide +kernel
theorem dX4_init_5 : decode cX4_init 5 = .ok (.bipush 16, 2) := by decide +kernel
theorem dX4_init_7 : decode cX4_init 7 = .ok (.newarray .long, 2) := by decide +kernel
theorem dX4_init_9 : decode cX4_init 9 = .ok (.putfield 7, 3) := by decide +kernel
theorem dX4_init_12 : decode cX4_init 12 = .ok (.aload_n 0, 1) := by decide +kernel
theorem dX4_init_13 : decode cX4_init 13 = .ok (.bipush 16, 2) := by decide +kernel
theorem dX4_init_15 : decode cX4_init 15 = .ok (.newarray .long, 2) := by decide +kernel
theorem dX4_init_17 : decode cX4_init 17 = .ok (.putfield 13, 3) := by decide +kernel
theorem dX4_init_20 : decode cX4_init 20 = .ok (.aload_n 0, 1) := by decide +kernel
theorem dX4_init_21 : decode cX4_init 21 = .ok (.bipush 16, 2) := by decide +kernel
theorem dX4_init_23 : decode cX4_init 23 = .ok (.newarray .boolean, 2) := by decide +kernel
theorem dX4_init_25 : decode cX4_init 25 = .ok (.putfield 16, 3) := by decide +kernel
theorem dX4_init_28 : decode cX4_init 28 = .ok (.aload_n 0, 1) := by decide +kernel
theorem dX4_init_29 : decode cX4_init 29 = .ok (.bipush 8, 2) := by decide +kernel
theorem dX4_init_31 : decode cX4_init 31 = .ok (.newarray .long, 2) := by decide +kernel
theorem dX4_init_33 : decode cX4_init 33 = .ok (.putfield 20, 3) := by decide +kernel
theorem dX4_init_36 : decode cX4_init 36 = .ok (.aload_n 0, 1) := by decide +kernel
theorem dX4_init_37 : decode cX4_init 37 = .ok (.bipush 8, 2) := by decide +kernel
theorem dX4_init_39 : decode cX4_init 39 = .ok (.newarray .long, 2) := by decide +kernel
theorem dX4_init_41 : decode cX4_init 41 = .ok (.putfield 23, 3) := by decide +kernel
theorem dX4_init_44 : decode cX4_init 44 = .ok (.return_, 1) := by decide +kernel
theorem dX4_in_0 : decode cX4_in 0 = .ok (.lload_n 0, 1) := by decide +kernel
theorem dX4_in_1 : decode cX4_in 1 = .ok (.lload_n 2, 1) := by decide +kernel
theorem dX4_in_2 : decode cX4_in 2 = .ok (.lcmp, 1) := by decide +kernel
theorem dX4_in_3 : decode cX4_in 3 = .ok (.ifCond .lt 14, 3) := by decide +kernel
theorem dX4_in_6 : decode cX4_in 6 = .ok (.lload_n 0, 1) := by decide +kernel
theorem dX4_in_7 : decode cX4_in 7 = .ok (.lload 4, 2) := by decide +kernel
theorem dX4_in_9 : decode cX4_in 9 = .ok (.lcmp, 1) := by decide +kernel
theorem dX4_in_10 : decode cX4_in 10 = .ok (.ifCond .gt 7, 3) := by decide +kernel
theorem dX4_in_13 : decode cX4_in 13 = .ok (.iconst 1, 1) := by decide +kernel
theorem dX4_in_14 : decode cX4_in 14 = .ok (.goto 4, 3) := by decide +kernel
theorem dX4_in_17 : decode cX4_in 17 = .ok (.iconst 0, 1) := by decide +kernel
theorem dX4_in_18 : decode cX4_in 18 = .ok (.ireturn, 1) := by decide +kernel
theorem dX4_isPrime_0 : decode cX4_isPrime 0 = .ok (.lload_n 0, 1) := by decide +kernel
theorem dX4_isPrime_1 : decode cX4_isPrime 1 = .ok (.ldc2_w 26, 3) := by decide +kernel
theorem dX4_isPrime_4 : decode cX4_isPrime 4 = .ok (.lcmp, 1) := by decide +kernel
theorem dX4_isPrime_5 : decode cX4_isPrime 5 = .ok (.ifCond .ge 5, 3) := by decide +kernel
theorem dX4_isPrime_8 : decode cX4_isPrime 8 = .ok (.iconst 0, 1) := by decide +kernel
theorem dX4_isPrime_9 : decode cX4_isPrime 9 = .ok (.ireturn, 1) := by decide +kernel
theorem dX4_isPrime_10 : decode cX4_isPrime 10 = .ok (.ldc2_w 26, 3) := by decide +kernel
theorem dX4_isPrime_13 : decode cX4_isPrime 13 = .ok (.lstore_n 2, 1) := by decide +kernel
theorem dX4_isPrime_14 : decode cX4_isPrime 14 = .ok (.lload_n 2, 1) := by decide +kernel
theorem dX4_isPrime_15 : decode cX4_isPrime 15 = .ok (.lload_n 2, 1) := by decide +kernel
theorem dX4_isPrime_16 : decode cX4_isPrime 16 = .ok (.lmul, 1) := by decide +kernel
theorem dX4_isPrime_17 : decode cX4_isPrime 17 = .ok (.lload_n 0, 1) := by decide +kernel
theorem dX4_isPrime_18 : decode cX4_isPrime 18 = .ok (.lcmp, 1) := by decide +kernel
theorem dX4_isPrime_19 : decode cX4_isPrime 19 = .ok (.ifCond .gt 20, 3) := by decide +kernel
theorem dX4_isPrime_22 : decode cX4_isPrime 22 = .ok (.lload_n 0, 1) := by decide +kernel
theorem dX4_isPrime_23 : decode cX4_isPrime 23 = .ok (.lload_n 2, 1) := by decide +kernel
theorem dX4_isPrime_24 : decode cX4_isPrime 24 = .ok (.lrem, 1) := by decide +kernel
theorem dX4_isPrime_25 : decode cX4_isPrime 25 = .ok (.lconst 0, 1) := by decide +kernel
theorem dX4_isPrime_26 : decode cX4_isPrime 26 = .ok (.lcmp, 1) := by decide +kernel
theorem dX4_isPrime_27 : decode cX4_isPrime 27 = .ok (.ifCond .ne 5, 3) := by decide +kernel
theorem dX4_isPrime_30 : decode cX4_isPrime 30 = .ok (.iconst 0, 1) := by decide +kernel
theorem dX4_isPrime_31 : decode cX4_isPrime 31 = .ok (.ireturn, 1) := by decide +kernel
theorem dX4_isPrime_32 : decode cX4_isPrime 32 = .ok (.lload_n 2, 1) := by decide +kernel
theorem dX4_isPrime_33 : decode cX4_isPrime 33 = .ok (.lconst 1, 1) := by decide +kernel
theorem dX4_isPrime_34 : decode cX4_isPrime 34 = .ok (.ladd, 1) := by decide +kernel
theorem dX4_isPrime_35 : decode cX4_isPrime 35 = .ok (.lstore_n 2, 1) := by decide +kernel
theorem dX4_isPrime_36 : decode cX4_isPrime 36 = .ok (.goto (-22), 3) := by decide +kernel
theorem dX4_isPrime_39 : decode cX4_isPrime 39 = .ok (.iconst 1, 1) := by decide +kernel
theorem dX4_isPrime_40 : decode cX4_isPrime 40 = .ok (.ireturn, 1) := by decide +kernel
theorem dX4_fit_0 : decode cX4_fit 0 = .ok (.lload_n 1, 1) := by decide +kernel
theorem dX4_fit_1 : decode cX4_fit 1 = .ok (.aload_n 0, 1) := by decide +kernel
theorem dX4_fit_2 : decode cX4_fit 2 = .ok (.getfield 28, 3) := by decide +kernel
theorem dX4_fit_5 : decode cX4_fit 5 = .ok (.lrem, 1) := by decide +kernel
theorem dX4_fit_6 : decode cX4_fit 6 = .ok (.lstore_n 3, 1) := by decide +kernel
theorem dX4_fit_7 : decode cX4_fit 7 = .ok (.lload_n 3, 1) := by decide +kernel
theorem dX4_fit_8 : decode cX4_fit 8 = .ok (.lconst 0, 1) := by decide +kernel
theorem dX4_fit_9 : decode cX4_fit 9 = .ok (.lcmp, 1) := by decide +kernel
theorem dX4_fit_10 : decode cX4_fit 10 = .ok (.ifCond .ge 12, 3) := by decide +kernel
theorem dX4_fit_13 : decode cX4_fit 13 = .ok (.lload_n 3, 1) := by decide +kernel
theorem dX4_fit_14 : decode cX4_fit 14 = .ok (.aload_n 0, 1) := by decide +kernel
theorem dX4_fit_15 : decode cX4_fit 15 = .ok (.getfield 28, 3) := by decide +kernel
theorem dX4_fit_18 : decode cX4_fit 18 = .ok (.ladd, 1) := by decide +kernel
theorem dX4_fit_19 : decode cX4_fit 19 = .ok (.goto 4, 3) := by decide +kernel
theorem dX4_fit_22 : decode cX4_fit 22 = .ok (.lload_n 3, 1) := by decide +kernel
theorem dX4_fit_23 : decode cX4_fit 23 = .ok (.lreturn, 1) := by decide +kernel
set_option maxRecDepth 20000 in
theorem ggX4_raised_X4_fit : GoodIn wsX4_raised wsX4_fit := goodIn_r _ [6, 1, 7, 8, 9, 10, 11, 12, 13, 14, 15, 16, 17, 18, 19, 20] (by decide +kernel) (by decide +kernel)
set_option maxRecDepth 20000 in
theorem gX4_raised_X4_fit : GoodIn wsX4_raised (wsV RX4 32 RX4 yX4_fit wsX4_fit) := goodIn_app (goodIn_of _ (by decide +kernel)) ggX4_raised_X4_fit
theorem dX4_raised_0 : decode cX4_raised 0 = .ok (.lconst 1, 1) := by decide +kernel
theorem dX4_raised_1 : decode cX4_raised 1 = .ok (.lstore 5, 2) := by decide +kernel
theorem dX4_raised_3 : decode cX4_raised 3 = .ok (.aload_n 0, 1) := by decide +kernel
theorem dX4_raised_4 : decode cX4_raised 4 = .ok (.lload_n 1, 1) := by decide +kernel
theorem dX4_raised_5 : decode cX4_raised 5 = .ok (.invokevirtual 32, 3) := by decide +kernel
theorem dX4_raised_8 : decode cX4_raised 8 = .ok (.lstore 7, 2) := by decide +kernel
theorem dX4_raised_10 : decode cX4_raised 10 = .ok (.lload_n 3, 1) := by decide +kernel
theorem dX4_raised_11 : decode cX4_raised 11 = .ok (.lstore 9, 2) := by decide +kernel
theorem dX4_raised_13 : decode cX4_raised 13 = .ok (.lload 9, 2) := by decide +kernel
theorem dX4_raised_15 : decode cX4_raised 15 = .ok (.lconst 0, 1) := by decide +kernel
theorem dX4_raised_16 : decode cX4_raised 16 = .ok (.lcmp, 1) := by decide +kernel
theorem dX4_raised_17 : decode cX4_raised 17 = .ok (.ifCond .le 50, 3) := by decide +kernel
theorem dX4_raised_20 : decode cX4_raised 20 = .ok (.lload 9, 2) := by decide +kernel
theorem dX4_raised_22 : decode cX4_raised 22 = .ok (.lconst 1, 1) := by decide +kernel
theorem dX4_raised_23 : decode cX4_raised 23 = .ok (.land, 1) := by decide +kernel
theorem dX4_raised_24 : decode cX4_raised 24 = .ok (.lconst 1, 1) := by decide +kernel
theorem dX4_raised_25 : decode cX4_raised 25 = .ok (.lcmp, 1) := by decide +kernel
theorem dX4_raised_26 : decode cX4_raised 26 = .ok (.ifCond .ne 16, 3) := by decide +kernel
theorem dX4_raised_29 : decode cX4_raised 29 = .ok (.lload 5, 2) := by decide +kernel
theorem dX4_raised_31 : decode cX4_raised 31 = .ok (.lload 7, 2) := by decide +kernel
theorem dX4_raised_33 : decode cX4_raised 33 = .ok (.lmul, 1) := by decide +kernel
theorem dX4_raised_34 : decode cX4_raised 34 = .ok (.aload_n 0, 1) := by decide +kernel
theorem dX4_raised_35 : decode cX4_raised 35 = .ok (.getfield 28, 3) := by decide +kernel
theorem dX4_raised_38 : decode cX4_raised 38 = .ok (.lrem, 1) := by decide +kernel
theorem dX4_raised_39 : decode cX4_raised 39 = .ok (.goto 5, 3) := by decide +kernel
theorem dX4_raised_42 : decode cX4_raised 42 = .ok (.lload 5, 2) := by decide +kernel
theorem dX4_raised_44 : decode cX4_raised 44 = .ok (.lstore 5, 2) := by decide +kernel
theorem dX4_raised_46 : decode cX4_raised 46 = .ok (.lload 7, 2) := by decide +kernel
theorem dX4_raised_48 : decode cX4_raised 48 = .ok (.lload 7, 2) := by decide +kernel
theorem dX4_raised_50 : decode cX4_raised 50 = .ok (.lmul, 1) := by decide +kernel
theorem dX4_raised_51 : decode cX4_raised 51 = .ok (.aload_n 0, 1) := by decide +kernel
theorem dX4_raised_52 : decode cX4_raised 52 = .ok (.getfield 28, 3) := by decide +kernel
theorem dX4_raised_55 : decode cX4_raised 55 = .ok (.lrem, 1) := by decide +kernel
theorem dX4_raised_56 : decode cX4_raised 56 = .ok (.lstore 7, 2) := by decide +kernel
theorem dX4_raised_58 : decode cX4_raised 58 = .ok (.lload 9, 2) := by decide +kernel
theorem dX4_raised_60 : decode cX4_raised 60 = .ok (.iconst 1, 1) := by decide +kernel
theorem dX4_raised_61 : decode cX4_raised 61 = .ok (.lshr, 1) := by decide +kernel
theorem dX4_raised_62 : decode cX4_raised 62 = .ok (.lstore 9, 2) := by decide +kernel
theorem dX4_raised_64 : decode cX4_raised 64 = .ok (.goto (-51), 3) := by decide +kernel
theorem dX4_raised_67 : decode cX4_raised 67 = .ok (.lload 5, 2) := by decide +kernel
theorem dX4_raised_69 : decode cX4_raised 69 = .ok (.lreturn, 1) := by decide +kernel
set_option maxRecDepth 20000 in
theorem ggX4_turned_X4_raised : GoodIn wsX4_turned wsX4_raised := goodIn_r _ [7, 1, 8, 9, 10, 6, 11, 12, 13, 14, 15, 16, 17, 18, 19, 20, 21, 22, 23, 24, 25] (by decide +kernel) (by decide +kernel)
set_option maxRecDepth 20000 in
theorem gX4_turned_X4_raised : GoodIn wsX4_turned (wsV RX4 36 RX4 yX4_raised wsX4_raised) := goodIn_app (goodIn_of _ (by decide +kernel)) ggX4_turned_X4_raised
theorem dX4_turned_0 : decode cX4_turned 0 = .ok (.aload_n 0, 1) := by decide +kernel
theorem dX4_turned_1 : decode cX4_turned 1 = .ok (.lload_n 1, 1) := by decide +kernel
theorem dX4_turned_2 : decode cX4_turned 2 = .ok (.aload_n 0, 1) := by decide +kernel
theorem dX4_turned_3 : decode cX4_turned 3 = .ok (.getfield 28, 3) := by decide +kernel
theorem dX4_turned_6 : decode cX4_turned 6 = .ok (.ldc2_w 26, 3) := by decide +kernel
theorem dX4_turned_9 : decode cX4_turned 9 = .ok (.lsub, 1) := by decide +kernel
theorem dX4_turned_10 : decode cX4_turned 10 = .ok (.invokevirtual 36, 3) := by decide +kernel
theorem dX4_turned_13 : decode cX4_turned 13 = .ok (.lreturn, 1) := by decide +kernel
set_option maxRecDepth 20000 in
theorem ggX4_rootOf_X4_raised : GoodIn wsX4_rootOf wsX4_raised := goodIn_r _ [8, 1, 9, 10, 11, 7, 12, 13, 14, 15, 16, 17, 18, 19, 20, 21, 22, 23, 24, 25, 26] (by decide +kernel) (by decide +kernel)
set_option maxRecDepth 20000 in
theorem gX4_rootOf_X4_raised : GoodIn wsX4_rootOf (wsV RX4 36 RX4 yX4_raised wsX4_raised) := goodIn_app (goodIn_of _ (by decide +kernel)) ggX4_rootOf_X4_raised
set_option maxRecDepth 20000 in
theorem ggX4_rootOf_X4_fit : GoodIn wsX4_rootOf wsX4_fit := goodIn_r _ [12, 1, 13, 14, 15, 16, 17, 18, 19, 20, 21, 22, 23, 24, 25, 26] (by decide +kernel) (by decide +kernel)
set_option maxRecDepth 20000 in
theorem gX4_rootOf_X4_fit : GoodIn wsX4_rootOf (wsV RX4 32 RX4 yX4_fit wsX4_fit) := goodIn_app (goodIn_of _ (by decide +kernel)) ggX4_rootOf_X4_fit
theorem dX4_rootOf_0 : decode cX4_rootOf 0 = .ok (.aload_n 0, 1) := by decide +kernel
theorem dX4_rootOf_1 : decode cX4_rootOf 1 = .ok (.lload_n 1, 1) := by decide +kernel
theorem dX4_rootOf_2 : decode cX4_rootOf 2 = .ok (.aload_n 0, 1) := by decide +kernel
theorem dX4_rootOf_3 : decode cX4_rootOf 3 = .ok (.getfield 28, 3) := by decide +kernel
theorem dX4_rootOf_6 : decode cX4_rootOf 6 = .ok (.lconst 1, 1) := by decide +kernel
theorem dX4_rootOf_7 : decode cX4_rootOf 7 = .ok (.ladd, 1) := by decide +kernel
theorem dX4_rootOf_8 : decode cX4_rootOf 8 = .ok (.ldc2_w 40, 3) := by decide +kernel
theorem dX4_rootOf_11 : decode cX4_rootOf 11 = .ok (.ldiv, 1) := by decide +kernel
theorem dX4_rootOf_12 : decode cX4_rootOf 12 = .ok (.invokevirtual 36, 3) := by decide +kernel
theorem dX4_rootOf_15 : decode cX4_rootOf 15 = .ok (.lstore_n 3, 1) := by decide +kernel
theorem dX4_rootOf_16 : decode cX4_rootOf 16 = .ok (.lload_n 3, 1) := by decide +kernel
theorem dX4_rootOf_17 : decode cX4_rootOf 17 = .ok (.lload_n 3, 1) := by decide +kernel
theorem dX4_rootOf_18 : decode cX4_rootOf 18 = .ok (.lmul, 1) := by decide +kernel
theorem dX4_rootOf_19 : decode cX4_rootOf 19 = .ok (.aload_n 0, 1) := by decide +kernel
theorem dX4_rootOf_20 : decode cX4_rootOf 20 = .ok (.getfield 28, 3) := by decide +kernel
theorem dX4_rootOf_23 : decode cX4_rootOf 23 = .ok (.lrem, 1) := by decide +kernel
theorem dX4_rootOf_24 : decode cX4_rootOf 24 = .ok (.aload_n 0, 1) := by decide +kernel
theorem dX4_rootOf_25 : decode cX4_rootOf 25 = .ok (.lload_n 1, 1) := by decide +kernel
theorem dX4_rootOf_26 : decode cX4_rootOf 26 = .ok (.invokevirtual 32, 3) := by decide +kernel
theorem dX4_rootOf_29 : decode cX4_rootOf 29 = .ok (.lcmp, 1) := by decide +kernel
theorem dX4_rootOf_30 : decode cX4_rootOf 30 = .ok (.ifCond .eq 7, 3) := by decide +kernel
theorem dX4_rootOf_33 : decode cX4_rootOf 33 = .ok (.ldc2_w 42, 3) := by decide +kernel
theorem dX4_rootOf_36 : decode cX4_rootOf 36 = .ok (.lreturn, 1) := by decide +kernel
theorem dX4_rootOf_37 : decode cX4_rootOf 37 = .ok (.lload_n 3, 1) := by decide +kernel
theorem dX4_rootOf_38 : decode cX4_rootOf 38 = .ok (.lconst 1, 1) := by decide +kernel
theorem dX4_rootOf_39 : decode cX4_rootOf 39 = .ok (.land, 1) := by decide +kernel
theorem dX4_rootOf_40 : decode cX4_rootOf 40 = .ok (.lconst 0, 1) := by decide +kernel
theorem dX4_rootOf_41 : decode cX4_rootOf 41 = .ok (.lcmp, 1) := by decide +kernel
theorem dX4_rootOf_42 : decode cX4_rootOf 42 = .ok (.ifCond .ne 7, 3) := by decide +kernel
theorem dX4_rootOf_45 : decode cX4_rootOf 45 = .ok (.lload_n 3, 1) := by decide +kernel
theorem dX4_rootOf_46 : decode cX4_rootOf 46 = .ok (.goto 9, 3) := by decide +kernel
theorem dX4_rootOf_49 : decode cX4_rootOf 49 = .ok (.aload_n 0, 1) := by decide +kernel
theorem dX4_rootOf_50 : decode cX4_rootOf 50 = .ok (.getfield 28, 3) := by decide +kernel
theorem dX4_rootOf_53 : decode cX4_rootOf 53 = .ok (.lload_n 3, 1) := by decide +kernel
theorem dX4_rootOf_54 : decode cX4_rootOf 54 = .ok (.lsub, 1) := by decide +kernel
theorem dX4_rootOf_55 : decode cX4_rootOf 55 = .ok (.lreturn, 1) := by decide +kernel
theorem dX4_curve_0 : decode cX4_curve 0 = .ok (.lload_n 1, 1) := by decide +kernel
theorem dX4_curve_1 : decode cX4_curve 1 = .ok (.lload_n 1, 1) := by decide +kernel
theorem dX4_curve_2 : decode cX4_curve 2 = .ok (.lmul, 1) := by decide +kernel
theorem dX4_curve_3 : decode cX4_curve 3 = .ok (.aload_n 0, 1) := by decide +kernel
theorem dX4_curve_4 : decode cX4_curve 4 = .ok (.getfield 28, 3) := by decide +kernel
theorem dX4_curve_7 : decode cX4_curve 7 = .ok (.lrem, 1) := by decide +kernel
theorem dX4_curve_8 : decode cX4_curve 8 = .ok (.lload_n 1, 1) := by decide +kernel
theorem dX4_curve_9 : decode cX4_curve 9 = .ok (.lmul, 1) := by decide +kernel
theorem dX4_curve_10 : decode cX4_curve 10 = .ok (.lload_n 1, 1) := by decide +kernel
theorem dX4_curve_11 : decode cX4_curve 11 = .ok (.ladd, 1) := by decide +kernel
theorem dX4_curve_12 : decode cX4_curve 12 = .ok (.aload_n 0, 1) := by decide +kernel
theorem dX4_curve_13 : decode cX4_curve 13 = .ok (.getfield 28, 3) := by decide +kernel
theorem dX4_curve_16 : decode cX4_curve 16 = .ok (.lrem, 1) := by decide +kernel
theorem dX4_curve_17 : decode cX4_curve 17 = .ok (.lreturn, 1) := by decide +kernel
set_option maxRecDepth 20000 in
theorem ggX4_field_X4_isPrime : GoodIn wsX4_field wsX4_isPrime := goodIn_r _ [10, 11] (by decide +kernel) (by decide +kernel)
set_option maxRecDepth 20000 in
theorem gX4_field_X4_isPrime : GoodIn wsX4_field (va_wsS RX4 44 yX4_isPrime wsX4_isPrime) := goodIn_app (goodIn_of _ (by decide +kernel)) ggX4_field_X4_isPrime
theorem dX4_field_0 : decode cX4_field 0 = .ok (.iload_n 1, 1) := by decide +kernel
theorem dX4_field_1 : decode cX4_field 1 = .ok (.bipush 11, 2) := by decide +kernel
theorem dX4_field_3 : decode cX4_field 3 = .ok (.if_icmp .lt 31, 3) := by decide +kernel
theorem dX4_field_6 : decode cX4_field 6 = .ok (.iload_n 1, 1) := by decide +kernel
theorem dX4_field_7 : decode cX4_field 7 = .ok (.iconst 4, 1) := by decide +kernel
theorem dX4_field_8 : decode cX4_field 8 = .ok (.irem, 1) := by decide +kernel
theorem dX4_field_9 : decode cX4_field 9 = .ok (.iconst 3, 1) := by decide +kernel
theorem dX4_field_10 : decode cX4_field 10 = .ok (.if_icmp .ne 24, 3) := by decide +kernel
theorem dX4_field_13 : decode cX4_field 13 = .ok (.iload_n 1, 1) := by decide +kernel
theorem dX4_field_14 : decode cX4_field 14 = .ok (.i2l, 1) := by decide +kernel
theorem dX4_field_15 : decode cX4_field 15 = .ok (.invokestatic 44, 3) := by decide +kernel
theorem dX4_field_18 : decode cX4_field 18 = .ok (.ifCond .eq 16, 3) := by decide +kernel
theorem dX4_field_21 : decode cX4_field 21 = .ok (.iload_n 2, 1) := by decide +kernel
theorem dX4_field_22 : decode cX4_field 22 = .ok (.iconst 3, 1) := by decide +kernel
theorem dX4_field_23 : decode cX4_field 23 = .ok (.if_icmp .lt 11, 3) := by decide +kernel
theorem dX4_field_26 : decode cX4_field 26 = .ok (.iload_n 2, 1) := by decide +kernel
theorem dX4_field_27 : decode cX4_field 27 = .ok (.i2l, 1) := by decide +kernel
theorem dX4_field_28 : decode cX4_field 28 = .ok (.invokestatic 44, 3) := by decide +kernel
theorem dX4_field_31 : decode cX4_field 31 = .ok (.ifCond .ne 6, 3) := by decide +kernel
theorem dX4_field_34 : decode cX4_field 34 = .ok (.bipush (-2), 2) := by decide +kernel
theorem dX4_field_36 : decode cX4_field 36 = .ok (.ireturn, 1) := by decide +kernel
theorem dX4_field_37 : decode cX4_field 37 = .ok (.iload_n 1, 1) := by decide +kernel
theorem dX4_field_38 : decode cX4_field 38 = .ok (.i2l, 1) := by decide +kernel
theorem dX4_field_39 : decode cX4_field 39 = .ok (.lconst 1, 1) := by decide +kernel
theorem dX4_field_40 : decode cX4_field 40 = .ok (.ladd, 1) := by decide +kernel
theorem dX4_field_41 : decode cX4_field 41 = .ok (.lstore_n 3, 1) := by decide +kernel
theorem dX4_field_42 : decode cX4_field 42 = .ok (.lload_n 3, 1) := by decide +kernel
theorem dX4_field_43 : decode cX4_field 43 = .ok (.iload_n 2, 1) := by decide +kernel
theorem dX4_field_44 : decode cX4_field 44 = .ok (.i2l, 1) := by decide +kernel
theorem dX4_field_45 : decode cX4_field 45 = .ok (.lrem, 1) := by decide +kernel
theorem dX4_field_46 : decode cX4_field 46 = .ok (.lconst 0, 1) := by decide +kernel
theorem dX4_field_47 : decode cX4_field 47 = .ok (.lcmp, 1) := by decide +kernel
theorem dX4_field_48 : decode cX4_field 48 = .ok (.ifCond .ne 15, 3) := by decide +kernel
theorem dX4_field_51 : decode cX4_field 51 = .ok (.lload_n 3, 1) := by decide +kernel
theorem dX4_field_52 : decode cX4_field 52 = .ok (.iload_n 2, 1) := by decide +kernel
theorem dX4_field_53 : decode cX4_field 53 = .ok (.i2l, 1) := by decide +kernel
theorem dX4_field_54 : decode cX4_field 54 = .ok (.ldiv, 1) := by decide +kernel
theorem dX4_field_55 : decode cX4_field 55 = .ok (.iload_n 2, 1) := by decide +kernel
theorem dX4_field_56 : decode cX4_field 56 = .ok (.i2l, 1) := by decide +kernel
theorem dX4_field_57 : decode cX4_field 57 = .ok (.lrem, 1) := by decide +kernel
theorem dX4_field_58 : decode cX4_field 58 = .ok (.lconst 0, 1) := by decide +kernel
theorem dX4_field_59 : decode cX4_field 59 = .ok (.lcmp, 1) := by decide +kernel
theorem dX4_field_60 : decode cX4_field 60 = .ok (.ifCond .ne 6, 3) := by decide +kernel
theorem dX4_field_63 : decode cX4_field 63 = .ok (.bipush (-2), 2) := by decide +kernel
theorem dX4_field_65 : decode cX4_field 65 = .ok (.ireturn, 1) := by decide +kernel
theorem dX4_field_66 : decode cX4_field 66 = .ok (.aload_n 0, 1) := by decide +kernel
theorem dX4_field_67 : decode cX4_field 67 = .ok (.iload_n 1, 1) := by decide +kernel
theorem dX4_field_68 : decode cX4_field 68 = .ok (.i2l, 1) := by decide +kernel
theorem dX4_field_69 : decode cX4_field 69 = .ok (.putfield 28, 3) := by decide +kernel
theorem dX4_field_72 : decode cX4_field 72 = .ok (.aload_n 0, 1) := by decide +kernel
theorem dX4_field_73 : decode cX4_field 73 = .ok (.iload_n 2, 1) := by decide +kernel
theorem dX4_field_74 : decode cX4_field 74 = .ok (.i2l, 1) := by decide +kernel
theorem dX4_field_75 : decode cX4_field 75 = .ok (.putfield 48, 3) := by decide +kernel
theorem dX4_field_78 : decode cX4_field 78 = .ok (.aload_n 0, 1) := by decide +kernel
theorem dX4_field_79 : decode cX4_field 79 = .ok (.lload_n 3, 1) := by decide +kernel
theorem dX4_field_80 : decode cX4_field 80 = .ok (.iload_n 2, 1) := by decide +kernel
theorem dX4_field_81 : decode cX4_field 81 = .ok (.i2l, 1) := by decide +kernel
theorem dX4_field_82 : decode cX4_field 82 = .ok (.ldiv, 1) := by decide +kernel
theorem dX4_field_83 : decode cX4_field 83 = .ok (.putfield 51, 3) := by decide +kernel
theorem dX4_field_86 : decode cX4_field 86 = .ok (.iconst 0, 1) := by decide +kernel
theorem dX4_field_87 : decode cX4_field 87 = .ok (.istore 5, 2) := by decide +kernel
theorem dX4_field_89 : decode cX4_field 89 = .ok (.iload 5, 2) := by decide +kernel
theorem dX4_field_91 : decode cX4_field 91 = .ok (.bipush 16, 2) := by decide +kernel
theorem dX4_field_93 : decode cX4_field 93 = .ok (.if_icmp .ge 17, 3) := by decide +kernel
theorem dX4_field_96 : decode cX4_field 96 = .ok (.aload_n 0, 1) := by decide +kernel
theorem dX4_field_97 : decode cX4_field 97 = .ok (.getfield 16, 3) := by decide +kernel
theorem dX4_field_100 : decode cX4_field 100 = .ok (.iload 5, 2) := by decide +kernel
theorem dX4_field_102 : decode cX4_field 102 = .ok (.iconst 0, 1) := by decide +kernel
theorem dX4_field_103 : decode cX4_field 103 = .ok (.bastore, 1) := by decide +kernel
theorem dX4_field_104 : decode cX4_field 104 = .ok (.iinc 5 1, 3) := by decide +kernel
theorem dX4_field_107 : decode cX4_field 107 = .ok (.goto (-18), 3) := by decide +kernel
theorem dX4_field_110 : decode cX4_field 110 = .ok (.iconst 0, 1) := by decide +kernel
theorem dX4_field_111 : decode cX4_field 111 = .ok (.istore 5, 2) := by decide +kernel
theorem dX4_field_113 : decode cX4_field 113 = .ok (.iload 5, 2) := by decide +kernel
theorem dX4_field_115 : decode cX4_field 115 = .ok (.bipush 8, 2) := by decide +kernel
theorem dX4_field_117 : decode cX4_field 117 = .ok (.if_icmp .ge 25, 3) := by decide +kernel
theorem dX4_field_120 : decode cX4_field 120 = .ok (.aload_n 0, 1) := by decide +kernel
theorem dX4_field_121 : decode cX4_field 121 = .ok (.getfield 20, 3) := by decide +kernel
theorem dX4_field_124 : decode cX4_field 124 = .ok (.iload 5, 2) := by decide +kernel
theorem dX4_field_126 : decode cX4_field 126 = .ok (.lconst 1, 1) := by decide +kernel
theorem dX4_field_127 : decode cX4_field 127 = .ok (.lastore, 1) := by decide +kernel
theorem dX4_field_128 : decode cX4_field 128 = .ok (.aload_n 0, 1) := by decide +kernel
theorem dX4_field_129 : decode cX4_field 129 = .ok (.getfield 23, 3) := by decide +kernel
theorem dX4_field_132 : decode cX4_field 132 = .ok (.iload 5, 2) := by decide +kernel
theorem dX4_field_134 : decode cX4_field 134 = .ok (.lconst 0, 1) := by decide +kernel
theorem dX4_field_135 : decode cX4_field 135 = .ok (.lastore, 1) := by decide +kernel
theorem dX4_field_136 : decode cX4_field 136 = .ok (.iinc 5 1, 3) := by decide +kernel
theorem dX4_field_139 : decode cX4_field 139 = .ok (.goto (-26), 3) := by decide +kernel
theorem dX4_field_142 : decode cX4_field 142 = .ok (.aload_n 0, 1) := by decide +kernel
theorem dX4_field_143 : decode cX4_field 143 = .ok (.getfield 51, 3) := by decide +kernel
theorem dX4_field_146 : decode cX4_field 146 = .ok (.l2i, 1) := by decide +kernel
theorem dX4_field_147 : decode cX4_field 147 = .ok (.ireturn, 1) := by decide +kernel
set_option maxRecDepth 20000 in
theorem ggX4_told_X4_in : GoodIn wsX4_told wsX4_in := goodIn_r _ [8] (by decide +kernel) (by decide +kernel)
set_option maxRecDepth 20000 in
theorem gX4_told_X4_in : GoodIn wsX4_told (va_wsS RX4 54 yX4_in wsX4_in) := goodIn_app (goodIn_of _ (by decide +kernel)) ggX4_told_X4_in
theorem dX4_told_0 : decode cX4_told 0 = .ok (.iload_n 1, 1) := by decide +kernel
theorem dX4_told_1 : decode cX4_told 1 = .ok (.i2l, 1) := by decide +kernel
theorem dX4_told_2 : decode cX4_told 2 = .ok (.lconst 0, 1) := by decide +kernel
theorem dX4_told_3 : decode cX4_told 3 = .ok (.ldc2_w 26, 3) := by decide +kernel
theorem dX4_told_6 : decode cX4_told 6 = .ok (.invokestatic 54, 3) := by decide +kernel
theorem dX4_told_9 : decode cX4_told 9 = .ok (.ifCond .ne 6, 3) := by decide +kernel
theorem dX4_told_12 : decode cX4_told 12 = .ok (.bipush (-2), 2) := by decide +kernel
theorem dX4_told_14 : decode cX4_told 14 = .ok (.ireturn, 1) := by decide +kernel
theorem dX4_told_15 : decode cX4_told 15 = .ok (.aload_n 0, 1) := by decide +kernel
theorem dX4_told_16 : decode cX4_told 16 = .ok (.getfield 28, 3) := by decide +kernel
theorem dX4_told_19 : decode cX4_told 19 = .ok (.lconst 0, 1) := by decide +kernel
theorem dX4_told_20 : decode cX4_told 20 = .ok (.lcmp, 1) := by decide +kernel
theorem dX4_told_21 : decode cX4_told 21 = .ok (.ifCond .ne 8, 3) := by decide +kernel
theorem dX4_told_24 : decode cX4_told 24 = .ok (.bipush (-3), 2) := by decide +kernel
theorem dX4_told_26 : decode cX4_told 26 = .ok (.goto 31, 3) := by decide +kernel
theorem dX4_told_29 : decode cX4_told 29 = .ok (.iload_n 1, 1) := by decide +kernel
theorem dX4_told_30 : decode cX4_told 30 = .ok (.ifCond .ne 10, 3) := by decide +kernel
theorem dX4_told_33 : decode cX4_told 33 = .ok (.aload_n 0, 1) := by decide +kernel
theorem dX4_told_34 : decode cX4_told 34 = .ok (.getfield 28, 3) := by decide +kernel
theorem dX4_told_37 : decode cX4_told 37 = .ok (.goto 19, 3) := by decide +kernel
theorem dX4_told_40 : decode cX4_told 40 = .ok (.iload_n 1, 1) := by decide +kernel
theorem dX4_told_41 : decode cX4_told 41 = .ok (.iconst 1, 1) := by decide +kernel
theorem dX4_told_42 : decode cX4_told 42 = .ok (.if_icmp .ne 10, 3) := by decide +kernel
theorem dX4_told_45 : decode cX4_told 45 = .ok (.aload_n 0, 1) := by decide +kernel
theorem dX4_told_46 : decode cX4_told 46 = .ok (.getfield 48, 3) := by decide +kernel
theorem dX4_told_49 : decode cX4_told 49 = .ok (.goto 7, 3) := by decide +kernel
theorem dX4_told_52 : decode cX4_told 52 = .ok (.aload_n 0, 1) := by decide +kernel
theorem dX4_told_53 : decode cX4_told 53 = .ok (.getfield 51, 3) := by decide +kernel
theorem dX4_told_56 : decode cX4_told 56 = .ok (.l2i, 1) := by decide +kernel
theorem dX4_told_57 : decode cX4_told 57 = .ok (.ireturn, 1) := by decide +kernel
set_option maxRecDepth 20000 in
theorem ggX4_root_X4_in : GoodIn wsX4_root wsX4_in := goodIn_r _ [5] (by decide +kernel) (by decide +kernel)
set_option maxRecDepth 20000 in
theorem gX4_root_X4_in : GoodIn wsX4_root (va_wsS RX4 54 yX4_in wsX4_in) := goodIn_app (goodIn_of _ (by decide +kernel)) ggX4_root_X4_in
set_option maxRecDepth 20000 in
theorem ggX4_root_X4_rootOf : GoodIn wsX4_root wsX4_rootOf := goodIn_r _ [9, 1, 10, 11, 12, 13, 14, 4, 15, 16, 17, 18, 19, 20, 21, 22, 23, 24, 25, 26, 27, 28, 29, 30, 31, 32, 33] (by decide +kernel) (by decide +kernel)
set_option maxRecDepth 20000 in
theorem gX4_root_X4_rootOf : GoodIn wsX4_root (wsV RX4 58 RX4 yX4_rootOf wsX4_rootOf) := goodIn_app (goodIn_of _ (by decide +kernel)) ggX4_root_X4_rootOf
theorem dX4_root_0 : decode cX4_root 0 = .ok (.aload_n 0, 1) := by decide +kernel
theorem dX4_root_1 : decode cX4_root 1 = .ok (.getfield 28, 3) := by decide +kernel
theorem dX4_root_4 : decode cX4_root 4 = .ok (.lconst 0, 1) := by decide +kernel
theorem dX4_root_5 : decode cX4_root 5 = .ok (.lcmp, 1) := by decide +kernel
theorem dX4_root_6 : decode cX4_root 6 = .ok (.ifCond .ne 6, 3) := by decide +kernel
theorem dX4_root_9 : decode cX4_root 9 = .ok (.bipush (-3), 2) := by decide +kernel
theorem dX4_root_11 : decode cX4_root 11 = .ok (.ireturn, 1) := by decide +kernel
theorem dX4_root_12 : decode cX4_root 12 = .ok (.iload_n 1, 1) := by decide +kernel
theorem dX4_root_13 : decode cX4_root 13 = .ok (.i2l, 1) := by decide +kernel
theorem dX4_root_14 : decode cX4_root 14 = .ok (.lconst 0, 1) := by decide +kernel
theorem dX4_root_15 : decode cX4_root 15 = .ok (.aload_n 0, 1) := by decide +kernel
theorem dX4_root_16 : decode cX4_root 16 = .ok (.getfield 28, 3) := by decide +kernel
theorem dX4_root_19 : decode cX4_root 19 = .ok (.lconst 1, 1) := by decide +kernel
theorem dX4_root_20 : decode cX4_root 20 = .ok (.lsub, 1) := by decide +kernel
theorem dX4_root_21 : decode cX4_root 21 = .ok (.invokestatic 54, 3) := by decide +kernel
theorem dX4_root_24 : decode cX4_root 24 = .ok (.ifCond .eq 13, 3) := by decide +kernel
theorem dX4_root_27 : decode cX4_root 27 = .ok (.aload_n 0, 1) := by decide +kernel
theorem dX4_root_28 : decode cX4_root 28 = .ok (.iload_n 1, 1) := by decide +kernel
theorem dX4_root_29 : decode cX4_root 29 = .ok (.i2l, 1) := by decide +kernel
theorem dX4_root_30 : decode cX4_root 30 = .ok (.invokevirtual 58, 3) := by decide +kernel
theorem dX4_root_33 : decode cX4_root 33 = .ok (.l2i, 1) := by decide +kernel
theorem dX4_root_34 : decode cX4_root 34 = .ok (.goto 5, 3) := by decide +kernel
theorem dX4_root_37 : decode cX4_root 37 = .ok (.bipush (-2), 2) := by decide +kernel
theorem dX4_root_39 : decode cX4_root 39 = .ok (.ireturn, 1) := by decide +kernel
theorem dX4_load_0 : decode cX4_load 0 = .ok (.aload_n 0, 1) := by decide +kernel
theorem dX4_load_1 : decode cX4_load 1 = .ok (.aload_n 0, 1) := by decide +kernel
theorem dX4_load_2 : decode cX4_load 2 = .ok (.getfield 7, 3) := by decide +kernel
theorem dX4_load_5 : decode cX4_load 5 = .ok (.iload_n 1, 1) := by decide +kernel
theorem dX4_load_6 : decode cX4_load 6 = .ok (.laload, 1) := by decide +kernel
theorem dX4_load_7 : decode cX4_load 7 = .ok (.putfield 61, 3) := by decide +kernel
theorem dX4_load_10 : decode cX4_load 10 = .ok (.aload_n 0, 1) := by decide +kernel
theorem dX4_load_11 : decode cX4_load 11 = .ok (.aload_n 0, 1) := by decide +kernel
theorem dX4_load_12 : decode cX4_load 12 = .ok (.getfield 13, 3) := by decide +kernel
theorem dX4_load_15 : decode cX4_load 15 = .ok (.iload_n 1, 1) := by decide +kernel
theorem dX4_load_16 : decode cX4_load 16 = .ok (.laload, 1) := by decide +kernel
theorem dX4_load_17 : decode cX4_load 17 = .ok (.putfield 64, 3) := by decide +kernel
theorem dX4_load_20 : decode cX4_load 20 = .ok (.aload_n 0, 1) := by decide +kernel
theorem dX4_load_21 : decode cX4_load 21 = .ok (.aload_n 0, 1) := by decide +kernel
theorem dX4_load_22 : decode cX4_load 22 = .ok (.getfield 16, 3) := by decide +kernel
theorem dX4_load_25 : decode cX4_load 25 = .ok (.iload_n 1, 1) := by decide +kernel
theorem dX4_load_26 : decode cX4_load 26 = .ok (.baload, 1) := by decide +kernel
theorem dX4_load_27 : decode cX4_load 27 = .ok (.putfield 67, 3) := by decide +kernel
theorem dX4_load_30 : decode cX4_load 30 = .ok (.return_, 1) := by decide +kernel
theorem dX4_store_0 : decode cX4_store 0 = .ok (.aload_n 0, 1) := by decide +kernel
theorem dX4_store_1 : decode cX4_store 1 = .ok (.getfield 7, 3) := by decide +kernel
theorem dX4_store_4 : decode cX4_store 4 = .ok (.iload_n 1, 1) := by decide +kernel
theorem dX4_store_5 : decode cX4_store 5 = .ok (.aload_n 0, 1) := by decide +kernel
theorem dX4_store_6 : decode cX4_store 6 = .ok (.getfield 61, 3) := by decide +kernel
theorem dX4_store_9 : decode cX4_store 9 = .ok (.lastore, 1) := by decide +kernel
theorem dX4_store_10 : decode cX4_store 10 = .ok (.aload_n 0, 1) := by decide +kernel
theorem dX4_store_11 : decode cX4_store 11 = .ok (.getfield 13, 3) := by decide +kernel
theorem dX4_store_14 : decode cX4_store 14 = .ok (.iload_n 1, 1) := by decide +kernel
theorem dX4_store_15 : decode cX4_store 15 = .ok (.aload_n 0, 1) := by decide +kernel
theorem dX4_store_16 : decode cX4_store 16 = .ok (.getfield 64, 3) := by decide +kernel
theorem dX4_store_19 : decode cX4_store 19 = .ok (.lastore, 1) := by decide +kernel
theorem dX4_store_20 : decode cX4_store 20 = .ok (.aload_n 0, 1) := by decide +kernel
theorem dX4_store_21 : decode cX4_store 21 = .ok (.getfield 16, 3) := by decide +kernel
theorem dX4_store_24 : decode cX4_store 24 = .ok (.iload_n 1, 1) := by decide +kernel
theorem dX4_store_25 : decode cX4_store 25 = .ok (.aload_n 0, 1) := by decide +kernel
theorem dX4_store_26 : decode cX4_store 26 = .ok (.getfield 67, 3) := by decide +kernel
theorem dX4_store_29 : decode cX4_store 29 = .ok (.bastore, 1) := by decide +kernel
theorem dX4_store_30 : decode cX4_store 30 = .ok (.return_, 1) := by decide +kernel
set_option maxRecDepth 20000 in
theorem ggX4_slope_X4_turned : GoodIn wsX4_slope wsX4_turned := goodIn_r _ [8, 2, 3, 9, 10, 11, 7, 12, 13, 14, 15, 16, 17, 18, 19, 20, 21, 22, 23, 24, 25, 26, 27, 28, 29, 30] (by decide +kernel) (by decide +kernel)
set_option maxRecDepth 20000 in
theorem gX4_slope_X4_turned : GoodIn wsX4_slope (wsV RX4 73 RX4 yX4_turned wsX4_turned) := goodIn_app (goodIn_of _ (by decide +kernel)) ggX4_slope_X4_turned
set_option maxRecDepth 20000 in
theorem ggX4_slope_X4_fit : GoodIn wsX4_slope wsX4_fit := goodIn_r _ [16, 2, 17, 18, 19, 20, 21, 22, 23, 24, 25, 26, 27, 28, 29, 30] (by decide +kernel) (by decide +kernel)
set_option maxRecDepth 20000 in
theorem gX4_slope_X4_fit : GoodIn wsX4_slope (wsV RX4 32 RX4 yX4_fit wsX4_fit) := goodIn_app (goodIn_of _ (by decide +kernel)) ggX4_slope_X4_fit
theorem dX4_slope_0 : decode cX4_slope 0 = .ok (.lload_n 1, 1) := by decide +kernel
theorem dX4_slope_1 : decode cX4_slope 1 = .ok (.lload 5, 2) := by decide +kernel
theorem dX4_slope_3 : decode cX4_slope 3 = .ok (.lcmp, 1) := by decide +kernel
theorem dX4_slope_4 : decode cX4_slope 4 = .ok (.ifCond .ne 38, 3) := by decide +kernel
theorem dX4_slope_7 : decode cX4_slope 7 = .ok (.ldc2_w 71, 3) := by decide +kernel
theorem dX4_slope_10 : decode cX4_slope 10 = .ok (.lload_n 1, 1) := by decide +kernel
theorem dX4_slope_11 : decode cX4_slope 11 = .ok (.lload_n 1, 1) := by decide +kernel
theorem dX4_slope_12 : decode cX4_slope 12 = .ok (.lmul, 1) := by decide +kernel
theorem dX4_slope_13 : decode cX4_slope 13 = .ok (.aload_n 0, 1) := by decide +kernel
theorem dX4_slope_14 : decode cX4_slope 14 = .ok (.getfield 28, 3) := by decide +kernel
theorem dX4_slope_17 : decode cX4_slope 17 = .ok (.lrem, 1) := by decide +kernel
theorem dX4_slope_18 : decode cX4_slope 18 = .ok (.lmul, 1) := by decide +kernel
theorem dX4_slope_19 : decode cX4_slope 19 = .ok (.lconst 1, 1) := by decide +kernel
theorem dX4_slope_20 : decode cX4_slope 20 = .ok (.ladd, 1) := by decide +kernel
theorem dX4_slope_21 : decode cX4_slope 21 = .ok (.aload_n 0, 1) := by decide +kernel
theorem dX4_slope_22 : decode cX4_slope 22 = .ok (.getfield 28, 3) := by decide +kernel
theorem dX4_slope_25 : decode cX4_slope 25 = .ok (.lrem, 1) := by decide +kernel
theorem dX4_slope_26 : decode cX4_slope 26 = .ok (.aload_n 0, 1) := by decide +kernel
theorem dX4_slope_27 : decode cX4_slope 27 = .ok (.ldc2_w 26, 3) := by decide +kernel
theorem dX4_slope_30 : decode cX4_slope 30 = .ok (.lload_n 3, 1) := by decide +kernel
theorem dX4_slope_31 : decode cX4_slope 31 = .ok (.lmul, 1) := by decide +kernel
theorem dX4_slope_32 : decode cX4_slope 32 = .ok (.invokevirtual 73, 3) := by decide +kernel
theorem dX4_slope_35 : decode cX4_slope 35 = .ok (.lmul, 1) := by decide +kernel
theorem dX4_slope_36 : decode cX4_slope 36 = .ok (.aload_n 0, 1) := by decide +kernel
theorem dX4_slope_37 : decode cX4_slope 37 = .ok (.getfield 28, 3) := by decide +kernel
theorem dX4_slope_40 : decode cX4_slope 40 = .ok (.lrem, 1) := by decide +kernel
theorem dX4_slope_41 : decode cX4_slope 41 = .ok (.lreturn, 1) := by decide +kernel
theorem dX4_slope_42 : decode cX4_slope 42 = .ok (.aload_n 0, 1) := by decide +kernel
theorem dX4_slope_43 : decode cX4_slope 43 = .ok (.lload 7, 2) := by decide +kernel
theorem dX4_slope_45 : decode cX4_slope 45 = .ok (.lload_n 3, 1) := by decide +kernel
theorem dX4_slope_46 : decode cX4_slope 46 = .ok (.lsub, 1) := by decide +kernel
theorem dX4_slope_47 : decode cX4_slope 47 = .ok (.invokevirtual 32, 3) := by decide +kernel
theorem dX4_slope_50 : decode cX4_slope 50 = .ok (.aload_n 0, 1) := by decide +kernel
theorem dX4_slope_51 : decode cX4_slope 51 = .ok (.lload 5, 2) := by decide +kernel
theorem dX4_slope_53 : decode cX4_slope 53 = .ok (.lload_n 1, 1) := by decide +kernel
theorem dX4_slope_54 : decode cX4_slope 54 = .ok (.lsub, 1) := by decide +kernel
theorem dX4_slope_55 : decode cX4_slope 55 = .ok (.invokevirtual 73, 3) := by decide +kernel
theorem dX4_slope_58 : decode cX4_slope 58 = .ok (.lmul, 1) := by decide +kernel
theorem dX4_slope_59 : decode cX4_slope 59 = .ok (.aload_n 0, 1) := by decide +kernel
theorem dX4_slope_60 : decode cX4_slope 60 = .ok (.getfield 28, 3) := by decide +kernel
theorem dX4_slope_63 : decode cX4_slope 63 = .ok (.lrem, 1) := by decide +kernel
theorem dX4_slope_64 : decode cX4_slope 64 = .ok (.lreturn, 1) := by decide +kernel
set_option maxRecDepth 20000 in
theorem ggX4_plus_X4_slope : GoodIn wsX4_plus wsX4_slope := goodIn_r _ [9, 10, 4, 11, 12, 13, 14, 8, 15, 16, 17, 18, 19, 20, 21, 22, 23, 24, 25, 26, 27, 28, 29, 30, 31, 32, 33, 34, 35, 36, 37] (by decide +kernel) (by decide +kernel)
set_option maxRecDepth 20000 in
theorem gX4_plus_X4_slope : GoodIn wsX4_plus (wsV RX4 76 RX4 yX4_slope wsX4_slope) := goodIn_app (goodIn_of _ (by decide +kernel)) ggX4_plus_X4_slope
set_option maxRecDepth 20000 in
theorem ggX4_plus_X4_fit : GoodIn wsX4_plus wsX4_fit := goodIn_r _ [23, 4, 24, 25, 26, 27, 28, 29, 30, 31, 32, 33, 34, 35, 36, 37] (by decide +kernel) (by decide +kernel)
set_option maxRecDepth 20000 in
theorem gX4_plus_X4_fit : GoodIn wsX4_plus (wsV RX4 32 RX4 yX4_fit wsX4_fit) := goodIn_app (goodIn_of _ (by decide +kernel)) ggX4_plus_X4_fit
theorem dX4_plus_0 : decode cX4_plus 0 = .ok (.iload 5, 2) := by decide +kernel
theorem dX4_plus_2 : decode cX4_plus 2 = .ok (.ifCond .ne 4, 3) := by decide +kernel
theorem dX4_plus_5 : decode cX4_plus 5 = .ok (.return_, 1) := by decide +kernel
theorem dX4_plus_6 : decode cX4_plus 6 = .ok (.aload_n 0, 1) := by decide +kernel
theorem dX4_plus_7 : decode cX4_plus 7 = .ok (.getfield 67, 3) := by decide +kernel
theorem dX4_plus_10 : decode cX4_plus 10 = .ok (.ifCond .ne 19, 3) := by decide +kernel
theorem dX4_plus_13 : decode cX4_plus 13 = .ok (.aload_n 0, 1) := by decide +kernel
theorem dX4_plus_14 : decode cX4_plus 14 = .ok (.lload_n 1, 1) := by decide +kernel
theorem dX4_plus_15 : decode cX4_plus 15 = .ok (.putfield 61, 3) := by decide +kernel
theorem dX4_plus_18 : decode cX4_plus 18 = .ok (.aload_n 0, 1) := by decide +kernel
theorem dX4_plus_19 : decode cX4_plus 19 = .ok (.lload_n 3, 1) := by decide +kernel
theorem dX4_plus_20 : decode cX4_plus 20 = .ok (.putfield 64, 3) := by decide +kernel
theorem dX4_plus_23 : decode cX4_plus 23 = .ok (.aload_n 0, 1) := by decide +kernel
theorem dX4_plus_24 : decode cX4_plus 24 = .ok (.iconst 1, 1) := by decide +kernel
theorem dX4_plus_25 : decode cX4_plus 25 = .ok (.putfield 67, 3) := by decide +kernel
theorem dX4_plus_28 : decode cX4_plus 28 = .ok (.return_, 1) := by decide +kernel
theorem dX4_plus_29 : decode cX4_plus 29 = .ok (.aload_n 0, 1) := by decide +kernel
theorem dX4_plus_30 : decode cX4_plus 30 = .ok (.getfield 61, 3) := by decide +kernel
theorem dX4_plus_33 : decode cX4_plus 33 = .ok (.lload_n 1, 1) := by decide +kernel
theorem dX4_plus_34 : decode cX4_plus 34 = .ok (.lcmp, 1) := by decide +kernel
theorem dX4_plus_35 : decode cX4_plus 35 = .ok (.ifCond .ne 25, 3) := by decide +kernel
theorem dX4_plus_38 : decode cX4_plus 38 = .ok (.aload_n 0, 1) := by decide +kernel
theorem dX4_plus_39 : decode cX4_plus 39 = .ok (.getfield 64, 3) := by decide +kernel
theorem dX4_plus_42 : decode cX4_plus 42 = .ok (.lload_n 3, 1) := by decide +kernel
theorem dX4_plus_43 : decode cX4_plus 43 = .ok (.ladd, 1) := by decide +kernel
theorem dX4_plus_44 : decode cX4_plus 44 = .ok (.aload_n 0, 1) := by decide +kernel
theorem dX4_plus_45 : decode cX4_plus 45 = .ok (.getfield 28, 3) := by decide +kernel
theorem dX4_plus_48 : decode cX4_plus 48 = .ok (.lrem, 1) := by decide +kernel
theorem dX4_plus_49 : decode cX4_plus 49 = .ok (.lconst 0, 1) := by decide +kernel
theorem dX4_plus_50 : decode cX4_plus 50 = .ok (.lcmp, 1) := by decide +kernel
theorem dX4_plus_51 : decode cX4_plus 51 = .ok (.ifCond .ne 9, 3) := by decide +kernel
theorem dX4_plus_54 : decode cX4_plus 54 = .ok (.aload_n 0, 1) := by decide +kernel
theorem dX4_plus_55 : decode cX4_plus 55 = .ok (.iconst 0, 1) := by decide +kernel
theorem dX4_plus_56 : decode cX4_plus 56 = .ok (.putfield 67, 3) := by decide +kernel
theorem dX4_plus_59 : decode cX4_plus 59 = .ok (.return_, 1) := by decide +kernel
theorem dX4_plus_60 : decode cX4_plus 60 = .ok (.aload_n 0, 1) := by decide +kernel
theorem dX4_plus_61 : decode cX4_plus 61 = .ok (.aload_n 0, 1) := by decide +kernel
theorem dX4_plus_62 : decode cX4_plus 62 = .ok (.getfield 61, 3) := by decide +kernel
theorem dX4_plus_65 : decode cX4_plus 65 = .ok (.aload_n 0, 1) := by decide +kernel
theorem dX4_plus_66 : decode cX4_plus 66 = .ok (.getfield 64, 3) := by decide +kernel
theorem dX4_plus_69 : decode cX4_plus 69 = .ok (.lload_n 1, 1) := by decide +kernel
theorem dX4_plus_70 : decode cX4_plus 70 = .ok (.lload_n 3, 1) := by decide +kernel
theorem dX4_plus_71 : decode cX4_plus 71 = .ok (.invokevirtual 76, 3) := by decide +kernel
theorem dX4_plus_74 : decode cX4_plus 74 = .ok (.lstore 6, 2) := by decide +kernel
theorem dX4_plus_76 : decode cX4_plus 76 = .ok (.aload_n 0, 1) := by decide +kernel
theorem dX4_plus_77 : decode cX4_plus 77 = .ok (.lload 6, 2) := by decide +kernel
theorem dX4_plus_79 : decode cX4_plus 79 = .ok (.lload 6, 2) := by decide +kernel
theorem dX4_plus_81 : decode cX4_plus 81 = .ok (.lmul, 1) := by decide +kernel
theorem dX4_plus_82 : decode cX4_plus 82 = .ok (.aload_n 0, 1) := by decide +kernel
theorem dX4_plus_83 : decode cX4_plus 83 = .ok (.getfield 28, 3) := by decide +kernel
theorem dX4_plus_86 : decode cX4_plus 86 = .ok (.lrem, 1) := by decide +kernel
theorem dX4_plus_87 : decode cX4_plus 87 = .ok (.aload_n 0, 1) := by decide +kernel
theorem dX4_plus_88 : decode cX4_plus 88 = .ok (.getfield 61, 3) := by decide +kernel
theorem dX4_plus_91 : decode cX4_plus 91 = .ok (.lsub, 1) := by decide +kernel
theorem dX4_plus_92 : decode cX4_plus 92 = .ok (.lload_n 1, 1) := by decide +kernel
theorem dX4_plus_93 : decode cX4_plus 93 = .ok (.lsub, 1) := by decide +kernel
theorem dX4_plus_94 : decode cX4_plus 94 = .ok (.invokevirtual 32, 3) := by decide +kernel
theorem dX4_plus_97 : decode cX4_plus 97 = .ok (.lstore 8, 2) := by decide +kernel
theorem dX4_plus_99 : decode cX4_plus 99 = .ok (.aload_n 0, 1) := by decide +kernel
theorem dX4_plus_100 : decode cX4_plus 100 = .ok (.aload_n 0, 1) := by decide +kernel
theorem dX4_plus_101 : decode cX4_plus 101 = .ok (.lload 6, 2) := by decide +kernel
theorem dX4_plus_103 : decode cX4_plus 103 = .ok (.aload_n 0, 1) := by decide +kernel
theorem dX4_plus_104 : decode cX4_plus 104 = .ok (.aload_n 0, 1) := by decide +kernel
theorem dX4_plus_105 : decode cX4_plus 105 = .ok (.getfield 61, 3) := by decide +kernel
theorem dX4_plus_108 : decode cX4_plus 108 = .ok (.lload 8, 2) := by decide +kernel
theorem dX4_plus_110 : decode cX4_plus 110 = .ok (.lsub, 1) := by decide +kernel
theorem dX4_plus_111 : decode cX4_plus 111 = .ok (.invokevirtual 32, 3) := by decide +kernel
theorem dX4_plus_114 : decode cX4_plus 114 = .ok (.lmul, 1) := by decide +kernel
theorem dX4_plus_115 : decode cX4_plus 115 = .ok (.aload_n 0, 1) := by decide +kernel
theorem dX4_plus_116 : decode cX4_plus 116 = .ok (.getfield 28, 3) := by decide +kernel
theorem dX4_plus_119 : decode cX4_plus 119 = .ok (.lrem, 1) := by decide +kernel
theorem dX4_plus_120 : decode cX4_plus 120 = .ok (.aload_n 0, 1) := by decide +kernel
theorem dX4_plus_121 : decode cX4_plus 121 = .ok (.getfield 64, 3) := by decide +kernel
theorem dX4_plus_124 : decode cX4_plus 124 = .ok (.lsub, 1) := by decide +kernel
theorem dX4_plus_125 : decode cX4_plus 125 = .ok (.invokevirtual 32, 3) := by decide +kernel
theorem dX4_plus_128 : decode cX4_plus 128 = .ok (.putfield 64, 3) := by decide +kernel
theorem dX4_plus_131 : decode cX4_plus 131 = .ok (.aload_n 0, 1) := by decide +kernel
theorem dX4_plus_132 : decode cX4_plus 132 = .ok (.lload 8, 2) := by decide +kernel
theorem dX4_plus_134 : decode cX4_plus 134 = .ok (.putfield 61, 3) := by decide +kernel
theorem dX4_plus_137 : decode cX4_plus 137 = .ok (.return_, 1) := by decide +kernel
set_option maxRecDepth 20000 in
theorem ggX4_take_X4_plus : GoodIn wsX4_take wsX4_plus := goodIn_r _ [8, 3, 1, 2, 9, 10, 11, 12, 7, 13, 14, 15, 16, 17, 18, 19, 20, 21, 22, 23, 24, 25, 26, 27, 28, 29, 30, 31, 32, 33, 34, 35, 36, 37, 38, 39, 40, 41] (by decide +kernel) (by decide +kernel)
set_option maxRecDepth 20000 in
theorem gX4_take_X4_plus : GoodIn wsX4_take (wsV RX4 80 RX4 yX4_plus wsX4_plus) := goodIn_app (goodIn_of _ (by decide +kernel)) ggX4_take_X4_plus
theorem dX4_take_0 : decode cX4_take 0 = .ok (.aload_n 0, 1) := by decide +kernel
theorem dX4_take_1 : decode cX4_take 1 = .ok (.getfield 61, 3) := by decide +kernel
theorem dX4_take_4 : decode cX4_take 4 = .ok (.lstore_n 3, 1) := by decide +kernel
theorem dX4_take_5 : decode cX4_take 5 = .ok (.aload_n 0, 1) := by decide +kernel
theorem dX4_take_6 : decode cX4_take 6 = .ok (.getfield 64, 3) := by decide +kernel
theorem dX4_take_9 : decode cX4_take 9 = .ok (.lstore 5, 2) := by decide +kernel
theorem dX4_take_11 : decode cX4_take 11 = .ok (.aload_n 0, 1) := by decide +kernel
theorem dX4_take_12 : decode cX4_take 12 = .ok (.getfield 67, 3) := by decide +kernel
theorem dX4_take_15 : decode cX4_take 15 = .ok (.istore 7, 2) := by decide +kernel
theorem dX4_take_17 : decode cX4_take 17 = .ok (.aload_n 0, 1) := by decide +kernel
theorem dX4_take_18 : decode cX4_take 18 = .ok (.iconst 0, 1) := by decide +kernel
theorem dX4_take_19 : decode cX4_take 19 = .ok (.putfield 67, 3) := by decide +kernel
theorem dX4_take_22 : decode cX4_take 22 = .ok (.bipush 63, 2) := by decide +kernel
theorem dX4_take_24 : decode cX4_take 24 = .ok (.istore 8, 2) := by decide +kernel
theorem dX4_take_26 : decode cX4_take 26 = .ok (.iload 8, 2) := by decide +kernel
theorem dX4_take_28 : decode cX4_take 28 = .ok (.ifCond .lt 45, 3) := by decide +kernel
theorem dX4_take_31 : decode cX4_take 31 = .ok (.aload_n 0, 1) := by decide +kernel
theorem dX4_take_32 : decode cX4_take 32 = .ok (.aload_n 0, 1) := by decide +kernel
theorem dX4_take_33 : decode cX4_take 33 = .ok (.getfield 61, 3) := by decide +kernel
theorem dX4_take_36 : decode cX4_take 36 = .ok (.aload_n 0, 1) := by decide +kernel
theorem dX4_take_37 : decode cX4_take 37 = .ok (.getfield 64, 3) := by decide +kernel
theorem dX4_take_40 : decode cX4_take 40 = .ok (.aload_n 0, 1) := by decide +kernel
theorem dX4_take_41 : decode cX4_take 41 = .ok (.getfield 67, 3) := by decide +kernel
theorem dX4_take_44 : decode cX4_take 44 = .ok (.invokevirtual 80, 3) := by decide +kernel
theorem dX4_take_47 : decode cX4_take 47 = .ok (.lload_n 1, 1) := by decide +kernel
theorem dX4_take_48 : decode cX4_take 48 = .ok (.iload 8, 2) := by decide +kernel
theorem dX4_take_50 : decode cX4_take 50 = .ok (.lushr, 1) := by decide +kernel
theorem dX4_take_51 : decode cX4_take 51 = .ok (.lconst 1, 1) := by decide +kernel
theorem dX4_take_52 : decode cX4_take 52 = .ok (.land, 1) := by decide +kernel
theorem dX4_take_53 : decode cX4_take 53 = .ok (.lconst 1, 1) := by decide +kernel
theorem dX4_take_54 : decode cX4_take 54 = .ok (.lcmp, 1) := by decide +kernel
theorem dX4_take_55 : decode cX4_take 55 = .ok (.ifCond .ne 12, 3) := by decide +kernel
theorem dX4_take_58 : decode cX4_take 58 = .ok (.aload_n 0, 1) := by decide +kernel
theorem dX4_take_59 : decode cX4_take 59 = .ok (.lload_n 3, 1) := by decide +kernel
theorem dX4_take_60 : decode cX4_take 60 = .ok (.lload 5, 2) := by decide +kernel
theorem dX4_take_62 : decode cX4_take 62 = .ok (.iload 7, 2) := by decide +kernel
theorem dX4_take_64 : decode cX4_take 64 = .ok (.invokevirtual 80, 3) := by decide +kernel
theorem dX4_take_67 : decode cX4_take 67 = .ok (.iinc 8 (-1), 3) := by decide +kernel
theorem dX4_take_70 : decode cX4_take 70 = .ok (.goto (-44), 3) := by decide +kernel
theorem dX4_take_73 : decode cX4_take 73 = .ok (.return_, 1) := by decide +kernel
set_option maxRecDepth 20000 in
theorem ggX4_isSlot_X4_in : GoodIn wsX4_isSlot wsX4_in := goodIn_r _ [5] (by decide +kernel) (by decide +kernel)
set_option maxRecDepth 20000 in
theorem gX4_isSlot_X4_in : GoodIn wsX4_isSlot (va_wsS RX4 54 yX4_in wsX4_in) := goodIn_app (goodIn_of _ (by decide +kernel)) ggX4_isSlot_X4_in
theorem dX4_isSlot_0 : decode cX4_isSlot 0 = .ok (.iload_n 0, 1) := by decide +kernel
theorem dX4_isSlot_1 : decode cX4_isSlot 1 = .ok (.i2l, 1) := by decide +kernel
theorem dX4_isSlot_2 : decode cX4_isSlot 2 = .ok (.lconst 0, 1) := by decide +kernel
theorem dX4_isSlot_3 : decode cX4_isSlot 3 = .ok (.ldc2_w 84, 3) := by decide +kernel
theorem dX4_isSlot_6 : decode cX4_isSlot 6 = .ok (.invokestatic 54, 3) := by decide +kernel
theorem dX4_isSlot_9 : decode cX4_isSlot 9 = .ok (.ireturn, 1) := by decide +kernel
set_option maxRecDepth 20000 in
theorem ggX4_point_X4_isSlot : GoodIn wsX4_point wsX4_isSlot := goodIn_r _ [8, 9, 10, 11, 7, 12] (by decide +kernel) (by decide +kernel)
set_option maxRecDepth 20000 in
theorem gX4_point_X4_isSlot : GoodIn wsX4_point (va_wsS RX4 86 yX4_isSlot wsX4_isSlot) := goodIn_app (goodIn_of _ (by decide +kernel)) ggX4_point_X4_isSlot
set_option maxRecDepth 20000 in
theorem ggX4_point_X4_in : GoodIn wsX4_point wsX4_in := goodIn_r _ [12] (by decide +kernel) (by decide +kernel)
set_option maxRecDepth 20000 in
theorem gX4_point_X4_in : GoodIn wsX4_point (va_wsS RX4 54 yX4_in wsX4_in) := goodIn_app (goodIn_of _ (by decide +kernel)) ggX4_point_X4_in
set_option maxRecDepth 20000 in
theorem ggX4_point_X4_curve : GoodIn wsX4_point wsX4_curve := goodIn_r _ [16, 1, 24, 25, 26, 27, 28, 29, 30, 31, 32, 33, 34, 35, 36, 37] (by decide +kernel) (by decide +kernel)
set_option maxRecDepth 20000 in
theorem gX4_point_X4_curve : GoodIn wsX4_point (wsV RX4 90 RX4 yX4_curve wsX4_curve) := goodIn_app (goodIn_of _ (by decide +kernel)) ggX4_point_X4_curve
set_option maxRecDepth 20000 in
theorem ggX4_point_X4_store : GoodIn wsX4_point wsX4_store := goodIn_r _ [20, 21, 2, 22, 3, 23, 4, 24, 25, 26, 27, 28, 29, 30, 31, 32, 33, 34, 35, 36, 37] (by decide +kernel) (by decide +kernel)
set_option maxRecDepth 20000 in
theorem gX4_point_X4_store : GoodIn wsX4_point (wsV RX4 93 RX4 yX4_store wsX4_store) := goodIn_app (goodIn_of _ (by decide +kernel)) ggX4_point_X4_store
theorem dX4_point_0 : decode cX4_point 0 = .ok (.aload_n 0, 1) := by decide +kernel
theorem dX4_point_1 : decode cX4_point 1 = .ok (.getfield 28, 3) := by decide +kernel
theorem dX4_point_4 : decode cX4_point 4 = .ok (.lconst 0, 1) := by decide +kernel
theorem dX4_point_5 : decode cX4_point 5 = .ok (.lcmp, 1) := by decide +kernel
theorem dX4_point_6 : decode cX4_point 6 = .ok (.ifCond .ne 6, 3) := by decide +kernel
theorem dX4_point_9 : decode cX4_point 9 = .ok (.bipush (-3), 2) := by decide +kernel
theorem dX4_point_11 : decode cX4_point 11 = .ok (.ireturn, 1) := by decide +kernel
theorem dX4_point_12 : decode cX4_point 12 = .ok (.iload_n 1, 1) := by decide +kernel
theorem dX4_point_13 : decode cX4_point 13 = .ok (.invokestatic 86, 3) := by decide +kernel
theorem dX4_point_16 : decode cX4_point 16 = .ok (.ifCond .eq 33, 3) := by decide +kernel
theorem dX4_point_19 : decode cX4_point 19 = .ok (.iload_n 2, 1) := by decide +kernel
theorem dX4_point_20 : decode cX4_point 20 = .ok (.i2l, 1) := by decide +kernel
theorem dX4_point_21 : decode cX4_point 21 = .ok (.lconst 0, 1) := by decide +kernel
theorem dX4_point_22 : decode cX4_point 22 = .ok (.aload_n 0, 1) := by decide +kernel
theorem dX4_point_23 : decode cX4_point 23 = .ok (.getfield 28, 3) := by decide +kernel
theorem dX4_point_26 : decode cX4_point 26 = .ok (.lconst 1, 1) := by decide +kernel
theorem dX4_point_27 : decode cX4_point 27 = .ok (.lsub, 1) := by decide +kernel
theorem dX4_point_28 : decode cX4_point 28 = .ok (.invokestatic 54, 3) := by decide +kernel
theorem dX4_point_31 : decode cX4_point 31 = .ok (.ifCond .eq 18, 3) := by decide +kernel
theorem dX4_point_34 : decode cX4_point 34 = .ok (.iload_n 3, 1) := by decide +kernel
theorem dX4_point_35 : decode cX4_point 35 = .ok (.i2l, 1) := by decide +kernel
theorem dX4_point_36 : decode cX4_point 36 = .ok (.lconst 0, 1) := by decide +kernel
theorem dX4_point_37 : decode cX4_point 37 = .ok (.aload_n 0, 1) := by decide +kernel
theorem dX4_point_38 : decode cX4_point 38 = .ok (.getfield 28, 3) := by decide +kernel
theorem dX4_point_41 : decode cX4_point 41 = .ok (.lconst 1, 1) := by decide +kernel
theorem dX4_point_42 : decode cX4_point 42 = .ok (.lsub, 1) := by decide +kernel
theorem dX4_point_43 : decode cX4_point 43 = .ok (.invokestatic 54, 3) := by decide +kernel
theorem dX4_point_46 : decode cX4_point 46 = .ok (.ifCond .ne 6, 3) := by decide +kernel
theorem dX4_point_49 : decode cX4_point 49 = .ok (.bipush (-2), 2) := by decide +kernel
theorem dX4_point_51 : decode cX4_point 51 = .ok (.ireturn, 1) := by decide +kernel
theorem dX4_point_52 : decode cX4_point 52 = .ok (.iload_n 3, 1) := by decide +kernel
theorem dX4_point_53 : decode cX4_point 53 = .ok (.i2l, 1) := by decide +kernel
theorem dX4_point_54 : decode cX4_point 54 = .ok (.iload_n 3, 1) := by decide +kernel
theorem dX4_point_55 : decode cX4_point 55 = .ok (.i2l, 1) := by decide +kernel
theorem dX4_point_56 : decode cX4_point 56 = .ok (.lmul, 1) := by decide +kernel
theorem dX4_point_57 : decode cX4_point 57 = .ok (.aload_n 0, 1) := by decide +kernel
theorem dX4_point_58 : decode cX4_point 58 = .ok (.getfield 28, 3) := by decide +kernel
theorem dX4_point_61 : decode cX4_point 61 = .ok (.lrem, 1) := by decide +kernel
theorem dX4_point_62 : decode cX4_point 62 = .ok (.aload_n 0, 1) := by decide +kernel
theorem dX4_point_63 : decode cX4_point 63 = .ok (.iload_n 2, 1) := by decide +kernel
theorem dX4_point_64 : decode cX4_point 64 = .ok (.i2l, 1) := by decide +kernel
theorem dX4_point_65 : decode cX4_point 65 = .ok (.invokevirtual 90, 3) := by decide +kernel
theorem dX4_point_68 : decode cX4_point 68 = .ok (.lcmp, 1) := by decide +kernel
theorem dX4_point_69 : decode cX4_point 69 = .ok (.ifCond .eq 5, 3) := by decide +kernel
theorem dX4_point_72 : decode cX4_point 72 = .ok (.iconst (-1), 1) := by decide +kernel
theorem dX4_point_73 : decode cX4_point 73 = .ok (.ireturn, 1) := by decide +kernel
theorem dX4_point_74 : decode cX4_point 74 = .ok (.aload_n 0, 1) := by decide +kernel
theorem dX4_point_75 : decode cX4_point 75 = .ok (.iload_n 2, 1) := by decide +kernel
theorem dX4_point_76 : decode cX4_point 76 = .ok (.i2l, 1) := by decide +kernel
theorem dX4_point_77 : decode cX4_point 77 = .ok (.putfield 61, 3) := by decide +kernel
theorem dX4_point_80 : decode cX4_point 80 = .ok (.aload_n 0, 1) := by decide +kernel
theorem dX4_point_81 : decode cX4_point 81 = .ok (.iload_n 3, 1) := by decide +kernel
theorem dX4_point_82 : decode cX4_point 82 = .ok (.i2l, 1) := by decide +kernel
theorem dX4_point_83 : decode cX4_point 83 = .ok (.putfield 64, 3) := by decide +kernel
theorem dX4_point_86 : decode cX4_point 86 = .ok (.aload_n 0, 1) := by decide +kernel
theorem dX4_point_87 : decode cX4_point 87 = .ok (.iconst 1, 1) := by decide +kernel
theorem dX4_point_88 : decode cX4_point 88 = .ok (.putfield 67, 3) := by decide +kernel
theorem dX4_point_91 : decode cX4_point 91 = .ok (.aload_n 0, 1) := by decide +kernel
theorem dX4_point_92 : decode cX4_point 92 = .ok (.iload_n 1, 1) := by decide +kernel
theorem dX4_point_93 : decode cX4_point 93 = .ok (.invokevirtual 93, 3) := by decide +kernel
theorem dX4_point_96 : decode cX4_point 96 = .ok (.iconst 1, 1) := by decide +kernel
theorem dX4_point_97 : decode cX4_point 97 = .ok (.ireturn, 1) := by decide +kernel
set_option maxRecDepth 20000 in
theorem ggX4_nowhere_X4_isSlot : GoodIn wsX4_nowhere wsX4_isSlot := goodIn_r _ [6, 7, 8, 9, 5, 10] (by decide +kernel) (by decide +kernel)
set_option maxRecDepth 20000 in
theorem gX4_nowhere_X4_isSlot : GoodIn wsX4_nowhere (va_wsS RX4 86 yX4_isSlot wsX4_isSlot) := goodIn_app (goodIn_of _ (by decide +kernel)) ggX4_nowhere_X4_isSlot
theorem dX4_nowhere_0 : decode cX4_nowhere 0 = .ok (.aload_n 0, 1) := by decide +kernel
theorem dX4_nowhere_1 : decode cX4_nowhere 1 = .ok (.getfield 28, 3) := by decide +kernel
theorem dX4_nowhere_4 : decode cX4_nowhere 4 = .ok (.lconst 0, 1) := by decide +kernel
theorem dX4_nowhere_5 : decode cX4_nowhere 5 = .ok (.lcmp, 1) := by decide +kernel
theorem dX4_nowhere_6 : decode cX4_nowhere 6 = .ok (.ifCond .ne 6, 3) := by decide +kernel
theorem dX4_nowhere_9 : decode cX4_nowhere 9 = .ok (.bipush (-3), 2) := by decide +kernel
theorem dX4_nowhere_11 : decode cX4_nowhere 11 = .ok (.ireturn, 1) := by decide +kernel
theorem dX4_nowhere_12 : decode cX4_nowhere 12 = .ok (.iload_n 1, 1) := by decide +kernel
theorem dX4_nowhere_13 : decode cX4_nowhere 13 = .ok (.invokestatic 86, 3) := by decide +kernel
theorem dX4_nowhere_16 : decode cX4_nowhere 16 = .ok (.ifCond .ne 6, 3) := by decide +kernel
theorem dX4_nowhere_19 : decode cX4_nowhere 19 = .ok (.bipush (-2), 2) := by decide +kernel
theorem dX4_nowhere_21 : decode cX4_nowhere 21 = .ok (.ireturn, 1) := by decide +kernel
theorem dX4_nowhere_22 : decode cX4_nowhere 22 = .ok (.aload_n 0, 1) := by decide +kernel
theorem dX4_nowhere_23 : decode cX4_nowhere 23 = .ok (.getfield 16, 3) := by decide +kernel
theorem dX4_nowhere_26 : decode cX4_nowhere 26 = .ok (.iload_n 1, 1) := by decide +kernel
theorem dX4_nowhere_27 : decode cX4_nowhere 27 = .ok (.iconst 0, 1) := by decide +kernel
theorem dX4_nowhere_28 : decode cX4_nowhere 28 = .ok (.bastore, 1) := by decide +kernel
theorem dX4_nowhere_29 : decode cX4_nowhere 29 = .ok (.iconst 1, 1) := by decide +kernel
theorem dX4_nowhere_30 : decode cX4_nowhere 30 = .ok (.ireturn, 1) := by decide +kernel
set_option maxRecDepth 20000 in
theorem ggX4_turnOf_X4_curve : GoodIn wsX4_turnOf wsX4_curve := goodIn_r _ [12, 1, 43, 44, 45, 46, 47, 48, 49, 50, 51, 52, 53, 54, 55, 56] (by decide +kernel) (by decide +kernel)
set_option maxRecDepth 20000 in
theorem gX4_turnOf_X4_curve : GoodIn wsX4_turnOf (wsV RX4 90 RX4 yX4_curve wsX4_curve) := goodIn_app (goodIn_of _ (by decide +kernel)) ggX4_turnOf_X4_curve
set_option maxRecDepth 20000 in
theorem ggX4_turnOf_X4_rootOf : GoodIn wsX4_turnOf wsX4_rootOf := goodIn_r _ [16, 1, 17, 3, 18, 19, 20, 11, 21, 22, 23, 24, 25, 43, 44, 45, 46, 47, 48, 49, 50, 51, 52, 53, 54, 55, 56] (by decide +kernel) (by decide +kernel)
set_option maxRecDepth 20000 in
theorem gX4_turnOf_X4_rootOf : GoodIn wsX4_turnOf (wsV RX4 58 RX4 yX4_rootOf wsX4_rootOf) := goodIn_app (goodIn_of _ (by decide +kernel)) ggX4_turnOf_X4_rootOf
set_option maxRecDepth 20000 in
theorem ggX4_turnOf_X4_take : GoodIn wsX4_turnOf wsX4_take := goodIn_r _ [29, 4, 5, 6, 30, 31, 32, 11, 33, 1, 34, 35, 36, 37, 38, 2, 39, 40, 41, 42, 18, 19, 20, 21, 22, 23, 24, 25, 43, 44, 45, 46, 47, 48, 49, 50, 51, 52, 53, 54, 55, 56] (by decide +kernel) (by decide +kernel)
set_option maxRecDepth 20000 in
theorem gX4_turnOf_X4_take : GoodIn wsX4_turnOf (wsV RX4 97 RX4 yX4_take wsX4_take) := goodIn_app (goodIn_of _ (by decide +kernel)) ggX4_turnOf_X4_take
theorem dX4_turnOf_0 : decode cX4_turnOf 0 = .ok (.lload_n 1, 1) := by decide +kernel
theorem dX4_turnOf_1 : decode cX4_turnOf 1 = .ok (.iconst 1, 1) := by decide +kernel
theorem dX4_turnOf_2 : decode cX4_turnOf 2 = .ok (.lushr, 1) := by decide +kernel
theorem dX4_turnOf_3 : decode cX4_turnOf 3 = .ok (.aload_n 0, 1) := by decide +kernel
theorem dX4_turnOf_4 : decode cX4_turnOf 4 = .ok (.getfield 28, 3) := by decide +kernel
theorem dX4_turnOf_7 : decode cX4_turnOf 7 = .ok (.lrem, 1) := by decide +kernel
theorem dX4_turnOf_8 : decode cX4_turnOf 8 = .ok (.ldc2_w 26, 3) := by decide +kernel
theorem dX4_turnOf_11 : decode cX4_turnOf 11 = .ok (.lmul, 1) := by decide +kernel
theorem dX4_turnOf_12 : decode cX4_turnOf 12 = .ok (.lload_n 1, 1) := by decide +kernel
theorem dX4_turnOf_13 : decode cX4_turnOf 13 = .ok (.lconst 1, 1) := by decide +kernel
theorem dX4_turnOf_14 : decode cX4_turnOf 14 = .ok (.land, 1) := by decide +kernel
theorem dX4_turnOf_15 : decode cX4_turnOf 15 = .ok (.ladd, 1) := by decide +kernel
theorem dX4_turnOf_16 : decode cX4_turnOf 16 = .ok (.aload_n 0, 1) := by decide +kernel
theorem dX4_turnOf_17 : decode cX4_turnOf 17 = .ok (.getfield 28, 3) := by decide +kernel
theorem dX4_turnOf_20 : decode cX4_turnOf 20 = .ok (.lrem, 1) := by decide +kernel
theorem dX4_turnOf_21 : decode cX4_turnOf 21 = .ok (.lstore_n 3, 1) := by decide +kernel
theorem dX4_turnOf_22 : decode cX4_turnOf 22 = .ok (.iconst 1, 1) := by decide +kernel
theorem dX4_turnOf_23 : decode cX4_turnOf 23 = .ok (.istore 5, 2) := by decide +kernel
theorem dX4_turnOf_25 : decode cX4_turnOf 25 = .ok (.iload 5, 2) := by decide +kernel
theorem dX4_turnOf_27 : decode cX4_turnOf 27 = .ok (.sipush 1000, 3) := by decide +kernel
theorem dX4_turnOf_30 : decode cX4_turnOf 30 = .ok (.if_icmp .gt 87, 3) := by decide +kernel
theorem dX4_turnOf_33 : decode cX4_turnOf 33 = .ok (.aload_n 0, 1) := by decide +kernel
theorem dX4_turnOf_34 : decode cX4_turnOf 34 = .ok (.lload_n 3, 1) := by decide +kernel
theorem dX4_turnOf_35 : decode cX4_turnOf 35 = .ok (.invokevirtual 90, 3) := by decide +kernel
theorem dX4_turnOf_38 : decode cX4_turnOf 38 = .ok (.lstore 6, 2) := by decide +kernel
theorem dX4_turnOf_40 : decode cX4_turnOf 40 = .ok (.lload 6, 2) := by decide +kernel
theorem dX4_turnOf_42 : decode cX4_turnOf 42 = .ok (.lconst 0, 1) := by decide +kernel
theorem dX4_turnOf_43 : decode cX4_turnOf 43 = .ok (.lcmp, 1) := by decide +kernel
theorem dX4_turnOf_44 : decode cX4_turnOf 44 = .ok (.ifCond .ne 9, 3) := by decide +kernel
theorem dX4_turnOf_47 : decode cX4_turnOf 47 = .ok (.ldc2_w 42, 3) := by decide +kernel
theorem dX4_turnOf_50 : decode cX4_turnOf 50 = .ok (.goto 9, 3) := by decide +kernel
theorem dX4_turnOf_53 : decode cX4_turnOf 53 = .ok (.aload_n 0, 1) := by decide +kernel
theorem dX4_turnOf_54 : decode cX4_turnOf 54 = .ok (.lload 6, 2) := by decide +kernel
theorem dX4_turnOf_56 : decode cX4_turnOf 56 = .ok (.invokevirtual 58, 3) := by decide +kernel
theorem dX4_turnOf_59 : decode cX4_turnOf 59 = .ok (.lstore 8, 2) := by decide +kernel
theorem dX4_turnOf_61 : decode cX4_turnOf 61 = .ok (.lload 8, 2) := by decide +kernel
theorem dX4_turnOf_63 : decode cX4_turnOf 63 = .ok (.lconst 0, 1) := by decide +kernel
theorem dX4_turnOf_64 : decode cX4_turnOf 64 = .ok (.lcmp, 1) := by decide +kernel
theorem dX4_turnOf_65 : decode cX4_turnOf 65 = .ok (.ifCond .lt 37, 3) := by decide +kernel
theorem dX4_turnOf_68 : decode cX4_turnOf 68 = .ok (.aload_n 0, 1) := by decide +kernel
theorem dX4_turnOf_69 : decode cX4_turnOf 69 = .ok (.lload_n 3, 1) := by decide +kernel
theorem dX4_turnOf_70 : decode cX4_turnOf 70 = .ok (.putfield 61, 3) := by decide +kernel
theorem dX4_turnOf_73 : decode cX4_turnOf 73 = .ok (.aload_n 0, 1) := by decide +kernel
theorem dX4_turnOf_74 : decode cX4_turnOf 74 = .ok (.lload 8, 2) := by decide +kernel
theorem dX4_turnOf_76 : decode cX4_turnOf 76 = .ok (.putfield 64, 3) := by decide +kernel
theorem dX4_turnOf_79 : decode cX4_turnOf 79 = .ok (.aload_n 0, 1) := by decide +kernel
theorem dX4_turnOf_80 : decode cX4_turnOf 80 = .ok (.iconst 1, 1) := by decide +kernel
theorem dX4_turnOf_81 : decode cX4_turnOf 81 = .ok (.putfield 67, 3) := by decide +kernel
theorem dX4_turnOf_84 : decode cX4_turnOf 84 = .ok (.aload_n 0, 1) := by decide +kernel
theorem dX4_turnOf_85 : decode cX4_turnOf 85 = .ok (.aload_n 0, 1) := by decide +kernel
theorem dX4_turnOf_86 : decode cX4_turnOf 86 = .ok (.getfield 51, 3) := by decide +kernel
theorem dX4_turnOf_89 : decode cX4_turnOf 89 = .ok (.invokevirtual 97, 3) := by decide +kernel
theorem dX4_turnOf_92 : decode cX4_turnOf 92 = .ok (.aload_n 0, 1) := by decide +kernel
theorem dX4_turnOf_93 : decode cX4_turnOf 93 = .ok (.getfield 67, 3) := by decide +kernel
theorem dX4_turnOf_96 : decode cX4_turnOf 96 = .ok (.ifCond .eq 6, 3) := by decide +kernel
theorem dX4_turnOf_99 : decode cX4_turnOf 99 = .ok (.iload 5, 2) := by decide +kernel
theorem dX4_turnOf_101 : decode cX4_turnOf 101 = .ok (.ireturn, 1) := by decide +kernel
theorem dX4_turnOf_102 : decode cX4_turnOf 102 = .ok (.lload_n 3, 1) := by decide +kernel
theorem dX4_turnOf_103 : decode cX4_turnOf 103 = .ok (.lconst 1, 1) := by decide +kernel
theorem dX4_turnOf_104 : decode cX4_turnOf 104 = .ok (.ladd, 1) := by decide +kernel
theorem dX4_turnOf_105 : decode cX4_turnOf 105 = .ok (.aload_n 0, 1) := by decide +kernel
theorem dX4_turnOf_106 : decode cX4_turnOf 106 = .ok (.getfield 28, 3) := by decide +kernel
theorem dX4_turnOf_109 : decode cX4_turnOf 109 = .ok (.lrem, 1) := by decide +kernel
theorem dX4_turnOf_110 : decode cX4_turnOf 110 = .ok (.lstore_n 3, 1) := by decide +kernel
theorem dX4_turnOf_111 : decode cX4_turnOf 111 = .ok (.iinc 5 1, 3) := by decide +kernel
theorem dX4_turnOf_114 : decode cX4_turnOf 114 = .ok (.goto (-89), 3) := by decide +kernel
theorem dX4_turnOf_117 : decode cX4_turnOf 117 = .ok (.aload_n 0, 1) := by decide +kernel
theorem dX4_turnOf_118 : decode cX4_turnOf 118 = .ok (.iconst 0, 1) := by decide +kernel
theorem dX4_turnOf_119 : decode cX4_turnOf 119 = .ok (.putfield 67, 3) := by decide +kernel
theorem dX4_turnOf_122 : decode cX4_turnOf 122 = .ok (.sipush 1000, 3) := by decide +kernel
theorem dX4_turnOf_125 : decode cX4_turnOf 125 = .ok (.ireturn, 1) := by decide +kernel
set_option maxRecDepth 20000 in
theorem ggX4_turn_X4_isSlot : GoodIn wsX4_turn wsX4_isSlot := goodIn_r _ [5, 6, 7, 8, 4, 9] (by decide +kernel) (by decide +kernel)
set_option maxRecDepth 20000 in
theorem gX4_turn_X4_isSlot : GoodIn wsX4_turn (va_wsS RX4 86 yX4_isSlot wsX4_isSlot) := goodIn_app (goodIn_of _ (by decide +kernel)) ggX4_turn_X4_isSlot
set_option maxRecDepth 20000 in
theorem ggX4_turn_X4_turnOf : GoodIn wsX4_turn wsX4_turnOf := goodIn_r _ [13, 1, 14, 15, 16, 17, 18, 19, 20, 21, 22, 4, 23, 24, 25, 26, 27, 28, 29, 30, 31, 32, 33, 34, 35, 36, 37, 38, 39, 40, 41, 42, 43, 44, 45, 46, 47, 48, 49, 50, 51, 52, 53, 61, 62, 63, 64, 65, 66, 67, 68, 69, 70, 71, 72, 73, 74] (by decide +kernel) (by decide +kernel)
set_option maxRecDepth 20000 in
theorem gX4_turn_X4_turnOf : GoodIn wsX4_turn (wsV RX4 101 RX4 yX4_turnOf wsX4_turnOf) := goodIn_app (goodIn_of _ (by decide +kernel)) ggX4_turn_X4_turnOf
set_option maxRecDepth 20000 in
theorem ggX4_turn_X4_store : GoodIn wsX4_turn wsX4_store := goodIn_r _ [57, 58, 16, 59, 17, 60, 18, 61, 62, 63, 64, 65, 66, 67, 68, 69, 70, 71, 72, 73, 74] (by decide +kernel) (by decide +kernel)
set_option maxRecDepth 20000 in
theorem gX4_turn_X4_store : GoodIn wsX4_turn (wsV RX4 93 RX4 yX4_store wsX4_store) := goodIn_app (goodIn_of _ (by decide +kernel)) ggX4_turn_X4_store
theorem dX4_turn_0 : decode cX4_turn 0 = .ok (.aload_n 0, 1) := by decide +kernel
theorem dX4_turn_1 : decode cX4_turn 1 = .ok (.getfield 28, 3) := by decide +kernel
theorem dX4_turn_4 : decode cX4_turn 4 = .ok (.lconst 0, 1) := by decide +kernel
theorem dX4_turn_5 : decode cX4_turn 5 = .ok (.lcmp, 1) := by decide +kernel
theorem dX4_turn_6 : decode cX4_turn 6 = .ok (.ifCond .ne 6, 3) := by decide +kernel
theorem dX4_turn_9 : decode cX4_turn 9 = .ok (.bipush (-3), 2) := by decide +kernel
theorem dX4_turn_11 : decode cX4_turn 11 = .ok (.ireturn, 1) := by decide +kernel
theorem dX4_turn_12 : decode cX4_turn 12 = .ok (.iload_n 1, 1) := by decide +kernel
theorem dX4_turn_13 : decode cX4_turn 13 = .ok (.invokestatic 86, 3) := by decide +kernel
theorem dX4_turn_16 : decode cX4_turn 16 = .ok (.ifCond .ne 6, 3) := by decide +kernel
theorem dX4_turn_19 : decode cX4_turn 19 = .ok (.bipush (-2), 2) := by decide +kernel
theorem dX4_turn_21 : decode cX4_turn 21 = .ok (.ireturn, 1) := by decide +kernel
theorem dX4_turn_22 : decode cX4_turn 22 = .ok (.aload_n 0, 1) := by decide +kernel
theorem dX4_turn_23 : decode cX4_turn 23 = .ok (.lload_n 2, 1) := by decide +kernel
theorem dX4_turn_24 : decode cX4_turn 24 = .ok (.invokevirtual 101, 3) := by decide +kernel
theorem dX4_turn_27 : decode cX4_turn 27 = .ok (.istore 4, 2) := by decide +kernel
theorem dX4_turn_29 : decode cX4_turn 29 = .ok (.aload_n 0, 1) := by decide +kernel
theorem dX4_turn_30 : decode cX4_turn 30 = .ok (.iload_n 1, 1) := by decide +kernel
theorem dX4_turn_31 : decode cX4_turn 31 = .ok (.invokevirtual 93, 3) := by decide +kernel
theorem dX4_turn_34 : decode cX4_turn 34 = .ok (.iload 4, 2) := by decide +kernel
theorem dX4_turn_36 : decode cX4_turn 36 = .ok (.ireturn, 1) := by decide +kernel
set_option maxRecDepth 20000 in
theorem ggX4_add_X4_isSlot : GoodIn wsX4_add wsX4_isSlot := goodIn_r _ [9, 10, 11, 12, 8, 13] (by decide +kernel) (by decide +kernel)
set_option maxRecDepth 20000 in
theorem gX4_add_X4_isSlot : GoodIn wsX4_add (va_wsS RX4 86 yX4_isSlot wsX4_isSlot) := goodIn_app (goodIn_of _ (by decide +kernel)) ggX4_add_X4_isSlot
set_option maxRecDepth 20000 in
theorem ggX4_add_X4_load : GoodIn wsX4_add wsX4_load := goodIn_r _ [17, 2, 18, 3, 19, 4, 5, 46, 47, 48, 49, 50, 51, 52, 53, 54, 55, 56, 57, 58, 59] (by decide +kernel) (by decide +kernel)
set_option maxRecDepth 20000 in
theorem gX4_add_X4_load : GoodIn wsX4_add (wsV RX4 105 RX4 yX4_load wsX4_load) := goodIn_app (goodIn_of _ (by decide +kernel)) ggX4_add_X4_load
set_option maxRecDepth 20000 in
theorem ggX4_add_X4_plus : GoodIn wsX4_add wsX4_plus := goodIn_r _ [23, 5, 18, 19, 1, 24, 25, 26, 8, 27, 28, 29, 30, 31, 32, 33, 34, 35, 36, 37, 38, 39, 40, 41, 46, 47, 48, 49, 50, 51, 52, 53, 54, 55, 56, 57, 58, 59] (by decide +kernel) (by decide +kernel)
set_option maxRecDepth 20000 in
theorem gX4_add_X4_plus : GoodIn wsX4_add (wsV RX4 80 RX4 yX4_plus wsX4_plus) := goodIn_app (goodIn_of _ (by decide +kernel)) ggX4_add_X4_plus
set_option maxRecDepth 20000 in
theorem ggX4_add_X4_store : GoodIn wsX4_add wsX4_store := goodIn_r _ [45, 2, 18, 3, 19, 4, 5, 46, 47, 48, 49, 50, 51, 52, 53, 54, 55, 56, 57, 58, 59] (by decide +kernel) (by decide +kernel)
set_option maxRecDepth 20000 in
theorem gX4_add_X4_store : GoodIn wsX4_add (wsV RX4 93 RX4 yX4_store wsX4_store) := goodIn_app (goodIn_of _ (by decide +kernel)) ggX4_add_X4_store
theorem dX4_add_0 : decode cX4_add 0 = .ok (.aload_n 0, 1) := by decide +kernel
theorem dX4_add_1 : decode cX4_add 1 = .ok (.getfield 28, 3) := by decide +kernel
theorem dX4_add_4 : decode cX4_add 4 = .ok (.lconst 0, 1) := by decide +kernel
theorem dX4_add_5 : decode cX4_add 5 = .ok (.lcmp, 1) := by decide +kernel
theorem dX4_add_6 : decode cX4_add 6 = .ok (.ifCond .ne 6, 3) := by decide +kernel
theorem dX4_add_9 : decode cX4_add 9 = .ok (.bipush (-3), 2) := by decide +kernel
theorem dX4_add_11 : decode cX4_add 11 = .ok (.ireturn, 1) := by decide +kernel
theorem dX4_add_12 : decode cX4_add 12 = .ok (.iload_n 1, 1) := by decide +kernel
theorem dX4_add_13 : decode cX4_add 13 = .ok (.invokestatic 86, 3) := by decide +kernel
theorem dX4_add_16 : decode cX4_add 16 = .ok (.ifCond .eq 17, 3) := by decide +kernel
theorem dX4_add_19 : decode cX4_add 19 = .ok (.iload_n 2, 1) := by decide +kernel
theorem dX4_add_20 : decode cX4_add 20 = .ok (.invokestatic 86, 3) := by decide +kernel
theorem dX4_add_23 : decode cX4_add 23 = .ok (.ifCond .eq 10, 3) := by decide +kernel
theorem dX4_add_26 : decode cX4_add 26 = .ok (.iload_n 3, 1) := by decide +kernel
theorem dX4_add_27 : decode cX4_add 27 = .ok (.invokestatic 86, 3) := by decide +kernel
theorem dX4_add_30 : decode cX4_add 30 = .ok (.ifCond .ne 6, 3) := by decide +kernel
theorem dX4_add_33 : decode cX4_add 33 = .ok (.bipush (-2), 2) := by decide +kernel
theorem dX4_add_35 : decode cX4_add 35 = .ok (.ireturn, 1) := by decide +kernel
theorem dX4_add_36 : decode cX4_add 36 = .ok (.aload_n 0, 1) := by decide +kernel
theorem dX4_add_37 : decode cX4_add 37 = .ok (.iload_n 2, 1) := by decide +kernel
theorem dX4_add_38 : decode cX4_add 38 = .ok (.invokevirtual 105, 3) := by decide +kernel
theorem dX4_add_41 : decode cX4_add 41 = .ok (.aload_n 0, 1) := by decide +kernel
theorem dX4_add_42 : decode cX4_add 42 = .ok (.aload_n 0, 1) := by decide +kernel
theorem dX4_add_43 : decode cX4_add 43 = .ok (.getfield 7, 3) := by decide +kernel
theorem dX4_add_46 : decode cX4_add 46 = .ok (.iload_n 3, 1) := by decide +kernel
theorem dX4_add_47 : decode cX4_add 47 = .ok (.laload, 1) := by decide +kernel
theorem dX4_add_48 : decode cX4_add 48 = .ok (.aload_n 0, 1) := by decide +kernel
theorem dX4_add_49 : decode cX4_add 49 = .ok (.getfield 13, 3) := by decide +kernel
theorem dX4_add_52 : decode cX4_add 52 = .ok (.iload_n 3, 1) := by decide +kernel
theorem dX4_add_53 : decode cX4_add 53 = .ok (.laload, 1) := by decide +kernel
theorem dX4_add_54 : decode cX4_add 54 = .ok (.aload_n 0, 1) := by decide +kernel
theorem dX4_add_55 : decode cX4_add 55 = .ok (.getfield 16, 3) := by decide +kernel
theorem dX4_add_58 : decode cX4_add 58 = .ok (.iload_n 3, 1) := by decide +kernel
theorem dX4_add_59 : decode cX4_add 59 = .ok (.baload, 1) := by decide +kernel
theorem dX4_add_60 : decode cX4_add 60 = .ok (.invokevirtual 80, 3) := by decide +kernel
theorem dX4_add_63 : decode cX4_add 63 = .ok (.aload_n 0, 1) := by decide +kernel
theorem dX4_add_64 : decode cX4_add 64 = .ok (.iload_n 1, 1) := by decide +kernel
theorem dX4_add_65 : decode cX4_add 65 = .ok (.invokevirtual 93, 3) := by decide +kernel
theorem dX4_add_68 : decode cX4_add 68 = .ok (.aload_n 0, 1) := by decide +kernel
theorem dX4_add_69 : decode cX4_add 69 = .ok (.getfield 67, 3) := by decide +kernel
theorem dX4_add_72 : decode cX4_add 72 = .ok (.ifCond .eq 7, 3) := by decide +kernel
theorem dX4_add_75 : decode cX4_add 75 = .ok (.iconst 1, 1) := by decide +kernel
theorem dX4_add_76 : decode cX4_add 76 = .ok (.goto 4, 3) := by decide +kernel
theorem dX4_add_79 : decode cX4_add 79 = .ok (.iconst 0, 1) := by decide +kernel
theorem dX4_add_80 : decode cX4_add 80 = .ok (.ireturn, 1) := by decide +kernel
set_option maxRecDepth 20000 in
theorem ggX4_times_X4_isSlot : GoodIn wsX4_times wsX4_isSlot := goodIn_r _ [7, 8, 9, 10, 6, 11] (by decide +kernel) (by decide +kernel)
set_option maxRecDepth 20000 in
theorem gX4_times_X4_isSlot : GoodIn wsX4_times (va_wsS RX4 86 yX4_isSlot wsX4_isSlot) := goodIn_app (goodIn_of _ (by decide +kernel)) ggX4_times_X4_isSlot
set_option maxRecDepth 20000 in
theorem ggX4_times_X4_load : GoodIn wsX4_times wsX4_load := goodIn_r _ [15, 16, 17, 18, 2, 19, 3, 50, 51, 52, 53, 54, 55, 56, 57, 58, 59, 60, 61, 62, 63] (by decide +kernel) (by decide +kernel)
set_option maxRecDepth 20000 in
theorem gX4_times_X4_load : GoodIn wsX4_times (wsV RX4 105 RX4 yX4_load wsX4_load) := goodIn_app (goodIn_of _ (by decide +kernel)) ggX4_times_X4_load
set_option maxRecDepth 20000 in
theorem ggX4_times_X4_take : GoodIn wsX4_times wsX4_take := goodIn_r _ [23, 17, 2, 3, 24, 25, 26, 6, 27, 1, 28, 29, 30, 31, 32, 33, 34, 35, 36, 37, 38, 39, 40, 41, 42, 43, 44, 45, 50, 51, 52, 53, 54, 55, 56, 57, 58, 59, 60, 61, 62, 63] (by decide +kernel) (by decide +kernel)
set_option maxRecDepth 20000 in
theorem gX4_times_X4_take : GoodIn wsX4_times (wsV RX4 97 RX4 yX4_take wsX4_take) := goodIn_app (goodIn_of _ (by decide +kernel)) ggX4_times_X4_take
set_option maxRecDepth 20000 in
theorem ggX4_times_X4_store : GoodIn wsX4_times wsX4_store := goodIn_r _ [49, 16, 17, 18, 2, 19, 3, 50, 51, 52, 53, 54, 55, 56, 57, 58, 59, 60, 61, 62, 63] (by decide +kernel) (by decide +kernel)
set_option maxRecDepth 20000 in
theorem gX4_times_X4_store : GoodIn wsX4_times (wsV RX4 93 RX4 yX4_store wsX4_store) := goodIn_app (goodIn_of _ (by decide +kernel)) ggX4_times_X4_store
theorem dX4_times_0 : decode cX4_times 0 = .ok (.aload_n 0, 1) := by decide +kernel
theorem dX4_times_1 : decode cX4_times 1 = .ok (.getfield 28, 3) := by decide +kernel
theorem dX4_times_4 : decode cX4_times 4 = .ok (.lconst 0, 1) := by decide +kernel
theorem dX4_times_5 : decode cX4_times 5 = .ok (.lcmp, 1) := by decide +kernel
theorem dX4_times_6 : decode cX4_times 6 = .ok (.ifCond .ne 6, 3) := by decide +kernel
theorem dX4_times_9 : decode cX4_times 9 = .ok (.bipush (-3), 2) := by decide +kernel
theorem dX4_times_11 : decode cX4_times 11 = .ok (.ireturn, 1) := by decide +kernel
theorem dX4_times_12 : decode cX4_times 12 = .ok (.iload_n 1, 1) := by decide +kernel
theorem dX4_times_13 : decode cX4_times 13 = .ok (.invokestatic 86, 3) := by decide +kernel
theorem dX4_times_16 : decode cX4_times 16 = .ok (.ifCond .eq 10, 3) := by decide +kernel
theorem dX4_times_19 : decode cX4_times 19 = .ok (.iload_n 2, 1) := by decide +kernel
theorem dX4_times_20 : decode cX4_times 20 = .ok (.invokestatic 86, 3) := by decide +kernel
theorem dX4_times_23 : decode cX4_times 23 = .ok (.ifCond .ne 6, 3) := by decide +kernel
theorem dX4_times_26 : decode cX4_times 26 = .ok (.bipush (-2), 2) := by decide +kernel
theorem dX4_times_28 : decode cX4_times 28 = .ok (.ireturn, 1) := by decide +kernel
theorem dX4_times_29 : decode cX4_times 29 = .ok (.aload_n 0, 1) := by decide +kernel
theorem dX4_times_30 : decode cX4_times 30 = .ok (.iload_n 2, 1) := by decide +kernel
theorem dX4_times_31 : decode cX4_times 31 = .ok (.invokevirtual 105, 3) := by decide +kernel
theorem dX4_times_34 : decode cX4_times 34 = .ok (.lload_n 3, 1) := by decide +kernel
theorem dX4_times_35 : decode cX4_times 35 = .ok (.lconst 0, 1) := by decide +kernel
theorem dX4_times_36 : decode cX4_times 36 = .ok (.lcmp, 1) := by decide +kernel
theorem dX4_times_37 : decode cX4_times 37 = .ok (.ifCond .ge 21, 3) := by decide +kernel
theorem dX4_times_40 : decode cX4_times 40 = .ok (.aload_n 0, 1) := by decide +kernel
theorem dX4_times_41 : decode cX4_times 41 = .ok (.aload_n 0, 1) := by decide +kernel
theorem dX4_times_42 : decode cX4_times 42 = .ok (.getfield 28, 3) := by decide +kernel
theorem dX4_times_45 : decode cX4_times 45 = .ok (.aload_n 0, 1) := by decide +kernel
theorem dX4_times_46 : decode cX4_times 46 = .ok (.getfield 64, 3) := by decide +kernel
theorem dX4_times_49 : decode cX4_times 49 = .ok (.lsub, 1) := by decide +kernel
theorem dX4_times_50 : decode cX4_times 50 = .ok (.aload_n 0, 1) := by decide +kernel
theorem dX4_times_51 : decode cX4_times 51 = .ok (.getfield 28, 3) := by decide +kernel
theorem dX4_times_54 : decode cX4_times 54 = .ok (.lrem, 1) := by decide +kernel
theorem dX4_times_55 : decode cX4_times 55 = .ok (.putfield 64, 3) := by decide +kernel
theorem dX4_times_58 : decode cX4_times 58 = .ok (.aload_n 0, 1) := by decide +kernel
theorem dX4_times_59 : decode cX4_times 59 = .ok (.lload_n 3, 1) := by decide +kernel
theorem dX4_times_60 : decode cX4_times 60 = .ok (.lconst 0, 1) := by decide +kernel
theorem dX4_times_61 : decode cX4_times 61 = .ok (.lcmp, 1) := by decide +kernel
theorem dX4_times_62 : decode cX4_times 62 = .ok (.ifCond .ge 8, 3) := by decide +kernel
theorem dX4_times_65 : decode cX4_times 65 = .ok (.lload_n 3, 1) := by decide +kernel
theorem dX4_times_66 : decode cX4_times 66 = .ok (.lneg, 1) := by decide +kernel
theorem dX4_times_67 : decode cX4_times 67 = .ok (.goto 4, 3) := by decide +kernel
theorem dX4_times_70 : decode cX4_times 70 = .ok (.lload_n 3, 1) := by decide +kernel
theorem dX4_times_71 : decode cX4_times 71 = .ok (.invokevirtual 97, 3) := by decide +kernel
theorem dX4_times_74 : decode cX4_times 74 = .ok (.aload_n 0, 1) := by decide +kernel
theorem dX4_times_75 : decode cX4_times 75 = .ok (.iload_n 1, 1) := by decide +kernel
theorem dX4_times_76 : decode cX4_times 76 = .ok (.invokevirtual 93, 3) := by decide +kernel
theorem dX4_times_79 : decode cX4_times 79 = .ok (.aload_n 0, 1) := by decide +kernel
theorem dX4_times_80 : decode cX4_times 80 = .ok (.getfield 67, 3) := by decide +kernel
theorem dX4_times_83 : decode cX4_times 83 = .ok (.ifCond .eq 7, 3) := by decide +kernel
theorem dX4_times_86 : decode cX4_times 86 = .ok (.iconst 1, 1) := by decide +kernel
theorem dX4_times_87 : decode cX4_times 87 = .ok (.goto 4, 3) := by decide +kernel
theorem dX4_times_90 : decode cX4_times 90 = .ok (.iconst 0, 1) := by decide +kernel
theorem dX4_times_91 : decode cX4_times 91 = .ok (.ireturn, 1) := by decide +kernel
set_option maxRecDepth 20000 in
theorem ggX4_at_X4_isSlot : GoodIn wsX4_at wsX4_isSlot := goodIn_r _ [8, 9, 10, 11, 7, 12] (by decide +kernel) (by decide +kernel)
set_option maxRecDepth 20000 in
theorem gX4_at_X4_isSlot : GoodIn wsX4_at (va_wsS RX4 86 yX4_isSlot wsX4_isSlot) := goodIn_app (goodIn_of _ (by decide +kernel)) ggX4_at_X4_isSlot
set_option maxRecDepth 20000 in
theorem ggX4_at_X4_in : GoodIn wsX4_at wsX4_in := goodIn_r _ [12] (by decide +kernel) (by decide +kernel)
set_option maxRecDepth 20000 in
theorem gX4_at_X4_in : GoodIn wsX4_at (va_wsS RX4 54 yX4_in wsX4_in) := goodIn_app (goodIn_of _ (by decide +kernel)) ggX4_at_X4_in
theorem dX4_at_0 : decode cX4_at 0 = .ok (.aload_n 0, 1) := by decide +kernel
theorem dX4_at_1 : decode cX4_at 1 = .ok (.getfield 28, 3) := by decide +kernel
theorem dX4_at_4 : decode cX4_at 4 = .ok (.lconst 0, 1) := by decide +kernel
theorem dX4_at_5 : decode cX4_at 5 = .ok (.lcmp, 1) := by decide +kernel
theorem dX4_at_6 : decode cX4_at 6 = .ok (.ifCond .ne 6, 3) := by decide +kernel
theorem dX4_at_9 : decode cX4_at 9 = .ok (.bipush (-3), 2) := by decide +kernel
theorem dX4_at_11 : decode cX4_at 11 = .ok (.ireturn, 1) := by decide +kernel
theorem dX4_at_12 : decode cX4_at 12 = .ok (.iload_n 1, 1) := by decide +kernel
theorem dX4_at_13 : decode cX4_at 13 = .ok (.invokestatic 86, 3) := by decide +kernel
theorem dX4_at_16 : decode cX4_at 16 = .ok (.ifCond .eq 13, 3) := by decide +kernel
theorem dX4_at_19 : decode cX4_at 19 = .ok (.iload_n 2, 1) := by decide +kernel
theorem dX4_at_20 : decode cX4_at 20 = .ok (.i2l, 1) := by decide +kernel
theorem dX4_at_21 : decode cX4_at 21 = .ok (.lconst 0, 1) := by decide +kernel
theorem dX4_at_22 : decode cX4_at 22 = .ok (.lconst 1, 1) := by decide +kernel
theorem dX4_at_23 : decode cX4_at 23 = .ok (.invokestatic 54, 3) := by decide +kernel
theorem dX4_at_26 : decode cX4_at 26 = .ok (.ifCond .ne 6, 3) := by decide +kernel
theorem dX4_at_29 : decode cX4_at 29 = .ok (.bipush (-2), 2) := by decide +kernel
theorem dX4_at_31 : decode cX4_at 31 = .ok (.ireturn, 1) := by decide +kernel
theorem dX4_at_32 : decode cX4_at 32 = .ok (.aload_n 0, 1) := by decide +kernel
theorem dX4_at_33 : decode cX4_at 33 = .ok (.getfield 16, 3) := by decide +kernel
theorem dX4_at_36 : decode cX4_at 36 = .ok (.iload_n 1, 1) := by decide +kernel
theorem dX4_at_37 : decode cX4_at 37 = .ok (.baload, 1) := by decide +kernel
theorem dX4_at_38 : decode cX4_at 38 = .ok (.ifCond .ne 7, 3) := by decide +kernel
theorem dX4_at_41 : decode cX4_at 41 = .ok (.iconst (-1), 1) := by decide +kernel
theorem dX4_at_42 : decode cX4_at 42 = .ok (.goto 23, 3) := by decide +kernel
theorem dX4_at_45 : decode cX4_at 45 = .ok (.iload_n 2, 1) := by decide +kernel
theorem dX4_at_46 : decode cX4_at 46 = .ok (.ifCond .ne 12, 3) := by decide +kernel
theorem dX4_at_49 : decode cX4_at 49 = .ok (.aload_n 0, 1) := by decide +kernel
theorem dX4_at_50 : decode cX4_at 50 = .ok (.getfield 7, 3) := by decide +kernel
theorem dX4_at_53 : decode cX4_at 53 = .ok (.iload_n 1, 1) := by decide +kernel
theorem dX4_at_54 : decode cX4_at 54 = .ok (.laload, 1) := by decide +kernel
theorem dX4_at_55 : decode cX4_at 55 = .ok (.goto 9, 3) := by decide +kernel
theorem dX4_at_58 : decode cX4_at 58 = .ok (.aload_n 0, 1) := by decide +kernel
theorem dX4_at_59 : decode cX4_at 59 = .ok (.getfield 13, 3) := by decide +kernel
theorem dX4_at_62 : decode cX4_at 62 = .ok (.iload_n 1, 1) := by decide +kernel
theorem dX4_at_63 : decode cX4_at 63 = .ok (.laload, 1) := by decide +kernel
theorem dX4_at_64 : decode cX4_at 64 = .ok (.l2i, 1) := by decide +kernel
theorem dX4_at_65 : decode cX4_at 65 = .ok (.ireturn, 1) := by decide +kernel
set_option maxRecDepth 20000 in
theorem ggX4_order_X4_isSlot : GoodIn wsX4_order wsX4_isSlot := goodIn_r _ [7, 8, 9, 10, 6, 11] (by decide +kernel) (by decide +kernel)
set_option maxRecDepth 20000 in
theorem gX4_order_X4_isSlot : GoodIn wsX4_order (va_wsS RX4 86 yX4_isSlot wsX4_isSlot) := goodIn_app (goodIn_of _ (by decide +kernel)) ggX4_order_X4_isSlot
set_option maxRecDepth 20000 in
theorem ggX4_order_X4_load : GoodIn wsX4_order wsX4_load := goodIn_r _ [15, 16, 17, 18, 19, 20, 3, 46, 47, 48, 49, 50, 51, 52, 53, 54, 55, 56, 57, 58, 59] (by decide +kernel) (by decide +kernel)
set_option maxRecDepth 20000 in
theorem gX4_order_X4_load : GoodIn wsX4_order (wsV RX4 105 RX4 yX4_load wsX4_load) := goodIn_app (goodIn_of _ (by decide +kernel)) ggX4_order_X4_load
set_option maxRecDepth 20000 in
theorem ggX4_order_X4_take : GoodIn wsX4_order wsX4_take := goodIn_r _ [24, 17, 19, 3, 25, 26, 27, 6, 28, 1, 29, 30, 31, 32, 33, 2, 34, 35, 36, 37, 38, 39, 40, 41, 42, 43, 44, 45, 46, 47, 48, 49, 50, 51, 52, 53, 54, 55, 56, 57, 58, 59] (by decide +kernel) (by decide +kernel)
set_option maxRecDepth 20000 in
theorem gX4_order_X4_take : GoodIn wsX4_order (wsV RX4 97 RX4 yX4_take wsX4_take) := goodIn_app (goodIn_of _ (by decide +kernel)) ggX4_order_X4_take
theorem dX4_order_0 : decode cX4_order 0 = .ok (.aload_n 0, 1) := by decide +kernel
theorem dX4_order_1 : decode cX4_order 1 = .ok (.getfield 28, 3) := by decide +kernel
theorem dX4_order_4 : decode cX4_order 4 = .ok (.lconst 0, 1) := by decide +kernel
theorem dX4_order_5 : decode cX4_order 5 = .ok (.lcmp, 1) := by decide +kernel
theorem dX4_order_6 : decode cX4_order 6 = .ok (.ifCond .ne 6, 3) := by decide +kernel
theorem dX4_order_9 : decode cX4_order 9 = .ok (.bipush (-3), 2) := by decide +kernel
theorem dX4_order_11 : decode cX4_order 11 = .ok (.ireturn, 1) := by decide +kernel
theorem dX4_order_12 : decode cX4_order 12 = .ok (.iload_n 1, 1) := by decide +kernel
theorem dX4_order_13 : decode cX4_order 13 = .ok (.invokestatic 86, 3) := by decide +kernel
theorem dX4_order_16 : decode cX4_order 16 = .ok (.ifCond .ne 6, 3) := by decide +kernel
theorem dX4_order_19 : decode cX4_order 19 = .ok (.bipush (-2), 2) := by decide +kernel
theorem dX4_order_21 : decode cX4_order 21 = .ok (.ireturn, 1) := by decide +kernel
theorem dX4_order_22 : decode cX4_order 22 = .ok (.aload_n 0, 1) := by decide +kernel
theorem dX4_order_23 : decode cX4_order 23 = .ok (.getfield 28, 3) := by decide +kernel
theorem dX4_order_26 : decode cX4_order 26 = .ok (.lconst 1, 1) := by decide +kernel
theorem dX4_order_27 : decode cX4_order 27 = .ok (.ladd, 1) := by decide +kernel
theorem dX4_order_28 : decode cX4_order 28 = .ok (.lstore_n 2, 1) := by decide +kernel
theorem dX4_order_29 : decode cX4_order 29 = .ok (.lload_n 2, 1) := by decide +kernel
theorem dX4_order_30 : decode cX4_order 30 = .ok (.lstore 4, 2) := by decide +kernel
theorem dX4_order_32 : decode cX4_order 32 = .ok (.ldc2_w 26, 3) := by decide +kernel
theorem dX4_order_35 : decode cX4_order 35 = .ok (.lstore 6, 2) := by decide +kernel
theorem dX4_order_37 : decode cX4_order 37 = .ok (.lload 4, 2) := by decide +kernel
theorem dX4_order_39 : decode cX4_order 39 = .ok (.lconst 1, 1) := by decide +kernel
theorem dX4_order_40 : decode cX4_order 40 = .ok (.lcmp, 1) := by decide +kernel
theorem dX4_order_41 : decode cX4_order 41 = .ok (.ifCond .le 81, 3) := by decide +kernel
theorem dX4_order_44 : decode cX4_order 44 = .ok (.lload 6, 2) := by decide +kernel
theorem dX4_order_46 : decode cX4_order 46 = .ok (.lload 6, 2) := by decide +kernel
theorem dX4_order_48 : decode cX4_order 48 = .ok (.lmul, 1) := by decide +kernel
theorem dX4_order_49 : decode cX4_order 49 = .ok (.lload 4, 2) := by decide +kernel
theorem dX4_order_51 : decode cX4_order 51 = .ok (.lcmp, 1) := by decide +kernel
theorem dX4_order_52 : decode cX4_order 52 = .ok (.ifCond .le 8, 3) := by decide +kernel
theorem dX4_order_55 : decode cX4_order 55 = .ok (.lload 4, 2) := by decide +kernel
theorem dX4_order_57 : decode cX4_order 57 = .ok (.goto 5, 3) := by decide +kernel
theorem dX4_order_60 : decode cX4_order 60 = .ok (.lload 6, 2) := by decide +kernel
theorem dX4_order_62 : decode cX4_order 62 = .ok (.lstore 8, 2) := by decide +kernel
theorem dX4_order_64 : decode cX4_order 64 = .ok (.lload 4, 2) := by decide +kernel
theorem dX4_order_66 : decode cX4_order 66 = .ok (.lload 8, 2) := by decide +kernel
theorem dX4_order_68 : decode cX4_order 68 = .ok (.lrem, 1) := by decide +kernel
theorem dX4_order_69 : decode cX4_order 69 = .ok (.lconst 0, 1) := by decide +kernel
theorem dX4_order_70 : decode cX4_order 70 = .ok (.lcmp, 1) := by decide +kernel
theorem dX4_order_71 : decode cX4_order 71 = .ok (.ifCond .ne 42, 3) := by decide +kernel
theorem dX4_order_74 : decode cX4_order 74 = .ok (.lload 4, 2) := by decide +kernel
theorem dX4_order_76 : decode cX4_order 76 = .ok (.lload 8, 2) := by decide +kernel
theorem dX4_order_78 : decode cX4_order 78 = .ok (.ldiv, 1) := by decide +kernel
theorem dX4_order_79 : decode cX4_order 79 = .ok (.lstore 4, 2) := by decide +kernel
theorem dX4_order_81 : decode cX4_order 81 = .ok (.aload_n 0, 1) := by decide +kernel
theorem dX4_order_82 : decode cX4_order 82 = .ok (.iload_n 1, 1) := by decide +kernel
theorem dX4_order_83 : decode cX4_order 83 = .ok (.invokevirtual 105, 3) := by decide +kernel
theorem dX4_order_86 : decode cX4_order 86 = .ok (.aload_n 0, 1) := by decide +kernel
theorem dX4_order_87 : decode cX4_order 87 = .ok (.lload_n 2, 1) := by decide +kernel
theorem dX4_order_88 : decode cX4_order 88 = .ok (.lload 8, 2) := by decide +kernel
theorem dX4_order_90 : decode cX4_order 90 = .ok (.ldiv, 1) := by decide +kernel
theorem dX4_order_91 : decode cX4_order 91 = .ok (.invokevirtual 97, 3) := by decide +kernel
theorem dX4_order_94 : decode cX4_order 94 = .ok (.aload_n 0, 1) := by decide +kernel
theorem dX4_order_95 : decode cX4_order 95 = .ok (.getfield 67, 3) := by decide +kernel
theorem dX4_order_98 : decode cX4_order 98 = .ok (.ifCond .eq 7, 3) := by decide +kernel
theorem dX4_order_101 : decode cX4_order 101 = .ok (.lload_n 2, 1) := by decide +kernel
theorem dX4_order_102 : decode cX4_order 102 = .ok (.goto 7, 3) := by decide +kernel
theorem dX4_order_105 : decode cX4_order 105 = .ok (.lload_n 2, 1) := by decide +kernel
theorem dX4_order_106 : decode cX4_order 106 = .ok (.lload 8, 2) := by decide +kernel
theorem dX4_order_108 : decode cX4_order 108 = .ok (.ldiv, 1) := by decide +kernel
theorem dX4_order_109 : decode cX4_order 109 = .ok (.lstore_n 2, 1) := by decide +kernel
theorem dX4_order_110 : decode cX4_order 110 = .ok (.goto (-46), 3) := by decide +kernel
theorem dX4_order_113 : decode cX4_order 113 = .ok (.lload 6, 2) := by decide +kernel
theorem dX4_order_115 : decode cX4_order 115 = .ok (.lconst 1, 1) := by decide +kernel
theorem dX4_order_116 : decode cX4_order 116 = .ok (.ladd, 1) := by decide +kernel
theorem dX4_order_117 : decode cX4_order 117 = .ok (.lstore 6, 2) := by decide +kernel
theorem dX4_order_119 : decode cX4_order 119 = .ok (.goto (-82), 3) := by decide +kernel
theorem dX4_order_122 : decode cX4_order 122 = .ok (.lload_n 2, 1) := by decide +kernel
theorem dX4_order_123 : decode cX4_order 123 = .ok (.l2i, 1) := by decide +kernel
theorem dX4_order_124 : decode cX4_order 124 = .ok (.ireturn, 1) := by decide +kernel
theorem dX4_written_0 : decode cX4_written 0 = .ok (.aload_n 0, 1) := by decide +kernel
theorem dX4_written_1 : decode cX4_written 1 = .ok (.getfield 16, 3) := by decide +kernel
theorem dX4_written_4 : decode cX4_written 4 = .ok (.iload_n 1, 1) := by decide +kernel
theorem dX4_written_5 : decode cX4_written 5 = .ok (.baload, 1) := by decide +kernel
theorem dX4_written_6 : decode cX4_written 6 = .ok (.ifCond .eq 25, 3) := by decide +kernel
theorem dX4_written_9 : decode cX4_written 9 = .ok (.ldc2_w 26, 3) := by decide +kernel
theorem dX4_written_12 : decode cX4_written 12 = .ok (.aload_n 0, 1) := by decide +kernel
theorem dX4_written_13 : decode cX4_written 13 = .ok (.getfield 7, 3) := by decide +kernel
theorem dX4_written_16 : decode cX4_written 16 = .ok (.iload_n 1, 1) := by decide +kernel
theorem dX4_written_17 : decode cX4_written 17 = .ok (.laload, 1) := by decide +kernel
theorem dX4_written_18 : decode cX4_written 18 = .ok (.lmul, 1) := by decide +kernel
theorem dX4_written_19 : decode cX4_written 19 = .ok (.aload_n 0, 1) := by decide +kernel
theorem dX4_written_20 : decode cX4_written 20 = .ok (.getfield 13, 3) := by decide +kernel
theorem dX4_written_23 : decode cX4_written 23 = .ok (.iload_n 1, 1) := by decide +kernel
theorem dX4_written_24 : decode cX4_written 24 = .ok (.laload, 1) := by decide +kernel
theorem dX4_written_25 : decode cX4_written 25 = .ok (.lconst 1, 1) := by decide +kernel
theorem dX4_written_26 : decode cX4_written 26 = .ok (.land, 1) := by decide +kernel
theorem dX4_written_27 : decode cX4_written 27 = .ok (.ladd, 1) := by decide +kernel
theorem dX4_written_28 : decode cX4_written 28 = .ok (.goto 6, 3) := by decide +kernel
theorem dX4_written_31 : decode cX4_written 31 = .ok (.ldc2_w 42, 3) := by decide +kernel
theorem dX4_written_34 : decode cX4_written 34 = .ok (.lreturn, 1) := by decide +kernel
set_option maxRecDepth 20000 in
theorem ggX4_write_X4_isSlot : GoodIn wsX4_write wsX4_isSlot := goodIn_r _ [7, 8, 9, 10, 6, 11] (by decide +kernel) (by decide +kernel)
set_option maxRecDepth 20000 in
theorem gX4_write_X4_isSlot : GoodIn wsX4_write (va_wsS RX4 86 yX4_isSlot wsX4_isSlot) := goodIn_app (goodIn_of _ (by decide +kernel)) ggX4_write_X4_isSlot
set_option maxRecDepth 20000 in
theorem ggX4_write_X4_written : GoodIn wsX4_write wsX4_written := goodIn_r _ [15, 16, 17, 18, 19, 20, 21, 22, 23, 24, 25, 26, 27, 28, 29, 30, 31, 32, 33, 34] (by decide +kernel) (by decide +kernel)
set_option maxRecDepth 20000 in
theorem gX4_write_X4_written : GoodIn wsX4_write (wsV RX4 110 RX4 yX4_written wsX4_written) := goodIn_app (goodIn_of _ (by decide +kernel)) ggX4_write_X4_written
theorem dX4_write_0 : decode cX4_write 0 = .ok (.aload_n 0, 1) := by decide +kernel
theorem dX4_write_1 : decode cX4_write 1 = .ok (.getfield 28, 3) := by decide +kernel
theorem dX4_write_4 : decode cX4_write 4 = .ok (.lconst 0, 1) := by decide +kernel
theorem dX4_write_5 : decode cX4_write 5 = .ok (.lcmp, 1) := by decide +kernel
theorem dX4_write_6 : decode cX4_write 6 = .ok (.ifCond .ne 7, 3) := by decide +kernel
theorem dX4_write_9 : decode cX4_write 9 = .ok (.ldc2_w 108, 3) := by decide +kernel
