theorem dX4_write_12 : decode cX4_write 12 = .ok (.lreturn, 1) := by decide +kernel
theorem dX4_write_13 : decode cX4_write 13 = .ok (.iload_n 1, 1) := by decide +kernel
theorem dX4_write_14 : decode cX4_write 14 = .ok (.invokestatic 86, 3) := by decide +kernel
theorem dX4_write_17 : decode cX4_write 17 = .ok (.ifCond .eq 11, 3) := by decide +kernel
theorem dX4_write_20 : decode cX4_write 20 = .ok (.aload_n 0, 1) := by decide +kernel
theorem dX4_write_21 : decode cX4_write 21 = .ok (.iload_n 1, 1) := by decide +kernel
theorem dX4_write_22 : decode cX4_write 22 = .ok (.invokevirtual 110, 3) := by decide +kernel
theorem dX4_write_25 : decode cX4_write 25 = .ok (.goto 6, 3) := by decide +kernel
theorem dX4_write_28 : decode cX4_write 28 = .ok (.ldc2_w 114, 3) := by decide +kernel
theorem dX4_write_31 : decode cX4_write 31 = .ok (.lreturn, 1) := by decide +kernel
set_option maxRecDepth 20000 in
theorem ggX4_read_X4_isSlot : GoodIn wsX4_read wsX4_isSlot := goodIn_r _ [10, 11, 12, 13, 9, 14] (by decide +kernel) (by decide +kernel)
set_option maxRecDepth 20000 in
theorem gX4_read_X4_isSlot : GoodIn wsX4_read (va_wsS RX4 86 yX4_isSlot wsX4_isSlot) := goodIn_app (goodIn_of _ (by decide +kernel)) ggX4_read_X4_isSlot
set_option maxRecDepth 20000 in
theorem ggX4_read_X4_curve : GoodIn wsX4_read wsX4_curve := goodIn_r _ [18, 1, 32, 33, 34, 35, 36, 37, 38, 39, 40, 41, 42, 43, 44, 45] (by decide +kernel) (by decide +kernel)
set_option maxRecDepth 20000 in
theorem gX4_read_X4_curve : GoodIn wsX4_read (wsV RX4 90 RX4 yX4_curve wsX4_curve) := goodIn_app (goodIn_of _ (by decide +kernel)) ggX4_read_X4_curve
set_option maxRecDepth 20000 in
theorem ggX4_read_X4_rootOf : GoodIn wsX4_read wsX4_rootOf := goodIn_r _ [22, 1, 23, 2, 24, 25, 26, 9, 27, 28, 29, 30, 31, 32, 33, 34, 35, 36, 37, 38, 39, 40, 41, 42, 43, 44, 45] (by decide +kernel) (by decide +kernel)
set_option maxRecDepth 20000 in
theorem gX4_read_X4_rootOf : GoodIn wsX4_read (wsV RX4 58 RX4 yX4_rootOf wsX4_rootOf) := goodIn_app (goodIn_of _ (by decide +kernel)) ggX4_read_X4_rootOf
theorem dX4_read_0 : decode cX4_read 0 = .ok (.aload_n 0, 1) := by decide +kernel
theorem dX4_read_1 : decode cX4_read 1 = .ok (.getfield 28, 3) := by decide +kernel
theorem dX4_read_4 : decode cX4_read 4 = .ok (.lconst 0, 1) := by decide +kernel
theorem dX4_read_5 : decode cX4_read 5 = .ok (.lcmp, 1) := by decide +kernel
theorem dX4_read_6 : decode cX4_read 6 = .ok (.ifCond .ne 6, 3) := by decide +kernel
theorem dX4_read_9 : decode cX4_read 9 = .ok (.bipush (-3), 2) := by decide +kernel
theorem dX4_read_11 : decode cX4_read 11 = .ok (.ireturn, 1) := by decide +kernel
theorem dX4_read_12 : decode cX4_read 12 = .ok (.iload_n 1, 1) := by decide +kernel
theorem dX4_read_13 : decode cX4_read 13 = .ok (.invokestatic 86, 3) := by decide +kernel
theorem dX4_read_16 : decode cX4_read 16 = .ok (.ifCond .ne 6, 3) := by decide +kernel
theorem dX4_read_19 : decode cX4_read 19 = .ok (.bipush (-2), 2) := by decide +kernel
theorem dX4_read_21 : decode cX4_read 21 = .ok (.ireturn, 1) := by decide +kernel
theorem dX4_read_22 : decode cX4_read 22 = .ok (.lload_n 2, 1) := by decide +kernel
theorem dX4_read_23 : decode cX4_read 23 = .ok (.ldc2_w 42, 3) := by decide +kernel
theorem dX4_read_26 : decode cX4_read 26 = .ok (.lcmp, 1) := by decide +kernel
theorem dX4_read_27 : decode cX4_read 27 = .ok (.ifCond .ne 12, 3) := by decide +kernel
theorem dX4_read_30 : decode cX4_read 30 = .ok (.aload_n 0, 1) := by decide +kernel
theorem dX4_read_31 : decode cX4_read 31 = .ok (.getfield 16, 3) := by decide +kernel
theorem dX4_read_34 : decode cX4_read 34 = .ok (.iload_n 1, 1) := by decide +kernel
theorem dX4_read_35 : decode cX4_read 35 = .ok (.iconst 0, 1) := by decide +kernel
theorem dX4_read_36 : decode cX4_read 36 = .ok (.bastore, 1) := by decide +kernel
theorem dX4_read_37 : decode cX4_read 37 = .ok (.iconst 1, 1) := by decide +kernel
theorem dX4_read_38 : decode cX4_read 38 = .ok (.ireturn, 1) := by decide +kernel
theorem dX4_read_39 : decode cX4_read 39 = .ok (.lload_n 2, 1) := by decide +kernel
theorem dX4_read_40 : decode cX4_read 40 = .ok (.lconst 0, 1) := by decide +kernel
theorem dX4_read_41 : decode cX4_read 41 = .ok (.lcmp, 1) := by decide +kernel
theorem dX4_read_42 : decode cX4_read 42 = .ok (.ifCond .lt 16, 3) := by decide +kernel
theorem dX4_read_45 : decode cX4_read 45 = .ok (.lload_n 2, 1) := by decide +kernel
theorem dX4_read_46 : decode cX4_read 46 = .ok (.ldc2_w 26, 3) := by decide +kernel
theorem dX4_read_49 : decode cX4_read 49 = .ok (.ldiv, 1) := by decide +kernel
theorem dX4_read_50 : decode cX4_read 50 = .ok (.aload_n 0, 1) := by decide +kernel
theorem dX4_read_51 : decode cX4_read 51 = .ok (.getfield 28, 3) := by decide +kernel
theorem dX4_read_54 : decode cX4_read 54 = .ok (.lcmp, 1) := by decide +kernel
theorem dX4_read_55 : decode cX4_read 55 = .ok (.ifCond .lt 5, 3) := by decide +kernel
theorem dX4_read_58 : decode cX4_read 58 = .ok (.iconst (-1), 1) := by decide +kernel
theorem dX4_read_59 : decode cX4_read 59 = .ok (.ireturn, 1) := by decide +kernel
theorem dX4_read_60 : decode cX4_read 60 = .ok (.aload_n 0, 1) := by decide +kernel
theorem dX4_read_61 : decode cX4_read 61 = .ok (.aload_n 0, 1) := by decide +kernel
theorem dX4_read_62 : decode cX4_read 62 = .ok (.lload_n 2, 1) := by decide +kernel
theorem dX4_read_63 : decode cX4_read 63 = .ok (.ldc2_w 26, 3) := by decide +kernel
theorem dX4_read_66 : decode cX4_read 66 = .ok (.ldiv, 1) := by decide +kernel
theorem dX4_read_67 : decode cX4_read 67 = .ok (.invokevirtual 90, 3) := by decide +kernel
theorem dX4_read_70 : decode cX4_read 70 = .ok (.invokevirtual 58, 3) := by decide +kernel
theorem dX4_read_73 : decode cX4_read 73 = .ok (.lstore 4, 2) := by decide +kernel
theorem dX4_read_75 : decode cX4_read 75 = .ok (.lload_n 2, 1) := by decide +kernel
theorem dX4_read_76 : decode cX4_read 76 = .ok (.lconst 1, 1) := by decide +kernel
theorem dX4_read_77 : decode cX4_read 77 = .ok (.land, 1) := by decide +kernel
theorem dX4_read_78 : decode cX4_read 78 = .ok (.lconst 1, 1) := by decide +kernel
theorem dX4_read_79 : decode cX4_read 79 = .ok (.lcmp, 1) := by decide +kernel
theorem dX4_read_80 : decode cX4_read 80 = .ok (.ifCond .ne 7, 3) := by decide +kernel
theorem dX4_read_83 : decode cX4_read 83 = .ok (.iconst 1, 1) := by decide +kernel
theorem dX4_read_84 : decode cX4_read 84 = .ok (.goto 4, 3) := by decide +kernel
theorem dX4_read_87 : decode cX4_read 87 = .ok (.iconst 0, 1) := by decide +kernel
theorem dX4_read_88 : decode cX4_read 88 = .ok (.istore 6, 2) := by decide +kernel
theorem dX4_read_90 : decode cX4_read 90 = .ok (.lload 4, 2) := by decide +kernel
theorem dX4_read_92 : decode cX4_read 92 = .ok (.lconst 0, 1) := by decide +kernel
theorem dX4_read_93 : decode cX4_read 93 = .ok (.lcmp, 1) := by decide +kernel
theorem dX4_read_94 : decode cX4_read 94 = .ok (.ifCond .lt 15, 3) := by decide +kernel
theorem dX4_read_97 : decode cX4_read 97 = .ok (.lload 4, 2) := by decide +kernel
theorem dX4_read_99 : decode cX4_read 99 = .ok (.lconst 0, 1) := by decide +kernel
theorem dX4_read_100 : decode cX4_read 100 = .ok (.lcmp, 1) := by decide +kernel
theorem dX4_read_101 : decode cX4_read 101 = .ok (.ifCond .ne 10, 3) := by decide +kernel
theorem dX4_read_104 : decode cX4_read 104 = .ok (.iload 6, 2) := by decide +kernel
theorem dX4_read_106 : decode cX4_read 106 = .ok (.ifCond .eq 5, 3) := by decide +kernel
theorem dX4_read_109 : decode cX4_read 109 = .ok (.iconst (-1), 1) := by decide +kernel
theorem dX4_read_110 : decode cX4_read 110 = .ok (.ireturn, 1) := by decide +kernel
theorem dX4_read_111 : decode cX4_read 111 = .ok (.aload_n 0, 1) := by decide +kernel
theorem dX4_read_112 : decode cX4_read 112 = .ok (.getfield 7, 3) := by decide +kernel
theorem dX4_read_115 : decode cX4_read 115 = .ok (.iload_n 1, 1) := by decide +kernel
theorem dX4_read_116 : decode cX4_read 116 = .ok (.lload_n 2, 1) := by decide +kernel
theorem dX4_read_117 : decode cX4_read 117 = .ok (.ldc2_w 26, 3) := by decide +kernel
theorem dX4_read_120 : decode cX4_read 120 = .ok (.ldiv, 1) := by decide +kernel
theorem dX4_read_121 : decode cX4_read 121 = .ok (.lastore, 1) := by decide +kernel
theorem dX4_read_122 : decode cX4_read 122 = .ok (.aload_n 0, 1) := by decide +kernel
theorem dX4_read_123 : decode cX4_read 123 = .ok (.getfield 13, 3) := by decide +kernel
theorem dX4_read_126 : decode cX4_read 126 = .ok (.iload_n 1, 1) := by decide +kernel
theorem dX4_read_127 : decode cX4_read 127 = .ok (.iload 6, 2) := by decide +kernel
theorem dX4_read_129 : decode cX4_read 129 = .ok (.ifCond .eq 13, 3) := by decide +kernel
theorem dX4_read_132 : decode cX4_read 132 = .ok (.aload_n 0, 1) := by decide +kernel
theorem dX4_read_133 : decode cX4_read 133 = .ok (.getfield 28, 3) := by decide +kernel
theorem dX4_read_136 : decode cX4_read 136 = .ok (.lload 4, 2) := by decide +kernel
theorem dX4_read_138 : decode cX4_read 138 = .ok (.lsub, 1) := by decide +kernel
theorem dX4_read_139 : decode cX4_read 139 = .ok (.goto 5, 3) := by decide +kernel
theorem dX4_read_142 : decode cX4_read 142 = .ok (.lload 4, 2) := by decide +kernel
theorem dX4_read_144 : decode cX4_read 144 = .ok (.lastore, 1) := by decide +kernel
theorem dX4_read_145 : decode cX4_read 145 = .ok (.aload_n 0, 1) := by decide +kernel
theorem dX4_read_146 : decode cX4_read 146 = .ok (.getfield 16, 3) := by decide +kernel
theorem dX4_read_149 : decode cX4_read 149 = .ok (.iload_n 1, 1) := by decide +kernel
theorem dX4_read_150 : decode cX4_read 150 = .ok (.iconst 1, 1) := by decide +kernel
theorem dX4_read_151 : decode cX4_read 151 = .ok (.bastore, 1) := by decide +kernel
theorem dX4_read_152 : decode cX4_read 152 = .ok (.iconst 1, 1) := by decide +kernel
theorem dX4_read_153 : decode cX4_read 153 = .ok (.ireturn, 1) := by decide +kernel
theorem dX4_multiply2_0 : decode cX4_multiply2 0 = .ok (.aload_n 0, 1) := by decide +kernel
theorem dX4_multiply2_1 : decode cX4_multiply2 1 = .ok (.getfield 116, 3) := by decide +kernel
theorem dX4_multiply2_4 : decode cX4_multiply2 4 = .ok (.lload_n 1, 1) := by decide +kernel
theorem dX4_multiply2_5 : decode cX4_multiply2 5 = .ok (.lmul, 1) := by decide +kernel
theorem dX4_multiply2_6 : decode cX4_multiply2 6 = .ok (.aload_n 0, 1) := by decide +kernel
theorem dX4_multiply2_7 : decode cX4_multiply2 7 = .ok (.getfield 28, 3) := by decide +kernel
theorem dX4_multiply2_10 : decode cX4_multiply2 10 = .ok (.lrem, 1) := by decide +kernel
theorem dX4_multiply2_11 : decode cX4_multiply2 11 = .ok (.aload_n 0, 1) := by decide +kernel
theorem dX4_multiply2_12 : decode cX4_multiply2 12 = .ok (.getfield 28, 3) := by decide +kernel
theorem dX4_multiply2_15 : decode cX4_multiply2 15 = .ok (.ladd, 1) := by decide +kernel
theorem dX4_multiply2_16 : decode cX4_multiply2 16 = .ok (.aload_n 0, 1) := by decide +kernel
theorem dX4_multiply2_17 : decode cX4_multiply2 17 = .ok (.getfield 119, 3) := by decide +kernel
theorem dX4_multiply2_20 : decode cX4_multiply2 20 = .ok (.lload_n 3, 1) := by decide +kernel
theorem dX4_multiply2_21 : decode cX4_multiply2 21 = .ok (.lmul, 1) := by decide +kernel
theorem dX4_multiply2_22 : decode cX4_multiply2 22 = .ok (.aload_n 0, 1) := by decide +kernel
theorem dX4_multiply2_23 : decode cX4_multiply2 23 = .ok (.getfield 28, 3) := by decide +kernel
theorem dX4_multiply2_26 : decode cX4_multiply2 26 = .ok (.lrem, 1) := by decide +kernel
theorem dX4_multiply2_27 : decode cX4_multiply2 27 = .ok (.lsub, 1) := by decide +kernel
theorem dX4_multiply2_28 : decode cX4_multiply2 28 = .ok (.aload_n 0, 1) := by decide +kernel
theorem dX4_multiply2_29 : decode cX4_multiply2 29 = .ok (.getfield 28, 3) := by decide +kernel
theorem dX4_multiply2_32 : decode cX4_multiply2 32 = .ok (.lrem, 1) := by decide +kernel
theorem dX4_multiply2_33 : decode cX4_multiply2 33 = .ok (.lstore 5, 2) := by decide +kernel
theorem dX4_multiply2_35 : decode cX4_multiply2 35 = .ok (.aload_n 0, 1) := by decide +kernel
theorem dX4_multiply2_36 : decode cX4_multiply2 36 = .ok (.aload_n 0, 1) := by decide +kernel
theorem dX4_multiply2_37 : decode cX4_multiply2 37 = .ok (.getfield 116, 3) := by decide +kernel
theorem dX4_multiply2_40 : decode cX4_multiply2 40 = .ok (.lload_n 3, 1) := by decide +kernel
theorem dX4_multiply2_41 : decode cX4_multiply2 41 = .ok (.lmul, 1) := by decide +kernel
theorem dX4_multiply2_42 : decode cX4_multiply2 42 = .ok (.aload_n 0, 1) := by decide +kernel
theorem dX4_multiply2_43 : decode cX4_multiply2 43 = .ok (.getfield 28, 3) := by decide +kernel
theorem dX4_multiply2_46 : decode cX4_multiply2 46 = .ok (.lrem, 1) := by decide +kernel
theorem dX4_multiply2_47 : decode cX4_multiply2 47 = .ok (.aload_n 0, 1) := by decide +kernel
theorem dX4_multiply2_48 : decode cX4_multiply2 48 = .ok (.getfield 119, 3) := by decide +kernel
theorem dX4_multiply2_51 : decode cX4_multiply2 51 = .ok (.lload_n 1, 1) := by decide +kernel
theorem dX4_multiply2_52 : decode cX4_multiply2 52 = .ok (.lmul, 1) := by decide +kernel
theorem dX4_multiply2_53 : decode cX4_multiply2 53 = .ok (.aload_n 0, 1) := by decide +kernel
theorem dX4_multiply2_54 : decode cX4_multiply2 54 = .ok (.getfield 28, 3) := by decide +kernel
theorem dX4_multiply2_57 : decode cX4_multiply2 57 = .ok (.lrem, 1) := by decide +kernel
theorem dX4_multiply2_58 : decode cX4_multiply2 58 = .ok (.ladd, 1) := by decide +kernel
theorem dX4_multiply2_59 : decode cX4_multiply2 59 = .ok (.aload_n 0, 1) := by decide +kernel
theorem dX4_multiply2_60 : decode cX4_multiply2 60 = .ok (.getfield 28, 3) := by decide +kernel
theorem dX4_multiply2_63 : decode cX4_multiply2 63 = .ok (.lrem, 1) := by decide +kernel
theorem dX4_multiply2_64 : decode cX4_multiply2 64 = .ok (.putfield 119, 3) := by decide +kernel
theorem dX4_multiply2_67 : decode cX4_multiply2 67 = .ok (.aload_n 0, 1) := by decide +kernel
theorem dX4_multiply2_68 : decode cX4_multiply2 68 = .ok (.lload 5, 2) := by decide +kernel
theorem dX4_multiply2_70 : decode cX4_multiply2 70 = .ok (.putfield 116, 3) := by decide +kernel
theorem dX4_multiply2_73 : decode cX4_multiply2 73 = .ok (.return_, 1) := by decide +kernel
set_option maxRecDepth 20000 in
theorem ggX4_power2_X4_multiply2 : GoodIn wsX4_power2 wsX4_multiply2 := goodIn_r _ [7, 1, 8, 2, 9, 10, 11, 12, 13, 14, 15, 16, 17, 18, 19, 20, 21, 22] (by decide +kernel) (by decide +kernel)
set_option maxRecDepth 20000 in
theorem gX4_power2_X4_multiply2 : GoodIn wsX4_power2 (wsV RX4 122 RX4 yX4_multiply2 wsX4_multiply2) := goodIn_app (goodIn_of _ (by decide +kernel)) ggX4_power2_X4_multiply2
theorem dX4_power2_0 : decode cX4_power2 0 = .ok (.aload_n 0, 1) := by decide +kernel
theorem dX4_power2_1 : decode cX4_power2 1 = .ok (.getfield 116, 3) := by decide +kernel
theorem dX4_power2_4 : decode cX4_power2 4 = .ok (.lstore_n 3, 1) := by decide +kernel
theorem dX4_power2_5 : decode cX4_power2 5 = .ok (.aload_n 0, 1) := by decide +kernel
theorem dX4_power2_6 : decode cX4_power2 6 = .ok (.getfield 119, 3) := by decide +kernel
theorem dX4_power2_9 : decode cX4_power2 9 = .ok (.lstore 5, 2) := by decide +kernel
theorem dX4_power2_11 : decode cX4_power2 11 = .ok (.aload_n 0, 1) := by decide +kernel
theorem dX4_power2_12 : decode cX4_power2 12 = .ok (.lconst 1, 1) := by decide +kernel
theorem dX4_power2_13 : decode cX4_power2 13 = .ok (.putfield 116, 3) := by decide +kernel
theorem dX4_power2_16 : decode cX4_power2 16 = .ok (.aload_n 0, 1) := by decide +kernel
theorem dX4_power2_17 : decode cX4_power2 17 = .ok (.lconst 0, 1) := by decide +kernel
theorem dX4_power2_18 : decode cX4_power2 18 = .ok (.putfield 119, 3) := by decide +kernel
theorem dX4_power2_21 : decode cX4_power2 21 = .ok (.bipush 63, 2) := by decide +kernel
theorem dX4_power2_23 : decode cX4_power2 23 = .ok (.istore 7, 2) := by decide +kernel
theorem dX4_power2_25 : decode cX4_power2 25 = .ok (.iload 7, 2) := by decide +kernel
theorem dX4_power2_27 : decode cX4_power2 27 = .ok (.ifCond .lt 39, 3) := by decide +kernel
theorem dX4_power2_30 : decode cX4_power2 30 = .ok (.aload_n 0, 1) := by decide +kernel
theorem dX4_power2_31 : decode cX4_power2 31 = .ok (.aload_n 0, 1) := by decide +kernel
theorem dX4_power2_32 : decode cX4_power2 32 = .ok (.getfield 116, 3) := by decide +kernel
theorem dX4_power2_35 : decode cX4_power2 35 = .ok (.aload_n 0, 1) := by decide +kernel
theorem dX4_power2_36 : decode cX4_power2 36 = .ok (.getfield 119, 3) := by decide +kernel
theorem dX4_power2_39 : decode cX4_power2 39 = .ok (.invokevirtual 122, 3) := by decide +kernel
theorem dX4_power2_42 : decode cX4_power2 42 = .ok (.lload_n 1, 1) := by decide +kernel
theorem dX4_power2_43 : decode cX4_power2 43 = .ok (.iload 7, 2) := by decide +kernel
theorem dX4_power2_45 : decode cX4_power2 45 = .ok (.lushr, 1) := by decide +kernel
theorem dX4_power2_46 : decode cX4_power2 46 = .ok (.lconst 1, 1) := by decide +kernel
theorem dX4_power2_47 : decode cX4_power2 47 = .ok (.land, 1) := by decide +kernel
theorem dX4_power2_48 : decode cX4_power2 48 = .ok (.lconst 1, 1) := by decide +kernel
theorem dX4_power2_49 : decode cX4_power2 49 = .ok (.lcmp, 1) := by decide +kernel
theorem dX4_power2_50 : decode cX4_power2 50 = .ok (.ifCond .ne 10, 3) := by decide +kernel
theorem dX4_power2_53 : decode cX4_power2 53 = .ok (.aload_n 0, 1) := by decide +kernel
theorem dX4_power2_54 : decode cX4_power2 54 = .ok (.lload_n 3, 1) := by decide +kernel
theorem dX4_power2_55 : decode cX4_power2 55 = .ok (.lload 5, 2) := by decide +kernel
theorem dX4_power2_57 : decode cX4_power2 57 = .ok (.invokevirtual 122, 3) := by decide +kernel
theorem dX4_power2_60 : decode cX4_power2 60 = .ok (.iinc 7 (-1), 3) := by decide +kernel
theorem dX4_power2_63 : decode cX4_power2 63 = .ok (.goto (-38), 3) := by decide +kernel
theorem dX4_power2_66 : decode cX4_power2 66 = .ok (.return_, 1) := by decide +kernel
set_option maxRecDepth 20000 in
theorem ggX4_line_X4_fit : GoodIn wsX4_line wsX4_fit := goodIn_r _ [10, 5, 35, 36, 37, 38, 39, 40, 41, 42, 43, 44, 45, 46, 47, 48] (by decide +kernel) (by decide +kernel)
set_option maxRecDepth 20000 in
theorem gX4_line_X4_fit : GoodIn wsX4_line (wsV RX4 32 RX4 yX4_fit wsX4_fit) := goodIn_app (goodIn_of _ (by decide +kernel)) ggX4_line_X4_fit
set_option maxRecDepth 20000 in
theorem ggX4_line_X4_multiply2 : GoodIn wsX4_line wsX4_multiply2 := goodIn_r _ [14, 15, 5, 16, 35, 36, 37, 38, 39, 40, 41, 42, 43, 44, 45, 46, 47, 48] (by decide +kernel) (by decide +kernel)
set_option maxRecDepth 20000 in
theorem gX4_line_X4_multiply2 : GoodIn wsX4_line (wsV RX4 122 RX4 yX4_multiply2 wsX4_multiply2) := goodIn_app (goodIn_of _ (by decide +kernel)) ggX4_line_X4_multiply2
set_option maxRecDepth 20000 in
theorem ggX4_line_X4_slope : GoodIn wsX4_line wsX4_slope := goodIn_r _ [20, 21, 5, 22, 23, 24, 25, 9, 26, 27, 28, 29, 30, 6, 7, 8, 10, 35, 36, 37, 38, 39, 40, 41, 42, 43, 44, 45, 46, 47, 48] (by decide +kernel) (by decide +kernel)
set_option maxRecDepth 20000 in
theorem gX4_line_X4_slope : GoodIn wsX4_line (wsV RX4 76 RX4 yX4_slope wsX4_slope) := goodIn_app (goodIn_of _ (by decide +kernel)) ggX4_line_X4_slope
set_option maxRecDepth 20000 in
theorem ggX4_line_X4_plus : GoodIn wsX4_line wsX4_plus := goodIn_r _ [34, 2, 3, 4, 5, 17, 18, 19, 9, 20, 21, 22, 23, 24, 25, 26, 27, 28, 29, 30, 6, 7, 8, 10, 35, 36, 37, 38, 39, 40, 41, 42, 43, 44, 45, 46, 47, 48] (by decide +kernel) (by decide +kernel)
set_option maxRecDepth 20000 in
theorem gX4_line_X4_plus : GoodIn wsX4_line (wsV RX4 80 RX4 yX4_plus wsX4_plus) := goodIn_app (goodIn_of _ (by decide +kernel)) ggX4_line_X4_plus
theorem dX4_line_0 : decode cX4_line 0 = .ok (.aload_n 0, 1) := by decide +kernel
theorem dX4_line_1 : decode cX4_line 1 = .ok (.dup, 1) := by decide +kernel
theorem dX4_line_2 : decode cX4_line 2 = .ok (.getfield 126, 3) := by decide +kernel
theorem dX4_line_5 : decode cX4_line 5 = .ok (.iconst 1, 1) := by decide +kernel
theorem dX4_line_6 : decode cX4_line 6 = .ok (.iadd, 1) := by decide +kernel
theorem dX4_line_7 : decode cX4_line 7 = .ok (.putfield 126, 3) := by decide +kernel
theorem dX4_line_10 : decode cX4_line 10 = .ok (.aload_n 0, 1) := by decide +kernel
theorem dX4_line_11 : decode cX4_line 11 = .ok (.getfield 67, 3) := by decide +kernel
theorem dX4_line_14 : decode cX4_line 14 = .ok (.ifCond .eq 37, 3) := by decide +kernel
theorem dX4_line_17 : decode cX4_line 17 = .ok (.iload 5, 2) := by decide +kernel
theorem dX4_line_19 : decode cX4_line 19 = .ok (.ifCond .eq 32, 3) := by decide +kernel
theorem dX4_line_22 : decode cX4_line 22 = .ok (.aload_n 0, 1) := by decide +kernel
theorem dX4_line_23 : decode cX4_line 23 = .ok (.getfield 61, 3) := by decide +kernel
theorem dX4_line_26 : decode cX4_line 26 = .ok (.lload_n 1, 1) := by decide +kernel
theorem dX4_line_27 : decode cX4_line 27 = .ok (.lcmp, 1) := by decide +kernel
theorem dX4_line_28 : decode cX4_line 28 = .ok (.ifCond .ne 23, 3) := by decide +kernel
theorem dX4_line_31 : decode cX4_line 31 = .ok (.aload_n 0, 1) := by decide +kernel
theorem dX4_line_32 : decode cX4_line 32 = .ok (.getfield 64, 3) := by decide +kernel
theorem dX4_line_35 : decode cX4_line 35 = .ok (.lload_n 3, 1) := by decide +kernel
theorem dX4_line_36 : decode cX4_line 36 = .ok (.ladd, 1) := by decide +kernel
theorem dX4_line_37 : decode cX4_line 37 = .ok (.aload_n 0, 1) := by decide +kernel
theorem dX4_line_38 : decode cX4_line 38 = .ok (.getfield 28, 3) := by decide +kernel
theorem dX4_line_41 : decode cX4_line 41 = .ok (.lrem, 1) := by decide +kernel
theorem dX4_line_42 : decode cX4_line 42 = .ok (.lconst 0, 1) := by decide +kernel
theorem dX4_line_43 : decode cX4_line 43 = .ok (.lcmp, 1) := by decide +kernel
theorem dX4_line_44 : decode cX4_line 44 = .ok (.ifCond .ne 7, 3) := by decide +kernel
theorem dX4_line_47 : decode cX4_line 47 = .ok (.iconst 1, 1) := by decide +kernel
theorem dX4_line_48 : decode cX4_line 48 = .ok (.goto 4, 3) := by decide +kernel
theorem dX4_line_51 : decode cX4_line 51 = .ok (.iconst 0, 1) := by decide +kernel
theorem dX4_line_52 : decode cX4_line 52 = .ok (.istore 10, 2) := by decide +kernel
theorem dX4_line_54 : decode cX4_line 54 = .ok (.iload 10, 2) := by decide +kernel
theorem dX4_line_56 : decode cX4_line 56 = .ok (.ifCond .eq 23, 3) := by decide +kernel
theorem dX4_line_59 : decode cX4_line 59 = .ok (.aload_n 0, 1) := by decide +kernel
theorem dX4_line_60 : decode cX4_line 60 = .ok (.aload_n 0, 1) := by decide +kernel
theorem dX4_line_61 : decode cX4_line 61 = .ok (.lload 6, 2) := by decide +kernel
theorem dX4_line_63 : decode cX4_line 63 = .ok (.lneg, 1) := by decide +kernel
theorem dX4_line_64 : decode cX4_line 64 = .ok (.aload_n 0, 1) := by decide +kernel
theorem dX4_line_65 : decode cX4_line 65 = .ok (.getfield 61, 3) := by decide +kernel
theorem dX4_line_68 : decode cX4_line 68 = .ok (.lsub, 1) := by decide +kernel
theorem dX4_line_69 : decode cX4_line 69 = .ok (.invokevirtual 32, 3) := by decide +kernel
theorem dX4_line_72 : decode cX4_line 72 = .ok (.lconst 0, 1) := by decide +kernel
theorem dX4_line_73 : decode cX4_line 73 = .ok (.invokevirtual 122, 3) := by decide +kernel
theorem dX4_line_76 : decode cX4_line 76 = .ok (.goto 66, 3) := by decide +kernel
theorem dX4_line_79 : decode cX4_line 79 = .ok (.aload_n 0, 1) := by decide +kernel
theorem dX4_line_80 : decode cX4_line 80 = .ok (.getfield 67, 3) := by decide +kernel
theorem dX4_line_83 : decode cX4_line 83 = .ok (.ifCond .eq 59, 3) := by decide +kernel
theorem dX4_line_86 : decode cX4_line 86 = .ok (.iload 5, 2) := by decide +kernel
theorem dX4_line_88 : decode cX4_line 88 = .ok (.ifCond .eq 54, 3) := by decide +kernel
theorem dX4_line_91 : decode cX4_line 91 = .ok (.aload_n 0, 1) := by decide +kernel
theorem dX4_line_92 : decode cX4_line 92 = .ok (.aload_n 0, 1) := by decide +kernel
theorem dX4_line_93 : decode cX4_line 93 = .ok (.getfield 61, 3) := by decide +kernel
theorem dX4_line_96 : decode cX4_line 96 = .ok (.aload_n 0, 1) := by decide +kernel
theorem dX4_line_97 : decode cX4_line 97 = .ok (.getfield 64, 3) := by decide +kernel
theorem dX4_line_100 : decode cX4_line 100 = .ok (.lload_n 1, 1) := by decide +kernel
theorem dX4_line_101 : decode cX4_line 101 = .ok (.lload_n 3, 1) := by decide +kernel
theorem dX4_line_102 : decode cX4_line 102 = .ok (.invokevirtual 76, 3) := by decide +kernel
theorem dX4_line_105 : decode cX4_line 105 = .ok (.lstore 11, 2) := by decide +kernel
theorem dX4_line_107 : decode cX4_line 107 = .ok (.aload_n 0, 1) := by decide +kernel
theorem dX4_line_108 : decode cX4_line 108 = .ok (.aload_n 0, 1) := by decide +kernel
theorem dX4_line_109 : decode cX4_line 109 = .ok (.lload 11, 2) := by decide +kernel
theorem dX4_line_111 : decode cX4_line 111 = .ok (.aload_n 0, 1) := by decide +kernel
theorem dX4_line_112 : decode cX4_line 112 = .ok (.getfield 61, 3) := by decide +kernel
theorem dX4_line_115 : decode cX4_line 115 = .ok (.lload 6, 2) := by decide +kernel
theorem dX4_line_117 : decode cX4_line 117 = .ok (.ladd, 1) := by decide +kernel
theorem dX4_line_118 : decode cX4_line 118 = .ok (.aload_n 0, 1) := by decide +kernel
theorem dX4_line_119 : decode cX4_line 119 = .ok (.getfield 28, 3) := by decide +kernel
theorem dX4_line_122 : decode cX4_line 122 = .ok (.lrem, 1) := by decide +kernel
theorem dX4_line_123 : decode cX4_line 123 = .ok (.lmul, 1) := by decide +kernel
theorem dX4_line_124 : decode cX4_line 124 = .ok (.aload_n 0, 1) := by decide +kernel
theorem dX4_line_125 : decode cX4_line 125 = .ok (.getfield 28, 3) := by decide +kernel
theorem dX4_line_128 : decode cX4_line 128 = .ok (.lrem, 1) := by decide +kernel
theorem dX4_line_129 : decode cX4_line 129 = .ok (.aload_n 0, 1) := by decide +kernel
theorem dX4_line_130 : decode cX4_line 130 = .ok (.getfield 64, 3) := by decide +kernel
theorem dX4_line_133 : decode cX4_line 133 = .ok (.lsub, 1) := by decide +kernel
theorem dX4_line_134 : decode cX4_line 134 = .ok (.invokevirtual 32, 3) := by decide +kernel
theorem dX4_line_137 : decode cX4_line 137 = .ok (.lload 8, 2) := by decide +kernel
theorem dX4_line_139 : decode cX4_line 139 = .ok (.invokevirtual 122, 3) := by decide +kernel
theorem dX4_line_142 : decode cX4_line 142 = .ok (.aload_n 0, 1) := by decide +kernel
theorem dX4_line_143 : decode cX4_line 143 = .ok (.lload_n 1, 1) := by decide +kernel
theorem dX4_line_144 : decode cX4_line 144 = .ok (.lload_n 3, 1) := by decide +kernel
theorem dX4_line_145 : decode cX4_line 145 = .ok (.iload 5, 2) := by decide +kernel
theorem dX4_line_147 : decode cX4_line 147 = .ok (.invokevirtual 80, 3) := by decide +kernel
theorem dX4_line_150 : decode cX4_line 150 = .ok (.return_, 1) := by decide +kernel
set_option maxRecDepth 20000 in
theorem ggX4_pairOf_X4_multiply2 : GoodIn wsX4_pairOf wsX4_multiply2 := goodIn_r _ [13, 1, 8, 2, 44, 45, 46, 47, 48, 49, 50, 51, 52, 53, 54, 55, 56, 57] (by decide +kernel) (by decide +kernel)
set_option maxRecDepth 20000 in
theorem gX4_pairOf_X4_multiply2 : GoodIn wsX4_pairOf (wsV RX4 122 RX4 yX4_multiply2 wsX4_multiply2) := goodIn_app (goodIn_of _ (by decide +kernel)) ggX4_pairOf_X4_multiply2
set_option maxRecDepth 20000 in
theorem ggX4_pairOf_X4_line : GoodIn wsX4_pairOf wsX4_line := goodIn_r _ [17, 3, 6, 4, 5, 8, 18, 19, 20, 12, 21, 9, 10, 11, 13, 1, 2, 22, 23, 24, 25, 26, 27, 28, 29, 30, 31, 32, 33, 34, 35, 36, 37, 38, 39, 44, 45, 46, 47, 48, 49, 50, 51, 52, 53, 54, 55, 56, 57] (by decide +kernel) (by decide +kernel)
set_option maxRecDepth 20000 in
theorem gX4_pairOf_X4_line : GoodIn wsX4_pairOf (wsV RX4 130 RX4 yX4_line wsX4_line) := goodIn_app (goodIn_of _ (by decide +kernel)) ggX4_pairOf_X4_line
set_option maxRecDepth 20000 in
theorem ggX4_pairOf_X4_power2 : GoodIn wsX4_pairOf wsX4_power2 := goodIn_r _ [43, 1, 2, 9, 10, 11, 12, 13, 8, 44, 45, 46, 47, 48, 49, 50, 51, 52, 53, 54, 55, 56, 57] (by decide +kernel) (by decide +kernel)
set_option maxRecDepth 20000 in
theorem gX4_pairOf_X4_power2 : GoodIn wsX4_pairOf (wsV RX4 134 RX4 yX4_power2 wsX4_power2) := goodIn_app (goodIn_of _ (by decide +kernel)) ggX4_pairOf_X4_power2
theorem dX4_pairOf_0 : decode cX4_pairOf 0 = .ok (.aload_n 0, 1) := by decide +kernel
theorem dX4_pairOf_1 : decode cX4_pairOf 1 = .ok (.lconst 1, 1) := by decide +kernel
theorem dX4_pairOf_2 : decode cX4_pairOf 2 = .ok (.putfield 116, 3) := by decide +kernel
theorem dX4_pairOf_5 : decode cX4_pairOf 5 = .ok (.aload_n 0, 1) := by decide +kernel
theorem dX4_pairOf_6 : decode cX4_pairOf 6 = .ok (.lconst 0, 1) := by decide +kernel
theorem dX4_pairOf_7 : decode cX4_pairOf 7 = .ok (.putfield 119, 3) := by decide +kernel
theorem dX4_pairOf_10 : decode cX4_pairOf 10 = .ok (.aload_n 0, 1) := by decide +kernel
theorem dX4_pairOf_11 : decode cX4_pairOf 11 = .ok (.iconst 0, 1) := by decide +kernel
theorem dX4_pairOf_12 : decode cX4_pairOf 12 = .ok (.putfield 126, 3) := by decide +kernel
theorem dX4_pairOf_15 : decode cX4_pairOf 15 = .ok (.iload 5, 2) := by decide +kernel
theorem dX4_pairOf_17 : decode cX4_pairOf 17 = .ok (.ifCond .eq 8, 3) := by decide +kernel
theorem dX4_pairOf_20 : decode cX4_pairOf 20 = .ok (.iload 10, 2) := by decide +kernel
theorem dX4_pairOf_22 : decode cX4_pairOf 22 = .ok (.ifCond .ne 4, 3) := by decide +kernel
theorem dX4_pairOf_25 : decode cX4_pairOf 25 = .ok (.return_, 1) := by decide +kernel
theorem dX4_pairOf_26 : decode cX4_pairOf 26 = .ok (.aload_n 0, 1) := by decide +kernel
theorem dX4_pairOf_27 : decode cX4_pairOf 27 = .ok (.lload_n 1, 1) := by decide +kernel
theorem dX4_pairOf_28 : decode cX4_pairOf 28 = .ok (.putfield 61, 3) := by decide +kernel
theorem dX4_pairOf_31 : decode cX4_pairOf 31 = .ok (.aload_n 0, 1) := by decide +kernel
theorem dX4_pairOf_32 : decode cX4_pairOf 32 = .ok (.lload_n 3, 1) := by decide +kernel
theorem dX4_pairOf_33 : decode cX4_pairOf 33 = .ok (.putfield 64, 3) := by decide +kernel
theorem dX4_pairOf_36 : decode cX4_pairOf 36 = .ok (.aload_n 0, 1) := by decide +kernel
theorem dX4_pairOf_37 : decode cX4_pairOf 37 = .ok (.iconst 1, 1) := by decide +kernel
theorem dX4_pairOf_38 : decode cX4_pairOf 38 = .ok (.putfield 67, 3) := by decide +kernel
theorem dX4_pairOf_41 : decode cX4_pairOf 41 = .ok (.bipush 62, 2) := by decide +kernel
theorem dX4_pairOf_43 : decode cX4_pairOf 43 = .ok (.istore 11, 2) := by decide +kernel
theorem dX4_pairOf_45 : decode cX4_pairOf 45 = .ok (.aload_n 0, 1) := by decide +kernel
theorem dX4_pairOf_46 : decode cX4_pairOf 46 = .ok (.getfield 48, 3) := by decide +kernel
theorem dX4_pairOf_49 : decode cX4_pairOf 49 = .ok (.iload 11, 2) := by decide +kernel
theorem dX4_pairOf_51 : decode cX4_pairOf 51 = .ok (.lshr, 1) := by decide +kernel
theorem dX4_pairOf_52 : decode cX4_pairOf 52 = .ok (.lconst 1, 1) := by decide +kernel
theorem dX4_pairOf_53 : decode cX4_pairOf 53 = .ok (.land, 1) := by decide +kernel
theorem dX4_pairOf_54 : decode cX4_pairOf 54 = .ok (.lconst 0, 1) := by decide +kernel
theorem dX4_pairOf_55 : decode cX4_pairOf 55 = .ok (.lcmp, 1) := by decide +kernel
theorem dX4_pairOf_56 : decode cX4_pairOf 56 = .ok (.ifCond .ne 9, 3) := by decide +kernel
theorem dX4_pairOf_59 : decode cX4_pairOf 59 = .ok (.iinc 11 (-1), 3) := by decide +kernel
theorem dX4_pairOf_62 : decode cX4_pairOf 62 = .ok (.goto (-17), 3) := by decide +kernel
theorem dX4_pairOf_65 : decode cX4_pairOf 65 = .ok (.iinc 11 (-1), 3) := by decide +kernel
theorem dX4_pairOf_68 : decode cX4_pairOf 68 = .ok (.iload 11, 2) := by decide +kernel
theorem dX4_pairOf_70 : decode cX4_pairOf 70 = .ok (.ifCond .lt 66, 3) := by decide +kernel
theorem dX4_pairOf_73 : decode cX4_pairOf 73 = .ok (.aload_n 0, 1) := by decide +kernel
theorem dX4_pairOf_74 : decode cX4_pairOf 74 = .ok (.aload_n 0, 1) := by decide +kernel
theorem dX4_pairOf_75 : decode cX4_pairOf 75 = .ok (.getfield 116, 3) := by decide +kernel
theorem dX4_pairOf_78 : decode cX4_pairOf 78 = .ok (.aload_n 0, 1) := by decide +kernel
theorem dX4_pairOf_79 : decode cX4_pairOf 79 = .ok (.getfield 119, 3) := by decide +kernel
theorem dX4_pairOf_82 : decode cX4_pairOf 82 = .ok (.invokevirtual 122, 3) := by decide +kernel
theorem dX4_pairOf_85 : decode cX4_pairOf 85 = .ok (.aload_n 0, 1) := by decide +kernel
theorem dX4_pairOf_86 : decode cX4_pairOf 86 = .ok (.aload_n 0, 1) := by decide +kernel
theorem dX4_pairOf_87 : decode cX4_pairOf 87 = .ok (.getfield 61, 3) := by decide +kernel
theorem dX4_pairOf_90 : decode cX4_pairOf 90 = .ok (.aload_n 0, 1) := by decide +kernel
theorem dX4_pairOf_91 : decode cX4_pairOf 91 = .ok (.getfield 64, 3) := by decide +kernel
theorem dX4_pairOf_94 : decode cX4_pairOf 94 = .ok (.aload_n 0, 1) := by decide +kernel
theorem dX4_pairOf_95 : decode cX4_pairOf 95 = .ok (.getfield 67, 3) := by decide +kernel
theorem dX4_pairOf_98 : decode cX4_pairOf 98 = .ok (.lload 6, 2) := by decide +kernel
theorem dX4_pairOf_100 : decode cX4_pairOf 100 = .ok (.lload 8, 2) := by decide +kernel
theorem dX4_pairOf_102 : decode cX4_pairOf 102 = .ok (.invokevirtual 130, 3) := by decide +kernel
theorem dX4_pairOf_105 : decode cX4_pairOf 105 = .ok (.aload_n 0, 1) := by decide +kernel
theorem dX4_pairOf_106 : decode cX4_pairOf 106 = .ok (.getfield 48, 3) := by decide +kernel
theorem dX4_pairOf_109 : decode cX4_pairOf 109 = .ok (.iload 11, 2) := by decide +kernel
theorem dX4_pairOf_111 : decode cX4_pairOf 111 = .ok (.lshr, 1) := by decide +kernel
theorem dX4_pairOf_112 : decode cX4_pairOf 112 = .ok (.lconst 1, 1) := by decide +kernel
theorem dX4_pairOf_113 : decode cX4_pairOf 113 = .ok (.land, 1) := by decide +kernel
theorem dX4_pairOf_114 : decode cX4_pairOf 114 = .ok (.lconst 1, 1) := by decide +kernel
theorem dX4_pairOf_115 : decode cX4_pairOf 115 = .ok (.lcmp, 1) := by decide +kernel
theorem dX4_pairOf_116 : decode cX4_pairOf 116 = .ok (.ifCond .ne 14, 3) := by decide +kernel
theorem dX4_pairOf_119 : decode cX4_pairOf 119 = .ok (.aload_n 0, 1) := by decide +kernel
theorem dX4_pairOf_120 : decode cX4_pairOf 120 = .ok (.lload_n 1, 1) := by decide +kernel
theorem dX4_pairOf_121 : decode cX4_pairOf 121 = .ok (.lload_n 3, 1) := by decide +kernel
theorem dX4_pairOf_122 : decode cX4_pairOf 122 = .ok (.iconst 1, 1) := by decide +kernel
theorem dX4_pairOf_123 : decode cX4_pairOf 123 = .ok (.lload 6, 2) := by decide +kernel
theorem dX4_pairOf_125 : decode cX4_pairOf 125 = .ok (.lload 8, 2) := by decide +kernel
theorem dX4_pairOf_127 : decode cX4_pairOf 127 = .ok (.invokevirtual 130, 3) := by decide +kernel
theorem dX4_pairOf_130 : decode cX4_pairOf 130 = .ok (.iinc 11 (-1), 3) := by decide +kernel
theorem dX4_pairOf_133 : decode cX4_pairOf 133 = .ok (.goto (-65), 3) := by decide +kernel
theorem dX4_pairOf_136 : decode cX4_pairOf 136 = .ok (.aload_n 0, 1) := by decide +kernel
theorem dX4_pairOf_137 : decode cX4_pairOf 137 = .ok (.aload_n 0, 1) := by decide +kernel
theorem dX4_pairOf_138 : decode cX4_pairOf 138 = .ok (.getfield 28, 3) := by decide +kernel
theorem dX4_pairOf_141 : decode cX4_pairOf 141 = .ok (.aload_n 0, 1) := by decide +kernel
theorem dX4_pairOf_142 : decode cX4_pairOf 142 = .ok (.getfield 28, 3) := by decide +kernel
theorem dX4_pairOf_145 : decode cX4_pairOf 145 = .ok (.lmul, 1) := by decide +kernel
theorem dX4_pairOf_146 : decode cX4_pairOf 146 = .ok (.lconst 1, 1) := by decide +kernel
theorem dX4_pairOf_147 : decode cX4_pairOf 147 = .ok (.lsub, 1) := by decide +kernel
theorem dX4_pairOf_148 : decode cX4_pairOf 148 = .ok (.aload_n 0, 1) := by decide +kernel
theorem dX4_pairOf_149 : decode cX4_pairOf 149 = .ok (.getfield 48, 3) := by decide +kernel
theorem dX4_pairOf_152 : decode cX4_pairOf 152 = .ok (.ldiv, 1) := by decide +kernel
theorem dX4_pairOf_153 : decode cX4_pairOf 153 = .ok (.invokevirtual 134, 3) := by decide +kernel
theorem dX4_pairOf_156 : decode cX4_pairOf 156 = .ok (.return_, 1) := by decide +kernel
set_option maxRecDepth 20000 in
theorem ggX4_isOfR_X4_load : GoodIn wsX4_isOfR wsX4_load := goodIn_r _ [7, 8, 9, 10, 11, 12, 2, 40, 41, 42, 43, 44, 45, 46, 47, 48, 49, 50, 51, 52, 53] (by decide +kernel) (by decide +kernel)
set_option maxRecDepth 20000 in
theorem gX4_isOfR_X4_load : GoodIn wsX4_isOfR (wsV RX4 105 RX4 yX4_load wsX4_load) := goodIn_app (goodIn_of _ (by decide +kernel)) ggX4_isOfR_X4_load
set_option maxRecDepth 20000 in
theorem ggX4_isOfR_X4_take : GoodIn wsX4_isOfR wsX4_take := goodIn_r _ [16, 9, 11, 2, 17, 18, 19, 6, 20, 21, 22, 23, 24, 25, 26, 27, 28, 29, 30, 31, 32, 33, 34, 35, 36, 37, 38, 39, 40, 41, 42, 43, 44, 45, 46, 47, 48, 49, 50, 51, 52, 53] (by decide +kernel) (by decide +kernel)
set_option maxRecDepth 20000 in
theorem gX4_isOfR_X4_take : GoodIn wsX4_isOfR (wsV RX4 97 RX4 yX4_take wsX4_take) := goodIn_app (goodIn_of _ (by decide +kernel)) ggX4_isOfR_X4_take
theorem dX4_isOfR_0 : decode cX4_isOfR 0 = .ok (.aload_n 0, 1) := by decide +kernel
theorem dX4_isOfR_1 : decode cX4_isOfR 1 = .ok (.iload_n 1, 1) := by decide +kernel
theorem dX4_isOfR_2 : decode cX4_isOfR 2 = .ok (.invokevirtual 105, 3) := by decide +kernel
theorem dX4_isOfR_5 : decode cX4_isOfR 5 = .ok (.aload_n 0, 1) := by decide +kernel
theorem dX4_isOfR_6 : decode cX4_isOfR 6 = .ok (.aload_n 0, 1) := by decide +kernel
theorem dX4_isOfR_7 : decode cX4_isOfR 7 = .ok (.getfield 48, 3) := by decide +kernel
theorem dX4_isOfR_10 : decode cX4_isOfR 10 = .ok (.invokevirtual 97, 3) := by decide +kernel
theorem dX4_isOfR_13 : decode cX4_isOfR 13 = .ok (.aload_n 0, 1) := by decide +kernel
theorem dX4_isOfR_14 : decode cX4_isOfR 14 = .ok (.getfield 67, 3) := by decide +kernel
theorem dX4_isOfR_17 : decode cX4_isOfR 17 = .ok (.ifCond .ne 7, 3) := by decide +kernel
theorem dX4_isOfR_20 : decode cX4_isOfR 20 = .ok (.iconst 1, 1) := by decide +kernel
theorem dX4_isOfR_21 : decode cX4_isOfR 21 = .ok (.goto 4, 3) := by decide +kernel
theorem dX4_isOfR_24 : decode cX4_isOfR 24 = .ok (.iconst 0, 1) := by decide +kernel
theorem dX4_isOfR_25 : decode cX4_isOfR 25 = .ok (.ireturn, 1) := by decide +kernel
set_option maxRecDepth 20000 in
theorem ggX4_isValue_X4_in : GoodIn wsX4_isValue wsX4_in := goodIn_r _ [5] (by decide +kernel) (by decide +kernel)
set_option maxRecDepth 20000 in
theorem gX4_isValue_X4_in : GoodIn wsX4_isValue (va_wsS RX4 54 yX4_in wsX4_in) := goodIn_app (goodIn_of _ (by decide +kernel)) ggX4_isValue_X4_in
theorem dX4_isValue_0 : decode cX4_isValue 0 = .ok (.iload_n 0, 1) := by decide +kernel
theorem dX4_isValue_1 : decode cX4_isValue 1 = .ok (.i2l, 1) := by decide +kernel
theorem dX4_isValue_2 : decode cX4_isValue 2 = .ok (.lconst 0, 1) := by decide +kernel
theorem dX4_isValue_3 : decode cX4_isValue 3 = .ok (.ldc2_w 137, 3) := by decide +kernel
theorem dX4_isValue_6 : decode cX4_isValue 6 = .ok (.invokestatic 54, 3) := by decide +kernel
theorem dX4_isValue_9 : decode cX4_isValue 9 = .ok (.ireturn, 1) := by decide +kernel
set_option maxRecDepth 20000 in
theorem ggX4_pair_X4_isValue : GoodIn wsX4_pair wsX4_isValue := goodIn_r _ [13, 14, 15, 16, 12, 17] (by decide +kernel) (by decide +kernel)
set_option maxRecDepth 20000 in
theorem gX4_pair_X4_isValue : GoodIn wsX4_pair (va_wsS RX4 139 yX4_isValue wsX4_isValue) := goodIn_app (goodIn_of _ (by decide +kernel)) ggX4_pair_X4_isValue
set_option maxRecDepth 20000 in
theorem ggX4_pair_X4_isSlot : GoodIn wsX4_pair wsX4_isSlot := goodIn_r _ [20, 21, 15, 16, 12, 17] (by decide +kernel) (by decide +kernel)
set_option maxRecDepth 20000 in
theorem gX4_pair_X4_isSlot : GoodIn wsX4_pair (va_wsS RX4 86 yX4_isSlot wsX4_isSlot) := goodIn_app (goodIn_of _ (by decide +kernel)) ggX4_pair_X4_isSlot
set_option maxRecDepth 20000 in
theorem ggX4_pair_X4_isOfR : GoodIn wsX4_pair wsX4_isOfR := goodIn_r _ [25, 26, 27, 28, 29, 30, 12, 31, 2, 32, 3, 33, 4, 34, 35, 36, 37, 38, 39, 40, 41, 1, 42, 43, 44, 45, 46, 47, 48, 49, 50, 51, 52, 53, 54, 55, 56, 57, 58, 59, 76, 77, 78, 79, 80, 81, 82, 83, 84, 85, 86, 87, 88, 89] (by decide +kernel) (by decide +kernel)
set_option maxRecDepth 20000 in
theorem gX4_pair_X4_isOfR : GoodIn wsX4_pair (wsV RX4 142 RX4 yX4_isOfR wsX4_isOfR) := goodIn_app (goodIn_of _ (by decide +kernel)) ggX4_pair_X4_isOfR
set_option maxRecDepth 20000 in
theorem ggX4_pair_X4_pairOf : GoodIn wsX4_pair wsX4_pairOf := goodIn_r _ [63, 6, 8, 9, 32, 33, 27, 26, 1, 64, 65, 66, 12, 67, 68, 69, 70, 71, 56, 57, 58, 59, 42, 43, 44, 45, 46, 47, 48, 49, 50, 51, 52, 53, 54, 55, 38, 39, 40, 41, 72, 73, 74, 75, 76, 77, 78, 79, 80, 81, 82, 83, 84, 85, 86, 87, 88, 89] (by decide +kernel) (by decide +kernel)
set_option maxRecDepth 20000 in
theorem gX4_pair_X4_pairOf : GoodIn wsX4_pair (wsV RX4 145 RX4 yX4_pairOf wsX4_pairOf) := goodIn_app (goodIn_of _ (by decide +kernel)) ggX4_pair_X4_pairOf
theorem dX4_pair_0 : decode cX4_pair 0 = .ok (.aload_n 0, 1) := by decide +kernel
theorem dX4_pair_1 : decode cX4_pair 1 = .ok (.getfield 28, 3) := by decide +kernel
theorem dX4_pair_4 : decode cX4_pair 4 = .ok (.lconst 0, 1) := by decide +kernel
theorem dX4_pair_5 : decode cX4_pair 5 = .ok (.lcmp, 1) := by decide +kernel
theorem dX4_pair_6 : decode cX4_pair 6 = .ok (.ifCond .ne 6, 3) := by decide +kernel
theorem dX4_pair_9 : decode cX4_pair 9 = .ok (.bipush (-3), 2) := by decide +kernel
theorem dX4_pair_11 : decode cX4_pair 11 = .ok (.ireturn, 1) := by decide +kernel
theorem dX4_pair_12 : decode cX4_pair 12 = .ok (.iload_n 1, 1) := by decide +kernel
theorem dX4_pair_13 : decode cX4_pair 13 = .ok (.invokestatic 139, 3) := by decide +kernel
theorem dX4_pair_16 : decode cX4_pair 16 = .ok (.ifCond .eq 17, 3) := by decide +kernel
theorem dX4_pair_19 : decode cX4_pair 19 = .ok (.iload_n 2, 1) := by decide +kernel
theorem dX4_pair_20 : decode cX4_pair 20 = .ok (.invokestatic 86, 3) := by decide +kernel
theorem dX4_pair_23 : decode cX4_pair 23 = .ok (.ifCond .eq 10, 3) := by decide +kernel
theorem dX4_pair_26 : decode cX4_pair 26 = .ok (.iload_n 3, 1) := by decide +kernel
theorem dX4_pair_27 : decode cX4_pair 27 = .ok (.invokestatic 86, 3) := by decide +kernel
theorem dX4_pair_30 : decode cX4_pair 30 = .ok (.ifCond .ne 6, 3) := by decide +kernel
theorem dX4_pair_33 : decode cX4_pair 33 = .ok (.bipush (-2), 2) := by decide +kernel
theorem dX4_pair_35 : decode cX4_pair 35 = .ok (.ireturn, 1) := by decide +kernel
theorem dX4_pair_36 : decode cX4_pair 36 = .ok (.aload_n 0, 1) := by decide +kernel
theorem dX4_pair_37 : decode cX4_pair 37 = .ok (.iload_n 2, 1) := by decide +kernel
theorem dX4_pair_38 : decode cX4_pair 38 = .ok (.invokevirtual 142, 3) := by decide +kernel
theorem dX4_pair_41 : decode cX4_pair 41 = .ok (.ifCond .eq 11, 3) := by decide +kernel
theorem dX4_pair_44 : decode cX4_pair 44 = .ok (.aload_n 0, 1) := by decide +kernel
theorem dX4_pair_45 : decode cX4_pair 45 = .ok (.iload_n 3, 1) := by decide +kernel
theorem dX4_pair_46 : decode cX4_pair 46 = .ok (.invokevirtual 142, 3) := by decide +kernel
theorem dX4_pair_49 : decode cX4_pair 49 = .ok (.ifCond .ne 5, 3) := by decide +kernel
theorem dX4_pair_52 : decode cX4_pair 52 = .ok (.iconst (-1), 1) := by decide +kernel
theorem dX4_pair_53 : decode cX4_pair 53 = .ok (.ireturn, 1) := by decide +kernel
theorem dX4_pair_54 : decode cX4_pair 54 = .ok (.aload_n 0, 1) := by decide +kernel
theorem dX4_pair_55 : decode cX4_pair 55 = .ok (.aload_n 0, 1) := by decide +kernel
theorem dX4_pair_56 : decode cX4_pair 56 = .ok (.getfield 7, 3) := by decide +kernel
theorem dX4_pair_59 : decode cX4_pair 59 = .ok (.iload_n 2, 1) := by decide +kernel
theorem dX4_pair_60 : decode cX4_pair 60 = .ok (.laload, 1) := by decide +kernel
theorem dX4_pair_61 : decode cX4_pair 61 = .ok (.aload_n 0, 1) := by decide +kernel
theorem dX4_pair_62 : decode cX4_pair 62 = .ok (.getfield 13, 3) := by decide +kernel
theorem dX4_pair_65 : decode cX4_pair 65 = .ok (.iload_n 2, 1) := by decide +kernel
theorem dX4_pair_66 : decode cX4_pair 66 = .ok (.laload, 1) := by decide +kernel
theorem dX4_pair_67 : decode cX4_pair 67 = .ok (.aload_n 0, 1) := by decide +kernel
theorem dX4_pair_68 : decode cX4_pair 68 = .ok (.getfield 16, 3) := by decide +kernel
theorem dX4_pair_71 : decode cX4_pair 71 = .ok (.iload_n 2, 1) := by decide +kernel
theorem dX4_pair_72 : decode cX4_pair 72 = .ok (.baload, 1) := by decide +kernel
theorem dX4_pair_73 : decode cX4_pair 73 = .ok (.aload_n 0, 1) := by decide +kernel
theorem dX4_pair_74 : decode cX4_pair 74 = .ok (.getfield 7, 3) := by decide +kernel
theorem dX4_pair_77 : decode cX4_pair 77 = .ok (.iload_n 3, 1) := by decide +kernel
theorem dX4_pair_78 : decode cX4_pair 78 = .ok (.laload, 1) := by decide +kernel
theorem dX4_pair_79 : decode cX4_pair 79 = .ok (.aload_n 0, 1) := by decide +kernel
theorem dX4_pair_80 : decode cX4_pair 80 = .ok (.getfield 13, 3) := by decide +kernel
theorem dX4_pair_83 : decode cX4_pair 83 = .ok (.iload_n 3, 1) := by decide +kernel
theorem dX4_pair_84 : decode cX4_pair 84 = .ok (.laload, 1) := by decide +kernel
theorem dX4_pair_85 : decode cX4_pair 85 = .ok (.aload_n 0, 1) := by decide +kernel
theorem dX4_pair_86 : decode cX4_pair 86 = .ok (.getfield 16, 3) := by decide +kernel
theorem dX4_pair_89 : decode cX4_pair 89 = .ok (.iload_n 3, 1) := by decide +kernel
theorem dX4_pair_90 : decode cX4_pair 90 = .ok (.baload, 1) := by decide +kernel
theorem dX4_pair_91 : decode cX4_pair 91 = .ok (.invokevirtual 145, 3) := by decide +kernel
theorem dX4_pair_94 : decode cX4_pair 94 = .ok (.aload_n 0, 1) := by decide +kernel
theorem dX4_pair_95 : decode cX4_pair 95 = .ok (.getfield 20, 3) := by decide +kernel
theorem dX4_pair_98 : decode cX4_pair 98 = .ok (.iload_n 1, 1) := by decide +kernel
theorem dX4_pair_99 : decode cX4_pair 99 = .ok (.aload_n 0, 1) := by decide +kernel
theorem dX4_pair_100 : decode cX4_pair 100 = .ok (.getfield 116, 3) := by decide +kernel
theorem dX4_pair_103 : decode cX4_pair 103 = .ok (.lastore, 1) := by decide +kernel
theorem dX4_pair_104 : decode cX4_pair 104 = .ok (.aload_n 0, 1) := by decide +kernel
theorem dX4_pair_105 : decode cX4_pair 105 = .ok (.getfield 23, 3) := by decide +kernel
theorem dX4_pair_108 : decode cX4_pair 108 = .ok (.iload_n 1, 1) := by decide +kernel
theorem dX4_pair_109 : decode cX4_pair 109 = .ok (.aload_n 0, 1) := by decide +kernel
theorem dX4_pair_110 : decode cX4_pair 110 = .ok (.getfield 119, 3) := by decide +kernel
theorem dX4_pair_113 : decode cX4_pair 113 = .ok (.lastore, 1) := by decide +kernel
theorem dX4_pair_114 : decode cX4_pair 114 = .ok (.aload_n 0, 1) := by decide +kernel
theorem dX4_pair_115 : decode cX4_pair 115 = .ok (.getfield 126, 3) := by decide +kernel
theorem dX4_pair_118 : decode cX4_pair 118 = .ok (.ireturn, 1) := by decide +kernel
theorem dX4_keepValue_0 : decode cX4_keepValue 0 = .ok (.aload_n 0, 1) := by decide +kernel
theorem dX4_keepValue_1 : decode cX4_keepValue 1 = .ok (.getfield 20, 3) := by decide +kernel
theorem dX4_keepValue_4 : decode cX4_keepValue 4 = .ok (.iload_n 1, 1) := by decide +kernel
theorem dX4_keepValue_5 : decode cX4_keepValue 5 = .ok (.aload_n 0, 1) := by decide +kernel
theorem dX4_keepValue_6 : decode cX4_keepValue 6 = .ok (.getfield 116, 3) := by decide +kernel
theorem dX4_keepValue_9 : decode cX4_keepValue 9 = .ok (.lastore, 1) := by decide +kernel
theorem dX4_keepValue_10 : decode cX4_keepValue 10 = .ok (.aload_n 0, 1) := by decide +kernel
theorem dX4_keepValue_11 : decode cX4_keepValue 11 = .ok (.getfield 23, 3) := by decide +kernel
theorem dX4_keepValue_14 : decode cX4_keepValue 14 = .ok (.iload_n 1, 1) := by decide +kernel
theorem dX4_keepValue_15 : decode cX4_keepValue 15 = .ok (.aload_n 0, 1) := by decide +kernel
theorem dX4_keepValue_16 : decode cX4_keepValue 16 = .ok (.getfield 119, 3) := by decide +kernel
theorem dX4_keepValue_19 : decode cX4_keepValue 19 = .ok (.lastore, 1) := by decide +kernel
theorem dX4_keepValue_20 : decode cX4_keepValue 20 = .ok (.aload_n 0, 1) := by decide +kernel
theorem dX4_keepValue_21 : decode cX4_keepValue 21 = .ok (.getfield 116, 3) := by decide +kernel
theorem dX4_keepValue_24 : decode cX4_keepValue 24 = .ok (.lconst 1, 1) := by decide +kernel
theorem dX4_keepValue_25 : decode cX4_keepValue 25 = .ok (.lcmp, 1) := by decide +kernel
theorem dX4_keepValue_26 : decode cX4_keepValue 26 = .ok (.ifCond .ne 16, 3) := by decide +kernel
theorem dX4_keepValue_29 : decode cX4_keepValue 29 = .ok (.aload_n 0, 1) := by decide +kernel
theorem dX4_keepValue_30 : decode cX4_keepValue 30 = .ok (.getfield 119, 3) := by decide +kernel
theorem dX4_keepValue_33 : decode cX4_keepValue 33 = .ok (.lconst 0, 1) := by decide +kernel
theorem dX4_keepValue_34 : decode cX4_keepValue 34 = .ok (.lcmp, 1) := by decide +kernel
theorem dX4_keepValue_35 : decode cX4_keepValue 35 = .ok (.ifCond .ne 7, 3) := by decide +kernel
theorem dX4_keepValue_38 : decode cX4_keepValue 38 = .ok (.iconst 1, 1) := by decide +kernel
theorem dX4_keepValue_39 : decode cX4_keepValue 39 = .ok (.goto 4, 3) := by decide +kernel
theorem dX4_keepValue_42 : decode cX4_keepValue 42 = .ok (.iconst 0, 1) := by decide +kernel
theorem dX4_keepValue_43 : decode cX4_keepValue 43 = .ok (.ireturn, 1) := by decide +kernel
set_option maxRecDepth 20000 in
theorem ggX4_multiply_X4_isValue : GoodIn wsX4_multiply wsX4_isValue := goodIn_r _ [9, 10, 11, 12, 8, 13] (by decide +kernel) (by decide +kernel)
set_option maxRecDepth 20000 in
theorem gX4_multiply_X4_isValue : GoodIn wsX4_multiply (va_wsS RX4 139 yX4_isValue wsX4_isValue) := goodIn_app (goodIn_of _ (by decide +kernel)) ggX4_multiply_X4_isValue
set_option maxRecDepth 20000 in
theorem ggX4_multiply_X4_multiply2 : GoodIn wsX4_multiply wsX4_multiply2 := goodIn_r _ [17, 3, 1, 5, 22, 23, 24, 25, 26, 27, 28, 29, 30, 31, 32, 33, 34, 35] (by decide +kernel) (by decide +kernel)
set_option maxRecDepth 20000 in
theorem gX4_multiply_X4_multiply2 : GoodIn wsX4_multiply (wsV RX4 122 RX4 yX4_multiply2 wsX4_multiply2) := goodIn_app (goodIn_of _ (by decide +kernel)) ggX4_multiply_X4_multiply2
set_option maxRecDepth 20000 in
theorem ggX4_multiply_X4_keepValue : GoodIn wsX4_multiply wsX4_keepValue := goodIn_r _ [21, 2, 3, 4, 5, 22, 23, 24, 25, 26, 27, 28, 29, 30, 31, 32, 33, 34, 35] (by decide +kernel) (by decide +kernel)
set_option maxRecDepth 20000 in
theorem gX4_multiply_X4_keepValue : GoodIn wsX4_multiply (wsV RX4 149 RX4 yX4_keepValue wsX4_keepValue) := goodIn_app (goodIn_of _ (by decide +kernel)) ggX4_multiply_X4_keepValue
theorem dX4_multiply_0 : decode cX4_multiply 0 = .ok (.aload_n 0, 1) := by decide +kernel
theorem dX4_multiply_1 : decode cX4_multiply 1 = .ok (.getfield 28, 3) := by decide +kernel
theorem dX4_multiply_4 : decode cX4_multiply 4 = .ok (.lconst 0, 1) := by decide +kernel
theorem dX4_multiply_5 : decode cX4_multiply 5 = .ok (.lcmp, 1) := by decide +kernel
theorem dX4_multiply_6 : decode cX4_multiply 6 = .ok (.ifCond .ne 6, 3) := by decide +kernel
theorem dX4_multiply_9 : decode cX4_multiply 9 = .ok (.bipush (-3), 2) := by decide +kernel
theorem dX4_multiply_11 : decode cX4_multiply 11 = .ok (.ireturn, 1) := by decide +kernel
theorem dX4_multiply_12 : decode cX4_multiply 12 = .ok (.iload_n 1, 1) := by decide +kernel
theorem dX4_multiply_13 : decode cX4_multiply 13 = .ok (.invokestatic 139, 3) := by decide +kernel
theorem dX4_multiply_16 : decode cX4_multiply 16 = .ok (.ifCond .eq 17, 3) := by decide +kernel
theorem dX4_multiply_19 : decode cX4_multiply 19 = .ok (.iload_n 2, 1) := by decide +kernel
theorem dX4_multiply_20 : decode cX4_multiply 20 = .ok (.invokestatic 139, 3) := by decide +kernel
theorem dX4_multiply_23 : decode cX4_multiply 23 = .ok (.ifCond .eq 10, 3) := by decide +kernel
theorem dX4_multiply_26 : decode cX4_multiply 26 = .ok (.iload_n 3, 1) := by decide +kernel
theorem dX4_multiply_27 : decode cX4_multiply 27 = .ok (.invokestatic 139, 3) := by decide +kernel
theorem dX4_multiply_30 : decode cX4_multiply 30 = .ok (.ifCond .ne 6, 3) := by decide +kernel
theorem dX4_multiply_33 : decode cX4_multiply 33 = .ok (.bipush (-2), 2) := by decide +kernel
theorem dX4_multiply_35 : decode cX4_multiply 35 = .ok (.ireturn, 1) := by decide +kernel
theorem dX4_multiply_36 : decode cX4_multiply 36 = .ok (.aload_n 0, 1) := by decide +kernel
theorem dX4_multiply_37 : decode cX4_multiply 37 = .ok (.aload_n 0, 1) := by decide +kernel
theorem dX4_multiply_38 : decode cX4_multiply 38 = .ok (.getfield 20, 3) := by decide +kernel
theorem dX4_multiply_41 : decode cX4_multiply 41 = .ok (.iload_n 2, 1) := by decide +kernel
theorem dX4_multiply_42 : decode cX4_multiply 42 = .ok (.laload, 1) := by decide +kernel
theorem dX4_multiply_43 : decode cX4_multiply 43 = .ok (.putfield 116, 3) := by decide +kernel
theorem dX4_multiply_46 : decode cX4_multiply 46 = .ok (.aload_n 0, 1) := by decide +kernel
theorem dX4_multiply_47 : decode cX4_multiply 47 = .ok (.aload_n 0, 1) := by decide +kernel
theorem dX4_multiply_48 : decode cX4_multiply 48 = .ok (.getfield 23, 3) := by decide +kernel
theorem dX4_multiply_51 : decode cX4_multiply 51 = .ok (.iload_n 2, 1) := by decide +kernel
theorem dX4_multiply_52 : decode cX4_multiply 52 = .ok (.laload, 1) := by decide +kernel
theorem dX4_multiply_53 : decode cX4_multiply 53 = .ok (.putfield 119, 3) := by decide +kernel
theorem dX4_multiply_56 : decode cX4_multiply 56 = .ok (.aload_n 0, 1) := by decide +kernel
theorem dX4_multiply_57 : decode cX4_multiply 57 = .ok (.aload_n 0, 1) := by decide +kernel
theorem dX4_multiply_58 : decode cX4_multiply 58 = .ok (.getfield 20, 3) := by decide +kernel
theorem dX4_multiply_61 : decode cX4_multiply 61 = .ok (.iload_n 3, 1) := by decide +kernel
theorem dX4_multiply_62 : decode cX4_multiply 62 = .ok (.laload, 1) := by decide +kernel
theorem dX4_multiply_63 : decode cX4_multiply 63 = .ok (.aload_n 0, 1) := by decide +kernel
theorem dX4_multiply_64 : decode cX4_multiply 64 = .ok (.getfield 23, 3) := by decide +kernel
theorem dX4_multiply_67 : decode cX4_multiply 67 = .ok (.iload_n 3, 1) := by decide +kernel
theorem dX4_multiply_68 : decode cX4_multiply 68 = .ok (.laload, 1) := by decide +kernel
theorem dX4_multiply_69 : decode cX4_multiply 69 = .ok (.invokevirtual 122, 3) := by decide +kernel
theorem dX4_multiply_72 : decode cX4_multiply 72 = .ok (.aload_n 0, 1) := by decide +kernel
theorem dX4_multiply_73 : decode cX4_multiply 73 = .ok (.iload_n 1, 1) := by decide +kernel
theorem dX4_multiply_74 : decode cX4_multiply 74 = .ok (.invokevirtual 149, 3) := by decide +kernel
theorem dX4_multiply_77 : decode cX4_multiply 77 = .ok (.ireturn, 1) := by decide +kernel
set_option maxRecDepth 20000 in
theorem ggX4_power_X4_isValue : GoodIn wsX4_power wsX4_isValue := goodIn_r _ [9, 10, 11, 12, 8, 13] (by decide +kernel) (by decide +kernel)
set_option maxRecDepth 20000 in
theorem gX4_power_X4_isValue : GoodIn wsX4_power (va_wsS RX4 139 yX4_isValue wsX4_isValue) := goodIn_app (goodIn_of _ (by decide +kernel)) ggX4_power_X4_isValue
set_option maxRecDepth 20000 in
theorem ggX4_power_X4_power2 : GoodIn wsX4_power wsX4_power2 := goodIn_r _ [17, 3, 5, 18, 19, 20, 8, 21, 1, 26, 27, 28, 29, 30, 31, 32, 33, 34, 35, 36, 37, 38, 39] (by decide +kernel) (by decide +kernel)
set_option maxRecDepth 20000 in
theorem gX4_power_X4_power2 : GoodIn wsX4_power (wsV RX4 134 RX4 yX4_power2 wsX4_power2) := goodIn_app (goodIn_of _ (by decide +kernel)) ggX4_power_X4_power2
set_option maxRecDepth 20000 in
theorem ggX4_power_X4_keepValue : GoodIn wsX4_power wsX4_keepValue := goodIn_r _ [25, 2, 3, 4, 5, 26, 27, 28, 29, 30, 31, 32, 33, 34, 35, 36, 37, 38, 39] (by decide +kernel) (by decide +kernel)
set_option maxRecDepth 20000 in
theorem gX4_power_X4_keepValue : GoodIn wsX4_power (wsV RX4 149 RX4 yX4_keepValue wsX4_keepValue) := goodIn_app (goodIn_of _ (by decide +kernel)) ggX4_power_X4_keepValue
theorem dX4_power_0 : decode cX4_power 0 = .ok (.aload_n 0, 1) := by decide +kernel
theorem dX4_power_1 : decode cX4_power 1 = .ok (.getfield 28, 3) := by decide +kernel
theorem dX4_power_4 : decode cX4_power 4 = .ok (.lconst 0, 1) := by decide +kernel
theorem dX4_power_5 : decode cX4_power 5 = .ok (.lcmp, 1) := by decide +kernel
theorem dX4_power_6 : decode cX4_power 6 = .ok (.ifCond .ne 6, 3) := by decide +kernel
theorem dX4_power_9 : decode cX4_power 9 = .ok (.bipush (-3), 2) := by decide +kernel
theorem dX4_power_11 : decode cX4_power 11 = .ok (.ireturn, 1) := by decide +kernel
theorem dX4_power_12 : decode cX4_power 12 = .ok (.iload_n 1, 1) := by decide +kernel
theorem dX4_power_13 : decode cX4_power 13 = .ok (.invokestatic 139, 3) := by decide +kernel
theorem dX4_power_16 : decode cX4_power 16 = .ok (.ifCond .eq 16, 3) := by decide +kernel
theorem dX4_power_19 : decode cX4_power 19 = .ok (.iload_n 2, 1) := by decide +kernel
theorem dX4_power_20 : decode cX4_power 20 = .ok (.invokestatic 139, 3) := by decide +kernel
theorem dX4_power_23 : decode cX4_power 23 = .ok (.ifCond .eq 9, 3) := by decide +kernel
theorem dX4_power_26 : decode cX4_power 26 = .ok (.lload_n 3, 1) := by decide +kernel
theorem dX4_power_27 : decode cX4_power 27 = .ok (.lconst 0, 1) := by decide +kernel
theorem dX4_power_28 : decode cX4_power 28 = .ok (.lcmp, 1) := by decide +kernel
theorem dX4_power_29 : decode cX4_power 29 = .ok (.ifCond .ge 6, 3) := by decide +kernel
theorem dX4_power_32 : decode cX4_power 32 = .ok (.bipush (-2), 2) := by decide +kernel
theorem dX4_power_34 : decode cX4_power 34 = .ok (.ireturn, 1) := by decide +kernel
theorem dX4_power_35 : decode cX4_power 35 = .ok (.aload_n 0, 1) := by decide +kernel
theorem dX4_power_36 : decode cX4_power 36 = .ok (.aload_n 0, 1) := by decide +kernel
theorem dX4_power_37 : decode cX4_power 37 = .ok (.getfield 20, 3) := by decide +kernel
theorem dX4_power_40 : decode cX4_power 40 = .ok (.iload_n 2, 1) := by decide +kernel
theorem dX4_power_41 : decode cX4_power 41 = .ok (.laload, 1) := by decide +kernel
theorem dX4_power_42 : decode cX4_power 42 = .ok (.putfield 116, 3) := by decide +kernel
theorem dX4_power_45 : decode cX4_power 45 = .ok (.aload_n 0, 1) := by decide +kernel
theorem dX4_power_46 : decode cX4_power 46 = .ok (.aload_n 0, 1) := by decide +kernel
theorem dX4_power_47 : decode cX4_power 47 = .ok (.getfield 23, 3) := by decide +kernel
theorem dX4_power_50 : decode cX4_power 50 = .ok (.iload_n 2, 1) := by decide +kernel
theorem dX4_power_51 : decode cX4_power 51 = .ok (.laload, 1) := by decide +kernel
theorem dX4_power_52 : decode cX4_power 52 = .ok (.putfield 119, 3) := by decide +kernel
theorem dX4_power_55 : decode cX4_power 55 = .ok (.aload_n 0, 1) := by decide +kernel
theorem dX4_power_56 : decode cX4_power 56 = .ok (.lload_n 3, 1) := by decide +kernel
theorem dX4_power_57 : decode cX4_power 57 = .ok (.invokevirtual 134, 3) := by decide +kernel
theorem dX4_power_60 : decode cX4_power 60 = .ok (.aload_n 0, 1) := by decide +kernel
theorem dX4_power_61 : decode cX4_power 61 = .ok (.iload_n 1, 1) := by decide +kernel
theorem dX4_power_62 : decode cX4_power 62 = .ok (.invokevirtual 149, 3) := by decide +kernel
theorem dX4_power_65 : decode cX4_power 65 = .ok (.ireturn, 1) := by decide +kernel
set_option maxRecDepth 20000 in
theorem ggX4_value_X4_isValue : GoodIn wsX4_value wsX4_isValue := goodIn_r _ [7, 8, 9, 10, 6, 11] (by decide +kernel) (by decide +kernel)
set_option maxRecDepth 20000 in
theorem gX4_value_X4_isValue : GoodIn wsX4_value (va_wsS RX4 139 yX4_isValue wsX4_isValue) := goodIn_app (goodIn_of _ (by decide +kernel)) ggX4_value_X4_isValue
set_option maxRecDepth 20000 in
theorem ggX4_value_X4_in : GoodIn wsX4_value wsX4_in := goodIn_r _ [11] (by decide +kernel) (by decide +kernel)
set_option maxRecDepth 20000 in
theorem gX4_value_X4_in : GoodIn wsX4_value (va_wsS RX4 54 yX4_in wsX4_in) := goodIn_app (goodIn_of _ (by decide +kernel)) ggX4_value_X4_in
theorem dX4_value_0 : decode cX4_value 0 = .ok (.aload_n 0, 1) := by decide +kernel
theorem dX4_value_1 : decode cX4_value 1 = .ok (.getfield 28, 3) := by decide +kernel
theorem dX4_value_4 : decode cX4_value 4 = .ok (.lconst 0, 1) := by decide +kernel
theorem dX4_value_5 : decode cX4_value 5 = .ok (.lcmp, 1) := by decide +kernel
theorem dX4_value_6 : decode cX4_value 6 = .ok (.ifCond .ne 6, 3) := by decide +kernel
theorem dX4_value_9 : decode cX4_value 9 = .ok (.bipush (-3), 2) := by decide +kernel
theorem dX4_value_11 : decode cX4_value 11 = .ok (.ireturn, 1) := by decide +kernel
theorem dX4_value_12 : decode cX4_value 12 = .ok (.iload_n 1, 1) := by decide +kernel
theorem dX4_value_13 : decode cX4_value 13 = .ok (.invokestatic 139, 3) := by decide +kernel
theorem dX4_value_16 : decode cX4_value 16 = .ok (.ifCond .eq 13, 3) := by decide +kernel
theorem dX4_value_19 : decode cX4_value 19 = .ok (.iload_n 2, 1) := by decide +kernel
theorem dX4_value_20 : decode cX4_value 20 = .ok (.i2l, 1) := by decide +kernel
theorem dX4_value_21 : decode cX4_value 21 = .ok (.lconst 0, 1) := by decide +kernel
theorem dX4_value_22 : decode cX4_value 22 = .ok (.lconst 1, 1) := by decide +kernel
theorem dX4_value_23 : decode cX4_value 23 = .ok (.invokestatic 54, 3) := by decide +kernel
theorem dX4_value_26 : decode cX4_value 26 = .ok (.ifCond .ne 6, 3) := by decide +kernel
theorem dX4_value_29 : decode cX4_value 29 = .ok (.bipush (-2), 2) := by decide +kernel
theorem dX4_value_31 : decode cX4_value 31 = .ok (.ireturn, 1) := by decide +kernel
theorem dX4_value_32 : decode cX4_value 32 = .ok (.iload_n 2, 1) := by decide +kernel
theorem dX4_value_33 : decode cX4_value 33 = .ok (.ifCond .ne 12, 3) := by decide +kernel
theorem dX4_value_36 : decode cX4_value 36 = .ok (.aload_n 0, 1) := by decide +kernel
theorem dX4_value_37 : decode cX4_value 37 = .ok (.getfield 20, 3) := by decide +kernel
theorem dX4_value_40 : decode cX4_value 40 = .ok (.iload_n 1, 1) := by decide +kernel
theorem dX4_value_41 : decode cX4_value 41 = .ok (.laload, 1) := by decide +kernel
theorem dX4_value_42 : decode cX4_value 42 = .ok (.goto 9, 3) := by decide +kernel
theorem dX4_value_45 : decode cX4_value 45 = .ok (.aload_n 0, 1) := by decide +kernel
theorem dX4_value_46 : decode cX4_value 46 = .ok (.getfield 23, 3) := by decide +kernel
theorem dX4_value_49 : decode cX4_value 49 = .ok (.iload_n 1, 1) := by decide +kernel
theorem dX4_value_50 : decode cX4_value 50 = .ok (.laload, 1) := by decide +kernel
theorem dX4_value_51 : decode cX4_value 51 = .ok (.l2i, 1) := by decide +kernel
theorem dX4_value_52 : decode cX4_value 52 = .ok (.ireturn, 1) := by decide +kernel
set_option maxRecDepth 20000 in
theorem ggX4_open_X4_isSlot : GoodIn wsX4_open wsX4_isSlot := goodIn_r _ [6, 7, 8, 9, 5, 10] (by decide +kernel) (by decide +kernel)
set_option maxRecDepth 20000 in
theorem gX4_open_X4_isSlot : GoodIn wsX4_open (va_wsS RX4 86 yX4_isSlot wsX4_isSlot) := goodIn_app (goodIn_of _ (by decide +kernel)) ggX4_open_X4_isSlot
set_option maxRecDepth 20000 in
theorem ggX4_open_X4_in : GoodIn wsX4_open wsX4_in := goodIn_r _ [10] (by decide +kernel) (by decide +kernel)
set_option maxRecDepth 20000 in
theorem gX4_open_X4_in : GoodIn wsX4_open (va_wsS RX4 54 yX4_in wsX4_in) := goodIn_app (goodIn_of _ (by decide +kernel)) ggX4_open_X4_in
set_option maxRecDepth 20000 in
theorem ggX4_open_X4_turnOf : GoodIn wsX4_open wsX4_turnOf := goodIn_r _ [14, 1, 15, 16, 17, 18, 19, 20, 21, 22, 23, 5, 24, 25, 26, 27, 28, 29, 30, 31, 32, 33, 34, 35, 36, 37, 38, 39, 40, 41, 42, 43, 44, 45, 46, 47, 48, 49, 50, 51, 52, 53, 54, 62, 63, 64, 65, 66, 67, 68, 69, 70, 71, 72, 73, 74, 75] (by decide +kernel) (by decide +kernel)
set_option maxRecDepth 20000 in
theorem gX4_open_X4_turnOf : GoodIn wsX4_open (wsV RX4 101 RX4 yX4_turnOf wsX4_turnOf) := goodIn_app (goodIn_of _ (by decide +kernel)) ggX4_open_X4_turnOf
set_option maxRecDepth 20000 in
theorem ggX4_open_X4_take : GoodIn wsX4_open wsX4_take := goodIn_r _ [41, 17, 18, 19, 42, 43, 44, 5, 45, 1, 46, 47, 48, 49, 50, 15, 51, 52, 53, 54, 30, 31, 32, 33, 34, 35, 36, 37, 62, 63, 64, 65, 66, 67, 68, 69, 70, 71, 72, 73, 74, 75] (by decide +kernel) (by decide +kernel)
set_option maxRecDepth 20000 in
theorem gX4_open_X4_take : GoodIn wsX4_open (wsV RX4 97 RX4 yX4_take wsX4_take) := goodIn_app (goodIn_of _ (by decide +kernel)) ggX4_open_X4_take
set_option maxRecDepth 20000 in
theorem ggX4_open_X4_store : GoodIn wsX4_open wsX4_store := goodIn_r _ [58, 59, 17, 60, 18, 61, 19, 62, 63, 64, 65, 66, 67, 68, 69, 70, 71, 72, 73, 74, 75] (by decide +kernel) (by decide +kernel)
set_option maxRecDepth 20000 in
theorem gX4_open_X4_store : GoodIn wsX4_open (wsV RX4 93 RX4 yX4_store wsX4_store) := goodIn_app (goodIn_of _ (by decide +kernel)) ggX4_open_X4_store
theorem dX4_open_0 : decode cX4_open 0 = .ok (.aload_n 0, 1) := by decide +kernel
theorem dX4_open_1 : decode cX4_open 1 = .ok (.getfield 28, 3) := by decide +kernel
theorem dX4_open_4 : decode cX4_open 4 = .ok (.lconst 0, 1) := by decide +kernel
theorem dX4_open_5 : decode cX4_open 5 = .ok (.lcmp, 1) := by decide +kernel
theorem dX4_open_6 : decode cX4_open 6 = .ok (.ifCond .ne 6, 3) := by decide +kernel
theorem dX4_open_9 : decode cX4_open 9 = .ok (.bipush (-3), 2) := by decide +kernel
theorem dX4_open_11 : decode cX4_open 11 = .ok (.ireturn, 1) := by decide +kernel
theorem dX4_open_12 : decode cX4_open 12 = .ok (.iload_n 1, 1) := by decide +kernel
theorem dX4_open_13 : decode cX4_open 13 = .ok (.invokestatic 86, 3) := by decide +kernel
theorem dX4_open_16 : decode cX4_open 16 = .ok (.ifCond .eq 18, 3) := by decide +kernel
theorem dX4_open_19 : decode cX4_open 19 = .ok (.iload_n 2, 1) := by decide +kernel
theorem dX4_open_20 : decode cX4_open 20 = .ok (.i2l, 1) := by decide +kernel
theorem dX4_open_21 : decode cX4_open 21 = .ok (.lconst 1, 1) := by decide +kernel
theorem dX4_open_22 : decode cX4_open 22 = .ok (.aload_n 0, 1) := by decide +kernel
theorem dX4_open_23 : decode cX4_open 23 = .ok (.getfield 48, 3) := by decide +kernel
theorem dX4_open_26 : decode cX4_open 26 = .ok (.lconst 1, 1) := by decide +kernel
theorem dX4_open_27 : decode cX4_open 27 = .ok (.lsub, 1) := by decide +kernel
theorem dX4_open_28 : decode cX4_open 28 = .ok (.invokestatic 54, 3) := by decide +kernel
theorem dX4_open_31 : decode cX4_open 31 = .ok (.ifCond .ne 6, 3) := by decide +kernel
theorem dX4_open_34 : decode cX4_open 34 = .ok (.bipush (-2), 2) := by decide +kernel
theorem dX4_open_36 : decode cX4_open 36 = .ok (.ireturn, 1) := by decide +kernel
theorem dX4_open_37 : decode cX4_open 37 = .ok (.aload_n 0, 1) := by decide +kernel
theorem dX4_open_38 : decode cX4_open 38 = .ok (.lconst 1, 1) := by decide +kernel
theorem dX4_open_39 : decode cX4_open 39 = .ok (.invokevirtual 101, 3) := by decide +kernel
theorem dX4_open_42 : decode cX4_open 42 = .ok (.istore_n 3, 1) := by decide +kernel
theorem dX4_open_43 : decode cX4_open 43 = .ok (.aload_n 0, 1) := by decide +kernel
theorem dX4_open_44 : decode cX4_open 44 = .ok (.iload_n 2, 1) := by decide +kernel
theorem dX4_open_45 : decode cX4_open 45 = .ok (.i2l, 1) := by decide +kernel
theorem dX4_open_46 : decode cX4_open 46 = .ok (.invokevirtual 97, 3) := by decide +kernel
theorem dX4_open_49 : decode cX4_open 49 = .ok (.aload_n 0, 1) := by decide +kernel
theorem dX4_open_50 : decode cX4_open 50 = .ok (.iload_n 1, 1) := by decide +kernel
theorem dX4_open_51 : decode cX4_open 51 = .ok (.invokevirtual 93, 3) := by decide +kernel
theorem dX4_open_54 : decode cX4_open 54 = .ok (.iconst 1, 1) := by decide +kernel
theorem dX4_open_55 : decode cX4_open 55 = .ok (.ireturn, 1) := by decide +kernel
set_option maxRecDepth 20000 in
theorem ggX4_sign_X4_isSlot : GoodIn wsX4_sign wsX4_isSlot := goodIn_r _ [6, 7, 8, 9, 5, 10] (by decide +kernel) (by decide +kernel)
set_option maxRecDepth 20000 in
theorem gX4_sign_X4_isSlot : GoodIn wsX4_sign (va_wsS RX4 86 yX4_isSlot wsX4_isSlot) := goodIn_app (goodIn_of _ (by decide +kernel)) ggX4_sign_X4_isSlot
set_option maxRecDepth 20000 in
theorem ggX4_sign_X4_in : GoodIn wsX4_sign wsX4_in := goodIn_r _ [10] (by decide +kernel) (by decide +kernel)
set_option maxRecDepth 20000 in
theorem gX4_sign_X4_in : GoodIn wsX4_sign (va_wsS RX4 54 yX4_in wsX4_in) := goodIn_app (goodIn_of _ (by decide +kernel)) ggX4_sign_X4_in
set_option maxRecDepth 20000 in
theorem ggX4_sign_X4_turnOf : GoodIn wsX4_sign wsX4_turnOf := goodIn_r _ [14, 1, 15, 16, 17, 18, 19, 20, 21, 22, 23, 5, 24, 25, 26, 27, 28, 29, 30, 31, 32, 33, 34, 35, 36, 37, 38, 39, 40, 41, 42, 43, 44, 45, 46, 47, 48, 49, 50, 51, 52, 53, 54, 62, 63, 64, 65, 66, 67, 68, 69, 70, 71, 72, 73, 74, 75] (by decide +kernel) (by decide +kernel)
set_option maxRecDepth 20000 in
theorem gX4_sign_X4_turnOf : GoodIn wsX4_sign (wsV RX4 101 RX4 yX4_turnOf wsX4_turnOf) := goodIn_app (goodIn_of _ (by decide +kernel)) ggX4_sign_X4_turnOf
set_option maxRecDepth 20000 in
theorem ggX4_sign_X4_take : GoodIn wsX4_sign wsX4_take := goodIn_r _ [41, 17, 18, 19, 42, 43, 44, 5, 45, 1, 46, 47, 48, 49, 50, 15, 51, 52, 53, 54, 30, 31, 32, 33, 34, 35, 36, 37, 62, 63, 64, 65, 66, 67, 68, 69, 70, 71, 72, 73, 74, 75] (by decide +kernel) (by decide +kernel)
set_option maxRecDepth 20000 in
theorem gX4_sign_X4_take : GoodIn wsX4_sign (wsV RX4 97 RX4 yX4_take wsX4_take) := goodIn_app (goodIn_of _ (by decide +kernel)) ggX4_sign_X4_take
set_option maxRecDepth 20000 in
theorem ggX4_sign_X4_store : GoodIn wsX4_sign wsX4_store := goodIn_r _ [58, 59, 17, 60, 18, 61, 19, 62, 63, 64, 65, 66, 67, 68, 69, 70, 71, 72, 73, 74, 75] (by decide +kernel) (by decide +kernel)
set_option maxRecDepth 20000 in
theorem gX4_sign_X4_store : GoodIn wsX4_sign (wsV RX4 93 RX4 yX4_store wsX4_store) := goodIn_app (goodIn_of _ (by decide +kernel)) ggX4_sign_X4_store
theorem dX4_sign_0 : decode cX4_sign 0 = .ok (.aload_n 0, 1) := by decide +kernel
theorem dX4_sign_1 : decode cX4_sign 1 = .ok (.getfield 28, 3) := by decide +kernel
theorem dX4_sign_4 : decode cX4_sign 4 = .ok (.lconst 0, 1) := by decide +kernel
theorem dX4_sign_5 : decode cX4_sign 5 = .ok (.lcmp, 1) := by decide +kernel
theorem dX4_sign_6 : decode cX4_sign 6 = .ok (.ifCond .ne 6, 3) := by decide +kernel
theorem dX4_sign_9 : decode cX4_sign 9 = .ok (.bipush (-3), 2) := by decide +kernel
theorem dX4_sign_11 : decode cX4_sign 11 = .ok (.ireturn, 1) := by decide +kernel
theorem dX4_sign_12 : decode cX4_sign 12 = .ok (.iload_n 1, 1) := by decide +kernel
theorem dX4_sign_13 : decode cX4_sign 13 = .ok (.invokestatic 86, 3) := by decide +kernel
theorem dX4_sign_16 : decode cX4_sign 16 = .ok (.ifCond .eq 18, 3) := by decide +kernel
theorem dX4_sign_19 : decode cX4_sign 19 = .ok (.iload_n 2, 1) := by decide +kernel
theorem dX4_sign_20 : decode cX4_sign 20 = .ok (.i2l, 1) := by decide +kernel
theorem dX4_sign_21 : decode cX4_sign 21 = .ok (.lconst 1, 1) := by decide +kernel
theorem dX4_sign_22 : decode cX4_sign 22 = .ok (.aload_n 0, 1) := by decide +kernel
theorem dX4_sign_23 : decode cX4_sign 23 = .ok (.getfield 48, 3) := by decide +kernel
theorem dX4_sign_26 : decode cX4_sign 26 = .ok (.lconst 1, 1) := by decide +kernel
theorem dX4_sign_27 : decode cX4_sign 27 = .ok (.lsub, 1) := by decide +kernel
theorem dX4_sign_28 : decode cX4_sign 28 = .ok (.invokestatic 54, 3) := by decide +kernel
theorem dX4_sign_31 : decode cX4_sign 31 = .ok (.ifCond .ne 6, 3) := by decide +kernel
theorem dX4_sign_34 : decode cX4_sign 34 = .ok (.bipush (-2), 2) := by decide +kernel
theorem dX4_sign_36 : decode cX4_sign 36 = .ok (.ireturn, 1) := by decide +kernel
theorem dX4_sign_37 : decode cX4_sign 37 = .ok (.aload_n 0, 1) := by decide +kernel
theorem dX4_sign_38 : decode cX4_sign 38 = .ok (.lload_n 3, 1) := by decide +kernel
theorem dX4_sign_39 : decode cX4_sign 39 = .ok (.invokevirtual 101, 3) := by decide +kernel
theorem dX4_sign_42 : decode cX4_sign 42 = .ok (.istore 5, 2) := by decide +kernel
theorem dX4_sign_44 : decode cX4_sign 44 = .ok (.aload_n 0, 1) := by decide +kernel
theorem dX4_sign_45 : decode cX4_sign 45 = .ok (.iload_n 2, 1) := by decide +kernel
theorem dX4_sign_46 : decode cX4_sign 46 = .ok (.i2l, 1) := by decide +kernel
theorem dX4_sign_47 : decode cX4_sign 47 = .ok (.invokevirtual 97, 3) := by decide +kernel
theorem dX4_sign_50 : decode cX4_sign 50 = .ok (.aload_n 0, 1) := by decide +kernel
theorem dX4_sign_51 : decode cX4_sign 51 = .ok (.iload_n 1, 1) := by decide +kernel
theorem dX4_sign_52 : decode cX4_sign 52 = .ok (.invokevirtual 93, 3) := by decide +kernel
theorem dX4_sign_55 : decode cX4_sign 55 = .ok (.iconst 1, 1) := by decide +kernel
theorem dX4_sign_56 : decode cX4_sign 56 = .ok (.ireturn, 1) := by decide +kernel
set_option maxRecDepth 20000 in
theorem ggX4_pairWithBase_X4_turnOf : GoodIn wsX4_pairWithBase wsX4_turnOf := goodIn_r _ [11, 12, 13, 14, 4, 5, 6, 15, 16, 17, 18, 10, 19, 20, 21, 22, 23, 24, 25, 26, 27, 28, 29, 30, 31, 32, 33, 34, 35, 36, 37, 38, 39, 40, 41, 42, 43, 44, 45, 46, 47, 48, 49, 70, 71, 72, 73, 74, 75, 76, 77, 78, 79, 80, 81, 82, 83] (by decide +kernel) (by decide +kernel)
set_option maxRecDepth 20000 in
theorem gX4_pairWithBase_X4_turnOf : GoodIn wsX4_pairWithBase (wsV RX4 101 RX4 yX4_turnOf wsX4_turnOf) := goodIn_app (goodIn_of _ (by decide +kernel)) ggX4_pairWithBase_X4_turnOf
set_option maxRecDepth 20000 in
theorem ggX4_pairWithBase_X4_pairOf : GoodIn wsX4_pairWithBase wsX4_pairOf := goodIn_r _ [53, 54, 55, 56, 4, 5, 6, 57, 12, 58, 59, 60, 10, 61, 62, 63, 64, 65, 29, 30, 31, 32, 41, 42, 43, 44, 45, 13, 46, 47, 48, 49, 25, 26, 27, 28, 37, 38, 39, 40, 66, 67, 68, 69, 70, 71, 72, 73, 74, 75, 76, 77, 78, 79, 80, 81, 82, 83] (by decide +kernel) (by decide +kernel)
set_option maxRecDepth 20000 in
theorem gX4_pairWithBase_X4_pairOf : GoodIn wsX4_pairWithBase (wsV RX4 145 RX4 yX4_pairOf wsX4_pairOf) := goodIn_app (goodIn_of _ (by decide +kernel)) ggX4_pairWithBase_X4_pairOf
theorem dX4_pairWithBase_0 : decode cX4_pairWithBase 0 = .ok (.aload_n 0, 1) := by decide +kernel
theorem dX4_pairWithBase_1 : decode cX4_pairWithBase 1 = .ok (.lconst 1, 1) := by decide +kernel
theorem dX4_pairWithBase_2 : decode cX4_pairWithBase 2 = .ok (.invokevirtual 101, 3) := by decide +kernel
theorem dX4_pairWithBase_5 : decode cX4_pairWithBase 5 = .ok (.istore_n 2, 1) := by decide +kernel
theorem dX4_pairWithBase_6 : decode cX4_pairWithBase 6 = .ok (.aload_n 0, 1) := by decide +kernel
theorem dX4_pairWithBase_7 : decode cX4_pairWithBase 7 = .ok (.aload_n 0, 1) := by decide +kernel
theorem dX4_pairWithBase_8 : decode cX4_pairWithBase 8 = .ok (.getfield 7, 3) := by decide +kernel
theorem dX4_pairWithBase_11 : decode cX4_pairWithBase 11 = .ok (.iload_n 1, 1) := by decide +kernel
theorem dX4_pairWithBase_12 : decode cX4_pairWithBase 12 = .ok (.laload, 1) := by decide +kernel
theorem dX4_pairWithBase_13 : decode cX4_pairWithBase 13 = .ok (.aload_n 0, 1) := by decide +kernel
theorem dX4_pairWithBase_14 : decode cX4_pairWithBase 14 = .ok (.getfield 13, 3) := by decide +kernel
theorem dX4_pairWithBase_17 : decode cX4_pairWithBase 17 = .ok (.iload_n 1, 1) := by decide +kernel
theorem dX4_pairWithBase_18 : decode cX4_pairWithBase 18 = .ok (.laload, 1) := by decide +kernel
theorem dX4_pairWithBase_19 : decode cX4_pairWithBase 19 = .ok (.aload_n 0, 1) := by decide +kernel
theorem dX4_pairWithBase_20 : decode cX4_pairWithBase 20 = .ok (.getfield 16, 3) := by decide +kernel
theorem dX4_pairWithBase_23 : decode cX4_pairWithBase 23 = .ok (.iload_n 1, 1) := by decide +kernel
theorem dX4_pairWithBase_24 : decode cX4_pairWithBase 24 = .ok (.baload, 1) := by decide +kernel
theorem dX4_pairWithBase_25 : decode cX4_pairWithBase 25 = .ok (.aload_n 0, 1) := by decide +kernel
theorem dX4_pairWithBase_26 : decode cX4_pairWithBase 26 = .ok (.getfield 61, 3) := by decide +kernel
theorem dX4_pairWithBase_29 : decode cX4_pairWithBase 29 = .ok (.aload_n 0, 1) := by decide +kernel
theorem dX4_pairWithBase_30 : decode cX4_pairWithBase 30 = .ok (.getfield 64, 3) := by decide +kernel
theorem dX4_pairWithBase_33 : decode cX4_pairWithBase 33 = .ok (.aload_n 0, 1) := by decide +kernel
theorem dX4_pairWithBase_34 : decode cX4_pairWithBase 34 = .ok (.getfield 67, 3) := by decide +kernel
theorem dX4_pairWithBase_37 : decode cX4_pairWithBase 37 = .ok (.invokevirtual 145, 3) := by decide +kernel
theorem dX4_pairWithBase_40 : decode cX4_pairWithBase 40 = .ok (.return_, 1) := by decide +kernel
set_option maxRecDepth 20000 in
theorem ggX4_pairTurned_X4_turnOf : GoodIn wsX4_pairTurned wsX4_turnOf := goodIn_r _ [11, 12, 13, 14, 1, 2, 3, 15, 16, 17, 18, 10, 19, 20, 21, 22, 23, 24, 25, 26, 27, 28, 29, 30, 31, 32, 33, 34, 35, 36, 37, 38, 39, 40, 41, 42, 43, 44, 45, 46, 47, 48, 49, 70, 71, 72, 73, 74, 75, 76, 77, 78, 79, 80, 81, 82, 83] (by decide +kernel) (by decide +kernel)
set_option maxRecDepth 20000 in
theorem gX4_pairTurned_X4_turnOf : GoodIn wsX4_pairTurned (wsV RX4 101 RX4 yX4_turnOf wsX4_turnOf) := goodIn_app (goodIn_of _ (by decide +kernel)) ggX4_pairTurned_X4_turnOf
set_option maxRecDepth 20000 in
theorem ggX4_pairTurned_X4_pairOf : GoodIn wsX4_pairTurned wsX4_pairOf := goodIn_r _ [53, 54, 55, 56, 1, 2, 3, 57, 12, 58, 59, 60, 10, 61, 62, 63, 64, 65, 29, 30, 31, 32, 41, 42, 43, 44, 45, 13, 46, 47, 48, 49, 25, 26, 27, 28, 37, 38, 39, 40, 66, 67, 68, 69, 70, 71, 72, 73, 74, 75, 76, 77, 78, 79, 80, 81, 82, 83] (by decide +kernel) (by decide +kernel)
set_option maxRecDepth 20000 in
theorem gX4_pairTurned_X4_pairOf : GoodIn wsX4_pairTurned (wsV RX4 145 RX4 yX4_pairOf wsX4_pairOf) := goodIn_app (goodIn_of _ (by decide +kernel)) ggX4_pairTurned_X4_pairOf
theorem dX4_pairTurned_0 : decode cX4_pairTurned 0 = .ok (.aload_n 0, 1) := by decide +kernel
theorem dX4_pairTurned_1 : decode cX4_pairTurned 1 = .ok (.lload_n 1, 1) := by decide +kernel
theorem dX4_pairTurned_2 : decode cX4_pairTurned 2 = .ok (.invokevirtual 101, 3) := by decide +kernel
theorem dX4_pairTurned_5 : decode cX4_pairTurned 5 = .ok (.istore 4, 2) := by decide +kernel
theorem dX4_pairTurned_7 : decode cX4_pairTurned 7 = .ok (.aload_n 0, 1) := by decide +kernel
theorem dX4_pairTurned_8 : decode cX4_pairTurned 8 = .ok (.aload_n 0, 1) := by decide +kernel
theorem dX4_pairTurned_9 : decode cX4_pairTurned 9 = .ok (.getfield 61, 3) := by decide +kernel
theorem dX4_pairTurned_12 : decode cX4_pairTurned 12 = .ok (.aload_n 0, 1) := by decide +kernel
theorem dX4_pairTurned_13 : decode cX4_pairTurned 13 = .ok (.getfield 64, 3) := by decide +kernel
theorem dX4_pairTurned_16 : decode cX4_pairTurned 16 = .ok (.aload_n 0, 1) := by decide +kernel
theorem dX4_pairTurned_17 : decode cX4_pairTurned 17 = .ok (.getfield 67, 3) := by decide +kernel
theorem dX4_pairTurned_20 : decode cX4_pairTurned 20 = .ok (.aload_n 0, 1) := by decide +kernel
theorem dX4_pairTurned_21 : decode cX4_pairTurned 21 = .ok (.getfield 7, 3) := by decide +kernel
theorem dX4_pairTurned_24 : decode cX4_pairTurned 24 = .ok (.iload_n 3, 1) := by decide +kernel
theorem dX4_pairTurned_25 : decode cX4_pairTurned 25 = .ok (.laload, 1) := by decide +kernel
theorem dX4_pairTurned_26 : decode cX4_pairTurned 26 = .ok (.aload_n 0, 1) := by decide +kernel
theorem dX4_pairTurned_27 : decode cX4_pairTurned 27 = .ok (.getfield 13, 3) := by decide +kernel
theorem dX4_pairTurned_30 : decode cX4_pairTurned 30 = .ok (.iload_n 3, 1) := by decide +kernel
theorem dX4_pairTurned_31 : decode cX4_pairTurned 31 = .ok (.laload, 1) := by decide +kernel
theorem dX4_pairTurned_32 : decode cX4_pairTurned 32 = .ok (.aload_n 0, 1) := by decide +kernel
theorem dX4_pairTurned_33 : decode cX4_pairTurned 33 = .ok (.getfield 16, 3) := by decide +kernel
theorem dX4_pairTurned_36 : decode cX4_pairTurned 36 = .ok (.iload_n 3, 1) := by decide +kernel
theorem dX4_pairTurned_37 : decode cX4_pairTurned 37 = .ok (.baload, 1) := by decide +kernel
theorem dX4_pairTurned_38 : decode cX4_pairTurned 38 = .ok (.invokevirtual 145, 3) := by decide +kernel
theorem dX4_pairTurned_41 : decode cX4_pairTurned 41 = .ok (.return_, 1) := by decide +kernel
set_option maxRecDepth 20000 in
theorem ggX4_holds_X4_isSlot : GoodIn wsX4_holds wsX4_isSlot := goodIn_r _ [8, 9, 10, 11, 7, 12] (by decide +kernel) (by decide +kernel)
set_option maxRecDepth 20000 in
theorem gX4_holds_X4_isSlot : GoodIn wsX4_holds (va_wsS RX4 86 yX4_isSlot wsX4_isSlot) := goodIn_app (goodIn_of _ (by decide +kernel)) ggX4_holds_X4_isSlot
set_option maxRecDepth 20000 in
theorem ggX4_holds_X4_isOfR : GoodIn wsX4_holds wsX4_isOfR := goodIn_r _ [16, 17, 18, 19, 20, 21, 7, 22, 23, 24, 25, 26, 2, 27, 28, 29, 30, 31, 32, 33, 34, 1, 35, 36, 37, 38, 39, 40, 41, 42, 43, 44, 45, 46, 47, 48, 49, 50, 51, 52, 93, 94, 95, 96, 97, 98, 99, 100, 101, 102, 103, 104, 105, 106] (by decide +kernel) (by decide +kernel)
set_option maxRecDepth 20000 in
theorem gX4_holds_X4_isOfR : GoodIn wsX4_holds (wsV RX4 142 RX4 yX4_isOfR wsX4_isOfR) := goodIn_app (goodIn_of _ (by decide +kernel)) ggX4_holds_X4_isOfR
set_option maxRecDepth 20000 in
theorem ggX4_holds_X4_pairWithBase : GoodIn wsX4_holds wsX4_pairWithBase := goodIn_r _ [56, 23, 25, 2, 24, 26, 18, 57, 58, 59, 7, 60, 1, 40, 61, 62, 63, 64, 65, 66, 67, 68, 69, 70, 71, 45, 46, 47, 48, 49, 50, 51, 52, 27, 28, 29, 30, 31, 32, 33, 34, 35, 36, 37, 38, 39, 41, 42, 43, 44, 72, 73, 74, 75, 3, 4, 76, 17, 77, 78, 79, 80, 81, 82, 83, 84, 85, 86, 87, 88, 93, 94, 95, 96, 97, 98, 99, 100, 101, 102, 103, 104, 105, 106] (by decide +kernel) (by decide +kernel)
set_option maxRecDepth 20000 in
theorem gX4_holds_X4_pairWithBase : GoodIn wsX4_holds (wsV RX4 153 RX4 yX4_pairWithBase wsX4_pairWithBase) := goodIn_app (goodIn_of _ (by decide +kernel)) ggX4_holds_X4_pairWithBase
set_option maxRecDepth 20000 in
theorem ggX4_holds_X4_pairTurned : GoodIn wsX4_holds wsX4_pairTurned := goodIn_r _ [92, 24, 26, 18, 23, 25, 2, 57, 58, 59, 7, 60, 1, 40, 61, 62, 63, 64, 65, 66, 67, 68, 69, 70, 71, 45, 46, 47, 48, 49, 50, 51, 52, 27, 28, 29, 30, 31, 32, 33, 34, 35, 36, 37, 38, 39, 41, 42, 43, 44, 72, 73, 74, 75, 3, 4, 76, 17, 77, 78, 79, 80, 81, 82, 83, 84, 85, 86, 87, 88, 93, 94, 95, 96, 97, 98, 99, 100, 101, 102, 103, 104, 105, 106] (by decide +kernel) (by decide +kernel)
set_option maxRecDepth 20000 in
theorem gX4_holds_X4_pairTurned : GoodIn wsX4_holds (wsV RX4 156 RX4 yX4_pairTurned wsX4_pairTurned) := goodIn_app (goodIn_of _ (by decide +kernel)) ggX4_holds_X4_pairTurned
theorem dX4_holds_0 : decode cX4_holds 0 = .ok (.aload_n 0, 1) := by decide +kernel
theorem dX4_holds_1 : decode cX4_holds 1 = .ok (.getfield 28, 3) := by decide +kernel
theorem dX4_holds_4 : decode cX4_holds 4 = .ok (.lconst 0, 1) := by decide +kernel
theorem dX4_holds_5 : decode cX4_holds 5 = .ok (.lcmp, 1) := by decide +kernel
theorem dX4_holds_6 : decode cX4_holds 6 = .ok (.ifCond .ne 6, 3) := by decide +kernel
theorem dX4_holds_9 : decode cX4_holds 9 = .ok (.bipush (-3), 2) := by decide +kernel
theorem dX4_holds_11 : decode cX4_holds 11 = .ok (.ireturn, 1) := by decide +kernel
theorem dX4_holds_12 : decode cX4_holds 12 = .ok (.iload_n 1, 1) := by decide +kernel
theorem dX4_holds_13 : decode cX4_holds 13 = .ok (.invokestatic 86, 3) := by decide +kernel
theorem dX4_holds_16 : decode cX4_holds 16 = .ok (.ifCond .eq 11, 3) := by decide +kernel
theorem dX4_holds_19 : decode cX4_holds 19 = .ok (.iload 4, 2) := by decide +kernel
theorem dX4_holds_21 : decode cX4_holds 21 = .ok (.invokestatic 86, 3) := by decide +kernel
theorem dX4_holds_24 : decode cX4_holds 24 = .ok (.ifCond .ne 6, 3) := by decide +kernel
theorem dX4_holds_27 : decode cX4_holds 27 = .ok (.bipush (-2), 2) := by decide +kernel
theorem dX4_holds_29 : decode cX4_holds 29 = .ok (.ireturn, 1) := by decide +kernel
theorem dX4_holds_30 : decode cX4_holds 30 = .ok (.aload_n 0, 1) := by decide +kernel
theorem dX4_holds_31 : decode cX4_holds 31 = .ok (.iload 4, 2) := by decide +kernel
theorem dX4_holds_33 : decode cX4_holds 33 = .ok (.invokevirtual 142, 3) := by decide +kernel
theorem dX4_holds_36 : decode cX4_holds 36 = .ok (.ifCond .eq 20, 3) := by decide +kernel
theorem dX4_holds_39 : decode cX4_holds 39 = .ok (.aload_n 0, 1) := by decide +kernel
theorem dX4_holds_40 : decode cX4_holds 40 = .ok (.iload_n 1, 1) := by decide +kernel
theorem dX4_holds_41 : decode cX4_holds 41 = .ok (.invokevirtual 142, 3) := by decide +kernel
theorem dX4_holds_44 : decode cX4_holds 44 = .ok (.ifCond .eq 12, 3) := by decide +kernel
theorem dX4_holds_47 : decode cX4_holds 47 = .ok (.aload_n 0, 1) := by decide +kernel
theorem dX4_holds_48 : decode cX4_holds 48 = .ok (.getfield 16, 3) := by decide +kernel
theorem dX4_holds_51 : decode cX4_holds 51 = .ok (.iload_n 1, 1) := by decide +kernel
theorem dX4_holds_52 : decode cX4_holds 52 = .ok (.baload, 1) := by decide +kernel
theorem dX4_holds_53 : decode cX4_holds 53 = .ok (.ifCond .ne 5, 3) := by decide +kernel
theorem dX4_holds_56 : decode cX4_holds 56 = .ok (.iconst 0, 1) := by decide +kernel
theorem dX4_holds_57 : decode cX4_holds 57 = .ok (.ireturn, 1) := by decide +kernel
theorem dX4_holds_58 : decode cX4_holds 58 = .ok (.aload_n 0, 1) := by decide +kernel
theorem dX4_holds_59 : decode cX4_holds 59 = .ok (.iload 4, 2) := by decide +kernel
theorem dX4_holds_61 : decode cX4_holds 61 = .ok (.invokevirtual 153, 3) := by decide +kernel
theorem dX4_holds_64 : decode cX4_holds 64 = .ok (.aload_n 0, 1) := by decide +kernel
theorem dX4_holds_65 : decode cX4_holds 65 = .ok (.getfield 116, 3) := by decide +kernel
theorem dX4_holds_68 : decode cX4_holds 68 = .ok (.lstore 5, 2) := by decide +kernel
theorem dX4_holds_70 : decode cX4_holds 70 = .ok (.aload_n 0, 1) := by decide +kernel
theorem dX4_holds_71 : decode cX4_holds 71 = .ok (.getfield 119, 3) := by decide +kernel
theorem dX4_holds_74 : decode cX4_holds 74 = .ok (.lstore 7, 2) := by decide +kernel
theorem dX4_holds_76 : decode cX4_holds 76 = .ok (.aload_n 0, 1) := by decide +kernel
theorem dX4_holds_77 : decode cX4_holds 77 = .ok (.lload_n 2, 1) := by decide +kernel
theorem dX4_holds_78 : decode cX4_holds 78 = .ok (.iload_n 1, 1) := by decide +kernel
theorem dX4_holds_79 : decode cX4_holds 79 = .ok (.invokevirtual 156, 3) := by decide +kernel
theorem dX4_holds_82 : decode cX4_holds 82 = .ok (.aload_n 0, 1) := by decide +kernel
theorem dX4_holds_83 : decode cX4_holds 83 = .ok (.getfield 116, 3) := by decide +kernel
theorem dX4_holds_86 : decode cX4_holds 86 = .ok (.lload 5, 2) := by decide +kernel
theorem dX4_holds_88 : decode cX4_holds 88 = .ok (.lcmp, 1) := by decide +kernel
theorem dX4_holds_89 : decode cX4_holds 89 = .ok (.ifCond .ne 17, 3) := by decide +kernel
theorem dX4_holds_92 : decode cX4_holds 92 = .ok (.aload_n 0, 1) := by decide +kernel
theorem dX4_holds_93 : decode cX4_holds 93 = .ok (.getfield 119, 3) := by decide +kernel
theorem dX4_holds_96 : decode cX4_holds 96 = .ok (.lload 7, 2) := by decide +kernel
theorem dX4_holds_98 : decode cX4_holds 98 = .ok (.lcmp, 1) := by decide +kernel
theorem dX4_holds_99 : decode cX4_holds 99 = .ok (.ifCond .ne 7, 3) := by decide +kernel
theorem dX4_holds_102 : decode cX4_holds 102 = .ok (.iconst 1, 1) := by decide +kernel
theorem dX4_holds_103 : decode cX4_holds 103 = .ok (.goto 4, 3) := by decide +kernel
theorem dX4_holds_106 : decode cX4_holds 106 = .ok (.iconst 0, 1) := by decide +kernel
theorem dX4_holds_107 : decode cX4_holds 107 = .ok (.ireturn, 1) := by decide +kernel
set_option maxRecDepth 20000 in
theorem ggX4_holdsAll_X4_isSlot : GoodIn wsX4_holdsAll wsX4_isSlot := goodIn_r _ [9, 10, 11, 12, 8, 13] (by decide +kernel) (by decide +kernel)
set_option maxRecDepth 20000 in
theorem gX4_holdsAll_X4_isSlot : GoodIn wsX4_holdsAll (va_wsS RX4 86 yX4_isSlot wsX4_isSlot) := goodIn_app (goodIn_of _ (by decide +kernel)) ggX4_holdsAll_X4_isSlot
set_option maxRecDepth 20000 in
theorem ggX4_holdsAll_X4_in : GoodIn wsX4_holdsAll wsX4_in := goodIn_r _ [13] (by decide +kernel) (by decide +kernel)
set_option maxRecDepth 20000 in
theorem gX4_holdsAll_X4_in : GoodIn wsX4_holdsAll (va_wsS RX4 54 yX4_in wsX4_in) := goodIn_app (goodIn_of _ (by decide +kernel)) ggX4_holdsAll_X4_in
set_option maxRecDepth 20000 in
theorem ggX4_holdsAll_X4_isOfR : GoodIn wsX4_holdsAll wsX4_isOfR := goodIn_r _ [17, 18, 19, 20, 21, 22, 8, 23, 24, 25, 26, 27, 3, 28, 29, 30, 31, 32, 33, 34, 35, 1, 36, 37, 38, 39, 40, 41, 42, 43, 44, 45, 46, 47, 48, 49, 50, 51, 52, 53, 94, 95, 96, 97, 98, 99, 100, 101, 102, 103, 104, 105, 106, 107] (by decide +kernel) (by decide +kernel)
set_option maxRecDepth 20000 in
theorem gX4_holdsAll_X4_isOfR : GoodIn wsX4_holdsAll (wsV RX4 142 RX4 yX4_isOfR wsX4_isOfR) := goodIn_app (goodIn_of _ (by decide +kernel)) ggX4_holdsAll_X4_isOfR
set_option maxRecDepth 20000 in
theorem ggX4_holdsAll_X4_pairTurned : GoodIn wsX4_holdsAll wsX4_pairTurned := goodIn_r _ [57, 25, 27, 19, 24, 26, 3, 58, 59, 60, 8, 61, 1, 41, 62, 63, 64, 65, 66, 67, 68, 69, 70, 71, 72, 46, 47, 48, 49, 50, 51, 52, 53, 28, 29, 30, 31, 32, 33, 34, 35, 36, 37, 38, 39, 40, 42, 43, 44, 45, 73, 74, 75, 76, 4, 5, 77, 18, 78, 79, 80, 81, 82, 83, 84, 85, 86, 87, 88, 89, 94, 95, 96, 97, 98, 99, 100, 101, 102, 103, 104, 105, 106, 107] (by decide +kernel) (by decide +kernel)
set_option maxRecDepth 20000 in
theorem gX4_holdsAll_X4_pairTurned : GoodIn wsX4_holdsAll (wsV RX4 156 RX4 yX4_pairTurned wsX4_pairTurned) := goodIn_app (goodIn_of _ (by decide +kernel)) ggX4_holdsAll_X4_pairTurned
set_option maxRecDepth 20000 in
theorem ggX4_holdsAll_X4_multiply2 : GoodIn wsX4_holdsAll wsX4_multiply2 := goodIn_r _ [81, 4, 1, 5, 94, 95, 96, 97, 98, 99, 100, 101, 102, 103, 104, 105, 106, 107] (by decide +kernel) (by decide +kernel)
set_option maxRecDepth 20000 in
theorem gX4_holdsAll_X4_multiply2 : GoodIn wsX4_holdsAll (wsV RX4 122 RX4 yX4_multiply2 wsX4_multiply2) := goodIn_app (goodIn_of _ (by decide +kernel)) ggX4_holdsAll_X4_multiply2
set_option maxRecDepth 20000 in
theorem ggX4_holdsAll_X4_pairWithBase : GoodIn wsX4_holdsAll wsX4_pairWithBase := goodIn_r _ [93, 24, 26, 3, 25, 27, 19, 58, 59, 60, 8, 61, 1, 41, 62, 63, 64, 65, 66, 67, 68, 69, 70, 71, 72, 46, 47, 48, 49, 50, 51, 52, 53, 28, 29, 30, 31, 32, 33, 34, 35, 36, 37, 38, 39, 40, 42, 43, 44, 45, 73, 74, 75, 76, 4, 5, 77, 18, 78, 79, 80, 81, 82, 83, 84, 85, 86, 87, 88, 89, 94, 95, 96, 97, 98, 99, 100, 101, 102, 103, 104, 105, 106, 107] (by decide +kernel) (by decide +kernel)
set_option maxRecDepth 20000 in
theorem gX4_holdsAll_X4_pairWithBase : GoodIn wsX4_holdsAll (wsV RX4 153 RX4 yX4_pairWithBase wsX4_pairWithBase) := goodIn_app (goodIn_of _ (by decide +kernel)) ggX4_holdsAll_X4_pairWithBase
theorem dX4_holdsAll_0 : decode cX4_holdsAll 0 = .ok (.aload_n 0, 1) := by decide +kernel
theorem dX4_holdsAll_1 : decode cX4_holdsAll 1 = .ok (.getfield 28, 3) := by decide +kernel
theorem dX4_holdsAll_4 : decode cX4_holdsAll 4 = .ok (.lconst 0, 1) := by decide +kernel
theorem dX4_holdsAll_5 : decode cX4_holdsAll 5 = .ok (.lcmp, 1) := by decide +kernel
theorem dX4_holdsAll_6 : decode cX4_holdsAll 6 = .ok (.ifCond .ne 6, 3) := by decide +kernel
theorem dX4_holdsAll_9 : decode cX4_holdsAll 9 = .ok (.bipush (-3), 2) := by decide +kernel
theorem dX4_holdsAll_11 : decode cX4_holdsAll 11 = .ok (.ireturn, 1) := by decide +kernel
theorem dX4_holdsAll_12 : decode cX4_holdsAll 12 = .ok (.iload_n 1, 1) := by decide +kernel
theorem dX4_holdsAll_13 : decode cX4_holdsAll 13 = .ok (.invokestatic 86, 3) := by decide +kernel
theorem dX4_holdsAll_16 : decode cX4_holdsAll 16 = .ok (.ifCond .eq 31, 3) := by decide +kernel
theorem dX4_holdsAll_19 : decode cX4_holdsAll 19 = .ok (.iload_n 2, 1) := by decide +kernel
theorem dX4_holdsAll_20 : decode cX4_holdsAll 20 = .ok (.i2l, 1) := by decide +kernel
theorem dX4_holdsAll_21 : decode cX4_holdsAll 21 = .ok (.lconst 1, 1) := by decide +kernel
theorem dX4_holdsAll_22 : decode cX4_holdsAll 22 = .ok (.ldc2_w 160, 3) := by decide +kernel
theorem dX4_holdsAll_25 : decode cX4_holdsAll 25 = .ok (.invokestatic 54, 3) := by decide +kernel
theorem dX4_holdsAll_28 : decode cX4_holdsAll 28 = .ok (.ifCond .eq 19, 3) := by decide +kernel
theorem dX4_holdsAll_31 : decode cX4_holdsAll 31 = .ok (.iload_n 1, 1) := by decide +kernel
theorem dX4_holdsAll_32 : decode cX4_holdsAll 32 = .ok (.iload_n 2, 1) := by decide +kernel
theorem dX4_holdsAll_33 : decode cX4_holdsAll 33 = .ok (.iadd, 1) := by decide +kernel
theorem dX4_holdsAll_34 : decode cX4_holdsAll 34 = .ok (.bipush 16, 2) := by decide +kernel
theorem dX4_holdsAll_36 : decode cX4_holdsAll 36 = .ok (.if_icmp .gt 11, 3) := by decide +kernel
theorem dX4_holdsAll_39 : decode cX4_holdsAll 39 = .ok (.iload 5, 2) := by decide +kernel
theorem dX4_holdsAll_41 : decode cX4_holdsAll 41 = .ok (.invokestatic 86, 3) := by decide +kernel
theorem dX4_holdsAll_44 : decode cX4_holdsAll 44 = .ok (.ifCond .ne 6, 3) := by decide +kernel
theorem dX4_holdsAll_47 : decode cX4_holdsAll 47 = .ok (.bipush (-2), 2) := by decide +kernel
theorem dX4_holdsAll_49 : decode cX4_holdsAll 49 = .ok (.ireturn, 1) := by decide +kernel
theorem dX4_holdsAll_50 : decode cX4_holdsAll 50 = .ok (.aload_n 0, 1) := by decide +kernel
theorem dX4_holdsAll_51 : decode cX4_holdsAll 51 = .ok (.iload 5, 2) := by decide +kernel
theorem dX4_holdsAll_53 : decode cX4_holdsAll 53 = .ok (.invokevirtual 142, 3) := by decide +kernel
theorem dX4_holdsAll_56 : decode cX4_holdsAll 56 = .ok (.istore 6, 2) := by decide +kernel
theorem dX4_holdsAll_58 : decode cX4_holdsAll 58 = .ok (.iconst 0, 1) := by decide +kernel
theorem dX4_holdsAll_59 : decode cX4_holdsAll 59 = .ok (.istore 7, 2) := by decide +kernel
theorem dX4_holdsAll_61 : decode cX4_holdsAll 61 = .ok (.iload 7, 2) := by decide +kernel
theorem dX4_holdsAll_63 : decode cX4_holdsAll 63 = .ok (.iload_n 2, 1) := by decide +kernel
theorem dX4_holdsAll_64 : decode cX4_holdsAll 64 = .ok (.if_icmp .ge 44, 3) := by decide +kernel
theorem dX4_holdsAll_67 : decode cX4_holdsAll 67 = .ok (.iload 6, 2) := by decide +kernel
theorem dX4_holdsAll_69 : decode cX4_holdsAll 69 = .ok (.ifCond .eq 30, 3) := by decide +kernel
theorem dX4_holdsAll_72 : decode cX4_holdsAll 72 = .ok (.aload_n 0, 1) := by decide +kernel
theorem dX4_holdsAll_73 : decode cX4_holdsAll 73 = .ok (.iload_n 1, 1) := by decide +kernel
theorem dX4_holdsAll_74 : decode cX4_holdsAll 74 = .ok (.iload 7, 2) := by decide +kernel
theorem dX4_holdsAll_76 : decode cX4_holdsAll 76 = .ok (.iadd, 1) := by decide +kernel
theorem dX4_holdsAll_77 : decode cX4_holdsAll 77 = .ok (.invokevirtual 142, 3) := by decide +kernel
theorem dX4_holdsAll_80 : decode cX4_holdsAll 80 = .ok (.ifCond .eq 19, 3) := by decide +kernel
theorem dX4_holdsAll_83 : decode cX4_holdsAll 83 = .ok (.aload_n 0, 1) := by decide +kernel
theorem dX4_holdsAll_84 : decode cX4_holdsAll 84 = .ok (.getfield 16, 3) := by decide +kernel
theorem dX4_holdsAll_87 : decode cX4_holdsAll 87 = .ok (.iload_n 1, 1) := by decide +kernel
theorem dX4_holdsAll_88 : decode cX4_holdsAll 88 = .ok (.iload 7, 2) := by decide +kernel
theorem dX4_holdsAll_90 : decode cX4_holdsAll 90 = .ok (.iadd, 1) := by decide +kernel
theorem dX4_holdsAll_91 : decode cX4_holdsAll 91 = .ok (.baload, 1) := by decide +kernel
theorem dX4_holdsAll_92 : decode cX4_holdsAll 92 = .ok (.ifCond .eq 7, 3) := by decide +kernel
theorem dX4_holdsAll_95 : decode cX4_holdsAll 95 = .ok (.iconst 1, 1) := by decide +kernel
theorem dX4_holdsAll_96 : decode cX4_holdsAll 96 = .ok (.goto 4, 3) := by decide +kernel
theorem dX4_holdsAll_99 : decode cX4_holdsAll 99 = .ok (.iconst 0, 1) := by decide +kernel
theorem dX4_holdsAll_100 : decode cX4_holdsAll 100 = .ok (.istore 6, 2) := by decide +kernel
theorem dX4_holdsAll_102 : decode cX4_holdsAll 102 = .ok (.iinc 7 1, 3) := by decide +kernel
theorem dX4_holdsAll_105 : decode cX4_holdsAll 105 = .ok (.goto (-44), 3) := by decide +kernel
theorem dX4_holdsAll_108 : decode cX4_holdsAll 108 = .ok (.iload 6, 2) := by decide +kernel
theorem dX4_holdsAll_110 : decode cX4_holdsAll 110 = .ok (.ifCond .ne 5, 3) := by decide +kernel
theorem dX4_holdsAll_113 : decode cX4_holdsAll 113 = .ok (.iconst 0, 1) := by decide +kernel
theorem dX4_holdsAll_114 : decode cX4_holdsAll 114 = .ok (.ireturn, 1) := by decide +kernel
theorem dX4_holdsAll_115 : decode cX4_holdsAll 115 = .ok (.lconst 1, 1) := by decide +kernel
theorem dX4_holdsAll_116 : decode cX4_holdsAll 116 = .ok (.lstore 7, 2) := by decide +kernel
theorem dX4_holdsAll_118 : decode cX4_holdsAll 118 = .ok (.lconst 0, 1) := by decide +kernel
theorem dX4_holdsAll_119 : decode cX4_holdsAll 119 = .ok (.lstore 9, 2) := by decide +kernel
theorem dX4_holdsAll_121 : decode cX4_holdsAll 121 = .ok (.iconst 0, 1) := by decide +kernel
theorem dX4_holdsAll_122 : decode cX4_holdsAll 122 = .ok (.istore 11, 2) := by decide +kernel
theorem dX4_holdsAll_124 : decode cX4_holdsAll 124 = .ok (.iload 11, 2) := by decide +kernel
theorem dX4_holdsAll_126 : decode cX4_holdsAll 126 = .ok (.iload_n 2, 1) := by decide +kernel
theorem dX4_holdsAll_127 : decode cX4_holdsAll 127 = .ok (.if_icmp .ge 42, 3) := by decide +kernel
theorem dX4_holdsAll_130 : decode cX4_holdsAll 130 = .ok (.aload_n 0, 1) := by decide +kernel
theorem dX4_holdsAll_131 : decode cX4_holdsAll 131 = .ok (.lload_n 3, 1) := by decide +kernel
theorem dX4_holdsAll_132 : decode cX4_holdsAll 132 = .ok (.iload 11, 2) := by decide +kernel
theorem dX4_holdsAll_134 : decode cX4_holdsAll 134 = .ok (.i2l, 1) := by decide +kernel
theorem dX4_holdsAll_135 : decode cX4_holdsAll 135 = .ok (.ladd, 1) := by decide +kernel
theorem dX4_holdsAll_136 : decode cX4_holdsAll 136 = .ok (.iload_n 1, 1) := by decide +kernel
theorem dX4_holdsAll_137 : decode cX4_holdsAll 137 = .ok (.iload 11, 2) := by decide +kernel
theorem dX4_holdsAll_139 : decode cX4_holdsAll 139 = .ok (.iadd, 1) := by decide +kernel
theorem dX4_holdsAll_140 : decode cX4_holdsAll 140 = .ok (.invokevirtual 156, 3) := by decide +kernel
theorem dX4_holdsAll_143 : decode cX4_holdsAll 143 = .ok (.aload_n 0, 1) := by decide +kernel
theorem dX4_holdsAll_144 : decode cX4_holdsAll 144 = .ok (.lload 7, 2) := by decide +kernel
theorem dX4_holdsAll_146 : decode cX4_holdsAll 146 = .ok (.lload 9, 2) := by decide +kernel
theorem dX4_holdsAll_148 : decode cX4_holdsAll 148 = .ok (.invokevirtual 122, 3) := by decide +kernel
theorem dX4_holdsAll_151 : decode cX4_holdsAll 151 = .ok (.aload_n 0, 1) := by decide +kernel
theorem dX4_holdsAll_152 : decode cX4_holdsAll 152 = .ok (.getfield 116, 3) := by decide +kernel
theorem dX4_holdsAll_155 : decode cX4_holdsAll 155 = .ok (.lstore 7, 2) := by decide +kernel
theorem dX4_holdsAll_157 : decode cX4_holdsAll 157 = .ok (.aload_n 0, 1) := by decide +kernel
theorem dX4_holdsAll_158 : decode cX4_holdsAll 158 = .ok (.getfield 119, 3) := by decide +kernel
theorem dX4_holdsAll_161 : decode cX4_holdsAll 161 = .ok (.lstore 9, 2) := by decide +kernel
theorem dX4_holdsAll_163 : decode cX4_holdsAll 163 = .ok (.iinc 11 1, 3) := by decide +kernel
theorem dX4_holdsAll_166 : decode cX4_holdsAll 166 = .ok (.goto (-42), 3) := by decide +kernel
theorem dX4_holdsAll_169 : decode cX4_holdsAll 169 = .ok (.aload_n 0, 1) := by decide +kernel
theorem dX4_holdsAll_170 : decode cX4_holdsAll 170 = .ok (.iload 5, 2) := by decide +kernel
theorem dX4_holdsAll_172 : decode cX4_holdsAll 172 = .ok (.invokevirtual 153, 3) := by decide +kernel
theorem dX4_holdsAll_175 : decode cX4_holdsAll 175 = .ok (.aload_n 0, 1) := by decide +kernel
theorem dX4_holdsAll_176 : decode cX4_holdsAll 176 = .ok (.getfield 116, 3) := by decide +kernel
theorem dX4_holdsAll_179 : decode cX4_holdsAll 179 = .ok (.lload 7, 2) := by decide +kernel
theorem dX4_holdsAll_181 : decode cX4_holdsAll 181 = .ok (.lcmp, 1) := by decide +kernel
theorem dX4_holdsAll_182 : decode cX4_holdsAll 182 = .ok (.ifCond .ne 17, 3) := by decide +kernel
theorem dX4_holdsAll_185 : decode cX4_holdsAll 185 = .ok (.aload_n 0, 1) := by decide +kernel
theorem dX4_holdsAll_186 : decode cX4_holdsAll 186 = .ok (.getfield 119, 3) := by decide +kernel
theorem dX4_holdsAll_189 : decode cX4_holdsAll 189 = .ok (.lload 9, 2) := by decide +kernel
theorem dX4_holdsAll_191 : decode cX4_holdsAll 191 = .ok (.lcmp, 1) := by decide +kernel
theorem dX4_holdsAll_192 : decode cX4_holdsAll 192 = .ok (.ifCond .ne 7, 3) := by decide +kernel
theorem dX4_holdsAll_195 : decode cX4_holdsAll 195 = .ok (.iconst 1, 1) := by decide +kernel
theorem dX4_holdsAll_196 : decode cX4_holdsAll 196 = .ok (.goto 4, 3) := by decide +kernel
theorem dX4_holdsAll_199 : decode cX4_holdsAll 199 = .ok (.iconst 0, 1) := by decide +kernel
theorem dX4_holdsAll_200 : decode cX4_holdsAll 200 = .ok (.ireturn, 1) := by decide +kernel
set_option maxRecDepth 20000 in
theorem ggX4_digest_X4_written : GoodIn wsX4_digest wsX4_written := goodIn_r _ [11, 12, 13, 14, 15, 16, 17, 18, 19, 20, 21, 22, 23, 24, 25, 26, 27, 28, 29, 30] (by decide +kernel) (by decide +kernel)
set_option maxRecDepth 20000 in
theorem gX4_digest_X4_written : GoodIn wsX4_digest (wsV RX4 110 RX4 yX4_written wsX4_written) := goodIn_app (goodIn_of _ (by decide +kernel)) ggX4_digest_X4_written
theorem dX4_digest_0 : decode cX4_digest 0 = .ok (.aload_n 0, 1) := by decide +kernel
theorem dX4_digest_1 : decode cX4_digest 1 = .ok (.getfield 28, 3) := by decide +kernel
theorem dX4_digest_4 : decode cX4_digest 4 = .ok (.lconst 0, 1) := by decide +kernel
theorem dX4_digest_5 : decode cX4_digest 5 = .ok (.lcmp, 1) := by decide +kernel
theorem dX4_digest_6 : decode cX4_digest 6 = .ok (.ifCond .ne 7, 3) := by decide +kernel
theorem dX4_digest_9 : decode cX4_digest 9 = .ok (.ldc2_w 108, 3) := by decide +kernel
theorem dX4_digest_12 : decode cX4_digest 12 = .ok (.lreturn, 1) := by decide +kernel
theorem dX4_digest_13 : decode cX4_digest 13 = .ok (.ldc2_w 162, 3) := by decide +kernel
theorem dX4_digest_16 : decode cX4_digest 16 = .ok (.lstore_n 1, 1) := by decide +kernel
theorem dX4_digest_17 : decode cX4_digest 17 = .ok (.iconst 0, 1) := by decide +kernel
theorem dX4_digest_18 : decode cX4_digest 18 = .ok (.istore_n 3, 1) := by decide +kernel
theorem dX4_digest_19 : decode cX4_digest 19 = .ok (.iload_n 3, 1) := by decide +kernel
theorem dX4_digest_20 : decode cX4_digest 20 = .ok (.bipush 16, 2) := by decide +kernel
theorem dX4_digest_22 : decode cX4_digest 22 = .ok (.if_icmp .ge 21, 3) := by decide +kernel
theorem dX4_digest_25 : decode cX4_digest 25 = .ok (.ldc2_w 164, 3) := by decide +kernel
theorem dX4_digest_28 : decode cX4_digest 28 = .ok (.lload_n 1, 1) := by decide +kernel
theorem dX4_digest_29 : decode cX4_digest 29 = .ok (.lmul, 1) := by decide +kernel
theorem dX4_digest_30 : decode cX4_digest 30 = .ok (.aload_n 0, 1) := by decide +kernel
theorem dX4_digest_31 : decode cX4_digest 31 = .ok (.iload_n 3, 1) := by decide +kernel
theorem dX4_digest_32 : decode cX4_digest 32 = .ok (.invokevirtual 110, 3) := by decide +kernel
theorem dX4_digest_35 : decode cX4_digest 35 = .ok (.ladd, 1) := by decide +kernel
theorem dX4_digest_36 : decode cX4_digest 36 = .ok (.lstore_n 1, 1) := by decide +kernel
theorem dX4_digest_37 : decode cX4_digest 37 = .ok (.iinc 3 1, 3) := by decide +kernel
theorem dX4_digest_40 : decode cX4_digest 40 = .ok (.goto (-21), 3) := by decide +kernel
theorem dX4_digest_43 : decode cX4_digest 43 = .ok (.iconst 0, 1) := by decide +kernel
theorem dX4_digest_44 : decode cX4_digest 44 = .ok (.istore_n 3, 1) := by decide +kernel
theorem dX4_digest_45 : decode cX4_digest 45 = .ok (.iload_n 3, 1) := by decide +kernel
theorem dX4_digest_46 : decode cX4_digest 46 = .ok (.bipush 8, 2) := by decide +kernel
theorem dX4_digest_48 : decode cX4_digest 48 = .ok (.if_icmp .ge 35, 3) := by decide +kernel
theorem dX4_digest_51 : decode cX4_digest 51 = .ok (.ldc2_w 164, 3) := by decide +kernel
theorem dX4_digest_54 : decode cX4_digest 54 = .ok (.lload_n 1, 1) := by decide +kernel
theorem dX4_digest_55 : decode cX4_digest 55 = .ok (.lmul, 1) := by decide +kernel
theorem dX4_digest_56 : decode cX4_digest 56 = .ok (.aload_n 0, 1) := by decide +kernel
theorem dX4_digest_57 : decode cX4_digest 57 = .ok (.getfield 20, 3) := by decide +kernel
theorem dX4_digest_60 : decode cX4_digest 60 = .ok (.iload_n 3, 1) := by decide +kernel
theorem dX4_digest_61 : decode cX4_digest 61 = .ok (.laload, 1) := by decide +kernel
theorem dX4_digest_62 : decode cX4_digest 62 = .ok (.ladd, 1) := by decide +kernel
theorem dX4_digest_63 : decode cX4_digest 63 = .ok (.lstore_n 1, 1) := by decide +kernel
theorem dX4_digest_64 : decode cX4_digest 64 = .ok (.ldc2_w 164, 3) := by decide +kernel
theorem dX4_digest_67 : decode cX4_digest 67 = .ok (.lload_n 1, 1) := by decide +kernel
theorem dX4_digest_68 : decode cX4_digest 68 = .ok (.lmul, 1) := by decide +kernel
theorem dX4_digest_69 : decode cX4_digest 69 = .ok (.aload_n 0, 1) := by decide +kernel
theorem dX4_digest_70 : decode cX4_digest 70 = .ok (.getfield 23, 3) := by decide +kernel
theorem dX4_digest_73 : decode cX4_digest 73 = .ok (.iload_n 3, 1) := by decide +kernel
theorem dX4_digest_74 : decode cX4_digest 74 = .ok (.laload, 1) := by decide +kernel
theorem dX4_digest_75 : decode cX4_digest 75 = .ok (.ladd, 1) := by decide +kernel
theorem dX4_digest_76 : decode cX4_digest 76 = .ok (.lstore_n 1, 1) := by decide +kernel
theorem dX4_digest_77 : decode cX4_digest 77 = .ok (.iinc 3 1, 3) := by decide +kernel
theorem dX4_digest_80 : decode cX4_digest 80 = .ok (.goto (-35), 3) := by decide +kernel
theorem dX4_digest_83 : decode cX4_digest 83 = .ok (.lload_n 1, 1) := by decide +kernel
theorem dX4_digest_84 : decode cX4_digest 84 = .ok (.lreturn, 1) := by decide +kernel
