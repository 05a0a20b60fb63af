theorem dX10_drawn_20 : decode cX10_drawn 20 = .ok (.putfield 159, 3) := by decide +kernel
theorem dX10_drawn_23 : decode cX10_drawn 23 = .ok (.aload_n 0, 1) := by decide +kernel
theorem dX10_drawn_24 : decode cX10_drawn 24 = .ok (.getfield 30, 3) := by decide +kernel
theorem dX10_drawn_27 : decode cX10_drawn 27 = .ok (.iload_n 1, 1) := by decide +kernel
theorem dX10_drawn_28 : decode cX10_drawn 28 = .ok (.iconst 1, 1) := by decide +kernel
theorem dX10_drawn_29 : decode cX10_drawn 29 = .ok (.invokevirtual 151, 3) := by decide +kernel
theorem dX10_drawn_32 : decode cX10_drawn 32 = .ok (.invokestatic 155, 3) := by decide +kernel
theorem dX10_drawn_35 : decode cX10_drawn 35 = .ok (.lreturn, 1) := by decide +kernel
set_option maxRecDepth 20000 in
theorem ggX10_within_X5_has : GoodIn wsX10_within wsX5_has := goodIn_r _ [9, 10, 75, 76, 77, 78, 79, 80, 81, 82, 83] (by decide +kernel) (by decide +kernel)
set_option maxRecDepth 20000 in
theorem gX10_within_X5_has : GoodIn wsX10_within (wsV RX10 106 RX5 yX5_has wsX5_has) := goodIn_app (goodIn_of _ (by decide +kernel)) ggX10_within_X5_has
set_option maxRecDepth 20000 in
theorem ggX10_within_X10_isIn : GoodIn wsX10_within wsX10_isIn := goodIn_r _ [14] (by decide +kernel) (by decide +kernel)
set_option maxRecDepth 20000 in
theorem gX10_within_X10_isIn : GoodIn wsX10_within (va_wsS RX10 86 yX10_isIn wsX10_isIn) := goodIn_app (goodIn_of _ (by decide +kernel)) ggX10_within_X10_isIn
set_option maxRecDepth 20000 in
theorem ggX10_within_X10_isWish : GoodIn wsX10_within wsX10_isWish := goodIn_r _ [17, 11, 12, 13, 14] (by decide +kernel) (by decide +kernel)
set_option maxRecDepth 20000 in
theorem gX10_within_X10_isWish : GoodIn wsX10_within (va_wsS RX10 163 yX10_isWish wsX10_isWish) := goodIn_app (goodIn_of _ (by decide +kernel)) ggX10_within_X10_isWish
set_option maxRecDepth 20000 in
theorem ggX10_within_X4_floatOf : GoodIn wsX10_within wsX4_floatOf := goodIn_r _ [22, 23, 24, 25, 26, 27, 28, 29, 30, 31, 32, 21, 33, 34, 35, 36, 37, 38, 39, 40, 41, 42, 43, 44, 45, 46, 47, 48, 49, 50, 51, 52, 53, 54, 55, 66, 67, 68, 69, 70, 71, 72, 73, 74, 84, 85, 86, 87, 88, 89, 75, 76, 77, 78, 79, 80, 81, 82, 83] (by decide +kernel) (by decide +kernel)
set_option maxRecDepth 20000 in
theorem gX10_within_X4_floatOf : GoodIn wsX10_within (wsV RX10 151 RX4 yX4_floatOf wsX4_floatOf) := goodIn_app (goodIn_of _ (by decide +kernel)) ggX10_within_X4_floatOf
theorem dX10_within_0 : decode cX10_within 0 = .ok (.aload_n 0, 1) := by decide +kernel
theorem dX10_within_1 : decode cX10_within 1 = .ok (.getfield 21, 3) := by decide +kernel
theorem dX10_within_4 : decode cX10_within 4 = .ok (.iload_n 1, 1) := by decide +kernel
theorem dX10_within_5 : decode cX10_within 5 = .ok (.invokevirtual 106, 3) := by decide +kernel
theorem dX10_within_8 : decode cX10_within 8 = .ok (.ifCond .eq 34, 3) := by decide +kernel
theorem dX10_within_11 : decode cX10_within 11 = .ok (.iload_n 3, 1) := by decide +kernel
theorem dX10_within_12 : decode cX10_within 12 = .ok (.iconst 1, 1) := by decide +kernel
theorem dX10_within_13 : decode cX10_within 13 = .ok (.bipush 30, 2) := by decide +kernel
theorem dX10_within_15 : decode cX10_within 15 = .ok (.invokestatic 86, 3) := by decide +kernel
theorem dX10_within_18 : decode cX10_within 18 = .ok (.ifCond .eq 24, 3) := by decide +kernel
theorem dX10_within_21 : decode cX10_within 21 = .ok (.iload 4, 2) := by decide +kernel
theorem dX10_within_23 : decode cX10_within 23 = .ok (.iload 5, 2) := by decide +kernel
theorem dX10_within_25 : decode cX10_within 25 = .ok (.invokestatic 163, 3) := by decide +kernel
theorem dX10_within_28 : decode cX10_within 28 = .ok (.ifCond .eq 14, 3) := by decide +kernel
theorem dX10_within_31 : decode cX10_within 31 = .ok (.iload 6, 2) := by decide +kernel
theorem dX10_within_33 : decode cX10_within 33 = .ok (.iconst 0, 1) := by decide +kernel
theorem dX10_within_34 : decode cX10_within 34 = .ok (.bipush 99, 2) := by decide +kernel
theorem dX10_within_36 : decode cX10_within 36 = .ok (.invokestatic 86, 3) := by decide +kernel
theorem dX10_within_39 : decode cX10_within 39 = .ok (.ifCond .ne 5, 3) := by decide +kernel
theorem dX10_within_42 : decode cX10_within 42 = .ok (.iconst (-1), 1) := by decide +kernel
theorem dX10_within_43 : decode cX10_within 43 = .ok (.ireturn, 1) := by decide +kernel
theorem dX10_within_44 : decode cX10_within 44 = .ok (.iload 4, 2) := by decide +kernel
theorem dX10_within_46 : decode cX10_within 46 = .ok (.i2f, 1) := by decide +kernel
theorem dX10_within_47 : decode cX10_within 47 = .ok (.iload 5, 2) := by decide +kernel
theorem dX10_within_49 : decode cX10_within 49 = .ok (.i2f, 1) := by decide +kernel
theorem dX10_within_50 : decode cX10_within 50 = .ok (.fdiv, 1) := by decide +kernel
theorem dX10_within_51 : decode cX10_within 51 = .ok (.fstore 7, 2) := by decide +kernel
theorem dX10_within_53 : decode cX10_within 53 = .ok (.iconst 0, 1) := by decide +kernel
theorem dX10_within_54 : decode cX10_within 54 = .ok (.istore 8, 2) := by decide +kernel
theorem dX10_within_56 : decode cX10_within 56 = .ok (.aload_n 0, 1) := by decide +kernel
theorem dX10_within_57 : decode cX10_within 57 = .ok (.getfield 30, 3) := by decide +kernel
theorem dX10_within_60 : decode cX10_within 60 = .ok (.iload_n 2, 1) := by decide +kernel
theorem dX10_within_61 : decode cX10_within 61 = .ok (.putfield 159, 3) := by decide +kernel
theorem dX10_within_64 : decode cX10_within 64 = .ok (.iconst 0, 1) := by decide +kernel
theorem dX10_within_65 : decode cX10_within 65 = .ok (.istore 9, 2) := by decide +kernel
theorem dX10_within_67 : decode cX10_within 67 = .ok (.iload 9, 2) := by decide +kernel
theorem dX10_within_69 : decode cX10_within 69 = .ok (.iload_n 3, 1) := by decide +kernel
theorem dX10_within_70 : decode cX10_within 70 = .ok (.if_icmp .ge 54, 3) := by decide +kernel
theorem dX10_within_73 : decode cX10_within 73 = .ok (.aload_n 0, 1) := by decide +kernel
theorem dX10_within_74 : decode cX10_within 74 = .ok (.getfield 30, 3) := by decide +kernel
theorem dX10_within_77 : decode cX10_within 77 = .ok (.iload_n 1, 1) := by decide +kernel
theorem dX10_within_78 : decode cX10_within 78 = .ok (.iconst 1, 1) := by decide +kernel
theorem dX10_within_79 : decode cX10_within 79 = .ok (.invokevirtual 151, 3) := by decide +kernel
theorem dX10_within_82 : decode cX10_within 82 = .ok (.fload 7, 2) := by decide +kernel
theorem dX10_within_84 : decode cX10_within 84 = .ok (.fsub, 1) := by decide +kernel
theorem dX10_within_85 : decode cX10_within 85 = .ok (.fstore 10, 2) := by decide +kernel
theorem dX10_within_87 : decode cX10_within 87 = .ok (.fload 10, 2) := by decide +kernel
theorem dX10_within_89 : decode cX10_within 89 = .ok (.fconst 0, 1) := by decide +kernel
theorem dX10_within_90 : decode cX10_within 90 = .ok (.fcmp .g, 1) := by decide +kernel
theorem dX10_within_91 : decode cX10_within 91 = .ok (.ifCond .ge 9, 3) := by decide +kernel
theorem dX10_within_94 : decode cX10_within 94 = .ok (.fconst 0, 1) := by decide +kernel
theorem dX10_within_95 : decode cX10_within 95 = .ok (.fload 10, 2) := by decide +kernel
theorem dX10_within_97 : decode cX10_within 97 = .ok (.fsub, 1) := by decide +kernel
theorem dX10_within_98 : decode cX10_within 98 = .ok (.fstore 10, 2) := by decide +kernel
theorem dX10_within_100 : decode cX10_within 100 = .ok (.fload 10, 2) := by decide +kernel
theorem dX10_within_102 : decode cX10_within 102 = .ok (.ldc 167, 2) := by decide +kernel
theorem dX10_within_104 : decode cX10_within 104 = .ok (.fmul, 1) := by decide +kernel
theorem dX10_within_105 : decode cX10_within 105 = .ok (.fload 7, 2) := by decide +kernel
theorem dX10_within_107 : decode cX10_within 107 = .ok (.iload 6, 2) := by decide +kernel
theorem dX10_within_109 : decode cX10_within 109 = .ok (.i2f, 1) := by decide +kernel
theorem dX10_within_110 : decode cX10_within 110 = .ok (.fmul, 1) := by decide +kernel
theorem dX10_within_111 : decode cX10_within 111 = .ok (.fcmp .g, 1) := by decide +kernel
theorem dX10_within_112 : decode cX10_within 112 = .ok (.ifCond .gt 6, 3) := by decide +kernel
theorem dX10_within_115 : decode cX10_within 115 = .ok (.iinc 8 1, 3) := by decide +kernel
theorem dX10_within_118 : decode cX10_within 118 = .ok (.iinc 9 1, 3) := by decide +kernel
theorem dX10_within_121 : decode cX10_within 121 = .ok (.goto (-54), 3) := by decide +kernel
theorem dX10_within_124 : decode cX10_within 124 = .ok (.iload 8, 2) := by decide +kernel
theorem dX10_within_126 : decode cX10_within 126 = .ok (.ireturn, 1) := by decide +kernel
set_option maxRecDepth 20000 in
theorem ggX10_alike_X5_has : GoodIn wsX10_alike wsX5_has := goodIn_r _ [10, 11, 101, 102, 103, 104, 105, 106, 107, 108, 109] (by decide +kernel) (by decide +kernel)
set_option maxRecDepth 20000 in
theorem gX10_alike_X5_has : GoodIn wsX10_alike (wsV RX10 106 RX5 yX5_has wsX5_has) := goodIn_app (goodIn_of _ (by decide +kernel)) ggX10_alike_X5_has
set_option maxRecDepth 20000 in
theorem ggX10_alike_X4_measure : GoodIn wsX10_alike wsX4_measure := goodIn_r _ [16, 17, 18, 19, 15, 20, 21, 22, 23, 24, 25, 26, 27, 28, 29, 30, 31, 32, 33, 34, 35, 36, 37, 38, 39, 40, 41, 42, 43, 44, 45, 46, 47, 48, 49, 50, 51, 52, 53, 54, 55, 56, 57, 58, 59, 60, 61, 62, 63, 64, 65, 66, 67, 68, 69, 70, 71, 72, 73, 74, 75, 76, 77, 78, 79, 90, 91, 92, 93, 94, 95, 96, 97, 98, 101, 102, 103, 104, 105, 106, 107, 108, 109, 110, 111, 112, 113, 114, 115, 99, 100] (by decide +kernel) (by decide +kernel)
set_option maxRecDepth 20000 in
theorem gX10_alike_X4_measure : GoodIn wsX10_alike (wsV RX10 128 RX4 yX4_measure wsX4_measure) := goodIn_app (goodIn_of _ (by decide +kernel)) ggX10_alike_X4_measure
theorem dX10_alike_0 : decode cX10_alike 0 = .ok (.aload_n 0, 1) := by decide +kernel
theorem dX10_alike_1 : decode cX10_alike 1 = .ok (.getfield 21, 3) := by decide +kernel
theorem dX10_alike_4 : decode cX10_alike 4 = .ok (.iload_n 1, 1) := by decide +kernel
theorem dX10_alike_5 : decode cX10_alike 5 = .ok (.invokevirtual 106, 3) := by decide +kernel
theorem dX10_alike_8 : decode cX10_alike 8 = .ok (.ifCond .eq 14, 3) := by decide +kernel
theorem dX10_alike_11 : decode cX10_alike 11 = .ok (.aload_n 0, 1) := by decide +kernel
theorem dX10_alike_12 : decode cX10_alike 12 = .ok (.getfield 21, 3) := by decide +kernel
theorem dX10_alike_15 : decode cX10_alike 15 = .ok (.iload_n 2, 1) := by decide +kernel
theorem dX10_alike_16 : decode cX10_alike 16 = .ok (.invokevirtual 106, 3) := by decide +kernel
theorem dX10_alike_19 : decode cX10_alike 19 = .ok (.ifCond .ne 5, 3) := by decide +kernel
theorem dX10_alike_22 : decode cX10_alike 22 = .ok (.iconst (-1), 1) := by decide +kernel
theorem dX10_alike_23 : decode cX10_alike 23 = .ok (.ireturn, 1) := by decide +kernel
theorem dX10_alike_24 : decode cX10_alike 24 = .ok (.aload_n 0, 1) := by decide +kernel
theorem dX10_alike_25 : decode cX10_alike 25 = .ok (.getfield 30, 3) := by decide +kernel
theorem dX10_alike_28 : decode cX10_alike 28 = .ok (.iload_n 1, 1) := by decide +kernel
theorem dX10_alike_29 : decode cX10_alike 29 = .ok (.iconst (-1), 1) := by decide +kernel
theorem dX10_alike_30 : decode cX10_alike 30 = .ok (.iconst 0, 1) := by decide +kernel
theorem dX10_alike_31 : decode cX10_alike 31 = .ok (.invokevirtual 128, 3) := by decide +kernel
theorem dX10_alike_34 : decode cX10_alike 34 = .ok (.ifCond .ne 6, 3) := by decide +kernel
theorem dX10_alike_37 : decode cX10_alike 37 = .ok (.bipush (-7), 2) := by decide +kernel
theorem dX10_alike_39 : decode cX10_alike 39 = .ok (.ireturn, 1) := by decide +kernel
theorem dX10_alike_40 : decode cX10_alike 40 = .ok (.aload_n 0, 1) := by decide +kernel
theorem dX10_alike_41 : decode cX10_alike 41 = .ok (.getfield 30, 3) := by decide +kernel
theorem dX10_alike_44 : decode cX10_alike 44 = .ok (.getfield 131, 3) := by decide +kernel
theorem dX10_alike_47 : decode cX10_alike 47 = .ok (.getfield 168, 3) := by decide +kernel
theorem dX10_alike_50 : decode cX10_alike 50 = .ok (.lstore_n 3, 1) := by decide +kernel
theorem dX10_alike_51 : decode cX10_alike 51 = .ok (.aload_n 0, 1) := by decide +kernel
theorem dX10_alike_52 : decode cX10_alike 52 = .ok (.getfield 30, 3) := by decide +kernel
theorem dX10_alike_55 : decode cX10_alike 55 = .ok (.getfield 131, 3) := by decide +kernel
theorem dX10_alike_58 : decode cX10_alike 58 = .ok (.getfield 172, 3) := by decide +kernel
theorem dX10_alike_61 : decode cX10_alike 61 = .ok (.lstore 5, 2) := by decide +kernel
theorem dX10_alike_63 : decode cX10_alike 63 = .ok (.aload_n 0, 1) := by decide +kernel
theorem dX10_alike_64 : decode cX10_alike 64 = .ok (.getfield 30, 3) := by decide +kernel
theorem dX10_alike_67 : decode cX10_alike 67 = .ok (.iload_n 2, 1) := by decide +kernel
theorem dX10_alike_68 : decode cX10_alike 68 = .ok (.iconst (-1), 1) := by decide +kernel
theorem dX10_alike_69 : decode cX10_alike 69 = .ok (.iconst 0, 1) := by decide +kernel
theorem dX10_alike_70 : decode cX10_alike 70 = .ok (.invokevirtual 128, 3) := by decide +kernel
theorem dX10_alike_73 : decode cX10_alike 73 = .ok (.ifCond .ne 6, 3) := by decide +kernel
theorem dX10_alike_76 : decode cX10_alike 76 = .ok (.bipush (-7), 2) := by decide +kernel
theorem dX10_alike_78 : decode cX10_alike 78 = .ok (.ireturn, 1) := by decide +kernel
theorem dX10_alike_79 : decode cX10_alike 79 = .ok (.lload_n 3, 1) := by decide +kernel
theorem dX10_alike_80 : decode cX10_alike 80 = .ok (.aload_n 0, 1) := by decide +kernel
theorem dX10_alike_81 : decode cX10_alike 81 = .ok (.getfield 30, 3) := by decide +kernel
theorem dX10_alike_84 : decode cX10_alike 84 = .ok (.getfield 131, 3) := by decide +kernel
theorem dX10_alike_87 : decode cX10_alike 87 = .ok (.getfield 168, 3) := by decide +kernel
theorem dX10_alike_90 : decode cX10_alike 90 = .ok (.lcmp, 1) := by decide +kernel
theorem dX10_alike_91 : decode cX10_alike 91 = .ok (.ifCond .ne 23, 3) := by decide +kernel
theorem dX10_alike_94 : decode cX10_alike 94 = .ok (.lload 5, 2) := by decide +kernel
theorem dX10_alike_96 : decode cX10_alike 96 = .ok (.aload_n 0, 1) := by decide +kernel
theorem dX10_alike_97 : decode cX10_alike 97 = .ok (.getfield 30, 3) := by decide +kernel
theorem dX10_alike_100 : decode cX10_alike 100 = .ok (.getfield 131, 3) := by decide +kernel
theorem dX10_alike_103 : decode cX10_alike 103 = .ok (.getfield 172, 3) := by decide +kernel
theorem dX10_alike_106 : decode cX10_alike 106 = .ok (.lcmp, 1) := by decide +kernel
theorem dX10_alike_107 : decode cX10_alike 107 = .ok (.ifCond .ne 7, 3) := by decide +kernel
theorem dX10_alike_110 : decode cX10_alike 110 = .ok (.iconst 1, 1) := by decide +kernel
theorem dX10_alike_111 : decode cX10_alike 111 = .ok (.goto 4, 3) := by decide +kernel
theorem dX10_alike_114 : decode cX10_alike 114 = .ok (.iconst 0, 1) := by decide +kernel
theorem dX10_alike_115 : decode cX10_alike 115 = .ok (.ireturn, 1) := by decide +kernel
set_option maxRecDepth 20000 in
theorem ggX10_turned_X5_has : GoodIn wsX10_turned wsX5_has := goodIn_r _ [6, 7, 30, 31, 32, 33, 34, 35, 36, 37, 38] (by decide +kernel) (by decide +kernel)
set_option maxRecDepth 20000 in
theorem gX10_turned_X5_has : GoodIn wsX10_turned (wsV RX10 106 RX5 yX5_has wsX5_has) := goodIn_app (goodIn_of _ (by decide +kernel)) ggX10_turned_X5_has
set_option maxRecDepth 20000 in
theorem ggX10_turned_X5_areTurned : GoodIn wsX10_turned wsX5_areTurned := goodIn_r _ [11, 7, 12, 13, 14, 15, 5, 16, 17, 18, 19, 30, 31, 32, 33, 34, 35, 36, 37, 38] (by decide +kernel) (by decide +kernel)
set_option maxRecDepth 20000 in
theorem gX10_turned_X5_areTurned : GoodIn wsX10_turned (wsV RX10 175 RX5 yX5_areTurned wsX5_areTurned) := goodIn_app (goodIn_of _ (by decide +kernel)) ggX10_turned_X5_areTurned
theorem dX10_turned_0 : decode cX10_turned 0 = .ok (.aload_n 0, 1) := by decide +kernel
theorem dX10_turned_1 : decode cX10_turned 1 = .ok (.getfield 21, 3) := by decide +kernel
theorem dX10_turned_4 : decode cX10_turned 4 = .ok (.iload_n 1, 1) := by decide +kernel
theorem dX10_turned_5 : decode cX10_turned 5 = .ok (.invokevirtual 106, 3) := by decide +kernel
theorem dX10_turned_8 : decode cX10_turned 8 = .ok (.ifCond .eq 14, 3) := by decide +kernel
theorem dX10_turned_11 : decode cX10_turned 11 = .ok (.aload_n 0, 1) := by decide +kernel
theorem dX10_turned_12 : decode cX10_turned 12 = .ok (.getfield 21, 3) := by decide +kernel
theorem dX10_turned_15 : decode cX10_turned 15 = .ok (.iload_n 2, 1) := by decide +kernel
theorem dX10_turned_16 : decode cX10_turned 16 = .ok (.invokevirtual 106, 3) := by decide +kernel
theorem dX10_turned_19 : decode cX10_turned 19 = .ok (.ifCond .ne 5, 3) := by decide +kernel
theorem dX10_turned_22 : decode cX10_turned 22 = .ok (.iconst (-1), 1) := by decide +kernel
theorem dX10_turned_23 : decode cX10_turned 23 = .ok (.ireturn, 1) := by decide +kernel
theorem dX10_turned_24 : decode cX10_turned 24 = .ok (.aload_n 0, 1) := by decide +kernel
theorem dX10_turned_25 : decode cX10_turned 25 = .ok (.getfield 21, 3) := by decide +kernel
theorem dX10_turned_28 : decode cX10_turned 28 = .ok (.iload_n 1, 1) := by decide +kernel
theorem dX10_turned_29 : decode cX10_turned 29 = .ok (.iload_n 2, 1) := by decide +kernel
theorem dX10_turned_30 : decode cX10_turned 30 = .ok (.invokevirtual 175, 3) := by decide +kernel
theorem dX10_turned_33 : decode cX10_turned 33 = .ok (.ifCond .eq 7, 3) := by decide +kernel
theorem dX10_turned_36 : decode cX10_turned 36 = .ok (.iconst 1, 1) := by decide +kernel
theorem dX10_turned_37 : decode cX10_turned 37 = .ok (.goto 4, 3) := by decide +kernel
theorem dX10_turned_40 : decode cX10_turned 40 = .ok (.iconst 0, 1) := by decide +kernel
theorem dX10_turned_41 : decode cX10_turned 41 = .ok (.ireturn, 1) := by decide +kernel
set_option maxRecDepth 20000 in
theorem ggX10_fails_X5_has : GoodIn wsX10_fails wsX5_has := goodIn_r _ [11, 12, 98, 99, 100, 101, 102, 103, 104, 105, 106] (by decide +kernel) (by decide +kernel)
set_option maxRecDepth 20000 in
theorem gX10_fails_X5_has : GoodIn wsX10_fails (wsV RX10 106 RX5 yX5_has wsX5_has) := goodIn_app (goodIn_of _ (by decide +kernel)) ggX10_fails_X5_has
set_option maxRecDepth 20000 in
theorem ggX10_fails_X10_isIn : GoodIn wsX10_fails wsX10_isIn := goodIn_r _ [16] (by decide +kernel) (by decide +kernel)
set_option maxRecDepth 20000 in
theorem gX10_fails_X10_isIn : GoodIn wsX10_fails (va_wsS RX10 86 yX10_isIn wsX10_isIn) := goodIn_app (goodIn_of _ (by decide +kernel)) ggX10_fails_X10_isIn
set_option maxRecDepth 20000 in
theorem ggX10_fails_X4_measure : GoodIn wsX10_fails wsX4_measure := goodIn_r _ [21, 22, 23, 24, 20, 25, 26, 27, 28, 29, 30, 31, 32, 33, 34, 35, 36, 37, 38, 39, 40, 41, 42, 43, 44, 45, 46, 47, 48, 49, 50, 51, 52, 53, 54, 55, 56, 57, 58, 59, 60, 61, 62, 63, 15, 64, 65, 66, 67, 68, 69, 70, 71, 72, 73, 74, 75, 76, 77, 78, 79, 80, 81, 82, 83, 107, 108, 109, 110, 111, 112, 113, 114, 115, 98, 99, 100, 101, 102, 103, 104, 105, 106, 116, 117, 118, 119, 120, 121, 122, 123] (by decide +kernel) (by decide +kernel)
set_option maxRecDepth 20000 in
theorem gX10_fails_X4_measure : GoodIn wsX10_fails (wsV RX10 128 RX4 yX4_measure wsX4_measure) := goodIn_app (goodIn_of _ (by decide +kernel)) ggX10_fails_X4_measure
set_option maxRecDepth 20000 in
theorem ggX10_fails_X1_side : GoodIn wsX10_fails wsX1_side := goodIn_r _ [87, 61, 62, 122, 123] (by decide +kernel) (by decide +kernel)
set_option maxRecDepth 20000 in
theorem gX10_fails_X1_side : GoodIn wsX10_fails (wsV RX10 135 RX1 yX1_side wsX1_side) := goodIn_app (goodIn_of _ (by decide +kernel)) ggX10_fails_X1_side
theorem dX10_fails_0 : decode cX10_fails 0 = .ok (.aload_n 0, 1) := by decide +kernel
theorem dX10_fails_1 : decode cX10_fails 1 = .ok (.getfield 21, 3) := by decide +kernel
theorem dX10_fails_4 : decode cX10_fails 4 = .ok (.iload_n 1, 1) := by decide +kernel
theorem dX10_fails_5 : decode cX10_fails 5 = .ok (.invokevirtual 106, 3) := by decide +kernel
theorem dX10_fails_8 : decode cX10_fails 8 = .ok (.ifCond .eq 39, 3) := by decide +kernel
theorem dX10_fails_11 : decode cX10_fails 11 = .ok (.iload_n 2, 1) := by decide +kernel
theorem dX10_fails_12 : decode cX10_fails 12 = .ok (.ifCond .lt 35, 3) := by decide +kernel
theorem dX10_fails_15 : decode cX10_fails 15 = .ok (.iload_n 2, 1) := by decide +kernel
theorem dX10_fails_16 : decode cX10_fails 16 = .ok (.aload_n 0, 1) := by decide +kernel
theorem dX10_fails_17 : decode cX10_fails 17 = .ok (.getfield 21, 3) := by decide +kernel
theorem dX10_fails_20 : decode cX10_fails 20 = .ok (.getfield 120, 3) := by decide +kernel
theorem dX10_fails_23 : decode cX10_fails 23 = .ok (.iload_n 1, 1) := by decide +kernel
theorem dX10_fails_24 : decode cX10_fails 24 = .ok (.iaload, 1) := by decide +kernel
theorem dX10_fails_25 : decode cX10_fails 25 = .ok (.if_icmp .ge 22, 3) := by decide +kernel
theorem dX10_fails_28 : decode cX10_fails 28 = .ok (.iload_n 3, 1) := by decide +kernel
theorem dX10_fails_29 : decode cX10_fails 29 = .ok (.iconst 0, 1) := by decide +kernel
theorem dX10_fails_30 : decode cX10_fails 30 = .ok (.iconst 1, 1) := by decide +kernel
theorem dX10_fails_31 : decode cX10_fails 31 = .ok (.invokestatic 86, 3) := by decide +kernel
theorem dX10_fails_34 : decode cX10_fails 34 = .ok (.ifCond .eq 13, 3) := by decide +kernel
theorem dX10_fails_37 : decode cX10_fails 37 = .ok (.iload 4, 2) := by decide +kernel
theorem dX10_fails_39 : decode cX10_fails 39 = .ok (.iconst 0, 1) := by decide +kernel
theorem dX10_fails_40 : decode cX10_fails 40 = .ok (.iconst 1, 1) := by decide +kernel
theorem dX10_fails_41 : decode cX10_fails 41 = .ok (.invokestatic 86, 3) := by decide +kernel
theorem dX10_fails_44 : decode cX10_fails 44 = .ok (.ifCond .ne 7, 3) := by decide +kernel
theorem dX10_fails_47 : decode cX10_fails 47 = .ok (.ldc2_w 126, 3) := by decide +kernel
theorem dX10_fails_50 : decode cX10_fails 50 = .ok (.lreturn, 1) := by decide +kernel
theorem dX10_fails_51 : decode cX10_fails 51 = .ok (.aload_n 0, 1) := by decide +kernel
theorem dX10_fails_52 : decode cX10_fails 52 = .ok (.getfield 30, 3) := by decide +kernel
theorem dX10_fails_55 : decode cX10_fails 55 = .ok (.iload_n 1, 1) := by decide +kernel
theorem dX10_fails_56 : decode cX10_fails 56 = .ok (.iload_n 2, 1) := by decide +kernel
theorem dX10_fails_57 : decode cX10_fails 57 = .ok (.iload_n 3, 1) := by decide +kernel
theorem dX10_fails_58 : decode cX10_fails 58 = .ok (.invokevirtual 128, 3) := by decide +kernel
theorem dX10_fails_61 : decode cX10_fails 61 = .ok (.ifCond .eq 18, 3) := by decide +kernel
theorem dX10_fails_64 : decode cX10_fails 64 = .ok (.aload_n 0, 1) := by decide +kernel
theorem dX10_fails_65 : decode cX10_fails 65 = .ok (.getfield 30, 3) := by decide +kernel
theorem dX10_fails_68 : decode cX10_fails 68 = .ok (.getfield 131, 3) := by decide +kernel
theorem dX10_fails_71 : decode cX10_fails 71 = .ok (.iload 4, 2) := by decide +kernel
theorem dX10_fails_73 : decode cX10_fails 73 = .ok (.invokevirtual 135, 3) := by decide +kernel
theorem dX10_fails_76 : decode cX10_fails 76 = .ok (.goto 6, 3) := by decide +kernel
theorem dX10_fails_79 : decode cX10_fails 79 = .ok (.ldc2_w 141, 3) := by decide +kernel
theorem dX10_fails_82 : decode cX10_fails 82 = .ok (.lreturn, 1) := by decide +kernel
set_option maxRecDepth 20000 in
theorem ggX10_worst_X5_has : GoodIn wsX10_worst wsX5_has := goodIn_r _ [7, 8, 95, 96, 97, 98, 99, 100, 101, 102, 103] (by decide +kernel) (by decide +kernel)
set_option maxRecDepth 20000 in
theorem gX10_worst_X5_has : GoodIn wsX10_worst (wsV RX10 106 RX5 yX5_has wsX5_has) := goodIn_app (goodIn_of _ (by decide +kernel)) ggX10_worst_X5_has
set_option maxRecDepth 20000 in
theorem ggX10_worst_X10_isIn : GoodIn wsX10_worst wsX10_isIn := goodIn_r _ [12] (by decide +kernel) (by decide +kernel)
set_option maxRecDepth 20000 in
theorem gX10_worst_X10_isIn : GoodIn wsX10_worst (va_wsS RX10 86 yX10_isIn wsX10_isIn) := goodIn_app (goodIn_of _ (by decide +kernel)) ggX10_worst_X10_isIn
set_option maxRecDepth 20000 in
theorem ggX10_worst_X4_worstPlace : GoodIn wsX10_worst wsX4_worstPlace := goodIn_r _ [17, 18, 19, 20, 21, 22, 23, 24, 16, 25, 26, 27, 28, 29, 30, 31, 32, 33, 34, 35, 36, 37, 38, 39, 40, 41, 42, 43, 44, 45, 46, 47, 48, 49, 50, 51, 52, 53, 54, 55, 56, 57, 58, 59, 60, 11, 61, 62, 63, 64, 65, 66, 67, 68, 69, 70, 71, 72, 73, 74, 75, 76, 77, 78, 79, 80, 81, 82, 83, 84, 104, 105, 106, 107, 108, 109, 110, 111, 112, 95, 96, 97, 98, 99, 100, 101, 102, 103, 113, 114, 115, 116, 117, 118, 119, 120] (by decide +kernel) (by decide +kernel)
set_option maxRecDepth 20000 in
theorem gX10_worst_X4_worstPlace : GoodIn wsX10_worst (wsV RX10 178 RX4 yX4_worstPlace wsX4_worstPlace) := goodIn_app (goodIn_of _ (by decide +kernel)) ggX10_worst_X4_worstPlace
theorem dX10_worst_0 : decode cX10_worst 0 = .ok (.aload_n 0, 1) := by decide +kernel
theorem dX10_worst_1 : decode cX10_worst 1 = .ok (.getfield 21, 3) := by decide +kernel
theorem dX10_worst_4 : decode cX10_worst 4 = .ok (.iload_n 1, 1) := by decide +kernel
theorem dX10_worst_5 : decode cX10_worst 5 = .ok (.invokevirtual 106, 3) := by decide +kernel
theorem dX10_worst_8 : decode cX10_worst 8 = .ok (.ifCond .eq 12, 3) := by decide +kernel
theorem dX10_worst_11 : decode cX10_worst 11 = .ok (.iload_n 2, 1) := by decide +kernel
theorem dX10_worst_12 : decode cX10_worst 12 = .ok (.iconst 0, 1) := by decide +kernel
theorem dX10_worst_13 : decode cX10_worst 13 = .ok (.iconst 1, 1) := by decide +kernel
theorem dX10_worst_14 : decode cX10_worst 14 = .ok (.invokestatic 86, 3) := by decide +kernel
theorem dX10_worst_17 : decode cX10_worst 17 = .ok (.ifCond .ne 5, 3) := by decide +kernel
theorem dX10_worst_20 : decode cX10_worst 20 = .ok (.iconst (-1), 1) := by decide +kernel
theorem dX10_worst_21 : decode cX10_worst 21 = .ok (.ireturn, 1) := by decide +kernel
theorem dX10_worst_22 : decode cX10_worst 22 = .ok (.aload_n 0, 1) := by decide +kernel
theorem dX10_worst_23 : decode cX10_worst 23 = .ok (.getfield 30, 3) := by decide +kernel
theorem dX10_worst_26 : decode cX10_worst 26 = .ok (.iload_n 1, 1) := by decide +kernel
theorem dX10_worst_27 : decode cX10_worst 27 = .ok (.iload_n 2, 1) := by decide +kernel
theorem dX10_worst_28 : decode cX10_worst 28 = .ok (.invokevirtual 178, 3) := by decide +kernel
theorem dX10_worst_31 : decode cX10_worst 31 = .ok (.ireturn, 1) := by decide +kernel
set_option maxRecDepth 20000 in
theorem ggX10_feed_X10_isIn : GoodIn wsX10_feed wsX10_isIn := goodIn_r _ [5] (by decide +kernel) (by decide +kernel)
set_option maxRecDepth 20000 in
theorem gX10_feed_X10_isIn : GoodIn wsX10_feed (va_wsS RX10 86 yX10_isIn wsX10_isIn) := goodIn_app (goodIn_of _ (by decide +kernel)) ggX10_feed_X10_isIn
set_option maxRecDepth 20000 in
theorem ggX10_feed_X8_take : GoodIn wsX10_feed wsX8_take := goodIn_r _ [10, 11, 12, 23, 24, 25] (by decide +kernel) (by decide +kernel)
set_option maxRecDepth 20000 in
theorem gX10_feed_X8_take : GoodIn wsX10_feed (wsV RX10 182 RX8 yX8_take wsX8_take) := goodIn_app (goodIn_of _ (by decide +kernel)) ggX10_feed_X8_take
theorem dX10_feed_0 : decode cX10_feed 0 = .ok (.iload_n 1, 1) := by decide +kernel
theorem dX10_feed_1 : decode cX10_feed 1 = .ok (.bipush 32, 2) := by decide +kernel
theorem dX10_feed_3 : decode cX10_feed 3 = .ok (.bipush 126, 2) := by decide +kernel
theorem dX10_feed_5 : decode cX10_feed 5 = .ok (.invokestatic 86, 3) := by decide +kernel
theorem dX10_feed_8 : decode cX10_feed 8 = .ok (.ifCond .eq 14, 3) := by decide +kernel
theorem dX10_feed_11 : decode cX10_feed 11 = .ok (.aload_n 0, 1) := by decide +kernel
theorem dX10_feed_12 : decode cX10_feed 12 = .ok (.getfield 37, 3) := by decide +kernel
theorem dX10_feed_15 : decode cX10_feed 15 = .ok (.iload_n 1, 1) := by decide +kernel
theorem dX10_feed_16 : decode cX10_feed 16 = .ok (.invokevirtual 182, 3) := by decide +kernel
theorem dX10_feed_19 : decode cX10_feed 19 = .ok (.goto 4, 3) := by decide +kernel
theorem dX10_feed_22 : decode cX10_feed 22 = .ok (.iconst (-1), 1) := by decide +kernel
theorem dX10_feed_23 : decode cX10_feed 23 = .ok (.ireturn, 1) := by decide +kernel
set_option maxRecDepth 20000 in
theorem ggX10_read_X8_faultOrPlan : GoodIn wsX10_read wsX8_faultOrPlan := goodIn_r _ [10, 11, 12, 13, 14, 15, 16, 17, 18, 19, 20, 21, 22, 23, 24, 25, 26, 27, 28, 29, 30, 31, 32, 33, 9, 34, 82, 83, 84, 85, 79, 80, 81, 86, 87] (by decide +kernel) (by decide +kernel)
set_option maxRecDepth 20000 in
theorem gX10_read_X8_faultOrPlan : GoodIn wsX10_read (wsV RX10 185 RX8 yX8_faultOrPlan wsX8_faultOrPlan) := goodIn_app (goodIn_of _ (by decide +kernel)) ggX10_read_X8_faultOrPlan
set_option maxRecDepth 20000 in
theorem ggX10_read_X5_keepPlan : GoodIn wsX10_read wsX5_keepPlan := goodIn_r _ [39, 40, 41, 42, 43, 44, 45, 46, 38, 47, 48, 49, 50, 51, 52, 53, 54, 55, 56, 57, 58, 59, 60, 61, 62, 63, 64, 65, 66, 67, 68, 82, 83, 84, 85, 88, 89, 90, 91, 92, 93, 94, 95, 96] (by decide +kernel) (by decide +kernel)
set_option maxRecDepth 20000 in
theorem gX10_read_X5_keepPlan : GoodIn wsX10_read (wsV RX10 192 RX5 yX5_keepPlan wsX5_keepPlan) := goodIn_app (goodIn_of _ (by decide +kernel)) ggX10_read_X5_keepPlan
theorem dX10_read_0 : decode cX10_read 0 = .ok (.aload_n 0, 1) := by decide +kernel
theorem dX10_read_1 : decode cX10_read 1 = .ok (.getfield 37, 3) := by decide +kernel
theorem dX10_read_4 : decode cX10_read 4 = .ok (.aload_n 0, 1) := by decide +kernel
theorem dX10_read_5 : decode cX10_read 5 = .ok (.getfield 14, 3) := by decide +kernel
theorem dX10_read_8 : decode cX10_read 8 = .ok (.aload_n 0, 1) := by decide +kernel
theorem dX10_read_9 : decode cX10_read 9 = .ok (.getfield 44, 3) := by decide +kernel
theorem dX10_read_12 : decode cX10_read 12 = .ok (.invokevirtual 185, 3) := by decide +kernel
theorem dX10_read_15 : decode cX10_read 15 = .ok (.istore_n 1, 1) := by decide +kernel
theorem dX10_read_16 : decode cX10_read 16 = .ok (.aload_n 0, 1) := by decide +kernel
theorem dX10_read_17 : decode cX10_read 17 = .ok (.getfield 37, 3) := by decide +kernel
theorem dX10_read_20 : decode cX10_read 20 = .ok (.iconst 0, 1) := by decide +kernel
theorem dX10_read_21 : decode cX10_read 21 = .ok (.putfield 189, 3) := by decide +kernel
theorem dX10_read_24 : decode cX10_read 24 = .ok (.iload_n 1, 1) := by decide +kernel
theorem dX10_read_25 : decode cX10_read 25 = .ok (.iconst (-1), 1) := by decide +kernel
theorem dX10_read_26 : decode cX10_read 26 = .ok (.if_icmp .ne 17, 3) := by decide +kernel
theorem dX10_read_29 : decode cX10_read 29 = .ok (.aload_n 0, 1) := by decide +kernel
theorem dX10_read_30 : decode cX10_read 30 = .ok (.getfield 21, 3) := by decide +kernel
theorem dX10_read_33 : decode cX10_read 33 = .ok (.aload_n 0, 1) := by decide +kernel
theorem dX10_read_34 : decode cX10_read 34 = .ok (.getfield 44, 3) := by decide +kernel
theorem dX10_read_37 : decode cX10_read 37 = .ok (.invokevirtual 192, 3) := by decide +kernel
theorem dX10_read_40 : decode cX10_read 40 = .ok (.goto 7, 3) := by decide +kernel
theorem dX10_read_43 : decode cX10_read 43 = .ok (.bipush (-100), 2) := by decide +kernel
theorem dX10_read_45 : decode cX10_read 45 = .ok (.iload_n 1, 1) := by decide +kernel
theorem dX10_read_46 : decode cX10_read 46 = .ok (.isub, 1) := by decide +kernel
theorem dX10_read_47 : decode cX10_read 47 = .ok (.ireturn, 1) := by decide +kernel
set_option maxRecDepth 20000 in
theorem ggX10_print_X5_has : GoodIn wsX10_print wsX5_has := goodIn_r _ [7, 8, 32, 33, 34, 35, 36, 37, 38, 39, 40] (by decide +kernel) (by decide +kernel)
set_option maxRecDepth 20000 in
theorem gX10_print_X5_has : GoodIn wsX10_print (wsV RX10 106 RX5 yX5_has wsX5_has) := goodIn_app (goodIn_of _ (by decide +kernel)) ggX10_print_X5_has
set_option maxRecDepth 20000 in
theorem ggX10_print_X5_spell : GoodIn wsX10_print wsX5_spell := goodIn_r _ [12, 13, 14, 15, 16, 17, 18, 19, 6, 20, 21, 32, 33, 34, 35, 36, 37, 38, 39, 40] (by decide +kernel) (by decide +kernel)
set_option maxRecDepth 20000 in
theorem gX10_print_X5_spell : GoodIn wsX10_print (wsV RX10 196 RX5 yX5_spell wsX5_spell) := goodIn_app (goodIn_of _ (by decide +kernel)) ggX10_print_X5_spell
theorem dX10_print_0 : decode cX10_print 0 = .ok (.aload_n 0, 1) := by decide +kernel
theorem dX10_print_1 : decode cX10_print 1 = .ok (.getfield 21, 3) := by decide +kernel
theorem dX10_print_4 : decode cX10_print 4 = .ok (.iload_n 1, 1) := by decide +kernel
theorem dX10_print_5 : decode cX10_print 5 = .ok (.invokevirtual 106, 3) := by decide +kernel
theorem dX10_print_8 : decode cX10_print 8 = .ok (.ifCond .eq 8, 3) := by decide +kernel
theorem dX10_print_11 : decode cX10_print 11 = .ok (.iload_n 2, 1) := by decide +kernel
theorem dX10_print_12 : decode cX10_print 12 = .ok (.iconst (-1), 1) := by decide +kernel
theorem dX10_print_13 : decode cX10_print 13 = .ok (.if_icmp .ge 5, 3) := by decide +kernel
theorem dX10_print_16 : decode cX10_print 16 = .ok (.iconst (-1), 1) := by decide +kernel
theorem dX10_print_17 : decode cX10_print 17 = .ok (.ireturn, 1) := by decide +kernel
theorem dX10_print_18 : decode cX10_print 18 = .ok (.aload_n 0, 1) := by decide +kernel
theorem dX10_print_19 : decode cX10_print 19 = .ok (.getfield 21, 3) := by decide +kernel
theorem dX10_print_22 : decode cX10_print 22 = .ok (.iload_n 1, 1) := by decide +kernel
theorem dX10_print_23 : decode cX10_print 23 = .ok (.invokevirtual 196, 3) := by decide +kernel
theorem dX10_print_26 : decode cX10_print 26 = .ok (.istore_n 3, 1) := by decide +kernel
theorem dX10_print_27 : decode cX10_print 27 = .ok (.iload_n 2, 1) := by decide +kernel
theorem dX10_print_28 : decode cX10_print 28 = .ok (.iconst (-1), 1) := by decide +kernel
theorem dX10_print_29 : decode cX10_print 29 = .ok (.if_icmp .ne 5, 3) := by decide +kernel
theorem dX10_print_32 : decode cX10_print 32 = .ok (.iload_n 3, 1) := by decide +kernel
theorem dX10_print_33 : decode cX10_print 33 = .ok (.ireturn, 1) := by decide +kernel
theorem dX10_print_34 : decode cX10_print 34 = .ok (.iload_n 2, 1) := by decide +kernel
theorem dX10_print_35 : decode cX10_print 35 = .ok (.iload_n 3, 1) := by decide +kernel
theorem dX10_print_36 : decode cX10_print 36 = .ok (.if_icmp .ge 27, 3) := by decide +kernel
theorem dX10_print_39 : decode cX10_print 39 = .ok (.iload_n 2, 1) := by decide +kernel
theorem dX10_print_40 : decode cX10_print 40 = .ok (.aload_n 0, 1) := by decide +kernel
theorem dX10_print_41 : decode cX10_print 41 = .ok (.getfield 21, 3) := by decide +kernel
theorem dX10_print_44 : decode cX10_print 44 = .ok (.getfield 199, 3) := by decide +kernel
theorem dX10_print_47 : decode cX10_print 47 = .ok (.arraylength, 1) := by decide +kernel
theorem dX10_print_48 : decode cX10_print 48 = .ok (.if_icmp .ge 15, 3) := by decide +kernel
theorem dX10_print_51 : decode cX10_print 51 = .ok (.aload_n 0, 1) := by decide +kernel
theorem dX10_print_52 : decode cX10_print 52 = .ok (.getfield 21, 3) := by decide +kernel
theorem dX10_print_55 : decode cX10_print 55 = .ok (.getfield 199, 3) := by decide +kernel
theorem dX10_print_58 : decode cX10_print 58 = .ok (.iload_n 2, 1) := by decide +kernel
theorem dX10_print_59 : decode cX10_print 59 = .ok (.iaload, 1) := by decide +kernel
theorem dX10_print_60 : decode cX10_print 60 = .ok (.goto 5, 3) := by decide +kernel
theorem dX10_print_63 : decode cX10_print 63 = .ok (.bipush (-2), 2) := by decide +kernel
theorem dX10_print_65 : decode cX10_print 65 = .ok (.ireturn, 1) := by decide +kernel
set_option maxRecDepth 20000 in
theorem ggX10_reached_X10_isIn : GoodIn wsX10_reached wsX10_isIn := goodIn_r _ [6] (by decide +kernel) (by decide +kernel)
set_option maxRecDepth 20000 in
theorem gX10_reached_X10_isIn : GoodIn wsX10_reached (va_wsS RX10 86 yX10_isIn wsX10_isIn) := goodIn_app (goodIn_of _ (by decide +kernel)) ggX10_reached_X10_isIn
set_option maxRecDepth 20000 in
theorem ggX10_reached_X7_build : GoodIn wsX10_reached wsX7_build := goodIn_r _ [11, 12, 13, 14, 15, 16, 17, 18, 19, 20, 21, 22, 23, 24, 25, 26, 10, 27, 28, 29, 30, 31, 32, 33, 34, 35, 36, 37, 38, 39, 40, 41, 42, 5, 43, 44, 45, 46, 47, 48, 49, 50, 51, 52, 53, 54, 55, 56, 57, 58, 59, 60, 61, 62, 63, 74, 75, 76, 77, 78, 79, 80, 81, 82, 83, 84, 85, 86, 87, 88, 89] (by decide +kernel) (by decide +kernel)
set_option maxRecDepth 20000 in
theorem gX10_reached_X7_build : GoodIn wsX10_reached (wsV RX10 202 RX7 yX7_build wsX7_build) := goodIn_app (goodIn_of _ (by decide +kernel)) ggX10_reached_X7_build
theorem dX10_reached_0 : decode cX10_reached 0 = .ok (.iload_n 1, 1) := by decide +kernel
theorem dX10_reached_1 : decode cX10_reached 1 = .ok (.iconst 1, 1) := by decide +kernel
theorem dX10_reached_2 : decode cX10_reached 2 = .ok (.iconst 4, 1) := by decide +kernel
theorem dX10_reached_3 : decode cX10_reached 3 = .ok (.invokestatic 86, 3) := by decide +kernel
theorem dX10_reached_6 : decode cX10_reached 6 = .ok (.ifCond .ne 5, 3) := by decide +kernel
theorem dX10_reached_9 : decode cX10_reached 9 = .ok (.iconst (-1), 1) := by decide +kernel
theorem dX10_reached_10 : decode cX10_reached 10 = .ok (.ireturn, 1) := by decide +kernel
theorem dX10_reached_11 : decode cX10_reached 11 = .ok (.aload_n 0, 1) := by decide +kernel
theorem dX10_reached_12 : decode cX10_reached 12 = .ok (.getfield 53, 3) := by decide +kernel
theorem dX10_reached_15 : decode cX10_reached 15 = .ok (.iload_n 1, 1) := by decide +kernel
theorem dX10_reached_16 : decode cX10_reached 16 = .ok (.invokevirtual 202, 3) := by decide +kernel
theorem dX10_reached_19 : decode cX10_reached 19 = .ok (.aload_n 0, 1) := by decide +kernel
theorem dX10_reached_20 : decode cX10_reached 20 = .ok (.getfield 53, 3) := by decide +kernel
theorem dX10_reached_23 : decode cX10_reached 23 = .ok (.getfield 206, 3) := by decide +kernel
theorem dX10_reached_26 : decode cX10_reached 26 = .ok (.iload_n 1, 1) := by decide +kernel
theorem dX10_reached_27 : decode cX10_reached 27 = .ok (.iconst 1, 1) := by decide +kernel
theorem dX10_reached_28 : decode cX10_reached 28 = .ok (.iadd, 1) := by decide +kernel
theorem dX10_reached_29 : decode cX10_reached 29 = .ok (.iaload, 1) := by decide +kernel
theorem dX10_reached_30 : decode cX10_reached 30 = .ok (.aload_n 0, 1) := by decide +kernel
theorem dX10_reached_31 : decode cX10_reached 31 = .ok (.getfield 53, 3) := by decide +kernel
theorem dX10_reached_34 : decode cX10_reached 34 = .ok (.getfield 206, 3) := by decide +kernel
theorem dX10_reached_37 : decode cX10_reached 37 = .ok (.iload_n 1, 1) := by decide +kernel
theorem dX10_reached_38 : decode cX10_reached 38 = .ok (.iaload, 1) := by decide +kernel
theorem dX10_reached_39 : decode cX10_reached 39 = .ok (.isub, 1) := by decide +kernel
theorem dX10_reached_40 : decode cX10_reached 40 = .ok (.ireturn, 1) := by decide +kernel
set_option maxRecDepth 20000 in
theorem ggX10_reach_X10_isIn : GoodIn wsX10_reach wsX10_isIn := goodIn_r _ [8] (by decide +kernel) (by decide +kernel)
set_option maxRecDepth 20000 in
theorem gX10_reach_X10_isIn : GoodIn wsX10_reach (va_wsS RX10 86 yX10_isIn wsX10_isIn) := goodIn_app (goodIn_of _ (by decide +kernel)) ggX10_reach_X10_isIn
set_option maxRecDepth 20000 in
theorem ggX10_reach_X7_bySize : GoodIn wsX10_reach wsX7_bySize := goodIn_r _ [13, 14, 15, 16, 17, 18, 19, 12, 20, 21, 22, 23, 24, 25, 26, 27, 28, 29, 30, 31, 32, 33, 34, 35, 36, 37, 38, 39, 40, 41, 42, 43, 44, 45, 46, 47, 48, 49, 7, 50, 51, 52, 53, 54, 55, 56, 57, 58, 59, 60, 61, 62, 63, 64, 65, 66, 67, 68, 69, 70, 71, 72, 73, 74, 75, 76, 77, 78, 79, 80, 81, 82, 83, 84, 85, 86, 87, 102, 103, 104, 105, 106, 107, 108, 109, 110, 111, 112, 113, 114, 115, 116, 117] (by decide +kernel) (by decide +kernel)
set_option maxRecDepth 20000 in
theorem gX10_reach_X7_bySize : GoodIn wsX10_reach (wsV RX10 209 RX7 yX7_bySize wsX7_bySize) := goodIn_app (goodIn_of _ (by decide +kernel)) ggX10_reach_X7_bySize
set_option maxRecDepth 20000 in
theorem ggX10_reach_X7_side : GoodIn wsX10_reach wsX7_side := goodIn_r _ [91, 55, 56, 102, 103, 104, 105, 106, 107, 108, 109, 110, 111, 112, 113, 114, 115] (by decide +kernel) (by decide +kernel)
set_option maxRecDepth 20000 in
theorem gX10_reach_X7_side : GoodIn wsX10_reach (wsV RX10 214 RX7 yX7_side wsX7_side) := goodIn_app (goodIn_of _ (by decide +kernel)) ggX10_reach_X7_side
theorem dX10_reach_0 : decode cX10_reach 0 = .ok (.iload_n 1, 1) := by decide +kernel
theorem dX10_reach_1 : decode cX10_reach 1 = .ok (.iconst 1, 1) := by decide +kernel
theorem dX10_reach_2 : decode cX10_reach 2 = .ok (.iconst 4, 1) := by decide +kernel
theorem dX10_reach_3 : decode cX10_reach 3 = .ok (.invokestatic 86, 3) := by decide +kernel
theorem dX10_reach_6 : decode cX10_reach 6 = .ok (.ifCond .eq 16, 3) := by decide +kernel
theorem dX10_reach_9 : decode cX10_reach 9 = .ok (.iload_n 2, 1) := by decide +kernel
theorem dX10_reach_10 : decode cX10_reach 10 = .ok (.ifCond .lt 12, 3) := by decide +kernel
theorem dX10_reach_13 : decode cX10_reach 13 = .ok (.iload_n 3, 1) := by decide +kernel
theorem dX10_reach_14 : decode cX10_reach 14 = .ok (.iconst 0, 1) := by decide +kernel
theorem dX10_reach_15 : decode cX10_reach 15 = .ok (.iconst 2, 1) := by decide +kernel
theorem dX10_reach_16 : decode cX10_reach 16 = .ok (.invokestatic 86, 3) := by decide +kernel
theorem dX10_reach_19 : decode cX10_reach 19 = .ok (.ifCond .ne 7, 3) := by decide +kernel
theorem dX10_reach_22 : decode cX10_reach 22 = .ok (.ldc2_w 126, 3) := by decide +kernel
theorem dX10_reach_25 : decode cX10_reach 25 = .ok (.lreturn, 1) := by decide +kernel
theorem dX10_reach_26 : decode cX10_reach 26 = .ok (.aload_n 0, 1) := by decide +kernel
theorem dX10_reach_27 : decode cX10_reach 27 = .ok (.getfield 53, 3) := by decide +kernel
theorem dX10_reach_30 : decode cX10_reach 30 = .ok (.iload_n 1, 1) := by decide +kernel
theorem dX10_reach_31 : decode cX10_reach 31 = .ok (.iload_n 2, 1) := by decide +kernel
theorem dX10_reach_32 : decode cX10_reach 32 = .ok (.invokevirtual 209, 3) := by decide +kernel
theorem dX10_reach_35 : decode cX10_reach 35 = .ok (.istore 4, 2) := by decide +kernel
theorem dX10_reach_37 : decode cX10_reach 37 = .ok (.iload 4, 2) := by decide +kernel
theorem dX10_reach_39 : decode cX10_reach 39 = .ok (.iconst (-1), 1) := by decide +kernel
theorem dX10_reach_40 : decode cX10_reach 40 = .ok (.if_icmp .ne 7, 3) := by decide +kernel
theorem dX10_reach_43 : decode cX10_reach 43 = .ok (.ldc2_w 212, 3) := by decide +kernel
theorem dX10_reach_46 : decode cX10_reach 46 = .ok (.lreturn, 1) := by decide +kernel
theorem dX10_reach_47 : decode cX10_reach 47 = .ok (.iload_n 3, 1) := by decide +kernel
theorem dX10_reach_48 : decode cX10_reach 48 = .ok (.iconst 2, 1) := by decide +kernel
theorem dX10_reach_49 : decode cX10_reach 49 = .ok (.if_icmp .ne 19, 3) := by decide +kernel
theorem dX10_reach_52 : decode cX10_reach 52 = .ok (.iload 4, 2) := by decide +kernel
theorem dX10_reach_54 : decode cX10_reach 54 = .ok (.aload_n 0, 1) := by decide +kernel
theorem dX10_reach_55 : decode cX10_reach 55 = .ok (.getfield 53, 3) := by decide +kernel
theorem dX10_reach_58 : decode cX10_reach 58 = .ok (.getfield 206, 3) := by decide +kernel
theorem dX10_reach_61 : decode cX10_reach 61 = .ok (.iload_n 1, 1) := by decide +kernel
theorem dX10_reach_62 : decode cX10_reach 62 = .ok (.iaload, 1) := by decide +kernel
theorem dX10_reach_63 : decode cX10_reach 63 = .ok (.isub, 1) := by decide +kernel
theorem dX10_reach_64 : decode cX10_reach 64 = .ok (.i2l, 1) := by decide +kernel
theorem dX10_reach_65 : decode cX10_reach 65 = .ok (.goto 14, 3) := by decide +kernel
theorem dX10_reach_68 : decode cX10_reach 68 = .ok (.aload_n 0, 1) := by decide +kernel
theorem dX10_reach_69 : decode cX10_reach 69 = .ok (.getfield 53, 3) := by decide +kernel
theorem dX10_reach_72 : decode cX10_reach 72 = .ok (.iload 4, 2) := by decide +kernel
theorem dX10_reach_74 : decode cX10_reach 74 = .ok (.iload_n 3, 1) := by decide +kernel
theorem dX10_reach_75 : decode cX10_reach 75 = .ok (.invokevirtual 214, 3) := by decide +kernel
theorem dX10_reach_78 : decode cX10_reach 78 = .ok (.i2l, 1) := by decide +kernel
theorem dX10_reach_79 : decode cX10_reach 79 = .ok (.lreturn, 1) := by decide +kernel
set_option maxRecDepth 20000 in
theorem ggX10_fewest_X10_isWish : GoodIn wsX10_fewest wsX10_isWish := goodIn_r _ [5, 6, 7, 4, 8] (by decide +kernel) (by decide +kernel)
set_option maxRecDepth 20000 in
theorem gX10_fewest_X10_isWish : GoodIn wsX10_fewest (va_wsS RX10 163 yX10_isWish wsX10_isWish) := goodIn_app (goodIn_of _ (by decide +kernel)) ggX10_fewest_X10_isWish
set_option maxRecDepth 20000 in
theorem ggX10_fewest_X7_indexOf : GoodIn wsX10_fewest wsX7_indexOf := goodIn_r _ [13, 14, 15, 4, 16, 17, 18, 19, 12, 20, 21, 22, 23, 24, 25, 26, 27, 28, 29, 30, 31, 32, 33, 34, 35, 36, 37, 38, 39, 40, 41, 42, 43, 44, 45, 46, 47, 48, 49, 50, 51, 52, 53, 54, 55, 56, 57, 58, 59, 60, 61, 62, 63, 64, 65, 66, 67, 68, 69, 84, 85, 86, 87, 88, 89, 90, 91, 92, 93, 94, 95, 96, 97, 98, 99] (by decide +kernel) (by decide +kernel)
set_option maxRecDepth 20000 in
theorem gX10_fewest_X7_indexOf : GoodIn wsX10_fewest (wsV RX10 216 RX7 yX7_indexOf wsX7_indexOf) := goodIn_app (goodIn_of _ (by decide +kernel)) ggX10_fewest_X7_indexOf
set_option maxRecDepth 20000 in
theorem ggX10_fewest_X7_partsOf : GoodIn wsX10_fewest wsX7_partsOf := goodIn_r _ [73, 29, 31, 84, 85, 86, 87, 88, 89, 90, 91, 92, 93, 94, 95, 96, 97] (by decide +kernel) (by decide +kernel)
set_option maxRecDepth 20000 in
theorem gX10_fewest_X7_partsOf : GoodIn wsX10_fewest (wsV RX10 219 RX7 yX7_partsOf wsX7_partsOf) := goodIn_app (goodIn_of _ (by decide +kernel)) ggX10_fewest_X7_partsOf
theorem dX10_fewest_0 : decode cX10_fewest 0 = .ok (.iload_n 1, 1) := by decide +kernel
theorem dX10_fewest_1 : decode cX10_fewest 1 = .ok (.iload_n 2, 1) := by decide +kernel
theorem dX10_fewest_2 : decode cX10_fewest 2 = .ok (.invokestatic 163, 3) := by decide +kernel
theorem dX10_fewest_5 : decode cX10_fewest 5 = .ok (.ifCond .ne 5, 3) := by decide +kernel
theorem dX10_fewest_8 : decode cX10_fewest 8 = .ok (.iconst (-1), 1) := by decide +kernel
theorem dX10_fewest_9 : decode cX10_fewest 9 = .ok (.ireturn, 1) := by decide +kernel
theorem dX10_fewest_10 : decode cX10_fewest 10 = .ok (.aload_n 0, 1) := by decide +kernel
theorem dX10_fewest_11 : decode cX10_fewest 11 = .ok (.getfield 53, 3) := by decide +kernel
theorem dX10_fewest_14 : decode cX10_fewest 14 = .ok (.iload_n 1, 1) := by decide +kernel
theorem dX10_fewest_15 : decode cX10_fewest 15 = .ok (.iload_n 2, 1) := by decide +kernel
theorem dX10_fewest_16 : decode cX10_fewest 16 = .ok (.invokevirtual 216, 3) := by decide +kernel
theorem dX10_fewest_19 : decode cX10_fewest 19 = .ok (.istore_n 3, 1) := by decide +kernel
theorem dX10_fewest_20 : decode cX10_fewest 20 = .ok (.iload_n 3, 1) := by decide +kernel
theorem dX10_fewest_21 : decode cX10_fewest 21 = .ok (.iconst (-1), 1) := by decide +kernel
theorem dX10_fewest_22 : decode cX10_fewest 22 = .ok (.if_icmp .ne 8, 3) := by decide +kernel
theorem dX10_fewest_25 : decode cX10_fewest 25 = .ok (.bipush (-2), 2) := by decide +kernel
theorem dX10_fewest_27 : decode cX10_fewest 27 = .ok (.goto 11, 3) := by decide +kernel
theorem dX10_fewest_30 : decode cX10_fewest 30 = .ok (.aload_n 0, 1) := by decide +kernel
theorem dX10_fewest_31 : decode cX10_fewest 31 = .ok (.getfield 53, 3) := by decide +kernel
theorem dX10_fewest_34 : decode cX10_fewest 34 = .ok (.iload_n 3, 1) := by decide +kernel
theorem dX10_fewest_35 : decode cX10_fewest 35 = .ok (.invokevirtual 219, 3) := by decide +kernel
theorem dX10_fewest_38 : decode cX10_fewest 38 = .ok (.ireturn, 1) := by decide +kernel
set_option maxRecDepth 20000 in
theorem ggX10_nearest_X10_isWish : GoodIn wsX10_nearest wsX10_isWish := goodIn_r _ [7, 8, 9, 6, 10] (by decide +kernel) (by decide +kernel)
set_option maxRecDepth 20000 in
theorem gX10_nearest_X10_isWish : GoodIn wsX10_nearest (va_wsS RX10 163 yX10_isWish wsX10_isWish) := goodIn_app (goodIn_of _ (by decide +kernel)) ggX10_nearest_X10_isWish
set_option maxRecDepth 20000 in
theorem ggX10_nearest_X10_isIn : GoodIn wsX10_nearest wsX10_isIn := goodIn_r _ [10] (by decide +kernel) (by decide +kernel)
set_option maxRecDepth 20000 in
theorem gX10_nearest_X10_isIn : GoodIn wsX10_nearest (va_wsS RX10 86 yX10_isIn wsX10_isIn) := goodIn_app (goodIn_of _ (by decide +kernel)) ggX10_nearest_X10_isIn
set_option maxRecDepth 20000 in
theorem ggX10_nearest_X7_nearestTo : GoodIn wsX10_nearest wsX7_nearestTo := goodIn_r _ [15, 16, 17, 18, 19, 20, 21, 22, 23, 24, 25, 14, 26, 27, 28, 29, 30, 31, 32, 33, 34, 35, 36, 37, 38, 39, 40, 41, 42, 43, 44, 45, 46, 47, 48, 49, 50, 51, 52, 53, 54, 55, 56, 6, 57, 58, 59, 60, 61, 62, 63, 64, 65, 66, 67, 68, 69, 70, 71, 72, 73, 74, 75, 76, 77, 78, 79, 80, 81, 82, 83, 84, 85, 86, 87, 103, 104, 105, 106, 107, 108, 109, 110, 111, 112, 113, 114, 115, 116, 117, 118] (by decide +kernel) (by decide +kernel)
set_option maxRecDepth 20000 in
theorem gX10_nearest_X7_nearestTo : GoodIn wsX10_nearest (wsV RX10 222 RX7 yX7_nearestTo wsX7_nearestTo) := goodIn_app (goodIn_of _ (by decide +kernel)) ggX10_nearest_X7_nearestTo
set_option maxRecDepth 20000 in
theorem ggX10_nearest_X7_partsOf : GoodIn wsX10_nearest wsX7_partsOf := goodIn_r _ [83, 36, 16, 103, 104, 105, 106, 107, 108, 109, 110, 111, 112, 113, 114, 115, 116] (by decide +kernel) (by decide +kernel)
set_option maxRecDepth 20000 in
theorem gX10_nearest_X7_partsOf : GoodIn wsX10_nearest (wsV RX10 219 RX7 yX7_partsOf wsX7_partsOf) := goodIn_app (goodIn_of _ (by decide +kernel)) ggX10_nearest_X7_partsOf
set_option maxRecDepth 20000 in
theorem ggX10_nearest_X7_side : GoodIn wsX10_nearest wsX7_side := goodIn_r _ [92, 17, 18, 103, 104, 105, 106, 107, 108, 109, 110, 111, 112, 113, 114, 115, 116] (by decide +kernel) (by decide +kernel)
set_option maxRecDepth 20000 in
theorem gX10_nearest_X7_side : GoodIn wsX10_nearest (wsV RX10 214 RX7 yX7_side wsX7_side) := goodIn_app (goodIn_of _ (by decide +kernel)) ggX10_nearest_X7_side
theorem dX10_nearest_0 : decode cX10_nearest 0 = .ok (.iload_n 1, 1) := by decide +kernel
theorem dX10_nearest_1 : decode cX10_nearest 1 = .ok (.iload_n 2, 1) := by decide +kernel
theorem dX10_nearest_2 : decode cX10_nearest 2 = .ok (.invokestatic 163, 3) := by decide +kernel
theorem dX10_nearest_5 : decode cX10_nearest 5 = .ok (.ifCond .eq 22, 3) := by decide +kernel
theorem dX10_nearest_8 : decode cX10_nearest 8 = .ok (.iload_n 3, 1) := by decide +kernel
theorem dX10_nearest_9 : decode cX10_nearest 9 = .ok (.iconst 1, 1) := by decide +kernel
theorem dX10_nearest_10 : decode cX10_nearest 10 = .ok (.iconst 4, 1) := by decide +kernel
theorem dX10_nearest_11 : decode cX10_nearest 11 = .ok (.invokestatic 86, 3) := by decide +kernel
theorem dX10_nearest_14 : decode cX10_nearest 14 = .ok (.ifCond .eq 13, 3) := by decide +kernel
theorem dX10_nearest_17 : decode cX10_nearest 17 = .ok (.iload 4, 2) := by decide +kernel
theorem dX10_nearest_19 : decode cX10_nearest 19 = .ok (.iconst 0, 1) := by decide +kernel
theorem dX10_nearest_20 : decode cX10_nearest 20 = .ok (.iconst 2, 1) := by decide +kernel
theorem dX10_nearest_21 : decode cX10_nearest 21 = .ok (.invokestatic 86, 3) := by decide +kernel
theorem dX10_nearest_24 : decode cX10_nearest 24 = .ok (.ifCond .ne 7, 3) := by decide +kernel
theorem dX10_nearest_27 : decode cX10_nearest 27 = .ok (.ldc2_w 126, 3) := by decide +kernel
theorem dX10_nearest_30 : decode cX10_nearest 30 = .ok (.lreturn, 1) := by decide +kernel
theorem dX10_nearest_31 : decode cX10_nearest 31 = .ok (.aload_n 0, 1) := by decide +kernel
theorem dX10_nearest_32 : decode cX10_nearest 32 = .ok (.getfield 53, 3) := by decide +kernel
theorem dX10_nearest_35 : decode cX10_nearest 35 = .ok (.iload_n 1, 1) := by decide +kernel
theorem dX10_nearest_36 : decode cX10_nearest 36 = .ok (.iload_n 2, 1) := by decide +kernel
theorem dX10_nearest_37 : decode cX10_nearest 37 = .ok (.iload_n 3, 1) := by decide +kernel
theorem dX10_nearest_38 : decode cX10_nearest 38 = .ok (.invokevirtual 222, 3) := by decide +kernel
theorem dX10_nearest_41 : decode cX10_nearest 41 = .ok (.istore 5, 2) := by decide +kernel
theorem dX10_nearest_43 : decode cX10_nearest 43 = .ok (.iload 5, 2) := by decide +kernel
theorem dX10_nearest_45 : decode cX10_nearest 45 = .ok (.iconst (-1), 1) := by decide +kernel
theorem dX10_nearest_46 : decode cX10_nearest 46 = .ok (.if_icmp .ne 7, 3) := by decide +kernel
theorem dX10_nearest_49 : decode cX10_nearest 49 = .ok (.ldc2_w 212, 3) := by decide +kernel
theorem dX10_nearest_52 : decode cX10_nearest 52 = .ok (.lreturn, 1) := by decide +kernel
theorem dX10_nearest_53 : decode cX10_nearest 53 = .ok (.iload 4, 2) := by decide +kernel
theorem dX10_nearest_55 : decode cX10_nearest 55 = .ok (.iconst 2, 1) := by decide +kernel
theorem dX10_nearest_56 : decode cX10_nearest 56 = .ok (.if_icmp .ne 16, 3) := by decide +kernel
theorem dX10_nearest_59 : decode cX10_nearest 59 = .ok (.aload_n 0, 1) := by decide +kernel
theorem dX10_nearest_60 : decode cX10_nearest 60 = .ok (.getfield 53, 3) := by decide +kernel
theorem dX10_nearest_63 : decode cX10_nearest 63 = .ok (.iload 5, 2) := by decide +kernel
theorem dX10_nearest_65 : decode cX10_nearest 65 = .ok (.invokevirtual 219, 3) := by decide +kernel
theorem dX10_nearest_68 : decode cX10_nearest 68 = .ok (.i2l, 1) := by decide +kernel
theorem dX10_nearest_69 : decode cX10_nearest 69 = .ok (.goto 15, 3) := by decide +kernel
theorem dX10_nearest_72 : decode cX10_nearest 72 = .ok (.aload_n 0, 1) := by decide +kernel
theorem dX10_nearest_73 : decode cX10_nearest 73 = .ok (.getfield 53, 3) := by decide +kernel
theorem dX10_nearest_76 : decode cX10_nearest 76 = .ok (.iload 5, 2) := by decide +kernel
theorem dX10_nearest_78 : decode cX10_nearest 78 = .ok (.iload 4, 2) := by decide +kernel
theorem dX10_nearest_80 : decode cX10_nearest 80 = .ok (.invokevirtual 214, 3) := by decide +kernel
theorem dX10_nearest_83 : decode cX10_nearest 83 = .ok (.i2l, 1) := by decide +kernel
theorem dX10_nearest_84 : decode cX10_nearest 84 = .ok (.lreturn, 1) := by decide +kernel
set_option maxRecDepth 20000 in
theorem ggX10_make_X10_isWish : GoodIn wsX10_make wsX10_isWish := goodIn_r _ [10, 11, 12, 9, 13] (by decide +kernel) (by decide +kernel)
set_option maxRecDepth 20000 in
theorem gX10_make_X10_isWish : GoodIn wsX10_make (va_wsS RX10 163 yX10_isWish wsX10_isWish) := goodIn_app (goodIn_of _ (by decide +kernel)) ggX10_make_X10_isWish
set_option maxRecDepth 20000 in
theorem ggX10_make_X7_indexOf : GoodIn wsX10_make wsX7_indexOf := goodIn_r _ [18, 19, 20, 9, 21, 22, 23, 24, 17, 25, 26, 27, 28, 29, 30, 31, 32, 33, 34, 35, 36, 37, 38, 39, 40, 41, 42, 43, 44, 45, 46, 47, 48, 49, 50, 51, 52, 53, 54, 55, 56, 57, 58, 59, 60, 61, 62, 63, 64, 65, 66, 67, 68, 69, 70, 71, 72, 73, 74, 132, 133, 134, 135, 136, 137, 138, 139, 140, 141, 142, 143, 144, 145, 146, 147] (by decide +kernel) (by decide +kernel)
set_option maxRecDepth 20000 in
theorem gX10_make_X7_indexOf : GoodIn wsX10_make (wsV RX10 216 RX7 yX7_indexOf wsX7_indexOf) := goodIn_app (goodIn_of _ (by decide +kernel)) ggX10_make_X7_indexOf
set_option maxRecDepth 20000 in
theorem ggX10_make_X7_partsOf : GoodIn wsX10_make wsX7_partsOf := goodIn_r _ [78, 34, 36, 132, 133, 134, 135, 136, 137, 138, 139, 140, 141, 142, 143, 144, 145] (by decide +kernel) (by decide +kernel)
set_option maxRecDepth 20000 in
theorem gX10_make_X7_partsOf : GoodIn wsX10_make (wsV RX10 219 RX7 yX7_partsOf wsX7_partsOf) := goodIn_app (goodIn_of _ (by decide +kernel)) ggX10_make_X7_partsOf
set_option maxRecDepth 20000 in
theorem ggX10_make_X6_fill : GoodIn wsX10_make wsX6_fill := goodIn_r _ [83, 84, 85, 86, 87, 148, 149, 150, 151] (by decide +kernel) (by decide +kernel)
set_option maxRecDepth 20000 in
theorem gX10_make_X6_fill : GoodIn wsX10_make (wsV RX10 228 RX6 yX6_fill wsX6_fill) := goodIn_app (goodIn_of _ (by decide +kernel)) ggX10_make_X6_fill
set_option maxRecDepth 20000 in
theorem ggX10_make_X5_keepPlan : GoodIn wsX10_make wsX5_keepPlan := goodIn_r _ [92, 93, 94, 95, 96, 97, 98, 99, 91, 100, 101, 102, 103, 104, 105, 106, 107, 108, 109, 110, 111, 112, 113, 114, 115, 116, 117, 118, 119, 120, 121, 148, 149, 150, 151, 152, 153, 154, 155, 156, 157, 158, 159, 160] (by decide +kernel) (by decide +kernel)
set_option maxRecDepth 20000 in
theorem gX10_make_X5_keepPlan : GoodIn wsX10_make (wsV RX10 192 RX5 yX5_keepPlan wsX5_keepPlan) := goodIn_app (goodIn_of _ (by decide +kernel)) ggX10_make_X5_keepPlan
theorem dX10_make_0 : decode cX10_make 0 = .ok (.iload_n 1, 1) := by decide +kernel
theorem dX10_make_1 : decode cX10_make 1 = .ok (.iload_n 2, 1) := by decide +kernel
theorem dX10_make_2 : decode cX10_make 2 = .ok (.invokestatic 163, 3) := by decide +kernel
theorem dX10_make_5 : decode cX10_make 5 = .ok (.ifCond .ne 5, 3) := by decide +kernel
theorem dX10_make_8 : decode cX10_make 8 = .ok (.iconst (-1), 1) := by decide +kernel
theorem dX10_make_9 : decode cX10_make 9 = .ok (.ireturn, 1) := by decide +kernel
theorem dX10_make_10 : decode cX10_make 10 = .ok (.aload_n 0, 1) := by decide +kernel
theorem dX10_make_11 : decode cX10_make 11 = .ok (.getfield 53, 3) := by decide +kernel
theorem dX10_make_14 : decode cX10_make 14 = .ok (.iload_n 1, 1) := by decide +kernel
theorem dX10_make_15 : decode cX10_make 15 = .ok (.iload_n 2, 1) := by decide +kernel
theorem dX10_make_16 : decode cX10_make 16 = .ok (.invokevirtual 216, 3) := by decide +kernel
theorem dX10_make_19 : decode cX10_make 19 = .ok (.istore_n 3, 1) := by decide +kernel
theorem dX10_make_20 : decode cX10_make 20 = .ok (.iload_n 3, 1) := by decide +kernel
theorem dX10_make_21 : decode cX10_make 21 = .ok (.iconst (-1), 1) := by decide +kernel
theorem dX10_make_22 : decode cX10_make 22 = .ok (.if_icmp .ne 6, 3) := by decide +kernel
theorem dX10_make_25 : decode cX10_make 25 = .ok (.bipush (-2), 2) := by decide +kernel
theorem dX10_make_27 : decode cX10_make 27 = .ok (.ireturn, 1) := by decide +kernel
theorem dX10_make_28 : decode cX10_make 28 = .ok (.aload_n 0, 1) := by decide +kernel
theorem dX10_make_29 : decode cX10_make 29 = .ok (.getfield 44, 3) := by decide +kernel
theorem dX10_make_32 : decode cX10_make 32 = .ok (.iload_n 3, 1) := by decide +kernel
theorem dX10_make_33 : decode cX10_make 33 = .ok (.aload_n 0, 1) := by decide +kernel
theorem dX10_make_34 : decode cX10_make 34 = .ok (.getfield 53, 3) := by decide +kernel
theorem dX10_make_37 : decode cX10_make 37 = .ok (.iload_n 3, 1) := by decide +kernel
theorem dX10_make_38 : decode cX10_make 38 = .ok (.invokevirtual 219, 3) := by decide +kernel
theorem dX10_make_41 : decode cX10_make 41 = .ok (.aload_n 0, 1) := by decide +kernel
theorem dX10_make_42 : decode cX10_make 42 = .ok (.getfield 53, 3) := by decide +kernel
theorem dX10_make_45 : decode cX10_make 45 = .ok (.getfield 225, 3) := by decide +kernel
theorem dX10_make_48 : decode cX10_make 48 = .ok (.aload_n 0, 1) := by decide +kernel
theorem dX10_make_49 : decode cX10_make 49 = .ok (.getfield 53, 3) := by decide +kernel
theorem dX10_make_52 : decode cX10_make 52 = .ok (.getfield 226, 3) := by decide +kernel
theorem dX10_make_55 : decode cX10_make 55 = .ok (.aload_n 0, 1) := by decide +kernel
theorem dX10_make_56 : decode cX10_make 56 = .ok (.getfield 53, 3) := by decide +kernel
theorem dX10_make_59 : decode cX10_make 59 = .ok (.getfield 227, 3) := by decide +kernel
theorem dX10_make_62 : decode cX10_make 62 = .ok (.invokevirtual 228, 3) := by decide +kernel
theorem dX10_make_65 : decode cX10_make 65 = .ok (.aload_n 0, 1) := by decide +kernel
theorem dX10_make_66 : decode cX10_make 66 = .ok (.getfield 21, 3) := by decide +kernel
theorem dX10_make_69 : decode cX10_make 69 = .ok (.aload_n 0, 1) := by decide +kernel
theorem dX10_make_70 : decode cX10_make 70 = .ok (.getfield 44, 3) := by decide +kernel
theorem dX10_make_73 : decode cX10_make 73 = .ok (.invokevirtual 192, 3) := by decide +kernel
theorem dX10_make_76 : decode cX10_make 76 = .ok (.ireturn, 1) := by decide +kernel
set_option maxRecDepth 20000 in
theorem ggX10_points_X10_isIn : GoodIn wsX10_points wsX10_isIn := goodIn_r _ [7] (by decide +kernel) (by decide +kernel)
set_option maxRecDepth 20000 in
theorem gX10_points_X10_isIn : GoodIn wsX10_points (va_wsS RX10 86 yX10_isIn wsX10_isIn) := goodIn_app (goodIn_of _ (by decide +kernel)) ggX10_points_X10_isIn
theorem dX10_points_0 : decode cX10_points 0 = .ok (.iload_n 1, 1) := by decide +kernel
theorem dX10_points_1 : decode cX10_points 1 = .ok (.iconst 2, 1) := by decide +kernel
theorem dX10_points_2 : decode cX10_points 2 = .ok (.bipush 6, 2) := by decide +kernel
theorem dX10_points_4 : decode cX10_points 4 = .ok (.invokestatic 86, 3) := by decide +kernel
theorem dX10_points_7 : decode cX10_points 7 = .ok (.ifCond .ne 5, 3) := by decide +kernel
theorem dX10_points_10 : decode cX10_points 10 = .ok (.iconst (-1), 1) := by decide +kernel
theorem dX10_points_11 : decode cX10_points 11 = .ok (.ireturn, 1) := by decide +kernel
theorem dX10_points_12 : decode cX10_points 12 = .ok (.aload_n 0, 1) := by decide +kernel
theorem dX10_points_13 : decode cX10_points 13 = .ok (.getfield 60, 3) := by decide +kernel
theorem dX10_points_16 : decode cX10_points 16 = .ok (.getfield 232, 3) := by decide +kernel
theorem dX10_points_19 : decode cX10_points 19 = .ok (.istore_n 2, 1) := by decide +kernel
theorem dX10_points_20 : decode cX10_points 20 = .ok (.aload_n 0, 1) := by decide +kernel
theorem dX10_points_21 : decode cX10_points 21 = .ok (.getfield 60, 3) := by decide +kernel
theorem dX10_points_24 : decode cX10_points 24 = .ok (.iload_n 1, 1) := by decide +kernel
theorem dX10_points_25 : decode cX10_points 25 = .ok (.putfield 232, 3) := by decide +kernel
theorem dX10_points_28 : decode cX10_points 28 = .ok (.aload_n 0, 1) := by decide +kernel
theorem dX10_points_29 : decode cX10_points 29 = .ok (.getfield 60, 3) := by decide +kernel
theorem dX10_points_32 : decode cX10_points 32 = .ok (.iconst 0, 1) := by decide +kernel
theorem dX10_points_33 : decode cX10_points 33 = .ok (.putfield 235, 3) := by decide +kernel
theorem dX10_points_36 : decode cX10_points 36 = .ok (.iload_n 2, 1) := by decide +kernel
theorem dX10_points_37 : decode cX10_points 37 = .ok (.ireturn, 1) := by decide +kernel
set_option maxRecDepth 20000 in
theorem ggX10_edge_X3_has : GoodIn wsX10_edge wsX3_has := goodIn_r _ [6, 7, 30, 31, 32, 33, 34, 35, 36, 37] (by decide +kernel) (by decide +kernel)
set_option maxRecDepth 20000 in
theorem gX10_edge_X3_has : GoodIn wsX10_edge (wsV RX10 238 RX3 yX3_has wsX3_has) := goodIn_app (goodIn_of _ (by decide +kernel)) ggX10_edge_X3_has
set_option maxRecDepth 20000 in
theorem ggX10_edge_X10_isIn : GoodIn wsX10_edge wsX10_isIn := goodIn_r _ [11] (by decide +kernel) (by decide +kernel)
set_option maxRecDepth 20000 in
theorem gX10_edge_X10_isIn : GoodIn wsX10_edge (va_wsS RX10 86 yX10_isIn wsX10_isIn) := goodIn_app (goodIn_of _ (by decide +kernel)) ggX10_edge_X10_isIn
set_option maxRecDepth 20000 in
theorem ggX10_edge_X3_put : GoodIn wsX10_edge wsX3_put := goodIn_r _ [15, 16, 17, 18, 19, 30, 31, 32, 33, 34, 35, 36, 37] (by decide +kernel) (by decide +kernel)
set_option maxRecDepth 20000 in
theorem gX10_edge_X3_put : GoodIn wsX10_edge (wsV RX10 239 RX3 yX3_put wsX3_put) := goodIn_app (goodIn_of _ (by decide +kernel)) ggX10_edge_X3_put
theorem dX10_edge_0 : decode cX10_edge 0 = .ok (.aload_n 0, 1) := by decide +kernel
theorem dX10_edge_1 : decode cX10_edge 1 = .ok (.getfield 60, 3) := by decide +kernel
theorem dX10_edge_4 : decode cX10_edge 4 = .ok (.iload_n 1, 1) := by decide +kernel
theorem dX10_edge_5 : decode cX10_edge 5 = .ok (.invokevirtual 238, 3) := by decide +kernel
theorem dX10_edge_8 : decode cX10_edge 8 = .ok (.ifCond .eq 29, 3) := by decide +kernel
theorem dX10_edge_11 : decode cX10_edge 11 = .ok (.aload_n 0, 1) := by decide +kernel
theorem dX10_edge_12 : decode cX10_edge 12 = .ok (.getfield 60, 3) := by decide +kernel
theorem dX10_edge_15 : decode cX10_edge 15 = .ok (.iload_n 2, 1) := by decide +kernel
theorem dX10_edge_16 : decode cX10_edge 16 = .ok (.invokevirtual 238, 3) := by decide +kernel
theorem dX10_edge_19 : decode cX10_edge 19 = .ok (.ifCond .eq 18, 3) := by decide +kernel
theorem dX10_edge_22 : decode cX10_edge 22 = .ok (.iload_n 1, 1) := by decide +kernel
theorem dX10_edge_23 : decode cX10_edge 23 = .ok (.iload_n 2, 1) := by decide +kernel
theorem dX10_edge_24 : decode cX10_edge 24 = .ok (.if_icmp .eq 13, 3) := by decide +kernel
theorem dX10_edge_27 : decode cX10_edge 27 = .ok (.iload_n 3, 1) := by decide +kernel
theorem dX10_edge_28 : decode cX10_edge 28 = .ok (.iconst 1, 1) := by decide +kernel
theorem dX10_edge_29 : decode cX10_edge 29 = .ok (.bipush 99, 2) := by decide +kernel
theorem dX10_edge_31 : decode cX10_edge 31 = .ok (.invokestatic 86, 3) := by decide +kernel
theorem dX10_edge_34 : decode cX10_edge 34 = .ok (.ifCond .ne 5, 3) := by decide +kernel
theorem dX10_edge_37 : decode cX10_edge 37 = .ok (.iconst (-1), 1) := by decide +kernel
theorem dX10_edge_38 : decode cX10_edge 38 = .ok (.ireturn, 1) := by decide +kernel
theorem dX10_edge_39 : decode cX10_edge 39 = .ok (.aload_n 0, 1) := by decide +kernel
theorem dX10_edge_40 : decode cX10_edge 40 = .ok (.getfield 60, 3) := by decide +kernel
theorem dX10_edge_43 : decode cX10_edge 43 = .ok (.iload_n 1, 1) := by decide +kernel
theorem dX10_edge_44 : decode cX10_edge 44 = .ok (.iload_n 2, 1) := by decide +kernel
theorem dX10_edge_45 : decode cX10_edge 45 = .ok (.iload_n 3, 1) := by decide +kernel
theorem dX10_edge_46 : decode cX10_edge 46 = .ok (.invokevirtual 239, 3) := by decide +kernel
theorem dX10_edge_49 : decode cX10_edge 49 = .ok (.ireturn, 1) := by decide +kernel
set_option maxRecDepth 20000 in
theorem ggX10_tell_X3_hasEdge : GoodIn wsX10_tell wsX3_hasEdge := goodIn_r _ [7, 8, 23, 24, 25, 26, 27, 28, 29, 30] (by decide +kernel) (by decide +kernel)
set_option maxRecDepth 20000 in
theorem gX10_tell_X3_hasEdge : GoodIn wsX10_tell (wsV RX10 242 RX3 yX3_hasEdge wsX3_hasEdge) := goodIn_app (goodIn_of _ (by decide +kernel)) ggX10_tell_X3_hasEdge
set_option maxRecDepth 20000 in
theorem ggX10_tell_X10_isIn : GoodIn wsX10_tell wsX10_isIn := goodIn_r _ [12] (by decide +kernel) (by decide +kernel)
set_option maxRecDepth 20000 in
theorem gX10_tell_X10_isIn : GoodIn wsX10_tell (va_wsS RX10 86 yX10_isIn wsX10_isIn) := goodIn_app (goodIn_of _ (by decide +kernel)) ggX10_tell_X10_isIn
theorem dX10_tell_0 : decode cX10_tell 0 = .ok (.aload_n 0, 1) := by decide +kernel
theorem dX10_tell_1 : decode cX10_tell 1 = .ok (.getfield 60, 3) := by decide +kernel
theorem dX10_tell_4 : decode cX10_tell 4 = .ok (.iload_n 1, 1) := by decide +kernel
theorem dX10_tell_5 : decode cX10_tell 5 = .ok (.invokevirtual 242, 3) := by decide +kernel
theorem dX10_tell_8 : decode cX10_tell 8 = .ok (.ifCond .eq 13, 3) := by decide +kernel
theorem dX10_tell_11 : decode cX10_tell 11 = .ok (.iload_n 2, 1) := by decide +kernel
theorem dX10_tell_12 : decode cX10_tell 12 = .ok (.iconst 0, 1) := by decide +kernel
theorem dX10_tell_13 : decode cX10_tell 13 = .ok (.bipush 99, 2) := by decide +kernel
theorem dX10_tell_15 : decode cX10_tell 15 = .ok (.invokestatic 86, 3) := by decide +kernel
theorem dX10_tell_18 : decode cX10_tell 18 = .ok (.ifCond .ne 5, 3) := by decide +kernel
theorem dX10_tell_21 : decode cX10_tell 21 = .ok (.iconst (-1), 1) := by decide +kernel
theorem dX10_tell_22 : decode cX10_tell 22 = .ok (.ireturn, 1) := by decide +kernel
theorem dX10_tell_23 : decode cX10_tell 23 = .ok (.aload_n 0, 1) := by decide +kernel
theorem dX10_tell_24 : decode cX10_tell 24 = .ok (.getfield 60, 3) := by decide +kernel
theorem dX10_tell_27 : decode cX10_tell 27 = .ok (.getfield 245, 3) := by decide +kernel
theorem dX10_tell_30 : decode cX10_tell 30 = .ok (.iload_n 1, 1) := by decide +kernel
theorem dX10_tell_31 : decode cX10_tell 31 = .ok (.iaload, 1) := by decide +kernel
theorem dX10_tell_32 : decode cX10_tell 32 = .ok (.istore_n 3, 1) := by decide +kernel
theorem dX10_tell_33 : decode cX10_tell 33 = .ok (.aload_n 0, 1) := by decide +kernel
theorem dX10_tell_34 : decode cX10_tell 34 = .ok (.getfield 60, 3) := by decide +kernel
theorem dX10_tell_37 : decode cX10_tell 37 = .ok (.getfield 245, 3) := by decide +kernel
theorem dX10_tell_40 : decode cX10_tell 40 = .ok (.iload_n 1, 1) := by decide +kernel
theorem dX10_tell_41 : decode cX10_tell 41 = .ok (.iload_n 2, 1) := by decide +kernel
theorem dX10_tell_42 : decode cX10_tell 42 = .ok (.iastore, 1) := by decide +kernel
theorem dX10_tell_43 : decode cX10_tell 43 = .ok (.iload_n 3, 1) := by decide +kernel
theorem dX10_tell_44 : decode cX10_tell 44 = .ok (.ireturn, 1) := by decide +kernel
set_option maxRecDepth 20000 in
theorem ggX10_between_X3_has : GoodIn wsX10_between wsX3_has := goodIn_r _ [8, 9, 86, 87, 88, 89, 90, 91, 92, 93] (by decide +kernel) (by decide +kernel)
set_option maxRecDepth 20000 in
theorem gX10_between_X3_has : GoodIn wsX10_between (wsV RX10 238 RX3 yX3_has wsX3_has) := goodIn_app (goodIn_of _ (by decide +kernel)) ggX10_between_X3_has
set_option maxRecDepth 20000 in
theorem ggX10_between_X10_isIn : GoodIn wsX10_between wsX10_isIn := goodIn_r _ [13] (by decide +kernel) (by decide +kernel)
set_option maxRecDepth 20000 in
theorem gX10_between_X10_isIn : GoodIn wsX10_between (va_wsS RX10 86 yX10_isIn wsX10_isIn) := goodIn_app (goodIn_of _ (by decide +kernel)) ggX10_between_X10_isIn
set_option maxRecDepth 20000 in
theorem ggX10_between_X3_measure : GoodIn wsX10_between wsX3_measure := goodIn_r _ [17, 18, 19, 20, 21, 22, 23, 24, 25, 26, 12, 27, 28, 29, 30, 7, 31, 32, 33, 34, 35, 36, 37, 38, 39, 40, 41, 9, 42, 43, 44, 45, 46, 47, 48, 49, 50, 51, 52, 53, 54, 55, 56, 57, 58, 59, 60, 61, 62, 63, 64, 65, 66, 67, 68, 69, 70, 71, 86, 87, 88, 89, 90, 91, 92, 93, 94, 95] (by decide +kernel) (by decide +kernel)
set_option maxRecDepth 20000 in
theorem gX10_between_X3_measure : GoodIn wsX10_between (wsV RX10 246 RX3 yX3_measure wsX3_measure) := goodIn_app (goodIn_of _ (by decide +kernel)) ggX10_between_X3_measure
set_option maxRecDepth 20000 in
theorem ggX10_between_X1_side : GoodIn wsX10_between wsX1_side := goodIn_r _ [75, 24, 25, 94, 95] (by decide +kernel) (by decide +kernel)
set_option maxRecDepth 20000 in
theorem gX10_between_X1_side : GoodIn wsX10_between (wsV RX10 135 RX1 yX1_side wsX1_side) := goodIn_app (goodIn_of _ (by decide +kernel)) ggX10_between_X1_side
theorem dX10_between_0 : decode cX10_between 0 = .ok (.aload_n 0, 1) := by decide +kernel
theorem dX10_between_1 : decode cX10_between 1 = .ok (.getfield 60, 3) := by decide +kernel
theorem dX10_between_4 : decode cX10_between 4 = .ok (.iload_n 1, 1) := by decide +kernel
theorem dX10_between_5 : decode cX10_between 5 = .ok (.invokevirtual 238, 3) := by decide +kernel
theorem dX10_between_8 : decode cX10_between 8 = .ok (.ifCond .eq 23, 3) := by decide +kernel
theorem dX10_between_11 : decode cX10_between 11 = .ok (.aload_n 0, 1) := by decide +kernel
theorem dX10_between_12 : decode cX10_between 12 = .ok (.getfield 60, 3) := by decide +kernel
theorem dX10_between_15 : decode cX10_between 15 = .ok (.iload_n 2, 1) := by decide +kernel
theorem dX10_between_16 : decode cX10_between 16 = .ok (.invokevirtual 238, 3) := by decide +kernel
theorem dX10_between_19 : decode cX10_between 19 = .ok (.ifCond .eq 12, 3) := by decide +kernel
theorem dX10_between_22 : decode cX10_between 22 = .ok (.iload_n 3, 1) := by decide +kernel
theorem dX10_between_23 : decode cX10_between 23 = .ok (.iconst 0, 1) := by decide +kernel
theorem dX10_between_24 : decode cX10_between 24 = .ok (.iconst 1, 1) := by decide +kernel
theorem dX10_between_25 : decode cX10_between 25 = .ok (.invokestatic 86, 3) := by decide +kernel
theorem dX10_between_28 : decode cX10_between 28 = .ok (.ifCond .ne 7, 3) := by decide +kernel
theorem dX10_between_31 : decode cX10_between 31 = .ok (.ldc2_w 126, 3) := by decide +kernel
theorem dX10_between_34 : decode cX10_between 34 = .ok (.lreturn, 1) := by decide +kernel
theorem dX10_between_35 : decode cX10_between 35 = .ok (.aload_n 0, 1) := by decide +kernel
theorem dX10_between_36 : decode cX10_between 36 = .ok (.getfield 60, 3) := by decide +kernel
theorem dX10_between_39 : decode cX10_between 39 = .ok (.iload_n 1, 1) := by decide +kernel
theorem dX10_between_40 : decode cX10_between 40 = .ok (.iload_n 2, 1) := by decide +kernel
theorem dX10_between_41 : decode cX10_between 41 = .ok (.iconst (-1), 1) := by decide +kernel
theorem dX10_between_42 : decode cX10_between 42 = .ok (.invokevirtual 246, 3) := by decide +kernel
theorem dX10_between_45 : decode cX10_between 45 = .ok (.aload_n 0, 1) := by decide +kernel
theorem dX10_between_46 : decode cX10_between 46 = .ok (.getfield 60, 3) := by decide +kernel
theorem dX10_between_49 : decode cX10_between 49 = .ok (.getfield 249, 3) := by decide +kernel
theorem dX10_between_52 : decode cX10_between 52 = .ok (.iload_n 3, 1) := by decide +kernel
theorem dX10_between_53 : decode cX10_between 53 = .ok (.invokevirtual 135, 3) := by decide +kernel
theorem dX10_between_56 : decode cX10_between 56 = .ok (.lreturn, 1) := by decide +kernel
set_option maxRecDepth 20000 in
theorem ggX10_without_X3_hasEdge : GoodIn wsX10_without wsX3_hasEdge := goodIn_r _ [8, 9, 90, 91, 92, 93, 94, 95, 96, 97] (by decide +kernel) (by decide +kernel)
set_option maxRecDepth 20000 in
theorem gX10_without_X3_hasEdge : GoodIn wsX10_without (wsV RX10 242 RX3 yX3_hasEdge wsX3_hasEdge) := goodIn_app (goodIn_of _ (by decide +kernel)) ggX10_without_X3_hasEdge
set_option maxRecDepth 20000 in
theorem ggX10_without_X3_has : GoodIn wsX10_without wsX3_has := goodIn_r _ [13, 14, 90, 91, 92, 93, 94, 95, 96, 97] (by decide +kernel) (by decide +kernel)
set_option maxRecDepth 20000 in
theorem gX10_without_X3_has : GoodIn wsX10_without (wsV RX10 238 RX3 yX3_has wsX3_has) := goodIn_app (goodIn_of _ (by decide +kernel)) ggX10_without_X3_has
set_option maxRecDepth 20000 in
theorem ggX10_without_X10_isIn : GoodIn wsX10_without wsX10_isIn := goodIn_r _ [18] (by decide +kernel) (by decide +kernel)
set_option maxRecDepth 20000 in
theorem gX10_without_X10_isIn : GoodIn wsX10_without (va_wsS RX10 86 yX10_isIn wsX10_isIn) := goodIn_app (goodIn_of _ (by decide +kernel)) ggX10_without_X10_isIn
set_option maxRecDepth 20000 in
theorem ggX10_without_X3_measure : GoodIn wsX10_without wsX3_measure := goodIn_r _ [22, 23, 24, 25, 26, 27, 28, 29, 30, 31, 17, 32, 33, 34, 35, 7, 36, 37, 38, 39, 40, 9, 41, 42, 43, 44, 45, 14, 46, 47, 48, 49, 50, 51, 52, 53, 54, 55, 56, 57, 58, 59, 60, 61, 62, 63, 64, 65, 66, 67, 68, 69, 70, 71, 72, 73, 74, 75, 90, 91, 92, 93, 94, 95, 96, 97, 98, 99] (by decide +kernel) (by decide +kernel)
set_option maxRecDepth 20000 in
theorem gX10_without_X3_measure : GoodIn wsX10_without (wsV RX10 246 RX3 yX3_measure wsX3_measure) := goodIn_app (goodIn_of _ (by decide +kernel)) ggX10_without_X3_measure
set_option maxRecDepth 20000 in
theorem ggX10_without_X1_side : GoodIn wsX10_without wsX1_side := goodIn_r _ [79, 29, 30, 98, 99] (by decide +kernel) (by decide +kernel)
set_option maxRecDepth 20000 in
theorem gX10_without_X1_side : GoodIn wsX10_without (wsV RX10 135 RX1 yX1_side wsX1_side) := goodIn_app (goodIn_of _ (by decide +kernel)) ggX10_without_X1_side
theorem dX10_without_0 : decode cX10_without 0 = .ok (.aload_n 0, 1) := by decide +kernel
theorem dX10_without_1 : decode cX10_without 1 = .ok (.getfield 60, 3) := by decide +kernel
theorem dX10_without_4 : decode cX10_without 4 = .ok (.iload_n 1, 1) := by decide +kernel
theorem dX10_without_5 : decode cX10_without 5 = .ok (.invokevirtual 242, 3) := by decide +kernel
theorem dX10_without_8 : decode cX10_without 8 = .ok (.ifCond .eq 35, 3) := by decide +kernel
theorem dX10_without_11 : decode cX10_without 11 = .ok (.aload_n 0, 1) := by decide +kernel
theorem dX10_without_12 : decode cX10_without 12 = .ok (.getfield 60, 3) := by decide +kernel
theorem dX10_without_15 : decode cX10_without 15 = .ok (.iload_n 2, 1) := by decide +kernel
theorem dX10_without_16 : decode cX10_without 16 = .ok (.invokevirtual 238, 3) := by decide +kernel
theorem dX10_without_19 : decode cX10_without 19 = .ok (.ifCond .eq 24, 3) := by decide +kernel
theorem dX10_without_22 : decode cX10_without 22 = .ok (.aload_n 0, 1) := by decide +kernel
theorem dX10_without_23 : decode cX10_without 23 = .ok (.getfield 60, 3) := by decide +kernel
theorem dX10_without_26 : decode cX10_without 26 = .ok (.iload_n 3, 1) := by decide +kernel
theorem dX10_without_27 : decode cX10_without 27 = .ok (.invokevirtual 238, 3) := by decide +kernel
theorem dX10_without_30 : decode cX10_without 30 = .ok (.ifCond .eq 13, 3) := by decide +kernel
theorem dX10_without_33 : decode cX10_without 33 = .ok (.iload 4, 2) := by decide +kernel
theorem dX10_without_35 : decode cX10_without 35 = .ok (.iconst 0, 1) := by decide +kernel
theorem dX10_without_36 : decode cX10_without 36 = .ok (.iconst 1, 1) := by decide +kernel
theorem dX10_without_37 : decode cX10_without 37 = .ok (.invokestatic 86, 3) := by decide +kernel
theorem dX10_without_40 : decode cX10_without 40 = .ok (.ifCond .ne 7, 3) := by decide +kernel
theorem dX10_without_43 : decode cX10_without 43 = .ok (.ldc2_w 126, 3) := by decide +kernel
theorem dX10_without_46 : decode cX10_without 46 = .ok (.lreturn, 1) := by decide +kernel
theorem dX10_without_47 : decode cX10_without 47 = .ok (.aload_n 0, 1) := by decide +kernel
theorem dX10_without_48 : decode cX10_without 48 = .ok (.getfield 60, 3) := by decide +kernel
theorem dX10_without_51 : decode cX10_without 51 = .ok (.iload_n 2, 1) := by decide +kernel
theorem dX10_without_52 : decode cX10_without 52 = .ok (.iload_n 3, 1) := by decide +kernel
theorem dX10_without_53 : decode cX10_without 53 = .ok (.iload_n 1, 1) := by decide +kernel
theorem dX10_without_54 : decode cX10_without 54 = .ok (.invokevirtual 246, 3) := by decide +kernel
theorem dX10_without_57 : decode cX10_without 57 = .ok (.aload_n 0, 1) := by decide +kernel
theorem dX10_without_58 : decode cX10_without 58 = .ok (.getfield 60, 3) := by decide +kernel
theorem dX10_without_61 : decode cX10_without 61 = .ok (.getfield 249, 3) := by decide +kernel
theorem dX10_without_64 : decode cX10_without 64 = .ok (.iload 4, 2) := by decide +kernel
theorem dX10_without_66 : decode cX10_without 66 = .ok (.invokevirtual 135, 3) := by decide +kernel
theorem dX10_without_69 : decode cX10_without 69 = .ok (.lreturn, 1) := by decide +kernel
set_option maxRecDepth 20000 in
theorem ggX10_dearest_X3_has : GoodIn wsX10_dearest wsX3_has := goodIn_r _ [7, 8, 91, 92, 93, 94, 95, 96, 97, 98] (by decide +kernel) (by decide +kernel)
set_option maxRecDepth 20000 in
theorem gX10_dearest_X3_has : GoodIn wsX10_dearest (wsV RX10 238 RX3 yX3_has wsX3_has) := goodIn_app (goodIn_of _ (by decide +kernel)) ggX10_dearest_X3_has
set_option maxRecDepth 20000 in
theorem ggX10_dearest_X3_dearestEdge : GoodIn wsX10_dearest wsX3_dearestEdge := goodIn_r _ [12, 13, 14, 15, 16, 17, 18, 6, 19, 20, 21, 22, 23, 24, 25, 26, 27, 28, 29, 30, 31, 32, 33, 34, 35, 36, 37, 38, 39, 40, 41, 42, 8, 43, 44, 45, 46, 47, 48, 49, 50, 51, 52, 53, 54, 55, 56, 57, 58, 59, 60, 61, 62, 63, 64, 65, 66, 67, 68, 69, 70, 71, 72, 73, 74, 75, 76, 77, 78, 79, 80, 91, 92, 93, 94, 95, 96, 97, 98, 99, 100] (by decide +kernel) (by decide +kernel)
set_option maxRecDepth 20000 in
theorem gX10_dearest_X3_dearestEdge : GoodIn wsX10_dearest (wsV RX10 250 RX3 yX3_dearestEdge wsX3_dearestEdge) := goodIn_app (goodIn_of _ (by decide +kernel)) ggX10_dearest_X3_dearestEdge
theorem dX10_dearest_0 : decode cX10_dearest 0 = .ok (.aload_n 0, 1) := by decide +kernel
theorem dX10_dearest_1 : decode cX10_dearest 1 = .ok (.getfield 60, 3) := by decide +kernel
theorem dX10_dearest_4 : decode cX10_dearest 4 = .ok (.iload_n 1, 1) := by decide +kernel
theorem dX10_dearest_5 : decode cX10_dearest 5 = .ok (.invokevirtual 238, 3) := by decide +kernel
theorem dX10_dearest_8 : decode cX10_dearest 8 = .ok (.ifCond .eq 14, 3) := by decide +kernel
theorem dX10_dearest_11 : decode cX10_dearest 11 = .ok (.aload_n 0, 1) := by decide +kernel
theorem dX10_dearest_12 : decode cX10_dearest 12 = .ok (.getfield 60, 3) := by decide +kernel
theorem dX10_dearest_15 : decode cX10_dearest 15 = .ok (.iload_n 2, 1) := by decide +kernel
theorem dX10_dearest_16 : decode cX10_dearest 16 = .ok (.invokevirtual 238, 3) := by decide +kernel
theorem dX10_dearest_19 : decode cX10_dearest 19 = .ok (.ifCond .ne 5, 3) := by decide +kernel
theorem dX10_dearest_22 : decode cX10_dearest 22 = .ok (.iconst (-1), 1) := by decide +kernel
theorem dX10_dearest_23 : decode cX10_dearest 23 = .ok (.ireturn, 1) := by decide +kernel
theorem dX10_dearest_24 : decode cX10_dearest 24 = .ok (.aload_n 0, 1) := by decide +kernel
theorem dX10_dearest_25 : decode cX10_dearest 25 = .ok (.getfield 60, 3) := by decide +kernel
theorem dX10_dearest_28 : decode cX10_dearest 28 = .ok (.getfield 235, 3) := by decide +kernel
theorem dX10_dearest_31 : decode cX10_dearest 31 = .ok (.ifCond .ne 8, 3) := by decide +kernel
theorem dX10_dearest_34 : decode cX10_dearest 34 = .ok (.bipush (-2), 2) := by decide +kernel
theorem dX10_dearest_36 : decode cX10_dearest 36 = .ok (.goto 12, 3) := by decide +kernel
theorem dX10_dearest_39 : decode cX10_dearest 39 = .ok (.aload_n 0, 1) := by decide +kernel
theorem dX10_dearest_40 : decode cX10_dearest 40 = .ok (.getfield 60, 3) := by decide +kernel
theorem dX10_dearest_43 : decode cX10_dearest 43 = .ok (.iload_n 1, 1) := by decide +kernel
theorem dX10_dearest_44 : decode cX10_dearest 44 = .ok (.iload_n 2, 1) := by decide +kernel
theorem dX10_dearest_45 : decode cX10_dearest 45 = .ok (.invokevirtual 250, 3) := by decide +kernel
theorem dX10_dearest_48 : decode cX10_dearest 48 = .ok (.ireturn, 1) := by decide +kernel
set_option maxRecDepth 20000 in
theorem ggX10_bridges_X3_has : GoodIn wsX10_bridges wsX3_has := goodIn_r _ [6, 7, 39, 40, 41, 42, 43, 44, 45, 46] (by decide +kernel) (by decide +kernel)
set_option maxRecDepth 20000 in
theorem gX10_bridges_X3_has : GoodIn wsX10_bridges (wsV RX10 238 RX3 yX3_has wsX3_has) := goodIn_app (goodIn_of _ (by decide +kernel)) ggX10_bridges_X3_has
set_option maxRecDepth 20000 in
theorem ggX10_bridges_X3_isWay : GoodIn wsX10_bridges wsX3_isWay := goodIn_r _ [11, 12, 13, 14, 5, 15, 16, 17, 18, 19, 20, 21, 7, 22, 23, 39, 40, 41, 42, 43, 44, 45, 46] (by decide +kernel) (by decide +kernel)
set_option maxRecDepth 20000 in
theorem gX10_bridges_X3_isWay : GoodIn wsX10_bridges (wsV RX10 253 RX3 yX3_isWay wsX3_isWay) := goodIn_app (goodIn_of _ (by decide +kernel)) ggX10_bridges_X3_isWay
set_option maxRecDepth 20000 in
theorem ggX10_bridges_X3_bridgesOf : GoodIn wsX10_bridges wsX3_bridgesOf := goodIn_r _ [27, 16, 28, 9, 10, 5, 11, 12, 13, 14, 15, 17, 18, 19, 20, 21, 7, 22, 23, 39, 40, 41, 42, 43, 44, 45, 46] (by decide +kernel) (by decide +kernel)
set_option maxRecDepth 20000 in
theorem gX10_bridges_X3_bridgesOf : GoodIn wsX10_bridges (wsV RX10 256 RX3 yX3_bridgesOf wsX3_bridgesOf) := goodIn_app (goodIn_of _ (by decide +kernel)) ggX10_bridges_X3_bridgesOf
theorem dX10_bridges_0 : decode cX10_bridges 0 = .ok (.aload_n 0, 1) := by decide +kernel
theorem dX10_bridges_1 : decode cX10_bridges 1 = .ok (.getfield 60, 3) := by decide +kernel
theorem dX10_bridges_4 : decode cX10_bridges 4 = .ok (.iload_n 1, 1) := by decide +kernel
theorem dX10_bridges_5 : decode cX10_bridges 5 = .ok (.invokevirtual 238, 3) := by decide +kernel
theorem dX10_bridges_8 : decode cX10_bridges 8 = .ok (.ifCond .eq 14, 3) := by decide +kernel
theorem dX10_bridges_11 : decode cX10_bridges 11 = .ok (.aload_n 0, 1) := by decide +kernel
theorem dX10_bridges_12 : decode cX10_bridges 12 = .ok (.getfield 60, 3) := by decide +kernel
theorem dX10_bridges_15 : decode cX10_bridges 15 = .ok (.iload_n 2, 1) := by decide +kernel
theorem dX10_bridges_16 : decode cX10_bridges 16 = .ok (.invokevirtual 238, 3) := by decide +kernel
theorem dX10_bridges_19 : decode cX10_bridges 19 = .ok (.ifCond .ne 5, 3) := by decide +kernel
theorem dX10_bridges_22 : decode cX10_bridges 22 = .ok (.iconst (-1), 1) := by decide +kernel
theorem dX10_bridges_23 : decode cX10_bridges 23 = .ok (.ireturn, 1) := by decide +kernel
theorem dX10_bridges_24 : decode cX10_bridges 24 = .ok (.aload_n 0, 1) := by decide +kernel
theorem dX10_bridges_25 : decode cX10_bridges 25 = .ok (.getfield 60, 3) := by decide +kernel
theorem dX10_bridges_28 : decode cX10_bridges 28 = .ok (.iload_n 1, 1) := by decide +kernel
theorem dX10_bridges_29 : decode cX10_bridges 29 = .ok (.iload_n 2, 1) := by decide +kernel
theorem dX10_bridges_30 : decode cX10_bridges 30 = .ok (.iconst (-1), 1) := by decide +kernel
theorem dX10_bridges_31 : decode cX10_bridges 31 = .ok (.invokevirtual 253, 3) := by decide +kernel
theorem dX10_bridges_34 : decode cX10_bridges 34 = .ok (.ifCond .eq 15, 3) := by decide +kernel
theorem dX10_bridges_37 : decode cX10_bridges 37 = .ok (.aload_n 0, 1) := by decide +kernel
theorem dX10_bridges_38 : decode cX10_bridges 38 = .ok (.getfield 60, 3) := by decide +kernel
theorem dX10_bridges_41 : decode cX10_bridges 41 = .ok (.iload_n 1, 1) := by decide +kernel
theorem dX10_bridges_42 : decode cX10_bridges 42 = .ok (.iload_n 2, 1) := by decide +kernel
theorem dX10_bridges_43 : decode cX10_bridges 43 = .ok (.invokevirtual 256, 3) := by decide +kernel
theorem dX10_bridges_46 : decode cX10_bridges 46 = .ok (.goto 5, 3) := by decide +kernel
theorem dX10_bridges_49 : decode cX10_bridges 49 = .ok (.bipush (-5), 2) := by decide +kernel
theorem dX10_bridges_51 : decode cX10_bridges 51 = .ok (.ireturn, 1) := by decide +kernel
set_option maxRecDepth 20000 in
theorem ggX10_ways_X3_has : GoodIn wsX10_ways wsX3_has := goodIn_r _ [6, 7, 30, 31, 32, 33, 34, 35, 36, 37] (by decide +kernel) (by decide +kernel)
set_option maxRecDepth 20000 in
theorem gX10_ways_X3_has : GoodIn wsX10_ways (wsV RX10 238 RX3 yX3_has wsX3_has) := goodIn_app (goodIn_of _ (by decide +kernel)) ggX10_ways_X3_has
set_option maxRecDepth 20000 in
theorem ggX10_ways_X3_closedEdges : GoodIn wsX10_ways wsX3_closedEdges := goodIn_r _ [11, 12, 13, 30, 31, 32, 33, 34, 35, 36, 37] (by decide +kernel) (by decide +kernel)
set_option maxRecDepth 20000 in
theorem gX10_ways_X3_closedEdges : GoodIn wsX10_ways (wsV RX10 259 RX3 yX3_closedEdges wsX3_closedEdges) := goodIn_app (goodIn_of _ (by decide +kernel)) ggX10_ways_X3_closedEdges
set_option maxRecDepth 20000 in
theorem ggX10_ways_X3_pointsFrom : GoodIn wsX10_ways wsX3_pointsFrom := goodIn_r _ [17, 7, 12, 18, 19, 30, 31, 32, 33, 34, 35, 36, 37] (by decide +kernel) (by decide +kernel)
set_option maxRecDepth 20000 in
theorem gX10_ways_X3_pointsFrom : GoodIn wsX10_ways (wsV RX10 262 RX3 yX3_pointsFrom wsX3_pointsFrom) := goodIn_app (goodIn_of _ (by decide +kernel)) ggX10_ways_X3_pointsFrom
theorem dX10_ways_0 : decode cX10_ways 0 = .ok (.aload_n 0, 1) := by decide +kernel
theorem dX10_ways_1 : decode cX10_ways 1 = .ok (.getfield 60, 3) := by decide +kernel
theorem dX10_ways_4 : decode cX10_ways 4 = .ok (.iload_n 1, 1) := by decide +kernel
theorem dX10_ways_5 : decode cX10_ways 5 = .ok (.invokevirtual 238, 3) := by decide +kernel
theorem dX10_ways_8 : decode cX10_ways 8 = .ok (.ifCond .eq 22, 3) := by decide +kernel
theorem dX10_ways_11 : decode cX10_ways 11 = .ok (.aload_n 0, 1) := by decide +kernel
theorem dX10_ways_12 : decode cX10_ways 12 = .ok (.getfield 60, 3) := by decide +kernel
theorem dX10_ways_15 : decode cX10_ways 15 = .ok (.iload_n 1, 1) := by decide +kernel
theorem dX10_ways_16 : decode cX10_ways 16 = .ok (.aload_n 0, 1) := by decide +kernel
theorem dX10_ways_17 : decode cX10_ways 17 = .ok (.getfield 60, 3) := by decide +kernel
theorem dX10_ways_20 : decode cX10_ways 20 = .ok (.iconst (-1), 1) := by decide +kernel
theorem dX10_ways_21 : decode cX10_ways 21 = .ok (.invokevirtual 259, 3) := by decide +kernel
theorem dX10_ways_24 : decode cX10_ways 24 = .ok (.invokevirtual 262, 3) := by decide +kernel
theorem dX10_ways_27 : decode cX10_ways 27 = .ok (.goto 4, 3) := by decide +kernel
theorem dX10_ways_30 : decode cX10_ways 30 = .ok (.iconst (-1), 1) := by decide +kernel
theorem dX10_ways_31 : decode cX10_ways 31 = .ok (.ireturn, 1) := by decide +kernel
set_option maxRecDepth 20000 in
theorem ggX10_tray_X10_isTray : GoodIn wsX10_tray wsX10_isTray := goodIn_r _ [5] (by decide +kernel) (by decide +kernel)
set_option maxRecDepth 20000 in
theorem gX10_tray_X10_isTray : GoodIn wsX10_tray (va_wsS RX10 265 yX10_isTray wsX10_isTray) := goodIn_app (goodIn_of _ (by decide +kernel)) ggX10_tray_X10_isTray
set_option maxRecDepth 20000 in
theorem ggX10_tray_X10_isIn : GoodIn wsX10_tray wsX10_isIn := goodIn_r _ [8] (by decide +kernel) (by decide +kernel)
set_option maxRecDepth 20000 in
theorem gX10_tray_X10_isIn : GoodIn wsX10_tray (va_wsS RX10 86 yX10_isIn wsX10_isIn) := goodIn_app (goodIn_of _ (by decide +kernel)) ggX10_tray_X10_isIn
set_option maxRecDepth 20000 in
theorem ggX10_tray_X9_become : GoodIn wsX10_tray wsX9_become := goodIn_r _ [13, 14, 15, 16, 17, 18, 19, 20, 31, 32, 33] (by decide +kernel) (by decide +kernel)
set_option maxRecDepth 20000 in
theorem gX10_tray_X9_become : GoodIn wsX10_tray (wsV RX10 268 RX9 yX9_become wsX9_become) := goodIn_app (goodIn_of _ (by decide +kernel)) ggX10_tray_X9_become
theorem dX10_tray_0 : decode cX10_tray 0 = .ok (.iload_n 1, 1) := by decide +kernel
theorem dX10_tray_1 : decode cX10_tray 1 = .ok (.invokestatic 265, 3) := by decide +kernel
theorem dX10_tray_4 : decode cX10_tray 4 = .ok (.ifCond .eq 12, 3) := by decide +kernel
theorem dX10_tray_7 : decode cX10_tray 7 = .ok (.iload_n 2, 1) := by decide +kernel
theorem dX10_tray_8 : decode cX10_tray 8 = .ok (.iconst (-1), 1) := by decide +kernel
theorem dX10_tray_9 : decode cX10_tray 9 = .ok (.iconst 2, 1) := by decide +kernel
theorem dX10_tray_10 : decode cX10_tray 10 = .ok (.invokestatic 86, 3) := by decide +kernel
theorem dX10_tray_13 : decode cX10_tray 13 = .ok (.ifCond .ne 5, 3) := by decide +kernel
theorem dX10_tray_16 : decode cX10_tray 16 = .ok (.iconst (-1), 1) := by decide +kernel
theorem dX10_tray_17 : decode cX10_tray 17 = .ok (.ireturn, 1) := by decide +kernel
theorem dX10_tray_18 : decode cX10_tray 18 = .ok (.iload_n 2, 1) := by decide +kernel
theorem dX10_tray_19 : decode cX10_tray 19 = .ok (.iconst (-1), 1) := by decide +kernel
theorem dX10_tray_20 : decode cX10_tray 20 = .ok (.if_icmp .ne 16, 3) := by decide +kernel
theorem dX10_tray_23 : decode cX10_tray 23 = .ok (.aload_n 0, 1) := by decide +kernel
theorem dX10_tray_24 : decode cX10_tray 24 = .ok (.getfield 66, 3) := by decide +kernel
theorem dX10_tray_27 : decode cX10_tray 27 = .ok (.iload_n 1, 1) := by decide +kernel
theorem dX10_tray_28 : decode cX10_tray 28 = .ok (.aaload, 1) := by decide +kernel
theorem dX10_tray_29 : decode cX10_tray 29 = .ok (.iconst (-1), 1) := by decide +kernel
theorem dX10_tray_30 : decode cX10_tray 30 = .ok (.iconst 0, 1) := by decide +kernel
theorem dX10_tray_31 : decode cX10_tray 31 = .ok (.invokevirtual 268, 3) := by decide +kernel
theorem dX10_tray_34 : decode cX10_tray 34 = .ok (.iconst 1, 1) := by decide +kernel
theorem dX10_tray_35 : decode cX10_tray 35 = .ok (.ireturn, 1) := by decide +kernel
theorem dX10_tray_36 : decode cX10_tray 36 = .ok (.iload_n 3, 1) := by decide +kernel
theorem dX10_tray_37 : decode cX10_tray 37 = .ok (.bipush 20, 2) := by decide +kernel
theorem dX10_tray_39 : decode cX10_tray 39 = .ok (.if_icmp .le 5, 3) := by decide +kernel
theorem dX10_tray_42 : decode cX10_tray 42 = .ok (.iconst (-1), 1) := by decide +kernel
theorem dX10_tray_43 : decode cX10_tray 43 = .ok (.ireturn, 1) := by decide +kernel
theorem dX10_tray_44 : decode cX10_tray 44 = .ok (.iload_n 3, 1) := by decide +kernel
theorem dX10_tray_45 : decode cX10_tray 45 = .ok (.ifCond .ge 6, 3) := by decide +kernel
theorem dX10_tray_48 : decode cX10_tray 48 = .ok (.bipush (-14), 2) := by decide +kernel
theorem dX10_tray_50 : decode cX10_tray 50 = .ok (.ireturn, 1) := by decide +kernel
theorem dX10_tray_51 : decode cX10_tray 51 = .ok (.aload_n 0, 1) := by decide +kernel
theorem dX10_tray_52 : decode cX10_tray 52 = .ok (.getfield 66, 3) := by decide +kernel
theorem dX10_tray_55 : decode cX10_tray 55 = .ok (.iload_n 1, 1) := by decide +kernel
theorem dX10_tray_56 : decode cX10_tray 56 = .ok (.aaload, 1) := by decide +kernel
theorem dX10_tray_57 : decode cX10_tray 57 = .ok (.iload_n 2, 1) := by decide +kernel
theorem dX10_tray_58 : decode cX10_tray 58 = .ok (.iload_n 3, 1) := by decide +kernel
theorem dX10_tray_59 : decode cX10_tray 59 = .ok (.invokevirtual 268, 3) := by decide +kernel
theorem dX10_tray_62 : decode cX10_tray 62 = .ok (.iconst 1, 1) := by decide +kernel
theorem dX10_tray_63 : decode cX10_tray 63 = .ok (.ireturn, 1) := by decide +kernel
set_option maxRecDepth 20000 in
theorem ggX10_lay_X10_isTray : GoodIn wsX10_lay wsX10_isTray := goodIn_r _ [7] (by decide +kernel) (by decide +kernel)
set_option maxRecDepth 20000 in
theorem gX10_lay_X10_isTray : GoodIn wsX10_lay (va_wsS RX10 265 yX10_isTray wsX10_isTray) := goodIn_app (goodIn_of _ (by decide +kernel)) ggX10_lay_X10_isTray
set_option maxRecDepth 20000 in
theorem ggX10_lay_X5_has : GoodIn wsX10_lay wsX5_has := goodIn_r _ [12, 13, 44, 45, 46, 47, 48, 49, 50, 51, 52] (by decide +kernel) (by decide +kernel)
set_option maxRecDepth 20000 in
theorem gX10_lay_X5_has : GoodIn wsX10_lay (wsV RX10 106 RX5 yX5_has wsX5_has) := goodIn_app (goodIn_of _ (by decide +kernel)) ggX10_lay_X5_has
set_option maxRecDepth 20000 in
theorem ggX10_lay_X9_isMissing : GoodIn wsX10_lay wsX9_isMissing := goodIn_r _ [18, 19, 41, 42, 43] (by decide +kernel) (by decide +kernel)
set_option maxRecDepth 20000 in
theorem gX10_lay_X9_isMissing : GoodIn wsX10_lay (wsV RX10 272 RX9 yX9_isMissing wsX9_isMissing) := goodIn_app (goodIn_of _ (by decide +kernel)) ggX10_lay_X9_isMissing
set_option maxRecDepth 20000 in
theorem ggX10_lay_X9_hasPlace : GoodIn wsX10_lay wsX9_hasPlace := goodIn_r _ [23, 24, 41, 42, 43] (by decide +kernel) (by decide +kernel)
set_option maxRecDepth 20000 in
theorem gX10_lay_X9_hasPlace : GoodIn wsX10_lay (wsV RX10 276 RX9 yX9_hasPlace wsX9_hasPlace) := goodIn_app (goodIn_of _ (by decide +kernel)) ggX10_lay_X9_hasPlace
set_option maxRecDepth 20000 in
theorem ggX10_lay_X9_fits : GoodIn wsX10_lay wsX9_fits := goodIn_r _ [28, 19, 29, 30, 9, 10, 11, 12, 13, 41, 42, 43, 44, 45, 46, 47, 48, 49, 50, 51, 52] (by decide +kernel) (by decide +kernel)
set_option maxRecDepth 20000 in
theorem gX10_lay_X9_fits : GoodIn wsX10_lay (wsV RX10 279 RX9 yX9_fits wsX9_fits) := goodIn_app (goodIn_of _ (by decide +kernel)) ggX10_lay_X9_fits
theorem dX10_lay_0 : decode cX10_lay 0 = .ok (.iload_n 1, 1) := by decide +kernel
theorem dX10_lay_1 : decode cX10_lay 1 = .ok (.invokestatic 265, 3) := by decide +kernel
theorem dX10_lay_4 : decode cX10_lay 4 = .ok (.ifCond .eq 19, 3) := by decide +kernel
theorem dX10_lay_7 : decode cX10_lay 7 = .ok (.iload_n 3, 1) := by decide +kernel
theorem dX10_lay_8 : decode cX10_lay 8 = .ok (.iconst (-1), 1) := by decide +kernel
theorem dX10_lay_9 : decode cX10_lay 9 = .ok (.if_icmp .eq 16, 3) := by decide +kernel
theorem dX10_lay_12 : decode cX10_lay 12 = .ok (.aload_n 0, 1) := by decide +kernel
theorem dX10_lay_13 : decode cX10_lay 13 = .ok (.getfield 21, 3) := by decide +kernel
theorem dX10_lay_16 : decode cX10_lay 16 = .ok (.iload_n 3, 1) := by decide +kernel
theorem dX10_lay_17 : decode cX10_lay 17 = .ok (.invokevirtual 106, 3) := by decide +kernel
theorem dX10_lay_20 : decode cX10_lay 20 = .ok (.ifCond .ne 5, 3) := by decide +kernel
theorem dX10_lay_23 : decode cX10_lay 23 = .ok (.iconst (-1), 1) := by decide +kernel
theorem dX10_lay_24 : decode cX10_lay 24 = .ok (.ireturn, 1) := by decide +kernel
theorem dX10_lay_25 : decode cX10_lay 25 = .ok (.aload_n 0, 1) := by decide +kernel
theorem dX10_lay_26 : decode cX10_lay 26 = .ok (.getfield 66, 3) := by decide +kernel
theorem dX10_lay_29 : decode cX10_lay 29 = .ok (.iload_n 1, 1) := by decide +kernel
theorem dX10_lay_30 : decode cX10_lay 30 = .ok (.aaload, 1) := by decide +kernel
theorem dX10_lay_31 : decode cX10_lay 31 = .ok (.astore 4, 2) := by decide +kernel
theorem dX10_lay_33 : decode cX10_lay 33 = .ok (.aload 4, 2) := by decide +kernel
theorem dX10_lay_35 : decode cX10_lay 35 = .ok (.invokevirtual 272, 3) := by decide +kernel
theorem dX10_lay_38 : decode cX10_lay 38 = .ok (.ifCond .eq 6, 3) := by decide +kernel
theorem dX10_lay_41 : decode cX10_lay 41 = .ok (.bipush (-11), 2) := by decide +kernel
theorem dX10_lay_43 : decode cX10_lay 43 = .ok (.ireturn, 1) := by decide +kernel
theorem dX10_lay_44 : decode cX10_lay 44 = .ok (.aload 4, 2) := by decide +kernel
theorem dX10_lay_46 : decode cX10_lay 46 = .ok (.iload_n 2, 1) := by decide +kernel
theorem dX10_lay_47 : decode cX10_lay 47 = .ok (.invokevirtual 276, 3) := by decide +kernel
theorem dX10_lay_50 : decode cX10_lay 50 = .ok (.ifCond .ne 6, 3) := by decide +kernel
theorem dX10_lay_53 : decode cX10_lay 53 = .ok (.bipush (-13), 2) := by decide +kernel
theorem dX10_lay_55 : decode cX10_lay 55 = .ok (.ireturn, 1) := by decide +kernel
theorem dX10_lay_56 : decode cX10_lay 56 = .ok (.aload 4, 2) := by decide +kernel
theorem dX10_lay_58 : decode cX10_lay 58 = .ok (.aload_n 0, 1) := by decide +kernel
theorem dX10_lay_59 : decode cX10_lay 59 = .ok (.getfield 21, 3) := by decide +kernel
theorem dX10_lay_62 : decode cX10_lay 62 = .ok (.iload_n 3, 1) := by decide +kernel
theorem dX10_lay_63 : decode cX10_lay 63 = .ok (.invokevirtual 279, 3) := by decide +kernel
theorem dX10_lay_66 : decode cX10_lay 66 = .ok (.ifCond .ne 6, 3) := by decide +kernel
theorem dX10_lay_69 : decode cX10_lay 69 = .ok (.bipush (-12), 2) := by decide +kernel
theorem dX10_lay_71 : decode cX10_lay 71 = .ok (.ireturn, 1) := by decide +kernel
theorem dX10_lay_72 : decode cX10_lay 72 = .ok (.aload 4, 2) := by decide +kernel
theorem dX10_lay_74 : decode cX10_lay 74 = .ok (.getfield 283, 3) := by decide +kernel
theorem dX10_lay_77 : decode cX10_lay 77 = .ok (.iload_n 2, 1) := by decide +kernel
theorem dX10_lay_78 : decode cX10_lay 78 = .ok (.iload_n 3, 1) := by decide +kernel
theorem dX10_lay_79 : decode cX10_lay 79 = .ok (.iastore, 1) := by decide +kernel
theorem dX10_lay_80 : decode cX10_lay 80 = .ok (.iconst 1, 1) := by decide +kernel
theorem dX10_lay_81 : decode cX10_lay 81 = .ok (.ireturn, 1) := by decide +kernel
set_option maxRecDepth 20000 in
theorem ggX10_at_X10_isTray : GoodIn wsX10_at wsX10_isTray := goodIn_r _ [6] (by decide +kernel) (by decide +kernel)
set_option maxRecDepth 20000 in
theorem gX10_at_X10_isTray : GoodIn wsX10_at (va_wsS RX10 265 yX10_isTray wsX10_isTray) := goodIn_app (goodIn_of _ (by decide +kernel)) ggX10_at_X10_isTray
set_option maxRecDepth 20000 in
theorem ggX10_at_X9_isMissing : GoodIn wsX10_at wsX9_isMissing := goodIn_r _ [11, 12, 28, 29, 30] (by decide +kernel) (by decide +kernel)
set_option maxRecDepth 20000 in
theorem gX10_at_X9_isMissing : GoodIn wsX10_at (wsV RX10 272 RX9 yX9_isMissing wsX9_isMissing) := goodIn_app (goodIn_of _ (by decide +kernel)) ggX10_at_X9_isMissing
set_option maxRecDepth 20000 in
theorem ggX10_at_X9_hasPlace : GoodIn wsX10_at wsX9_hasPlace := goodIn_r _ [16, 17, 28, 29, 30] (by decide +kernel) (by decide +kernel)
set_option maxRecDepth 20000 in
theorem gX10_at_X9_hasPlace : GoodIn wsX10_at (wsV RX10 276 RX9 yX9_hasPlace wsX9_hasPlace) := goodIn_app (goodIn_of _ (by decide +kernel)) ggX10_at_X9_hasPlace
theorem dX10_at_0 : decode cX10_at 0 = .ok (.iload_n 1, 1) := by decide +kernel
theorem dX10_at_1 : decode cX10_at 1 = .ok (.invokestatic 265, 3) := by decide +kernel
theorem dX10_at_4 : decode cX10_at 4 = .ok (.ifCond .ne 5, 3) := by decide +kernel
theorem dX10_at_7 : decode cX10_at 7 = .ok (.iconst (-1), 1) := by decide +kernel
theorem dX10_at_8 : decode cX10_at 8 = .ok (.ireturn, 1) := by decide +kernel
theorem dX10_at_9 : decode cX10_at 9 = .ok (.aload_n 0, 1) := by decide +kernel
theorem dX10_at_10 : decode cX10_at 10 = .ok (.getfield 66, 3) := by decide +kernel
theorem dX10_at_13 : decode cX10_at 13 = .ok (.iload_n 1, 1) := by decide +kernel
theorem dX10_at_14 : decode cX10_at 14 = .ok (.aaload, 1) := by decide +kernel
theorem dX10_at_15 : decode cX10_at 15 = .ok (.astore_n 3, 1) := by decide +kernel
theorem dX10_at_16 : decode cX10_at 16 = .ok (.aload_n 3, 1) := by decide +kernel
theorem dX10_at_17 : decode cX10_at 17 = .ok (.invokevirtual 272, 3) := by decide +kernel
theorem dX10_at_20 : decode cX10_at 20 = .ok (.ifCond .eq 6, 3) := by decide +kernel
theorem dX10_at_23 : decode cX10_at 23 = .ok (.bipush (-11), 2) := by decide +kernel
theorem dX10_at_25 : decode cX10_at 25 = .ok (.ireturn, 1) := by decide +kernel
theorem dX10_at_26 : decode cX10_at 26 = .ok (.aload_n 3, 1) := by decide +kernel
theorem dX10_at_27 : decode cX10_at 27 = .ok (.iload_n 2, 1) := by decide +kernel
theorem dX10_at_28 : decode cX10_at 28 = .ok (.invokevirtual 276, 3) := by decide +kernel
theorem dX10_at_31 : decode cX10_at 31 = .ok (.ifCond .ne 6, 3) := by decide +kernel
theorem dX10_at_34 : decode cX10_at 34 = .ok (.bipush (-13), 2) := by decide +kernel
theorem dX10_at_36 : decode cX10_at 36 = .ok (.ireturn, 1) := by decide +kernel
theorem dX10_at_37 : decode cX10_at 37 = .ok (.aload_n 3, 1) := by decide +kernel
theorem dX10_at_38 : decode cX10_at 38 = .ok (.getfield 283, 3) := by decide +kernel
theorem dX10_at_41 : decode cX10_at 41 = .ok (.iload_n 2, 1) := by decide +kernel
theorem dX10_at_42 : decode cX10_at 42 = .ok (.iaload, 1) := by decide +kernel
theorem dX10_at_43 : decode cX10_at 43 = .ok (.iconst (-1), 1) := by decide +kernel
theorem dX10_at_44 : decode cX10_at 44 = .ok (.if_icmp .ne 8, 3) := by decide +kernel
theorem dX10_at_47 : decode cX10_at 47 = .ok (.bipush (-2), 2) := by decide +kernel
theorem dX10_at_49 : decode cX10_at 49 = .ok (.goto 9, 3) := by decide +kernel
theorem dX10_at_52 : decode cX10_at 52 = .ok (.aload_n 3, 1) := by decide +kernel
theorem dX10_at_53 : decode cX10_at 53 = .ok (.getfield 283, 3) := by decide +kernel
theorem dX10_at_56 : decode cX10_at 56 = .ok (.iload_n 2, 1) := by decide +kernel
theorem dX10_at_57 : decode cX10_at 57 = .ok (.iaload, 1) := by decide +kernel
theorem dX10_at_58 : decode cX10_at 58 = .ok (.ireturn, 1) := by decide +kernel
set_option maxRecDepth 20000 in
theorem ggX10_shift_X10_isTray : GoodIn wsX10_shift wsX10_isTray := goodIn_r _ [12] (by decide +kernel) (by decide +kernel)
set_option maxRecDepth 20000 in
theorem gX10_shift_X10_isTray : GoodIn wsX10_shift (va_wsS RX10 265 yX10_isTray wsX10_isTray) := goodIn_app (goodIn_of _ (by decide +kernel)) ggX10_shift_X10_isTray
set_option maxRecDepth 20000 in
theorem ggX10_shift_X9_isMissing : GoodIn wsX10_shift wsX9_isMissing := goodIn_r _ [17, 18, 45, 46, 47] (by decide +kernel) (by decide +kernel)
set_option maxRecDepth 20000 in
theorem gX10_shift_X9_isMissing : GoodIn wsX10_shift (wsV RX10 272 RX9 yX9_isMissing wsX9_isMissing) := goodIn_app (goodIn_of _ (by decide +kernel)) ggX10_shift_X9_isMissing
set_option maxRecDepth 20000 in
theorem ggX10_shift_X9_hasStretch : GoodIn wsX10_shift wsX9_hasStretch := goodIn_r _ [22, 23, 45, 46, 47] (by decide +kernel) (by decide +kernel)
set_option maxRecDepth 20000 in
theorem gX10_shift_X9_hasStretch : GoodIn wsX10_shift (wsV RX10 286 RX9 yX9_hasStretch wsX9_hasStretch) := goodIn_app (goodIn_of _ (by decide +kernel)) ggX10_shift_X9_hasStretch
set_option maxRecDepth 20000 in
theorem ggX10_shift_X9_fits : GoodIn wsX10_shift wsX9_fits := goodIn_r _ [27, 18, 28, 29, 30, 31, 32, 33, 34, 45, 46, 47, 48, 49, 50, 51, 52, 53, 54, 55, 56] (by decide +kernel) (by decide +kernel)
set_option maxRecDepth 20000 in
theorem gX10_shift_X9_fits : GoodIn wsX10_shift (wsV RX10 279 RX9 yX9_fits wsX9_fits) := goodIn_app (goodIn_of _ (by decide +kernel)) ggX10_shift_X9_fits
theorem dX10_shift_0 : decode cX10_shift 0 = .ok (.iload_n 1, 1) := by decide +kernel
theorem dX10_shift_1 : decode cX10_shift 1 = .ok (.invokestatic 265, 3) := by decide +kernel
theorem dX10_shift_4 : decode cX10_shift 4 = .ok (.ifCond .eq 10, 3) := by decide +kernel
theorem dX10_shift_7 : decode cX10_shift 7 = .ok (.iload_n 3, 1) := by decide +kernel
theorem dX10_shift_8 : decode cX10_shift 8 = .ok (.invokestatic 265, 3) := by decide +kernel
theorem dX10_shift_11 : decode cX10_shift 11 = .ok (.ifCond .ne 5, 3) := by decide +kernel
theorem dX10_shift_14 : decode cX10_shift 14 = .ok (.iconst (-1), 1) := by decide +kernel
theorem dX10_shift_15 : decode cX10_shift 15 = .ok (.ireturn, 1) := by decide +kernel
theorem dX10_shift_16 : decode cX10_shift 16 = .ok (.aload_n 0, 1) := by decide +kernel
theorem dX10_shift_17 : decode cX10_shift 17 = .ok (.getfield 66, 3) := by decide +kernel
theorem dX10_shift_20 : decode cX10_shift 20 = .ok (.iload_n 1, 1) := by decide +kernel
theorem dX10_shift_21 : decode cX10_shift 21 = .ok (.aaload, 1) := by decide +kernel
theorem dX10_shift_22 : decode cX10_shift 22 = .ok (.astore 6, 2) := by decide +kernel
theorem dX10_shift_24 : decode cX10_shift 24 = .ok (.aload_n 0, 1) := by decide +kernel
theorem dX10_shift_25 : decode cX10_shift 25 = .ok (.getfield 66, 3) := by decide +kernel
theorem dX10_shift_28 : decode cX10_shift 28 = .ok (.iload_n 3, 1) := by decide +kernel
theorem dX10_shift_29 : decode cX10_shift 29 = .ok (.aaload, 1) := by decide +kernel
theorem dX10_shift_30 : decode cX10_shift 30 = .ok (.astore 7, 2) := by decide +kernel
theorem dX10_shift_32 : decode cX10_shift 32 = .ok (.aload 6, 2) := by decide +kernel
theorem dX10_shift_34 : decode cX10_shift 34 = .ok (.invokevirtual 272, 3) := by decide +kernel
theorem dX10_shift_37 : decode cX10_shift 37 = .ok (.ifCond .ne 11, 3) := by decide +kernel
theorem dX10_shift_40 : decode cX10_shift 40 = .ok (.aload 7, 2) := by decide +kernel
theorem dX10_shift_42 : decode cX10_shift 42 = .ok (.invokevirtual 272, 3) := by decide +kernel
theorem dX10_shift_45 : decode cX10_shift 45 = .ok (.ifCond .eq 6, 3) := by decide +kernel
theorem dX10_shift_48 : decode cX10_shift 48 = .ok (.bipush (-11), 2) := by decide +kernel
theorem dX10_shift_50 : decode cX10_shift 50 = .ok (.ireturn, 1) := by decide +kernel
theorem dX10_shift_51 : decode cX10_shift 51 = .ok (.aload 6, 2) := by decide +kernel
theorem dX10_shift_53 : decode cX10_shift 53 = .ok (.iload_n 2, 1) := by decide +kernel
theorem dX10_shift_54 : decode cX10_shift 54 = .ok (.iload 5, 2) := by decide +kernel
theorem dX10_shift_56 : decode cX10_shift 56 = .ok (.invokevirtual 286, 3) := by decide +kernel
theorem dX10_shift_59 : decode cX10_shift 59 = .ok (.ifCond .eq 15, 3) := by decide +kernel
theorem dX10_shift_62 : decode cX10_shift 62 = .ok (.aload 7, 2) := by decide +kernel
theorem dX10_shift_64 : decode cX10_shift 64 = .ok (.iload 4, 2) := by decide +kernel
theorem dX10_shift_66 : decode cX10_shift 66 = .ok (.iload 5, 2) := by decide +kernel
theorem dX10_shift_68 : decode cX10_shift 68 = .ok (.invokevirtual 286, 3) := by decide +kernel
theorem dX10_shift_71 : decode cX10_shift 71 = .ok (.ifCond .ne 6, 3) := by decide +kernel
theorem dX10_shift_74 : decode cX10_shift 74 = .ok (.bipush (-13), 2) := by decide +kernel
theorem dX10_shift_76 : decode cX10_shift 76 = .ok (.ireturn, 1) := by decide +kernel
theorem dX10_shift_77 : decode cX10_shift 77 = .ok (.aload 6, 2) := by decide +kernel
theorem dX10_shift_79 : decode cX10_shift 79 = .ok (.getfield 283, 3) := by decide +kernel
theorem dX10_shift_82 : decode cX10_shift 82 = .ok (.iload_n 2, 1) := by decide +kernel
theorem dX10_shift_83 : decode cX10_shift 83 = .ok (.aload_n 0, 1) := by decide +kernel
theorem dX10_shift_84 : decode cX10_shift 84 = .ok (.getfield 71, 3) := by decide +kernel
theorem dX10_shift_87 : decode cX10_shift 87 = .ok (.iconst 0, 1) := by decide +kernel
theorem dX10_shift_88 : decode cX10_shift 88 = .ok (.iload 5, 2) := by decide +kernel
theorem dX10_shift_90 : decode cX10_shift 90 = .ok (.invokestatic 289, 3) := by decide +kernel
theorem dX10_shift_93 : decode cX10_shift 93 = .ok (.iconst 0, 1) := by decide +kernel
theorem dX10_shift_94 : decode cX10_shift 94 = .ok (.istore 8, 2) := by decide +kernel
theorem dX10_shift_96 : decode cX10_shift 96 = .ok (.iload 8, 2) := by decide +kernel
theorem dX10_shift_98 : decode cX10_shift 98 = .ok (.iload 5, 2) := by decide +kernel
theorem dX10_shift_100 : decode cX10_shift 100 = .ok (.if_icmp .ge 49, 3) := by decide +kernel
theorem dX10_shift_103 : decode cX10_shift 103 = .ok (.aload 7, 2) := by decide +kernel
theorem dX10_shift_105 : decode cX10_shift 105 = .ok (.aload_n 0, 1) := by decide +kernel
theorem dX10_shift_106 : decode cX10_shift 106 = .ok (.getfield 21, 3) := by decide +kernel
theorem dX10_shift_109 : decode cX10_shift 109 = .ok (.aload_n 0, 1) := by decide +kernel
theorem dX10_shift_110 : decode cX10_shift 110 = .ok (.getfield 71, 3) := by decide +kernel
theorem dX10_shift_113 : decode cX10_shift 113 = .ok (.iload 8, 2) := by decide +kernel
theorem dX10_shift_115 : decode cX10_shift 115 = .ok (.iaload, 1) := by decide +kernel
theorem dX10_shift_116 : decode cX10_shift 116 = .ok (.invokevirtual 279, 3) := by decide +kernel
theorem dX10_shift_119 : decode cX10_shift 119 = .ok (.ifCond .ne 6, 3) := by decide +kernel
theorem dX10_shift_122 : decode cX10_shift 122 = .ok (.bipush (-12), 2) := by decide +kernel
theorem dX10_shift_124 : decode cX10_shift 124 = .ok (.ireturn, 1) := by decide +kernel
theorem dX10_shift_125 : decode cX10_shift 125 = .ok (.aload 7, 2) := by decide +kernel
theorem dX10_shift_127 : decode cX10_shift 127 = .ok (.getfield 283, 3) := by decide +kernel
theorem dX10_shift_130 : decode cX10_shift 130 = .ok (.iload 4, 2) := by decide +kernel
theorem dX10_shift_132 : decode cX10_shift 132 = .ok (.iload 8, 2) := by decide +kernel
theorem dX10_shift_134 : decode cX10_shift 134 = .ok (.iadd, 1) := by decide +kernel
theorem dX10_shift_135 : decode cX10_shift 135 = .ok (.aload_n 0, 1) := by decide +kernel
theorem dX10_shift_136 : decode cX10_shift 136 = .ok (.getfield 71, 3) := by decide +kernel
theorem dX10_shift_139 : decode cX10_shift 139 = .ok (.iload 8, 2) := by decide +kernel
theorem dX10_shift_141 : decode cX10_shift 141 = .ok (.iaload, 1) := by decide +kernel
theorem dX10_shift_142 : decode cX10_shift 142 = .ok (.iastore, 1) := by decide +kernel
theorem dX10_shift_143 : decode cX10_shift 143 = .ok (.iinc 8 1, 3) := by decide +kernel
theorem dX10_shift_146 : decode cX10_shift 146 = .ok (.goto (-50), 3) := by decide +kernel
theorem dX10_shift_149 : decode cX10_shift 149 = .ok (.iload 5, 2) := by decide +kernel
theorem dX10_shift_151 : decode cX10_shift 151 = .ok (.ireturn, 1) := by decide +kernel
set_option maxRecDepth 20000 in
theorem ggX10_image_X2_take : GoodIn wsX10_image wsX2_take := goodIn_r _ [11, 12, 13, 14, 15, 16, 17, 18, 19, 20, 21, 22, 23, 24, 25, 26, 27, 28, 29, 30, 31, 32, 33, 34, 35, 36, 37, 38, 39, 40, 41, 42, 43, 44, 45, 46, 47, 48, 49, 50, 51, 52, 53, 54, 55, 56, 57, 58, 78, 79, 80, 81, 82, 83, 84, 69, 70, 71, 72, 73, 74, 75, 76, 77, 85, 86, 87, 88, 89, 90, 91, 92, 93, 94, 95] (by decide +kernel) (by decide +kernel)
set_option maxRecDepth 20000 in
theorem gX10_image_X2_take : GoodIn wsX10_image (wsV RX10 295 RX2 yX2_take wsX2_take) := goodIn_app (goodIn_of _ (by decide +kernel)) ggX10_image_X2_take
theorem dX10_image_0 : decode cX10_image 0 = .ok (.aload_n 0, 1) := by decide +kernel
theorem dX10_image_1 : decode cX10_image 1 = .ok (.getfield 78, 3) := by decide +kernel
theorem dX10_image_4 : decode cX10_image 4 = .ok (.aload_n 0, 1) := by decide +kernel
theorem dX10_image_5 : decode cX10_image 5 = .ok (.getfield 14, 3) := by decide +kernel
theorem dX10_image_8 : decode cX10_image 8 = .ok (.aload_n 0, 1) := by decide +kernel
theorem dX10_image_9 : decode cX10_image 9 = .ok (.getfield 21, 3) := by decide +kernel
theorem dX10_image_12 : decode cX10_image 12 = .ok (.aload_n 0, 1) := by decide +kernel
theorem dX10_image_13 : decode cX10_image 13 = .ok (.getfield 60, 3) := by decide +kernel
theorem dX10_image_16 : decode cX10_image 16 = .ok (.aload_n 0, 1) := by decide +kernel
theorem dX10_image_17 : decode cX10_image 17 = .ok (.getfield 66, 3) := by decide +kernel
theorem dX10_image_20 : decode cX10_image 20 = .ok (.invokevirtual 295, 3) := by decide +kernel
theorem dX10_image_23 : decode cX10_image 23 = .ok (.aload_n 0, 1) := by decide +kernel
theorem dX10_image_24 : decode cX10_image 24 = .ok (.getfield 21, 3) := by decide +kernel
theorem dX10_image_27 : decode cX10_image 27 = .ok (.getfield 298, 3) := by decide +kernel
theorem dX10_image_30 : decode cX10_image 30 = .ok (.ireturn, 1) := by decide +kernel
set_option maxRecDepth 20000 in
theorem ggX10_back_X2_give : GoodIn wsX10_back wsX2_give := goodIn_r _ [12, 13, 14, 15, 16, 17, 18, 19, 20, 21, 22, 23, 24, 25, 26, 27, 28, 29, 30, 31, 32, 33, 34, 35, 36, 37, 38, 39, 40, 41, 42, 43, 44, 45, 46, 47, 48, 49, 50, 51, 52, 53, 54, 55, 56, 57, 58, 69, 70, 71, 72, 73, 83, 84, 74, 75, 76, 77, 78, 79, 80, 81, 82, 85, 86, 87, 88, 89, 90, 91, 92, 93, 94, 95] (by decide +kernel) (by decide +kernel)
set_option maxRecDepth 20000 in
theorem gX10_back_X2_give : GoodIn wsX10_back (wsV RX10 305 RX2 yX2_give wsX2_give) := goodIn_app (goodIn_of _ (by decide +kernel)) ggX10_back_X2_give
theorem dX10_back_0 : decode cX10_back 0 = .ok (.aload_n 0, 1) := by decide +kernel
theorem dX10_back_1 : decode cX10_back 1 = .ok (.getfield 78, 3) := by decide +kernel
theorem dX10_back_4 : decode cX10_back 4 = .ok (.getfield 301, 3) := by decide +kernel
theorem dX10_back_7 : decode cX10_back 7 = .ok (.ifCond .ne 6, 3) := by decide +kernel
theorem dX10_back_10 : decode cX10_back 10 = .ok (.bipush (-5), 2) := by decide +kernel
theorem dX10_back_12 : decode cX10_back 12 = .ok (.ireturn, 1) := by decide +kernel
theorem dX10_back_13 : decode cX10_back 13 = .ok (.aload_n 0, 1) := by decide +kernel
theorem dX10_back_14 : decode cX10_back 14 = .ok (.getfield 78, 3) := by decide +kernel
theorem dX10_back_17 : decode cX10_back 17 = .ok (.aload_n 0, 1) := by decide +kernel
theorem dX10_back_18 : decode cX10_back 18 = .ok (.getfield 14, 3) := by decide +kernel
theorem dX10_back_21 : decode cX10_back 21 = .ok (.aload_n 0, 1) := by decide +kernel
theorem dX10_back_22 : decode cX10_back 22 = .ok (.getfield 21, 3) := by decide +kernel
theorem dX10_back_25 : decode cX10_back 25 = .ok (.aload_n 0, 1) := by decide +kernel
theorem dX10_back_26 : decode cX10_back 26 = .ok (.getfield 60, 3) := by decide +kernel
theorem dX10_back_29 : decode cX10_back 29 = .ok (.aload_n 0, 1) := by decide +kernel
theorem dX10_back_30 : decode cX10_back 30 = .ok (.getfield 66, 3) := by decide +kernel
theorem dX10_back_33 : decode cX10_back 33 = .ok (.invokevirtual 305, 3) := by decide +kernel
theorem dX10_back_36 : decode cX10_back 36 = .ok (.aload_n 0, 1) := by decide +kernel
theorem dX10_back_37 : decode cX10_back 37 = .ok (.getfield 21, 3) := by decide +kernel
theorem dX10_back_40 : decode cX10_back 40 = .ok (.getfield 298, 3) := by decide +kernel
theorem dX10_back_43 : decode cX10_back 43 = .ok (.ireturn, 1) := by decide +kernel
set_option maxRecDepth 20000 in
theorem ggX10_count_X0_sortsThere : GoodIn wsX10_count wsX0_sortsThere := goodIn_r _ [15, 16, 117, 118] (by decide +kernel) (by decide +kernel)
set_option maxRecDepth 20000 in
theorem gX10_count_X0_sortsThere : GoodIn wsX10_count (wsV RX10 308 RX0 yX0_sortsThere wsX0_sortsThere) := goodIn_app (goodIn_of _ (by decide +kernel)) ggX10_count_X0_sortsThere
set_option maxRecDepth 20000 in
theorem ggX10_count_X7_build : GoodIn wsX10_count wsX7_build := goodIn_r _ [21, 22, 23, 24, 25, 26, 27, 28, 29, 30, 31, 32, 33, 34, 35, 36, 20, 37, 38, 39, 40, 41, 42, 43, 44, 45, 46, 47, 48, 14, 49, 16, 50, 51, 52, 53, 54, 55, 56, 57, 58, 59, 60, 61, 62, 63, 64, 65, 66, 67, 68, 69, 70, 71, 72, 103, 104, 105, 106, 107, 108, 109, 110, 111, 112, 113, 114, 115, 116, 117, 118] (by decide +kernel) (by decide +kernel)
set_option maxRecDepth 20000 in
theorem gX10_count_X7_build : GoodIn wsX10_count (wsV RX10 202 RX7 yX7_build wsX7_build) := goodIn_app (goodIn_of _ (by decide +kernel)) ggX10_count_X7_build
theorem dX10_count_0 : decode cX10_count 0 = .ok (.iload_n 1, 1) := by decide +kernel
theorem dX10_count_1 : decode cX10_count 1 = .ok (.tableswitch 97 0 5 #[39, 47, 55, 63, 71, 79], 39) := by decide +kernel
theorem dX10_count_40 : decode cX10_count 40 = .ok (.aload_n 0, 1) := by decide +kernel
theorem dX10_count_41 : decode cX10_count 41 = .ok (.getfield 21, 3) := by decide +kernel
theorem dX10_count_44 : decode cX10_count 44 = .ok (.getfield 298, 3) := by decide +kernel
theorem dX10_count_47 : decode cX10_count 47 = .ok (.ireturn, 1) := by decide +kernel
theorem dX10_count_48 : decode cX10_count 48 = .ok (.aload_n 0, 1) := by decide +kernel
theorem dX10_count_49 : decode cX10_count 49 = .ok (.getfield 14, 3) := by decide +kernel
theorem dX10_count_52 : decode cX10_count 52 = .ok (.invokevirtual 308, 3) := by decide +kernel
theorem dX10_count_55 : decode cX10_count 55 = .ok (.ireturn, 1) := by decide +kernel
theorem dX10_count_56 : decode cX10_count 56 = .ok (.aload_n 0, 1) := by decide +kernel
theorem dX10_count_57 : decode cX10_count 57 = .ok (.getfield 60, 3) := by decide +kernel
theorem dX10_count_60 : decode cX10_count 60 = .ok (.getfield 232, 3) := by decide +kernel
theorem dX10_count_63 : decode cX10_count 63 = .ok (.ireturn, 1) := by decide +kernel
theorem dX10_count_64 : decode cX10_count 64 = .ok (.aload_n 0, 1) := by decide +kernel
theorem dX10_count_65 : decode cX10_count 65 = .ok (.getfield 60, 3) := by decide +kernel
theorem dX10_count_68 : decode cX10_count 68 = .ok (.getfield 235, 3) := by decide +kernel
theorem dX10_count_71 : decode cX10_count 71 = .ok (.ireturn, 1) := by decide +kernel
theorem dX10_count_72 : decode cX10_count 72 = .ok (.aload_n 0, 1) := by decide +kernel
theorem dX10_count_73 : decode cX10_count 73 = .ok (.getfield 37, 3) := by decide +kernel
theorem dX10_count_76 : decode cX10_count 76 = .ok (.getfield 189, 3) := by decide +kernel
theorem dX10_count_79 : decode cX10_count 79 = .ok (.ireturn, 1) := by decide +kernel
theorem dX10_count_80 : decode cX10_count 80 = .ok (.aload_n 0, 1) := by decide +kernel
theorem dX10_count_81 : decode cX10_count 81 = .ok (.getfield 53, 3) := by decide +kernel
theorem dX10_count_84 : decode cX10_count 84 = .ok (.iconst 4, 1) := by decide +kernel
theorem dX10_count_85 : decode cX10_count 85 = .ok (.invokevirtual 202, 3) := by decide +kernel
theorem dX10_count_88 : decode cX10_count 88 = .ok (.aload_n 0, 1) := by decide +kernel
theorem dX10_count_89 : decode cX10_count 89 = .ok (.getfield 53, 3) := by decide +kernel
theorem dX10_count_92 : decode cX10_count 92 = .ok (.getfield 206, 3) := by decide +kernel
theorem dX10_count_95 : decode cX10_count 95 = .ok (.iconst 5, 1) := by decide +kernel
theorem dX10_count_96 : decode cX10_count 96 = .ok (.iaload, 1) := by decide +kernel
theorem dX10_count_97 : decode cX10_count 97 = .ok (.ireturn, 1) := by decide +kernel
theorem dX10_count_98 : decode cX10_count 98 = .ok (.iconst (-1), 1) := by decide +kernel
theorem dX10_count_99 : decode cX10_count 99 = .ok (.ireturn, 1) := by decide +kernel
theorem dX10_isIn_0 : decode cX10_isIn 0 = .ok (.iload_n 0, 1) := by decide +kernel
theorem dX10_isIn_1 : decode cX10_isIn 1 = .ok (.iload_n 1, 1) := by decide +kernel
theorem dX10_isIn_2 : decode cX10_isIn 2 = .ok (.if_icmp .lt 12, 3) := by decide +kernel
theorem dX10_isIn_5 : decode cX10_isIn 5 = .ok (.iload_n 0, 1) := by decide +kernel
theorem dX10_isIn_6 : decode cX10_isIn 6 = .ok (.iload_n 2, 1) := by decide +kernel
theorem dX10_isIn_7 : decode cX10_isIn 7 = .ok (.if_icmp .gt 7, 3) := by decide +kernel
theorem dX10_isIn_10 : decode cX10_isIn 10 = .ok (.iconst 1, 1) := by decide +kernel
theorem dX10_isIn_11 : decode cX10_isIn 11 = .ok (.goto 4, 3) := by decide +kernel
theorem dX10_isIn_14 : decode cX10_isIn 14 = .ok (.iconst 0, 1) := by decide +kernel
theorem dX10_isIn_15 : decode cX10_isIn 15 = .ok (.ireturn, 1) := by decide +kernel
theorem dX10_isSort_0 : decode cX10_isSort 0 = .ok (.iload_n 0, 1) := by decide +kernel
theorem dX10_isSort_1 : decode cX10_isSort 1 = .ok (.ifCond .lt 12, 3) := by decide +kernel
theorem dX10_isSort_4 : decode cX10_isSort 4 = .ok (.iload_n 0, 1) := by decide +kernel
theorem dX10_isSort_5 : decode cX10_isSort 5 = .ok (.iconst 4, 1) := by decide +kernel
theorem dX10_isSort_6 : decode cX10_isSort 6 = .ok (.if_icmp .ge 7, 3) := by decide +kernel
theorem dX10_isSort_9 : decode cX10_isSort 9 = .ok (.iconst 1, 1) := by decide +kernel
theorem dX10_isSort_10 : decode cX10_isSort 10 = .ok (.goto 4, 3) := by decide +kernel
theorem dX10_isSort_13 : decode cX10_isSort 13 = .ok (.iconst 0, 1) := by decide +kernel
theorem dX10_isSort_14 : decode cX10_isSort 14 = .ok (.ireturn, 1) := by decide +kernel
set_option maxRecDepth 20000 in
theorem ggX10_isWish_X10_isIn : GoodIn wsX10_isWish wsX10_isIn := goodIn_r _ [4] (by decide +kernel) (by decide +kernel)
set_option maxRecDepth 20000 in
theorem gX10_isWish_X10_isIn : GoodIn wsX10_isWish (va_wsS RX10 86 yX10_isIn wsX10_isIn) := goodIn_app (goodIn_of _ (by decide +kernel)) ggX10_isWish_X10_isIn
theorem dX10_isWish_0 : decode cX10_isWish 0 = .ok (.iload_n 0, 1) := by decide +kernel
theorem dX10_isWish_1 : decode cX10_isWish 1 = .ok (.iconst 1, 1) := by decide +kernel
theorem dX10_isWish_2 : decode cX10_isWish 2 = .ok (.sipush 999, 3) := by decide +kernel
theorem dX10_isWish_5 : decode cX10_isWish 5 = .ok (.invokestatic 86, 3) := by decide +kernel
theorem dX10_isWish_8 : decode cX10_isWish 8 = .ok (.ifCond .eq 18, 3) := by decide +kernel
theorem dX10_isWish_11 : decode cX10_isWish 11 = .ok (.iload_n 1, 1) := by decide +kernel
theorem dX10_isWish_12 : decode cX10_isWish 12 = .ok (.iconst 1, 1) := by decide +kernel
theorem dX10_isWish_13 : decode cX10_isWish 13 = .ok (.sipush 999, 3) := by decide +kernel
theorem dX10_isWish_16 : decode cX10_isWish 16 = .ok (.invokestatic 86, 3) := by decide +kernel
theorem dX10_isWish_19 : decode cX10_isWish 19 = .ok (.ifCond .eq 7, 3) := by decide +kernel
theorem dX10_isWish_22 : decode cX10_isWish 22 = .ok (.iconst 1, 1) := by decide +kernel
theorem dX10_isWish_23 : decode cX10_isWish 23 = .ok (.goto 4, 3) := by decide +kernel
theorem dX10_isWish_26 : decode cX10_isWish 26 = .ok (.iconst 0, 1) := by decide +kernel
theorem dX10_isWish_27 : decode cX10_isWish 27 = .ok (.ireturn, 1) := by decide +kernel
theorem dX10_isTray_0 : decode cX10_isTray 0 = .ok (.iload_n 0, 1) := by decide +kernel
theorem dX10_isTray_1 : decode cX10_isTray 1 = .ok (.ifCond .lt 12, 3) := by decide +kernel
theorem dX10_isTray_4 : decode cX10_isTray 4 = .ok (.iload_n 0, 1) := by decide +kernel
theorem dX10_isTray_5 : decode cX10_isTray 5 = .ok (.iconst 3, 1) := by decide +kernel
theorem dX10_isTray_6 : decode cX10_isTray 6 = .ok (.if_icmp .ge 7, 3) := by decide +kernel
theorem dX10_isTray_9 : decode cX10_isTray 9 = .ok (.iconst 1, 1) := by decide +kernel
theorem dX10_isTray_10 : decode cX10_isTray 10 = .ok (.goto 4, 3) := by decide +kernel
theorem dX10_isTray_13 : decode cX10_isTray 13 = .ok (.iconst 0, 1) := by decide +kernel
theorem dX10_isTray_14 : decode cX10_isTray 14 = .ok (.ireturn, 1) := by decide +kernel
theorem dX10_greatestDivisor_0 : decode cX10_greatestDivisor 0 = .ok (.lload_n 0, 1) := by decide +kernel
theorem dX10_greatestDivisor_1 : decode cX10_greatestDivisor 1 = .ok (.lstore 4, 2) := by decide +kernel
theorem dX10_greatestDivisor_3 : decode cX10_greatestDivisor 3 = .ok (.lload_n 2, 1) := by decide +kernel
theorem dX10_greatestDivisor_4 : decode cX10_greatestDivisor 4 = .ok (.lstore 6, 2) := by decide +kernel
theorem dX10_greatestDivisor_6 : decode cX10_greatestDivisor 6 = .ok (.iconst 0, 1) := by decide +kernel
theorem dX10_greatestDivisor_7 : decode cX10_greatestDivisor 7 = .ok (.istore 8, 2) := by decide +kernel
theorem dX10_greatestDivisor_9 : decode cX10_greatestDivisor 9 = .ok (.iload 8, 2) := by decide +kernel
theorem dX10_greatestDivisor_11 : decode cX10_greatestDivisor 11 = .ok (.sipush 200, 3) := by decide +kernel
theorem dX10_greatestDivisor_14 : decode cX10_greatestDivisor 14 = .ok (.if_icmp .ge 31, 3) := by decide +kernel
theorem dX10_greatestDivisor_17 : decode cX10_greatestDivisor 17 = .ok (.lload 6, 2) := by decide +kernel
theorem dX10_greatestDivisor_19 : decode cX10_greatestDivisor 19 = .ok (.lconst 0, 1) := by decide +kernel
theorem dX10_greatestDivisor_20 : decode cX10_greatestDivisor 20 = .ok (.lcmp, 1) := by decide +kernel
theorem dX10_greatestDivisor_21 : decode cX10_greatestDivisor 21 = .ok (.ifCond .eq 24, 3) := by decide +kernel
theorem dX10_greatestDivisor_24 : decode cX10_greatestDivisor 24 = .ok (.lload 4, 2) := by decide +kernel
theorem dX10_greatestDivisor_26 : decode cX10_greatestDivisor 26 = .ok (.lload 6, 2) := by decide +kernel
theorem dX10_greatestDivisor_28 : decode cX10_greatestDivisor 28 = .ok (.lrem, 1) := by decide +kernel
theorem dX10_greatestDivisor_29 : decode cX10_greatestDivisor 29 = .ok (.lstore 9, 2) := by decide +kernel
theorem dX10_greatestDivisor_31 : decode cX10_greatestDivisor 31 = .ok (.lload 6, 2) := by decide +kernel
theorem dX10_greatestDivisor_33 : decode cX10_greatestDivisor 33 = .ok (.lstore 4, 2) := by decide +kernel
theorem dX10_greatestDivisor_35 : decode cX10_greatestDivisor 35 = .ok (.lload 9, 2) := by decide +kernel
theorem dX10_greatestDivisor_37 : decode cX10_greatestDivisor 37 = .ok (.lstore 6, 2) := by decide +kernel
theorem dX10_greatestDivisor_39 : decode cX10_greatestDivisor 39 = .ok (.iinc 8 1, 3) := by decide +kernel
theorem dX10_greatestDivisor_42 : decode cX10_greatestDivisor 42 = .ok (.goto (-33), 3) := by decide +kernel
theorem dX10_greatestDivisor_45 : decode cX10_greatestDivisor 45 = .ok (.lload 4, 2) := by decide +kernel
theorem dX10_greatestDivisor_47 : decode cX10_greatestDivisor 47 = .ok (.lreturn, 1) := by decide +kernel
theorem dX10_bitsOfDouble_0 : decode cX10_bitsOfDouble 0 = .ok (.dload_n 0, 1) := by decide +kernel
theorem dX10_bitsOfDouble_1 : decode cX10_bitsOfDouble 1 = .ok (.dstore_n 2, 1) := by decide +kernel
theorem dX10_bitsOfDouble_2 : decode cX10_bitsOfDouble 2 = .ok (.ldc2_w 312, 3) := by decide +kernel
theorem dX10_bitsOfDouble_5 : decode cX10_bitsOfDouble 5 = .ok (.lstore 4, 2) := by decide +kernel
theorem dX10_bitsOfDouble_7 : decode cX10_bitsOfDouble 7 = .ok (.iconst 0, 1) := by decide +kernel
theorem dX10_bitsOfDouble_8 : decode cX10_bitsOfDouble 8 = .ok (.istore 6, 2) := by decide +kernel
theorem dX10_bitsOfDouble_10 : decode cX10_bitsOfDouble 10 = .ok (.iload 6, 2) := by decide +kernel
theorem dX10_bitsOfDouble_12 : decode cX10_bitsOfDouble 12 = .ok (.sipush 1100, 3) := by decide +kernel
theorem dX10_bitsOfDouble_15 : decode cX10_bitsOfDouble 15 = .ok (.if_icmp .ge 29, 3) := by decide +kernel
theorem dX10_bitsOfDouble_18 : decode cX10_bitsOfDouble 18 = .ok (.dload_n 2, 1) := by decide +kernel
theorem dX10_bitsOfDouble_19 : decode cX10_bitsOfDouble 19 = .ok (.ldc2_w 314, 3) := by decide +kernel
theorem dX10_bitsOfDouble_22 : decode cX10_bitsOfDouble 22 = .ok (.dcmp .l, 1) := by decide +kernel
theorem dX10_bitsOfDouble_23 : decode cX10_bitsOfDouble 23 = .ok (.ifCond .lt 21, 3) := by decide +kernel
theorem dX10_bitsOfDouble_26 : decode cX10_bitsOfDouble 26 = .ok (.dload_n 2, 1) := by decide +kernel
theorem dX10_bitsOfDouble_27 : decode cX10_bitsOfDouble 27 = .ok (.ldc2_w 314, 3) := by decide +kernel
theorem dX10_bitsOfDouble_30 : decode cX10_bitsOfDouble 30 = .ok (.ddiv, 1) := by decide +kernel
theorem dX10_bitsOfDouble_31 : decode cX10_bitsOfDouble 31 = .ok (.dstore_n 2, 1) := by decide +kernel
theorem dX10_bitsOfDouble_32 : decode cX10_bitsOfDouble 32 = .ok (.lload 4, 2) := by decide +kernel
theorem dX10_bitsOfDouble_34 : decode cX10_bitsOfDouble 34 = .ok (.lconst 1, 1) := by decide +kernel
theorem dX10_bitsOfDouble_35 : decode cX10_bitsOfDouble 35 = .ok (.ladd, 1) := by decide +kernel
theorem dX10_bitsOfDouble_36 : decode cX10_bitsOfDouble 36 = .ok (.lstore 4, 2) := by decide +kernel
theorem dX10_bitsOfDouble_38 : decode cX10_bitsOfDouble 38 = .ok (.iinc 6 1, 3) := by decide +kernel
theorem dX10_bitsOfDouble_41 : decode cX10_bitsOfDouble 41 = .ok (.goto (-31), 3) := by decide +kernel
theorem dX10_bitsOfDouble_44 : decode cX10_bitsOfDouble 44 = .ok (.iconst 0, 1) := by decide +kernel
theorem dX10_bitsOfDouble_45 : decode cX10_bitsOfDouble 45 = .ok (.istore 6, 2) := by decide +kernel
theorem dX10_bitsOfDouble_47 : decode cX10_bitsOfDouble 47 = .ok (.iload 6, 2) := by decide +kernel
theorem dX10_bitsOfDouble_49 : decode cX10_bitsOfDouble 49 = .ok (.sipush 1100, 3) := by decide +kernel
theorem dX10_bitsOfDouble_52 : decode cX10_bitsOfDouble 52 = .ok (.if_icmp .ge 27, 3) := by decide +kernel
theorem dX10_bitsOfDouble_55 : decode cX10_bitsOfDouble 55 = .ok (.dload_n 2, 1) := by decide +kernel
theorem dX10_bitsOfDouble_56 : decode cX10_bitsOfDouble 56 = .ok (.dconst 1, 1) := by decide +kernel
theorem dX10_bitsOfDouble_57 : decode cX10_bitsOfDouble 57 = .ok (.dcmp .g, 1) := by decide +kernel
theorem dX10_bitsOfDouble_58 : decode cX10_bitsOfDouble 58 = .ok (.ifCond .ge 21, 3) := by decide +kernel
theorem dX10_bitsOfDouble_61 : decode cX10_bitsOfDouble 61 = .ok (.dload_n 2, 1) := by decide +kernel
theorem dX10_bitsOfDouble_62 : decode cX10_bitsOfDouble 62 = .ok (.ldc2_w 314, 3) := by decide +kernel
theorem dX10_bitsOfDouble_65 : decode cX10_bitsOfDouble 65 = .ok (.dmul, 1) := by decide +kernel
theorem dX10_bitsOfDouble_66 : decode cX10_bitsOfDouble 66 = .ok (.dstore_n 2, 1) := by decide +kernel
theorem dX10_bitsOfDouble_67 : decode cX10_bitsOfDouble 67 = .ok (.lload 4, 2) := by decide +kernel
theorem dX10_bitsOfDouble_69 : decode cX10_bitsOfDouble 69 = .ok (.lconst 1, 1) := by decide +kernel
theorem dX10_bitsOfDouble_70 : decode cX10_bitsOfDouble 70 = .ok (.lsub, 1) := by decide +kernel
theorem dX10_bitsOfDouble_71 : decode cX10_bitsOfDouble 71 = .ok (.lstore 4, 2) := by decide +kernel
theorem dX10_bitsOfDouble_73 : decode cX10_bitsOfDouble 73 = .ok (.iinc 6 1, 3) := by decide +kernel
theorem dX10_bitsOfDouble_76 : decode cX10_bitsOfDouble 76 = .ok (.goto (-29), 3) := by decide +kernel
theorem dX10_bitsOfDouble_79 : decode cX10_bitsOfDouble 79 = .ok (.lload 4, 2) := by decide +kernel
theorem dX10_bitsOfDouble_81 : decode cX10_bitsOfDouble 81 = .ok (.bipush 52, 2) := by decide +kernel
theorem dX10_bitsOfDouble_83 : decode cX10_bitsOfDouble 83 = .ok (.lshl, 1) := by decide +kernel
theorem dX10_bitsOfDouble_84 : decode cX10_bitsOfDouble 84 = .ok (.dload_n 2, 1) := by decide +kernel
theorem dX10_bitsOfDouble_85 : decode cX10_bitsOfDouble 85 = .ok (.dconst 1, 1) := by decide +kernel
theorem dX10_bitsOfDouble_86 : decode cX10_bitsOfDouble 86 = .ok (.dsub, 1) := by decide +kernel
theorem dX10_bitsOfDouble_87 : decode cX10_bitsOfDouble 87 = .ok (.ldc2_w 316, 3) := by decide +kernel
theorem dX10_bitsOfDouble_90 : decode cX10_bitsOfDouble 90 = .ok (.dmul, 1) := by decide +kernel
theorem dX10_bitsOfDouble_91 : decode cX10_bitsOfDouble 91 = .ok (.d2l, 1) := by decide +kernel
theorem dX10_bitsOfDouble_92 : decode cX10_bitsOfDouble 92 = .ok (.lor, 1) := by decide +kernel
theorem dX10_bitsOfDouble_93 : decode cX10_bitsOfDouble 93 = .ok (.lreturn, 1) := by decide +kernel
theorem dX10_bitsOfFloat_0 : decode cX10_bitsOfFloat 0 = .ok (.fload_n 0, 1) := by decide +kernel
theorem dX10_bitsOfFloat_1 : decode cX10_bitsOfFloat 1 = .ok (.fstore_n 1, 1) := by decide +kernel
theorem dX10_bitsOfFloat_2 : decode cX10_bitsOfFloat 2 = .ok (.bipush 127, 2) := by decide +kernel
theorem dX10_bitsOfFloat_4 : decode cX10_bitsOfFloat 4 = .ok (.istore_n 2, 1) := by decide +kernel
theorem dX10_bitsOfFloat_5 : decode cX10_bitsOfFloat 5 = .ok (.iconst 0, 1) := by decide +kernel
theorem dX10_bitsOfFloat_6 : decode cX10_bitsOfFloat 6 = .ok (.istore_n 3, 1) := by decide +kernel
theorem dX10_bitsOfFloat_7 : decode cX10_bitsOfFloat 7 = .ok (.iload_n 3, 1) := by decide +kernel
theorem dX10_bitsOfFloat_8 : decode cX10_bitsOfFloat 8 = .ok (.sipush 200, 3) := by decide +kernel
theorem dX10_bitsOfFloat_11 : decode cX10_bitsOfFloat 11 = .ok (.if_icmp .ge 22, 3) := by decide +kernel
theorem dX10_bitsOfFloat_14 : decode cX10_bitsOfFloat 14 = .ok (.fload_n 1, 1) := by decide +kernel
theorem dX10_bitsOfFloat_15 : decode cX10_bitsOfFloat 15 = .ok (.fconst 2, 1) := by decide +kernel
theorem dX10_bitsOfFloat_16 : decode cX10_bitsOfFloat 16 = .ok (.fcmp .l, 1) := by decide +kernel
theorem dX10_bitsOfFloat_17 : decode cX10_bitsOfFloat 17 = .ok (.ifCond .lt 16, 3) := by decide +kernel
theorem dX10_bitsOfFloat_20 : decode cX10_bitsOfFloat 20 = .ok (.fload_n 1, 1) := by decide +kernel
theorem dX10_bitsOfFloat_21 : decode cX10_bitsOfFloat 21 = .ok (.fconst 2, 1) := by decide +kernel
theorem dX10_bitsOfFloat_22 : decode cX10_bitsOfFloat 22 = .ok (.fdiv, 1) := by decide +kernel
theorem dX10_bitsOfFloat_23 : decode cX10_bitsOfFloat 23 = .ok (.fstore_n 1, 1) := by decide +kernel
theorem dX10_bitsOfFloat_24 : decode cX10_bitsOfFloat 24 = .ok (.iinc 2 1, 3) := by decide +kernel
theorem dX10_bitsOfFloat_27 : decode cX10_bitsOfFloat 27 = .ok (.iinc 3 1, 3) := by decide +kernel
theorem dX10_bitsOfFloat_30 : decode cX10_bitsOfFloat 30 = .ok (.goto (-23), 3) := by decide +kernel
theorem dX10_bitsOfFloat_33 : decode cX10_bitsOfFloat 33 = .ok (.iconst 0, 1) := by decide +kernel
theorem dX10_bitsOfFloat_34 : decode cX10_bitsOfFloat 34 = .ok (.istore_n 3, 1) := by decide +kernel
theorem dX10_bitsOfFloat_35 : decode cX10_bitsOfFloat 35 = .ok (.iload_n 3, 1) := by decide +kernel
theorem dX10_bitsOfFloat_36 : decode cX10_bitsOfFloat 36 = .ok (.sipush 200, 3) := by decide +kernel
theorem dX10_bitsOfFloat_39 : decode cX10_bitsOfFloat 39 = .ok (.if_icmp .ge 22, 3) := by decide +kernel
theorem dX10_bitsOfFloat_42 : decode cX10_bitsOfFloat 42 = .ok (.fload_n 1, 1) := by decide +kernel
theorem dX10_bitsOfFloat_43 : decode cX10_bitsOfFloat 43 = .ok (.fconst 1, 1) := by decide +kernel
theorem dX10_bitsOfFloat_44 : decode cX10_bitsOfFloat 44 = .ok (.fcmp .g, 1) := by decide +kernel
theorem dX10_bitsOfFloat_45 : decode cX10_bitsOfFloat 45 = .ok (.ifCond .ge 16, 3) := by decide +kernel
theorem dX10_bitsOfFloat_48 : decode cX10_bitsOfFloat 48 = .ok (.fload_n 1, 1) := by decide +kernel
theorem dX10_bitsOfFloat_49 : decode cX10_bitsOfFloat 49 = .ok (.fconst 2, 1) := by decide +kernel
theorem dX10_bitsOfFloat_50 : decode cX10_bitsOfFloat 50 = .ok (.fmul, 1) := by decide +kernel
theorem dX10_bitsOfFloat_51 : decode cX10_bitsOfFloat 51 = .ok (.fstore_n 1, 1) := by decide +kernel
theorem dX10_bitsOfFloat_52 : decode cX10_bitsOfFloat 52 = .ok (.iinc 2 (-1), 3) := by decide +kernel
theorem dX10_bitsOfFloat_55 : decode cX10_bitsOfFloat 55 = .ok (.iinc 3 1, 3) := by decide +kernel
theorem dX10_bitsOfFloat_58 : decode cX10_bitsOfFloat 58 = .ok (.goto (-23), 3) := by decide +kernel
theorem dX10_bitsOfFloat_61 : decode cX10_bitsOfFloat 61 = .ok (.iload_n 2, 1) := by decide +kernel
theorem dX10_bitsOfFloat_62 : decode cX10_bitsOfFloat 62 = .ok (.bipush 23, 2) := by decide +kernel
theorem dX10_bitsOfFloat_64 : decode cX10_bitsOfFloat 64 = .ok (.ishl, 1) := by decide +kernel
theorem dX10_bitsOfFloat_65 : decode cX10_bitsOfFloat 65 = .ok (.fload_n 1, 1) := by decide +kernel
theorem dX10_bitsOfFloat_66 : decode cX10_bitsOfFloat 66 = .ok (.fconst 1, 1) := by decide +kernel
theorem dX10_bitsOfFloat_67 : decode cX10_bitsOfFloat 67 = .ok (.fsub, 1) := by decide +kernel
theorem dX10_bitsOfFloat_68 : decode cX10_bitsOfFloat 68 = .ok (.ldc_w 318, 3) := by decide +kernel
theorem dX10_bitsOfFloat_71 : decode cX10_bitsOfFloat 71 = .ok (.fmul, 1) := by decide +kernel
theorem dX10_bitsOfFloat_72 : decode cX10_bitsOfFloat 72 = .ok (.f2i, 1) := by decide +kernel
theorem dX10_bitsOfFloat_73 : decode cX10_bitsOfFloat 73 = .ok (.ior, 1) := by decide +kernel
theorem dX10_bitsOfFloat_74 : decode cX10_bitsOfFloat 74 = .ok (.i2l, 1) := by decide +kernel
theorem dX10_bitsOfFloat_75 : decode cX10_bitsOfFloat 75 = .ok (.lreturn, 1) := by decide +kernel
theorem dX11_init_0 : decode cX11_init 0 = .ok (.aload_n 0, 1) := by decide +kernel
theorem dX11_init_1 : decode cX11_init 1 = .ok (.invokespecial 3, 3) := by decide +kernel
theorem dX11_init_4 : decode cX11_init 4 = .ok (.aload_n 0, 1) := by decide +kernel
theorem dX11_init_5 : decode cX11_init 5 = .ok (.sipush 261, 3) := by decide +kernel
theorem dX11_init_8 : decode cX11_init 8 = .ok (.newarray .int, 2) := by decide +kernel
theorem dX11_init_10 : decode cX11_init 10 = .ok (.putfield 9, 3) := by decide +kernel
theorem dX11_init_13 : decode cX11_init 13 = .ok (.aload_n 0, 1) := by decide +kernel
theorem dX11_init_14 : decode cX11_init 14 = .ok (.sipush 261, 3) := by decide +kernel
theorem dX11_init_17 : decode cX11_init 17 = .ok (.newarray .int, 2) := by decide +kernel
theorem dX11_init_19 : decode cX11_init 19 = .ok (.putfield 15, 3) := by decide +kernel
theorem dX11_init_22 : decode cX11_init 22 = .ok (.aload_n 0, 1) := by decide +kernel
theorem dX11_init_23 : decode cX11_init 23 = .ok (.bipush 40, 2) := by decide +kernel
theorem dX11_init_25 : decode cX11_init 25 = .ok (.newarray .long, 2) := by decide +kernel
theorem dX11_init_27 : decode cX11_init 27 = .ok (.putfield 18, 3) := by decide +kernel
theorem dX11_init_30 : decode cX11_init 30 = .ok (.aload_n 0, 1) := by decide +kernel
theorem dX11_init_31 : decode cX11_init 31 = .ok (.bipush 40, 2) := by decide +kernel
theorem dX11_init_33 : decode cX11_init 33 = .ok (.newarray .long, 2) := by decide +kernel
theorem dX11_init_35 : decode cX11_init 35 = .ok (.putfield 22, 3) := by decide +kernel
theorem dX11_init_38 : decode cX11_init 38 = .ok (.aload_n 0, 1) := by decide +kernel
theorem dX11_init_39 : decode cX11_init 39 = .ok (.bipush 40, 2) := by decide +kernel
theorem dX11_init_41 : decode cX11_init 41 = .ok (.newarray .double, 2) := by decide +kernel
theorem dX11_init_43 : decode cX11_init 43 = .ok (.putfield 25, 3) := by decide +kernel
theorem dX11_init_46 : decode cX11_init 46 = .ok (.aload_n 0, 1) := by decide +kernel
theorem dX11_init_47 : decode cX11_init 47 = .ok (.bipush 40, 2) := by decide +kernel
theorem dX11_init_49 : decode cX11_init 49 = .ok (.newarray .float, 2) := by decide +kernel
theorem dX11_init_51 : decode cX11_init 51 = .ok (.putfield 29, 3) := by decide +kernel
theorem dX11_init_54 : decode cX11_init 54 = .ok (.aload_n 0, 1) := by decide +kernel
theorem dX11_init_55 : decode cX11_init 55 = .ok (.bipush 24, 2) := by decide +kernel
theorem dX11_init_57 : decode cX11_init 57 = .ok (.newarray .int, 2) := by decide +kernel
theorem dX11_init_59 : decode cX11_init 59 = .ok (.putfield 33, 3) := by decide +kernel
theorem dX11_init_62 : decode cX11_init 62 = .ok (.aload_n 0, 1) := by decide +kernel
theorem dX11_init_63 : decode cX11_init 63 = .ok (.bipush 40, 2) := by decide +kernel
theorem dX11_init_65 : decode cX11_init 65 = .ok (.newarray .int, 2) := by decide +kernel
theorem dX11_init_67 : decode cX11_init 67 = .ok (.putfield 36, 3) := by decide +kernel
theorem dX11_init_70 : decode cX11_init 70 = .ok (.aload_n 0, 1) := by decide +kernel
theorem dX11_init_71 : decode cX11_init 71 = .ok (.bipush 24, 2) := by decide +kernel
theorem dX11_init_73 : decode cX11_init 73 = .ok (.newarray .float, 2) := by decide +kernel
theorem dX11_init_75 : decode cX11_init 75 = .ok (.putfield 39, 3) := by decide +kernel
theorem dX11_init_78 : decode cX11_init 78 = .ok (.aload_n 0, 1) := by decide +kernel
theorem dX11_init_79 : decode cX11_init 79 = .ok (.bipush 40, 2) := by decide +kernel
theorem dX11_init_81 : decode cX11_init 81 = .ok (.newarray .int, 2) := by decide +kernel
theorem dX11_init_83 : decode cX11_init 83 = .ok (.putfield 42, 3) := by decide +kernel
theorem dX11_init_86 : decode cX11_init 86 = .ok (.aload_n 0, 1) := by decide +kernel
theorem dX11_init_87 : decode cX11_init 87 = .ok (.bipush 24, 2) := by decide +kernel
theorem dX11_init_89 : decode cX11_init 89 = .ok (.newarray .long, 2) := by decide +kernel
theorem dX11_init_91 : decode cX11_init 91 = .ok (.putfield 45, 3) := by decide +kernel
theorem dX11_init_94 : decode cX11_init 94 = .ok (.aload_n 0, 1) := by decide +kernel
theorem dX11_init_95 : decode cX11_init 95 = .ok (.bipush 24, 2) := by decide +kernel
theorem dX11_init_97 : decode cX11_init 97 = .ok (.newarray .long, 2) := by decide +kernel
theorem dX11_init_99 : decode cX11_init 99 = .ok (.putfield 48, 3) := by decide +kernel
theorem dX11_init_102 : decode cX11_init 102 = .ok (.aload_n 0, 1) := by decide +kernel
theorem dX11_init_103 : decode cX11_init 103 = .ok (.bipush 60, 2) := by decide +kernel
theorem dX11_init_105 : decode cX11_init 105 = .ok (.newarray .int, 2) := by decide +kernel
theorem dX11_init_107 : decode cX11_init 107 = .ok (.putfield 51, 3) := by decide +kernel
theorem dX11_init_110 : decode cX11_init 110 = .ok (.aload_n 0, 1) := by decide +kernel
theorem dX11_init_111 : decode cX11_init 111 = .ok (.bipush 12, 2) := by decide +kernel
theorem dX11_init_113 : decode cX11_init 113 = .ok (.newarray .int, 2) := by decide +kernel
theorem dX11_init_115 : decode cX11_init 115 = .ok (.putfield 54, 3) := by decide +kernel
theorem dX11_init_118 : decode cX11_init 118 = .ok (.aload_n 0, 1) := by decide +kernel
theorem dX11_init_119 : decode cX11_init 119 = .ok (.bipush 24, 2) := by decide +kernel
theorem dX11_init_121 : decode cX11_init 121 = .ok (.newarray .int, 2) := by decide +kernel
theorem dX11_init_123 : decode cX11_init 123 = .ok (.putfield 57, 3) := by decide +kernel
theorem dX11_init_126 : decode cX11_init 126 = .ok (.aload_n 0, 1) := by decide +kernel
theorem dX11_init_127 : decode cX11_init 127 = .ok (.bipush 60, 2) := by decide +kernel
theorem dX11_init_129 : decode cX11_init 129 = .ok (.newarray .int, 2) := by decide +kernel
theorem dX11_init_131 : decode cX11_init 131 = .ok (.putfield 60, 3) := by decide +kernel
theorem dX11_init_134 : decode cX11_init 134 = .ok (.aload_n 0, 1) := by decide +kernel
theorem dX11_init_135 : decode cX11_init 135 = .ok (.sipush 2000, 3) := by decide +kernel
theorem dX11_init_138 : decode cX11_init 138 = .ok (.newarray .long, 2) := by decide +kernel
theorem dX11_init_140 : decode cX11_init 140 = .ok (.putfield 63, 3) := by decide +kernel
theorem dX11_init_143 : decode cX11_init 143 = .ok (.aload_n 0, 1) := by decide +kernel
theorem dX11_init_144 : decode cX11_init 144 = .ok (.sipush 2000, 3) := by decide +kernel
theorem dX11_init_147 : decode cX11_init 147 = .ok (.newarray .long, 2) := by decide +kernel
theorem dX11_init_149 : decode cX11_init 149 = .ok (.putfield 66, 3) := by decide +kernel
theorem dX11_init_152 : decode cX11_init 152 = .ok (.aload_n 0, 1) := by decide +kernel
theorem dX11_init_153 : decode cX11_init 153 = .ok (.sipush 2000, 3) := by decide +kernel
theorem dX11_init_156 : decode cX11_init 156 = .ok (.newarray .int, 2) := by decide +kernel
theorem dX11_init_158 : decode cX11_init 158 = .ok (.putfield 69, 3) := by decide +kernel
theorem dX11_init_161 : decode cX11_init 161 = .ok (.aload_n 0, 1) := by decide +kernel
theorem dX11_init_162 : decode cX11_init 162 = .ok (.sipush 2000, 3) := by decide +kernel
theorem dX11_init_165 : decode cX11_init 165 = .ok (.newarray .int, 2) := by decide +kernel
theorem dX11_init_167 : decode cX11_init 167 = .ok (.putfield 72, 3) := by decide +kernel
theorem dX11_init_170 : decode cX11_init 170 = .ok (.aload_n 0, 1) := by decide +kernel
theorem dX11_init_171 : decode cX11_init 171 = .ok (.sipush 2000, 3) := by decide +kernel
theorem dX11_init_174 : decode cX11_init 174 = .ok (.newarray .int, 2) := by decide +kernel
theorem dX11_init_176 : decode cX11_init 176 = .ok (.putfield 75, 3) := by decide +kernel
theorem dX11_init_179 : decode cX11_init 179 = .ok (.aload_n 0, 1) := by decide +kernel
theorem dX11_init_180 : decode cX11_init 180 = .ok (.bipush 6, 2) := by decide +kernel
theorem dX11_init_182 : decode cX11_init 182 = .ok (.newarray .int, 2) := by decide +kernel
theorem dX11_init_184 : decode cX11_init 184 = .ok (.putfield 78, 3) := by decide +kernel
theorem dX11_init_187 : decode cX11_init 187 = .ok (.aload_n 0, 1) := by decide +kernel
theorem dX11_init_188 : decode cX11_init 188 = .ok (.bipush 20, 2) := by decide +kernel
theorem dX11_init_190 : decode cX11_init 190 = .ok (.newarray .int, 2) := by decide +kernel
theorem dX11_init_192 : decode cX11_init 192 = .ok (.putfield 81, 3) := by decide +kernel
theorem dX11_init_195 : decode cX11_init 195 = .ok (.aload_n 0, 1) := by decide +kernel
theorem dX11_init_196 : decode cX11_init 196 = .ok (.getfield 9, 3) := by decide +kernel
theorem dX11_init_199 : decode cX11_init 199 = .ok (.sipush 169, 3) := by decide +kernel
theorem dX11_init_202 : decode cX11_init 202 = .ok (.iconst 4, 1) := by decide +kernel
theorem dX11_init_203 : decode cX11_init 203 = .ok (.iastore, 1) := by decide +kernel
theorem dX11_init_204 : decode cX11_init 204 = .ok (.iconst 0, 1) := by decide +kernel
theorem dX11_init_205 : decode cX11_init 205 = .ok (.istore_n 1, 1) := by decide +kernel
theorem dX11_init_206 : decode cX11_init 206 = .ok (.iload_n 1, 1) := by decide +kernel
theorem dX11_init_207 : decode cX11_init 207 = .ok (.iconst 3, 1) := by decide +kernel
theorem dX11_init_208 : decode cX11_init 208 = .ok (.if_icmp .ge 22, 3) := by decide +kernel
theorem dX11_init_211 : decode cX11_init 211 = .ok (.aload_n 0, 1) := by decide +kernel
theorem dX11_init_212 : decode cX11_init 212 = .ok (.getfield 9, 3) := by decide +kernel
theorem dX11_init_215 : decode cX11_init 215 = .ok (.sipush 195, 3) := by decide +kernel
theorem dX11_init_218 : decode cX11_init 218 = .ok (.iconst 2, 1) := by decide +kernel
theorem dX11_init_219 : decode cX11_init 219 = .ok (.iload_n 1, 1) := by decide +kernel
theorem dX11_init_220 : decode cX11_init 220 = .ok (.imul, 1) := by decide +kernel
theorem dX11_init_221 : decode cX11_init 221 = .ok (.iadd, 1) := by decide +kernel
theorem dX11_init_222 : decode cX11_init 222 = .ok (.iconst (-1), 1) := by decide +kernel
theorem dX11_init_223 : decode cX11_init 223 = .ok (.iastore, 1) := by decide +kernel
theorem dX11_init_224 : decode cX11_init 224 = .ok (.iinc 1 1, 3) := by decide +kernel
theorem dX11_init_227 : decode cX11_init 227 = .ok (.goto (-21), 3) := by decide +kernel
theorem dX11_init_230 : decode cX11_init 230 = .ok (.return_, 1) := by decide +kernel
theorem dX11_in_0 : decode cX11_in 0 = .ok (.lload_n 0, 1) := by decide +kernel
theorem dX11_in_1 : decode cX11_in 1 = .ok (.lload_n 2, 1) := by decide +kernel
theorem dX11_in_2 : decode cX11_in 2 = .ok (.lcmp, 1) := by decide +kernel
theorem dX11_in_3 : decode cX11_in 3 = .ok (.ifCond .lt 14, 3) := by decide +kernel
theorem dX11_in_6 : decode cX11_in 6 = .ok (.lload_n 0, 1) := by decide +kernel
theorem dX11_in_7 : decode cX11_in 7 = .ok (.lload 4, 2) := by decide +kernel
theorem dX11_in_9 : decode cX11_in 9 = .ok (.lcmp, 1) := by decide +kernel
theorem dX11_in_10 : decode cX11_in 10 = .ok (.ifCond .gt 7, 3) := by decide +kernel
theorem dX11_in_13 : decode cX11_in 13 = .ok (.iconst 1, 1) := by decide +kernel
theorem dX11_in_14 : decode cX11_in 14 = .ok (.goto 4, 3) := by decide +kernel
theorem dX11_in_17 : decode cX11_in 17 = .ok (.iconst 0, 1) := by decide +kernel
theorem dX11_in_18 : decode cX11_in 18 = .ok (.ireturn, 1) := by decide +kernel
set_option maxRecDepth 20000 in
theorem ggX11_isSort_X11_in : GoodIn wsX11_isSort wsX11_in := goodIn_r _ [5] (by decide +kernel) (by decide +kernel)
set_option maxRecDepth 20000 in
theorem gX11_isSort_X11_in : GoodIn wsX11_isSort (va_wsS RX11 86 yX11_in wsX11_in) := goodIn_app (goodIn_of _ (by decide +kernel)) ggX11_isSort_X11_in
theorem dX11_isSort_0 : decode cX11_isSort 0 = .ok (.iload_n 0, 1) := by decide +kernel
theorem dX11_isSort_1 : decode cX11_isSort 1 = .ok (.i2l, 1) := by decide +kernel
theorem dX11_isSort_2 : decode cX11_isSort 2 = .ok (.lconst 0, 1) := by decide +kernel
theorem dX11_isSort_3 : decode cX11_isSort 3 = .ok (.ldc2_w 84, 3) := by decide +kernel
theorem dX11_isSort_6 : decode cX11_isSort 6 = .ok (.invokestatic 86, 3) := by decide +kernel
theorem dX11_isSort_9 : decode cX11_isSort 9 = .ok (.ireturn, 1) := by decide +kernel
set_option maxRecDepth 20000 in
theorem ggX11_isNet_X11_in : GoodIn wsX11_isNet wsX11_in := goodIn_r _ [5] (by decide +kernel) (by decide +kernel)
set_option maxRecDepth 20000 in
theorem gX11_isNet_X11_in : GoodIn wsX11_isNet (va_wsS RX11 86 yX11_in wsX11_in) := goodIn_app (goodIn_of _ (by decide +kernel)) ggX11_isNet_X11_in
theorem dX11_isNet_0 : decode cX11_isNet 0 = .ok (.iload_n 1, 1) := by decide +kernel
theorem dX11_isNet_1 : decode cX11_isNet 1 = .ok (.i2l, 1) := by decide +kernel
theorem dX11_isNet_2 : decode cX11_isNet 2 = .ok (.lconst 0, 1) := by decide +kernel
theorem dX11_isNet_3 : decode cX11_isNet 3 = .ok (.aload_n 0, 1) := by decide +kernel
theorem dX11_isNet_4 : decode cX11_isNet 4 = .ok (.getfield 9, 3) := by decide +kernel
theorem dX11_isNet_7 : decode cX11_isNet 7 = .ok (.bipush 8, 2) := by decide +kernel
theorem dX11_isNet_9 : decode cX11_isNet 9 = .ok (.iaload, 1) := by decide +kernel
theorem dX11_isNet_10 : decode cX11_isNet 10 = .ok (.iconst 1, 1) := by decide +kernel
theorem dX11_isNet_11 : decode cX11_isNet 11 = .ok (.isub, 1) := by decide +kernel
theorem dX11_isNet_12 : decode cX11_isNet 12 = .ok (.i2l, 1) := by decide +kernel
theorem dX11_isNet_13 : decode cX11_isNet 13 = .ok (.invokestatic 86, 3) := by decide +kernel
theorem dX11_isNet_16 : decode cX11_isNet 16 = .ok (.ireturn, 1) := by decide +kernel
theorem dX11_kindOf_0 : decode cX11_kindOf 0 = .ok (.aload_n 0, 1) := by decide +kernel
theorem dX11_kindOf_1 : decode cX11_kindOf 1 = .ok (.getfield 9, 3) := by decide +kernel
theorem dX11_kindOf_4 : decode cX11_kindOf 4 = .ok (.bipush 9, 2) := by decide +kernel
theorem dX11_kindOf_6 : decode cX11_kindOf 6 = .ok (.iconst 4, 1) := by decide +kernel
theorem dX11_kindOf_7 : decode cX11_kindOf 7 = .ok (.iload_n 1, 1) := by decide +kernel
theorem dX11_kindOf_8 : decode cX11_kindOf 8 = .ok (.imul, 1) := by decide +kernel
theorem dX11_kindOf_9 : decode cX11_kindOf 9 = .ok (.iadd, 1) := by decide +kernel
theorem dX11_kindOf_10 : decode cX11_kindOf 10 = .ok (.iaload, 1) := by decide +kernel
theorem dX11_kindOf_11 : decode cX11_kindOf 11 = .ok (.ireturn, 1) := by decide +kernel
theorem dX11_firstOf_0 : decode cX11_firstOf 0 = .ok (.aload_n 0, 1) := by decide +kernel
theorem dX11_firstOf_1 : decode cX11_firstOf 1 = .ok (.getfield 9, 3) := by decide +kernel
theorem dX11_firstOf_4 : decode cX11_firstOf 4 = .ok (.bipush 9, 2) := by decide +kernel
theorem dX11_firstOf_6 : decode cX11_firstOf 6 = .ok (.iconst 4, 1) := by decide +kernel
theorem dX11_firstOf_7 : decode cX11_firstOf 7 = .ok (.iload_n 1, 1) := by decide +kernel
theorem dX11_firstOf_8 : decode cX11_firstOf 8 = .ok (.imul, 1) := by decide +kernel
theorem dX11_firstOf_9 : decode cX11_firstOf 9 = .ok (.iadd, 1) := by decide +kernel
theorem dX11_firstOf_10 : decode cX11_firstOf 10 = .ok (.iconst 1, 1) := by decide +kernel
theorem dX11_firstOf_11 : decode cX11_firstOf 11 = .ok (.iadd, 1) := by decide +kernel
theorem dX11_firstOf_12 : decode cX11_firstOf 12 = .ok (.iaload, 1) := by decide +kernel
theorem dX11_firstOf_13 : decode cX11_firstOf 13 = .ok (.ireturn, 1) := by decide +kernel
theorem dX11_secondOf_0 : decode cX11_secondOf 0 = .ok (.aload_n 0, 1) := by decide +kernel
theorem dX11_secondOf_1 : decode cX11_secondOf 1 = .ok (.getfield 9, 3) := by decide +kernel
theorem dX11_secondOf_4 : decode cX11_secondOf 4 = .ok (.bipush 9, 2) := by decide +kernel
theorem dX11_secondOf_6 : decode cX11_secondOf 6 = .ok (.iconst 4, 1) := by decide +kernel
theorem dX11_secondOf_7 : decode cX11_secondOf 7 = .ok (.iload_n 1, 1) := by decide +kernel
theorem dX11_secondOf_8 : decode cX11_secondOf 8 = .ok (.imul, 1) := by decide +kernel
theorem dX11_secondOf_9 : decode cX11_secondOf 9 = .ok (.iadd, 1) := by decide +kernel
theorem dX11_secondOf_10 : decode cX11_secondOf 10 = .ok (.iconst 2, 1) := by decide +kernel
theorem dX11_secondOf_11 : decode cX11_secondOf 11 = .ok (.iadd, 1) := by decide +kernel
theorem dX11_secondOf_12 : decode cX11_secondOf 12 = .ok (.iaload, 1) := by decide +kernel
theorem dX11_secondOf_13 : decode cX11_secondOf 13 = .ok (.ireturn, 1) := by decide +kernel
theorem dX11_partsOf_0 : decode cX11_partsOf 0 = .ok (.aload_n 0, 1) := by decide +kernel
theorem dX11_partsOf_1 : decode cX11_partsOf 1 = .ok (.getfield 9, 3) := by decide +kernel
theorem dX11_partsOf_4 : decode cX11_partsOf 4 = .ok (.bipush 9, 2) := by decide +kernel
theorem dX11_partsOf_6 : decode cX11_partsOf 6 = .ok (.iconst 4, 1) := by decide +kernel
theorem dX11_partsOf_7 : decode cX11_partsOf 7 = .ok (.iload_n 1, 1) := by decide +kernel
theorem dX11_partsOf_8 : decode cX11_partsOf 8 = .ok (.imul, 1) := by decide +kernel
theorem dX11_partsOf_9 : decode cX11_partsOf 9 = .ok (.iadd, 1) := by decide +kernel
theorem dX11_partsOf_10 : decode cX11_partsOf 10 = .ok (.iconst 3, 1) := by decide +kernel
theorem dX11_partsOf_11 : decode cX11_partsOf 11 = .ok (.iadd, 1) := by decide +kernel
theorem dX11_partsOf_12 : decode cX11_partsOf 12 = .ok (.iaload, 1) := by decide +kernel
theorem dX11_partsOf_13 : decode cX11_partsOf 13 = .ok (.ireturn, 1) := by decide +kernel
set_option maxRecDepth 20000 in
theorem ggX11_found_X11_kindOf : GoodIn wsX11_found wsX11_kindOf := goodIn_r _ [6, 1, 15, 16, 17, 18, 19, 20, 21, 22, 23, 24, 25, 26, 27, 28, 29, 30, 31, 32, 33, 34, 35, 36, 37, 38, 39, 40, 41, 42, 43, 44, 45, 46, 47] (by decide +kernel) (by decide +kernel)
set_option maxRecDepth 20000 in
theorem gX11_found_X11_kindOf : GoodIn wsX11_found (wsV RX11 90 RX11 yX11_kindOf wsX11_kindOf) := goodIn_app (goodIn_of _ (by decide +kernel)) ggX11_found_X11_kindOf
set_option maxRecDepth 20000 in
theorem ggX11_found_X11_firstOf : GoodIn wsX11_found wsX11_firstOf := goodIn_r _ [10, 1, 15, 16, 17, 18, 19, 20, 21, 22, 23, 24, 25, 26, 27, 28, 29, 30, 31, 32, 33, 34, 35, 36, 37, 38, 39, 40, 41, 42, 43, 44, 45, 46, 47] (by decide +kernel) (by decide +kernel)
set_option maxRecDepth 20000 in
theorem gX11_found_X11_firstOf : GoodIn wsX11_found (wsV RX11 94 RX11 yX11_firstOf wsX11_firstOf) := goodIn_app (goodIn_of _ (by decide +kernel)) ggX11_found_X11_firstOf
set_option maxRecDepth 20000 in
theorem ggX11_found_X11_secondOf : GoodIn wsX11_found wsX11_secondOf := goodIn_r _ [14, 1, 15, 16, 17, 18, 19, 20, 21, 22, 23, 24, 25, 26, 27, 28, 29, 30, 31, 32, 33, 34, 35, 36, 37, 38, 39, 40, 41, 42, 43, 44, 45, 46, 47] (by decide +kernel) (by decide +kernel)
set_option maxRecDepth 20000 in
theorem gX11_found_X11_secondOf : GoodIn wsX11_found (wsV RX11 97 RX11 yX11_secondOf wsX11_secondOf) := goodIn_app (goodIn_of _ (by decide +kernel)) ggX11_found_X11_secondOf
theorem dX11_found_0 : decode cX11_found 0 = .ok (.iconst 0, 1) := by decide +kernel
theorem dX11_found_1 : decode cX11_found 1 = .ok (.istore 4, 2) := by decide +kernel
theorem dX11_found_3 : decode cX11_found 3 = .ok (.iload 4, 2) := by decide +kernel
theorem dX11_found_5 : decode cX11_found 5 = .ok (.aload_n 0, 1) := by decide +kernel
theorem dX11_found_6 : decode cX11_found 6 = .ok (.getfield 9, 3) := by decide +kernel
theorem dX11_found_9 : decode cX11_found 9 = .ok (.bipush 8, 2) := by decide +kernel
theorem dX11_found_11 : decode cX11_found 11 = .ok (.iaload, 1) := by decide +kernel
theorem dX11_found_12 : decode cX11_found 12 = .ok (.if_icmp .ge 42, 3) := by decide +kernel
theorem dX11_found_15 : decode cX11_found 15 = .ok (.aload_n 0, 1) := by decide +kernel
theorem dX11_found_16 : decode cX11_found 16 = .ok (.iload 4, 2) := by decide +kernel
theorem dX11_found_18 : decode cX11_found 18 = .ok (.invokevirtual 90, 3) := by decide +kernel
theorem dX11_found_21 : decode cX11_found 21 = .ok (.iload_n 1, 1) := by decide +kernel
theorem dX11_found_22 : decode cX11_found 22 = .ok (.if_icmp .ne 26, 3) := by decide +kernel
theorem dX11_found_25 : decode cX11_found 25 = .ok (.aload_n 0, 1) := by decide +kernel
theorem dX11_found_26 : decode cX11_found 26 = .ok (.iload 4, 2) := by decide +kernel
theorem dX11_found_28 : decode cX11_found 28 = .ok (.invokevirtual 94, 3) := by decide +kernel
theorem dX11_found_31 : decode cX11_found 31 = .ok (.iload_n 2, 1) := by decide +kernel
theorem dX11_found_32 : decode cX11_found 32 = .ok (.if_icmp .ne 16, 3) := by decide +kernel
theorem dX11_found_35 : decode cX11_found 35 = .ok (.aload_n 0, 1) := by decide +kernel
theorem dX11_found_36 : decode cX11_found 36 = .ok (.iload 4, 2) := by decide +kernel
theorem dX11_found_38 : decode cX11_found 38 = .ok (.invokevirtual 97, 3) := by decide +kernel
theorem dX11_found_41 : decode cX11_found 41 = .ok (.iload_n 3, 1) := by decide +kernel
theorem dX11_found_42 : decode cX11_found 42 = .ok (.if_icmp .ne 6, 3) := by decide +kernel
theorem dX11_found_45 : decode cX11_found 45 = .ok (.iload 4, 2) := by decide +kernel
theorem dX11_found_47 : decode cX11_found 47 = .ok (.ireturn, 1) := by decide +kernel
theorem dX11_found_48 : decode cX11_found 48 = .ok (.iinc 4 1, 3) := by decide +kernel
theorem dX11_found_51 : decode cX11_found 51 = .ok (.goto (-48), 3) := by decide +kernel
theorem dX11_found_54 : decode cX11_found 54 = .ok (.iconst (-1), 1) := by decide +kernel
theorem dX11_found_55 : decode cX11_found 55 = .ok (.ireturn, 1) := by decide +kernel
set_option maxRecDepth 20000 in
theorem ggX11_kept_X11_found : GoodIn wsX11_kept wsX11_found := goodIn_r _ [6, 1, 7, 8, 9, 5, 10, 11, 12, 13, 14, 15, 16, 17, 18, 19, 20, 21, 22, 23, 24, 25, 26, 27, 28, 29, 30, 31, 32, 33, 34, 35, 36, 37, 38, 39, 40, 41, 42, 43, 44, 45, 46, 47, 48, 49, 50, 51] (by decide +kernel) (by decide +kernel)
set_option maxRecDepth 20000 in
theorem gX11_kept_X11_found : GoodIn wsX11_kept (wsV RX11 100 RX11 yX11_found wsX11_found) := goodIn_app (goodIn_of _ (by decide +kernel)) ggX11_kept_X11_found
theorem dX11_kept_0 : decode cX11_kept 0 = .ok (.aload_n 0, 1) := by decide +kernel
theorem dX11_kept_1 : decode cX11_kept 1 = .ok (.iload_n 1, 1) := by decide +kernel
theorem dX11_kept_2 : decode cX11_kept 2 = .ok (.iload_n 2, 1) := by decide +kernel
theorem dX11_kept_3 : decode cX11_kept 3 = .ok (.iload_n 3, 1) := by decide +kernel
theorem dX11_kept_4 : decode cX11_kept 4 = .ok (.invokevirtual 100, 3) := by decide +kernel
theorem dX11_kept_7 : decode cX11_kept 7 = .ok (.istore 5, 2) := by decide +kernel
theorem dX11_kept_9 : decode cX11_kept 9 = .ok (.iload 5, 2) := by decide +kernel
theorem dX11_kept_11 : decode cX11_kept 11 = .ok (.ifCond .lt 6, 3) := by decide +kernel
theorem dX11_kept_14 : decode cX11_kept 14 = .ok (.iload 5, 2) := by decide +kernel
theorem dX11_kept_16 : decode cX11_kept 16 = .ok (.ireturn, 1) := by decide +kernel
theorem dX11_kept_17 : decode cX11_kept 17 = .ok (.aload_n 0, 1) := by decide +kernel
theorem dX11_kept_18 : decode cX11_kept 18 = .ok (.getfield 9, 3) := by decide +kernel
theorem dX11_kept_21 : decode cX11_kept 21 = .ok (.bipush 8, 2) := by decide +kernel
theorem dX11_kept_23 : decode cX11_kept 23 = .ok (.iaload, 1) := by decide +kernel
theorem dX11_kept_24 : decode cX11_kept 24 = .ok (.bipush 40, 2) := by decide +kernel
theorem dX11_kept_26 : decode cX11_kept 26 = .ok (.if_icmp .ne 6, 3) := by decide +kernel
theorem dX11_kept_29 : decode cX11_kept 29 = .ok (.bipush (-3), 2) := by decide +kernel
theorem dX11_kept_31 : decode cX11_kept 31 = .ok (.ireturn, 1) := by decide +kernel
theorem dX11_kept_32 : decode cX11_kept 32 = .ok (.aload_n 0, 1) := by decide +kernel
theorem dX11_kept_33 : decode cX11_kept 33 = .ok (.getfield 9, 3) := by decide +kernel
theorem dX11_kept_36 : decode cX11_kept 36 = .ok (.bipush 8, 2) := by decide +kernel
theorem dX11_kept_38 : decode cX11_kept 38 = .ok (.iaload, 1) := by decide +kernel
theorem dX11_kept_39 : decode cX11_kept 39 = .ok (.istore 5, 2) := by decide +kernel
theorem dX11_kept_41 : decode cX11_kept 41 = .ok (.aload_n 0, 1) := by decide +kernel
theorem dX11_kept_42 : decode cX11_kept 42 = .ok (.getfield 9, 3) := by decide +kernel
theorem dX11_kept_45 : decode cX11_kept 45 = .ok (.bipush 9, 2) := by decide +kernel
theorem dX11_kept_47 : decode cX11_kept 47 = .ok (.iconst 4, 1) := by decide +kernel
theorem dX11_kept_48 : decode cX11_kept 48 = .ok (.iload 5, 2) := by decide +kernel
theorem dX11_kept_50 : decode cX11_kept 50 = .ok (.imul, 1) := by decide +kernel
theorem dX11_kept_51 : decode cX11_kept 51 = .ok (.iadd, 1) := by decide +kernel
theorem dX11_kept_52 : decode cX11_kept 52 = .ok (.iload_n 1, 1) := by decide +kernel
theorem dX11_kept_53 : decode cX11_kept 53 = .ok (.iastore, 1) := by decide +kernel
theorem dX11_kept_54 : decode cX11_kept 54 = .ok (.aload_n 0, 1) := by decide +kernel
theorem dX11_kept_55 : decode cX11_kept 55 = .ok (.getfield 9, 3) := by decide +kernel
theorem dX11_kept_58 : decode cX11_kept 58 = .ok (.bipush 9, 2) := by decide +kernel
theorem dX11_kept_60 : decode cX11_kept 60 = .ok (.iconst 4, 1) := by decide +kernel
theorem dX11_kept_61 : decode cX11_kept 61 = .ok (.iload 5, 2) := by decide +kernel
theorem dX11_kept_63 : decode cX11_kept 63 = .ok (.imul, 1) := by decide +kernel
theorem dX11_kept_64 : decode cX11_kept 64 = .ok (.iadd, 1) := by decide +kernel
theorem dX11_kept_65 : decode cX11_kept 65 = .ok (.iconst 1, 1) := by decide +kernel
theorem dX11_kept_66 : decode cX11_kept 66 = .ok (.iadd, 1) := by decide +kernel
theorem dX11_kept_67 : decode cX11_kept 67 = .ok (.iload_n 2, 1) := by decide +kernel
theorem dX11_kept_68 : decode cX11_kept 68 = .ok (.iastore, 1) := by decide +kernel
theorem dX11_kept_69 : decode cX11_kept 69 = .ok (.aload_n 0, 1) := by decide +kernel
theorem dX11_kept_70 : decode cX11_kept 70 = .ok (.getfield 9, 3) := by decide +kernel
theorem dX11_kept_73 : decode cX11_kept 73 = .ok (.bipush 9, 2) := by decide +kernel
theorem dX11_kept_75 : decode cX11_kept 75 = .ok (.iconst 4, 1) := by decide +kernel
theorem dX11_kept_76 : decode cX11_kept 76 = .ok (.iload 5, 2) := by decide +kernel
theorem dX11_kept_78 : decode cX11_kept 78 = .ok (.imul, 1) := by decide +kernel
theorem dX11_kept_79 : decode cX11_kept 79 = .ok (.iadd, 1) := by decide +kernel
theorem dX11_kept_80 : decode cX11_kept 80 = .ok (.iconst 2, 1) := by decide +kernel
theorem dX11_kept_81 : decode cX11_kept 81 = .ok (.iadd, 1) := by decide +kernel
theorem dX11_kept_82 : decode cX11_kept 82 = .ok (.iload_n 3, 1) := by decide +kernel
theorem dX11_kept_83 : decode cX11_kept 83 = .ok (.iastore, 1) := by decide +kernel
theorem dX11_kept_84 : decode cX11_kept 84 = .ok (.aload_n 0, 1) := by decide +kernel
theorem dX11_kept_85 : decode cX11_kept 85 = .ok (.getfield 9, 3) := by decide +kernel
theorem dX11_kept_88 : decode cX11_kept 88 = .ok (.bipush 9, 2) := by decide +kernel
theorem dX11_kept_90 : decode cX11_kept 90 = .ok (.iconst 4, 1) := by decide +kernel
theorem dX11_kept_91 : decode cX11_kept 91 = .ok (.iload 5, 2) := by decide +kernel
theorem dX11_kept_93 : decode cX11_kept 93 = .ok (.imul, 1) := by decide +kernel
theorem dX11_kept_94 : decode cX11_kept 94 = .ok (.iadd, 1) := by decide +kernel
theorem dX11_kept_95 : decode cX11_kept 95 = .ok (.iconst 3, 1) := by decide +kernel
theorem dX11_kept_96 : decode cX11_kept 96 = .ok (.iadd, 1) := by decide +kernel
theorem dX11_kept_97 : decode cX11_kept 97 = .ok (.iload 4, 2) := by decide +kernel
theorem dX11_kept_99 : decode cX11_kept 99 = .ok (.iastore, 1) := by decide +kernel
theorem dX11_kept_100 : decode cX11_kept 100 = .ok (.aload_n 0, 1) := by decide +kernel
theorem dX11_kept_101 : decode cX11_kept 101 = .ok (.getfield 9, 3) := by decide +kernel
theorem dX11_kept_104 : decode cX11_kept 104 = .ok (.bipush 8, 2) := by decide +kernel
theorem dX11_kept_106 : decode cX11_kept 106 = .ok (.dup2, 1) := by decide +kernel
theorem dX11_kept_107 : decode cX11_kept 107 = .ok (.iaload, 1) := by decide +kernel
theorem dX11_kept_108 : decode cX11_kept 108 = .ok (.iconst 1, 1) := by decide +kernel
theorem dX11_kept_109 : decode cX11_kept 109 = .ok (.iadd, 1) := by decide +kernel
theorem dX11_kept_110 : decode cX11_kept 110 = .ok (.iastore, 1) := by decide +kernel
theorem dX11_kept_111 : decode cX11_kept 111 = .ok (.iload 5, 2) := by decide +kernel
theorem dX11_kept_113 : decode cX11_kept 113 = .ok (.ireturn, 1) := by decide +kernel
set_option maxRecDepth 20000 in
theorem ggX11_sort_X11_isSort : GoodIn wsX11_sort wsX11_isSort := goodIn_r _ [7, 8, 9, 10, 6, 11] (by decide +kernel) (by decide +kernel)
set_option maxRecDepth 20000 in
theorem gX11_sort_X11_isSort : GoodIn wsX11_sort (va_wsS RX11 104 yX11_isSort wsX11_isSort) := goodIn_app (goodIn_of _ (by decide +kernel)) ggX11_sort_X11_isSort
set_option maxRecDepth 20000 in
theorem ggX11_sort_X11_in : GoodIn wsX11_sort wsX11_in := goodIn_r _ [11] (by decide +kernel) (by decide +kernel)
set_option maxRecDepth 20000 in
theorem gX11_sort_X11_in : GoodIn wsX11_sort (va_wsS RX11 86 yX11_in wsX11_in) := goodIn_app (goodIn_of _ (by decide +kernel)) ggX11_sort_X11_in
set_option maxRecDepth 20000 in
theorem ggX11_sort_X11_found : GoodIn wsX11_sort wsX11_found := goodIn_r _ [15, 3, 16, 17, 18, 6, 19, 20, 21, 22, 23, 24, 25, 26, 27, 28, 29, 30, 31, 32, 33, 34, 35, 36, 37, 38, 39, 40, 41, 42, 43, 44, 45, 46, 47, 48, 49, 50, 51, 52, 53, 54, 55, 56, 57, 58, 59, 60] (by decide +kernel) (by decide +kernel)
set_option maxRecDepth 20000 in
theorem gX11_sort_X11_found : GoodIn wsX11_sort (wsV RX11 100 RX11 yX11_found wsX11_found) := goodIn_app (goodIn_of _ (by decide +kernel)) ggX11_sort_X11_found
theorem dX11_sort_0 : decode cX11_sort 0 = .ok (.iload_n 1, 1) := by decide +kernel
theorem dX11_sort_1 : decode cX11_sort 1 = .ok (.invokestatic 104, 3) := by decide +kernel
theorem dX11_sort_4 : decode cX11_sort 4 = .ok (.ifCond .eq 27, 3) := by decide +kernel
theorem dX11_sort_7 : decode cX11_sort 7 = .ok (.iload_n 2, 1) := by decide +kernel
theorem dX11_sort_8 : decode cX11_sort 8 = .ok (.i2l, 1) := by decide +kernel
theorem dX11_sort_9 : decode cX11_sort 9 = .ok (.lconst 0, 1) := by decide +kernel
theorem dX11_sort_10 : decode cX11_sort 10 = .ok (.ldc2_w 108, 3) := by decide +kernel
theorem dX11_sort_13 : decode cX11_sort 13 = .ok (.invokestatic 86, 3) := by decide +kernel
theorem dX11_sort_16 : decode cX11_sort 16 = .ok (.ifCond .eq 15, 3) := by decide +kernel
theorem dX11_sort_19 : decode cX11_sort 19 = .ok (.iload_n 3, 1) := by decide +kernel
theorem dX11_sort_20 : decode cX11_sort 20 = .ok (.i2l, 1) := by decide +kernel
theorem dX11_sort_21 : decode cX11_sort 21 = .ok (.lconst 0, 1) := by decide +kernel
theorem dX11_sort_22 : decode cX11_sort 22 = .ok (.ldc2_w 110, 3) := by decide +kernel
theorem dX11_sort_25 : decode cX11_sort 25 = .ok (.invokestatic 86, 3) := by decide +kernel
theorem dX11_sort_28 : decode cX11_sort 28 = .ok (.ifCond .ne 5, 3) := by decide +kernel
theorem dX11_sort_31 : decode cX11_sort 31 = .ok (.iconst (-1), 1) := by decide +kernel
theorem dX11_sort_32 : decode cX11_sort 32 = .ok (.ireturn, 1) := by decide +kernel
theorem dX11_sort_33 : decode cX11_sort 33 = .ok (.iload_n 2, 1) := by decide +kernel
theorem dX11_sort_34 : decode cX11_sort 34 = .ok (.ifCond .ne 16, 3) := by decide +kernel
theorem dX11_sort_37 : decode cX11_sort 37 = .ok (.aload_n 0, 1) := by decide +kernel
theorem dX11_sort_38 : decode cX11_sort 38 = .ok (.iconst 0, 1) := by decide +kernel
theorem dX11_sort_39 : decode cX11_sort 39 = .ok (.iload_n 1, 1) := by decide +kernel
theorem dX11_sort_40 : decode cX11_sort 40 = .ok (.iconst 0, 1) := by decide +kernel
theorem dX11_sort_41 : decode cX11_sort 41 = .ok (.invokevirtual 100, 3) := by decide +kernel
theorem dX11_sort_44 : decode cX11_sort 44 = .ok (.ifCond .lt 6, 3) := by decide +kernel
theorem dX11_sort_47 : decode cX11_sort 47 = .ok (.bipush (-5), 2) := by decide +kernel
theorem dX11_sort_49 : decode cX11_sort 49 = .ok (.ireturn, 1) := by decide +kernel
theorem dX11_sort_50 : decode cX11_sort 50 = .ok (.aload_n 0, 1) := by decide +kernel
theorem dX11_sort_51 : decode cX11_sort 51 = .ok (.getfield 9, 3) := by decide +kernel
theorem dX11_sort_54 : decode cX11_sort 54 = .ok (.iconst 0, 1) := by decide +kernel
theorem dX11_sort_55 : decode cX11_sort 55 = .ok (.iload_n 1, 1) := by decide +kernel
theorem dX11_sort_56 : decode cX11_sort 56 = .ok (.iadd, 1) := by decide +kernel
theorem dX11_sort_57 : decode cX11_sort 57 = .ok (.iaload, 1) := by decide +kernel
theorem dX11_sort_58 : decode cX11_sort 58 = .ok (.istore 4, 2) := by decide +kernel
theorem dX11_sort_60 : decode cX11_sort 60 = .ok (.aload_n 0, 1) := by decide +kernel
theorem dX11_sort_61 : decode cX11_sort 61 = .ok (.getfield 9, 3) := by decide +kernel
theorem dX11_sort_64 : decode cX11_sort 64 = .ok (.iconst 0, 1) := by decide +kernel
theorem dX11_sort_65 : decode cX11_sort 65 = .ok (.iload_n 1, 1) := by decide +kernel
theorem dX11_sort_66 : decode cX11_sort 66 = .ok (.iadd, 1) := by decide +kernel
theorem dX11_sort_67 : decode cX11_sort 67 = .ok (.iload_n 2, 1) := by decide +kernel
theorem dX11_sort_68 : decode cX11_sort 68 = .ok (.iastore, 1) := by decide +kernel
theorem dX11_sort_69 : decode cX11_sort 69 = .ok (.aload_n 0, 1) := by decide +kernel
theorem dX11_sort_70 : decode cX11_sort 70 = .ok (.getfield 9, 3) := by decide +kernel
theorem dX11_sort_73 : decode cX11_sort 73 = .ok (.iconst 4, 1) := by decide +kernel
theorem dX11_sort_74 : decode cX11_sort 74 = .ok (.iload_n 1, 1) := by decide +kernel
theorem dX11_sort_75 : decode cX11_sort 75 = .ok (.iadd, 1) := by decide +kernel
theorem dX11_sort_76 : decode cX11_sort 76 = .ok (.iload_n 3, 1) := by decide +kernel
theorem dX11_sort_77 : decode cX11_sort 77 = .ok (.iastore, 1) := by decide +kernel
theorem dX11_sort_78 : decode cX11_sort 78 = .ok (.iload 4, 2) := by decide +kernel
theorem dX11_sort_80 : decode cX11_sort 80 = .ok (.ireturn, 1) := by decide +kernel
set_option maxRecDepth 20000 in
theorem ggX11_ofSort_X11_isSort : GoodIn wsX11_ofSort wsX11_isSort := goodIn_r _ [6, 7, 8, 9, 5, 10] (by decide +kernel) (by decide +kernel)
set_option maxRecDepth 20000 in
theorem gX11_ofSort_X11_isSort : GoodIn wsX11_ofSort (va_wsS RX11 104 yX11_isSort wsX11_isSort) := goodIn_app (goodIn_of _ (by decide +kernel)) ggX11_ofSort_X11_isSort
set_option maxRecDepth 20000 in
theorem ggX11_ofSort_X11_in : GoodIn wsX11_ofSort wsX11_in := goodIn_r _ [10] (by decide +kernel) (by decide +kernel)
set_option maxRecDepth 20000 in
theorem gX11_ofSort_X11_in : GoodIn wsX11_ofSort (va_wsS RX11 86 yX11_in wsX11_in) := goodIn_app (goodIn_of _ (by decide +kernel)) ggX11_ofSort_X11_in
set_option maxRecDepth 20000 in
theorem ggX11_ofSort_X11_found : GoodIn wsX11_ofSort wsX11_found := goodIn_r _ [14, 2, 15, 16, 17, 5, 18, 19, 20, 21, 22, 23, 24, 25, 26, 27, 28, 29, 30, 31, 32, 33, 34, 35, 36, 37, 38, 39, 40, 41, 42, 43, 44, 45, 46, 47, 48, 49, 50, 51, 52, 53, 54, 55, 56, 57, 58, 59] (by decide +kernel) (by decide +kernel)
set_option maxRecDepth 20000 in
theorem gX11_ofSort_X11_found : GoodIn wsX11_ofSort (wsV RX11 100 RX11 yX11_found wsX11_found) := goodIn_app (goodIn_of _ (by decide +kernel)) ggX11_ofSort_X11_found
theorem dX11_ofSort_0 : decode cX11_ofSort 0 = .ok (.iload_n 1, 1) := by decide +kernel
theorem dX11_ofSort_1 : decode cX11_ofSort 1 = .ok (.invokestatic 104, 3) := by decide +kernel
theorem dX11_ofSort_4 : decode cX11_ofSort 4 = .ok (.ifCond .eq 15, 3) := by decide +kernel
theorem dX11_ofSort_7 : decode cX11_ofSort 7 = .ok (.iload_n 2, 1) := by decide +kernel
theorem dX11_ofSort_8 : decode cX11_ofSort 8 = .ok (.i2l, 1) := by decide +kernel
theorem dX11_ofSort_9 : decode cX11_ofSort 9 = .ok (.lconst 0, 1) := by decide +kernel
theorem dX11_ofSort_10 : decode cX11_ofSort 10 = .ok (.ldc2_w 112, 3) := by decide +kernel
theorem dX11_ofSort_13 : decode cX11_ofSort 13 = .ok (.invokestatic 86, 3) := by decide +kernel
theorem dX11_ofSort_16 : decode cX11_ofSort 16 = .ok (.ifCond .ne 5, 3) := by decide +kernel
theorem dX11_ofSort_19 : decode cX11_ofSort 19 = .ok (.iconst (-1), 1) := by decide +kernel
theorem dX11_ofSort_20 : decode cX11_ofSort 20 = .ok (.ireturn, 1) := by decide +kernel
theorem dX11_ofSort_21 : decode cX11_ofSort 21 = .ok (.iload_n 2, 1) := by decide +kernel
theorem dX11_ofSort_22 : decode cX11_ofSort 22 = .ok (.ifCond .ne 14, 3) := by decide +kernel
theorem dX11_ofSort_25 : decode cX11_ofSort 25 = .ok (.aload_n 0, 1) := by decide +kernel
theorem dX11_ofSort_26 : decode cX11_ofSort 26 = .ok (.getfield 9, 3) := by decide +kernel
theorem dX11_ofSort_29 : decode cX11_ofSort 29 = .ok (.iconst 0, 1) := by decide +kernel
theorem dX11_ofSort_30 : decode cX11_ofSort 30 = .ok (.iload_n 1, 1) := by decide +kernel
theorem dX11_ofSort_31 : decode cX11_ofSort 31 = .ok (.iadd, 1) := by decide +kernel
theorem dX11_ofSort_32 : decode cX11_ofSort 32 = .ok (.iaload, 1) := by decide +kernel
theorem dX11_ofSort_33 : decode cX11_ofSort 33 = .ok (.goto 34, 3) := by decide +kernel
theorem dX11_ofSort_36 : decode cX11_ofSort 36 = .ok (.iload_n 2, 1) := by decide +kernel
theorem dX11_ofSort_37 : decode cX11_ofSort 37 = .ok (.iconst 1, 1) := by decide +kernel
theorem dX11_ofSort_38 : decode cX11_ofSort 38 = .ok (.if_icmp .ne 14, 3) := by decide +kernel
theorem dX11_ofSort_41 : decode cX11_ofSort 41 = .ok (.aload_n 0, 1) := by decide +kernel
theorem dX11_ofSort_42 : decode cX11_ofSort 42 = .ok (.getfield 9, 3) := by decide +kernel
theorem dX11_ofSort_45 : decode cX11_ofSort 45 = .ok (.iconst 4, 1) := by decide +kernel
theorem dX11_ofSort_46 : decode cX11_ofSort 46 = .ok (.iload_n 1, 1) := by decide +kernel
theorem dX11_ofSort_47 : decode cX11_ofSort 47 = .ok (.iadd, 1) := by decide +kernel
theorem dX11_ofSort_48 : decode cX11_ofSort 48 = .ok (.iaload, 1) := by decide +kernel
theorem dX11_ofSort_49 : decode cX11_ofSort 49 = .ok (.goto 18, 3) := by decide +kernel
theorem dX11_ofSort_52 : decode cX11_ofSort 52 = .ok (.aload_n 0, 1) := by decide +kernel
theorem dX11_ofSort_53 : decode cX11_ofSort 53 = .ok (.iconst 0, 1) := by decide +kernel
theorem dX11_ofSort_54 : decode cX11_ofSort 54 = .ok (.iload_n 1, 1) := by decide +kernel
theorem dX11_ofSort_55 : decode cX11_ofSort 55 = .ok (.iconst 0, 1) := by decide +kernel
theorem dX11_ofSort_56 : decode cX11_ofSort 56 = .ok (.invokevirtual 100, 3) := by decide +kernel
theorem dX11_ofSort_59 : decode cX11_ofSort 59 = .ok (.ifCond .lt 7, 3) := by decide +kernel
theorem dX11_ofSort_62 : decode cX11_ofSort 62 = .ok (.iconst 1, 1) := by decide +kernel
theorem dX11_ofSort_63 : decode cX11_ofSort 63 = .ok (.goto 4, 3) := by decide +kernel
theorem dX11_ofSort_66 : decode cX11_ofSort 66 = .ok (.iconst 0, 1) := by decide +kernel
theorem dX11_ofSort_67 : decode cX11_ofSort 67 = .ok (.ireturn, 1) := by decide +kernel
set_option maxRecDepth 20000 in
theorem ggX11_isThere_X11_isSort : GoodIn wsX11_isThere wsX11_isSort := goodIn_r _ [5, 6, 7, 8, 4, 9] (by decide +kernel) (by decide +kernel)
set_option maxRecDepth 20000 in
theorem gX11_isThere_X11_isSort : GoodIn wsX11_isThere (va_wsS RX11 104 yX11_isSort wsX11_isSort) := goodIn_app (goodIn_of _ (by decide +kernel)) ggX11_isThere_X11_isSort
theorem dX11_isThere_0 : decode cX11_isThere 0 = .ok (.iload_n 1, 1) := by decide +kernel
theorem dX11_isThere_1 : decode cX11_isThere 1 = .ok (.invokestatic 104, 3) := by decide +kernel
theorem dX11_isThere_4 : decode cX11_isThere 4 = .ok (.ifCond .eq 18, 3) := by decide +kernel
theorem dX11_isThere_7 : decode cX11_isThere 7 = .ok (.aload_n 0, 1) := by decide +kernel
theorem dX11_isThere_8 : decode cX11_isThere 8 = .ok (.getfield 9, 3) := by decide +kernel
theorem dX11_isThere_11 : decode cX11_isThere 11 = .ok (.iconst 0, 1) := by decide +kernel
theorem dX11_isThere_12 : decode cX11_isThere 12 = .ok (.iload_n 1, 1) := by decide +kernel
theorem dX11_isThere_13 : decode cX11_isThere 13 = .ok (.iadd, 1) := by decide +kernel
theorem dX11_isThere_14 : decode cX11_isThere 14 = .ok (.iaload, 1) := by decide +kernel
theorem dX11_isThere_15 : decode cX11_isThere 15 = .ok (.ifCond .le 7, 3) := by decide +kernel
theorem dX11_isThere_18 : decode cX11_isThere 18 = .ok (.iconst 1, 1) := by decide +kernel
theorem dX11_isThere_19 : decode cX11_isThere 19 = .ok (.goto 4, 3) := by decide +kernel
theorem dX11_isThere_22 : decode cX11_isThere 22 = .ok (.iconst 0, 1) := by decide +kernel
theorem dX11_isThere_23 : decode cX11_isThere 23 = .ok (.ireturn, 1) := by decide +kernel
set_option maxRecDepth 20000 in
theorem ggX11_part_X11_isSort : GoodIn wsX11_part wsX11_isSort := goodIn_r _ [4, 5, 6, 7, 3, 8] (by decide +kernel) (by decide +kernel)
set_option maxRecDepth 20000 in
theorem gX11_part_X11_isSort : GoodIn wsX11_part (va_wsS RX11 104 yX11_isSort wsX11_isSort) := goodIn_app (goodIn_of _ (by decide +kernel)) ggX11_part_X11_isSort
set_option maxRecDepth 20000 in
theorem ggX11_part_X11_isThere : GoodIn wsX11_part wsX11_isThere := goodIn_r _ [12, 13, 1, 2, 3, 4, 5, 6, 7, 8, 34, 35, 36, 37, 38, 39, 40, 41, 42, 43, 44, 45, 46, 47, 48, 49, 50, 51, 52, 53, 54, 55, 56, 57, 58, 59, 60, 61, 62, 63, 64, 65, 66] (by decide +kernel) (by decide +kernel)
set_option maxRecDepth 20000 in
theorem gX11_part_X11_isThere : GoodIn wsX11_part (wsV RX11 114 RX11 yX11_isThere wsX11_isThere) := goodIn_app (goodIn_of _ (by decide +kernel)) ggX11_part_X11_isThere
set_option maxRecDepth 20000 in
theorem ggX11_part_X11_kept : GoodIn wsX11_part wsX11_kept := goodIn_r _ [17, 13, 18, 19, 20, 3, 21, 22, 23, 24, 25, 26, 27, 28, 29, 30, 31, 32, 33, 34, 35, 36, 37, 38, 39, 40, 41, 42, 43, 44, 45, 46, 47, 48, 49, 50, 51, 52, 53, 54, 55, 56, 57, 58, 59, 60, 61, 62, 63, 64, 65, 66] (by decide +kernel) (by decide +kernel)
set_option maxRecDepth 20000 in
theorem gX11_part_X11_kept : GoodIn wsX11_part (wsV RX11 117 RX11 yX11_kept wsX11_kept) := goodIn_app (goodIn_of _ (by decide +kernel)) ggX11_part_X11_kept
theorem dX11_part_0 : decode cX11_part 0 = .ok (.iload_n 1, 1) := by decide +kernel
theorem dX11_part_1 : decode cX11_part 1 = .ok (.invokestatic 104, 3) := by decide +kernel
theorem dX11_part_4 : decode cX11_part 4 = .ok (.ifCond .ne 5, 3) := by decide +kernel
theorem dX11_part_7 : decode cX11_part 7 = .ok (.iconst (-1), 1) := by decide +kernel
theorem dX11_part_8 : decode cX11_part 8 = .ok (.ireturn, 1) := by decide +kernel
theorem dX11_part_9 : decode cX11_part 9 = .ok (.aload_n 0, 1) := by decide +kernel
theorem dX11_part_10 : decode cX11_part 10 = .ok (.iload_n 1, 1) := by decide +kernel
theorem dX11_part_11 : decode cX11_part 11 = .ok (.invokevirtual 114, 3) := by decide +kernel
theorem dX11_part_14 : decode cX11_part 14 = .ok (.ifCond .eq 14, 3) := by decide +kernel
theorem dX11_part_17 : decode cX11_part 17 = .ok (.aload_n 0, 1) := by decide +kernel
theorem dX11_part_18 : decode cX11_part 18 = .ok (.iconst 0, 1) := by decide +kernel
theorem dX11_part_19 : decode cX11_part 19 = .ok (.iload_n 1, 1) := by decide +kernel
theorem dX11_part_20 : decode cX11_part 20 = .ok (.iconst 0, 1) := by decide +kernel
theorem dX11_part_21 : decode cX11_part 21 = .ok (.iconst 1, 1) := by decide +kernel
theorem dX11_part_22 : decode cX11_part 22 = .ok (.invokevirtual 117, 3) := by decide +kernel
theorem dX11_part_25 : decode cX11_part 25 = .ok (.goto 5, 3) := by decide +kernel
theorem dX11_part_28 : decode cX11_part 28 = .ok (.bipush (-5), 2) := by decide +kernel
theorem dX11_part_30 : decode cX11_part 30 = .ok (.ireturn, 1) := by decide +kernel
set_option maxRecDepth 20000 in
theorem ggX11_join_X11_in : GoodIn wsX11_join wsX11_in := goodIn_r _ [4] (by decide +kernel) (by decide +kernel)
set_option maxRecDepth 20000 in
theorem gX11_join_X11_in : GoodIn wsX11_join (va_wsS RX11 86 yX11_in wsX11_in) := goodIn_app (goodIn_of _ (by decide +kernel)) ggX11_join_X11_in
set_option maxRecDepth 20000 in
theorem ggX11_join_X11_isNet : GoodIn wsX11_join wsX11_isNet := goodIn_r _ [8, 9, 1, 2, 3, 4, 34, 35, 36, 37, 38, 39, 40, 41, 42, 43, 44, 45, 46, 47, 48, 49, 50, 51, 52, 53, 54, 55, 56, 57, 58, 59, 60, 61, 62, 63, 64, 65, 66] (by decide +kernel) (by decide +kernel)
set_option maxRecDepth 20000 in
theorem gX11_join_X11_isNet : GoodIn wsX11_join (wsV RX11 121 RX11 yX11_isNet wsX11_isNet) := goodIn_app (goodIn_of _ (by decide +kernel)) ggX11_join_X11_isNet
set_option maxRecDepth 20000 in
theorem ggX11_join_X11_partsOf : GoodIn wsX11_join wsX11_partsOf := goodIn_r _ [13, 9, 34, 35, 36, 37, 38, 39, 40, 41, 42, 43, 44, 45, 46, 47, 48, 49, 50, 51, 52, 53, 54, 55, 56, 57, 58, 59, 60, 61, 62, 63, 64, 65, 66] (by decide +kernel) (by decide +kernel)
set_option maxRecDepth 20000 in
theorem gX11_join_X11_partsOf : GoodIn wsX11_join (wsV RX11 124 RX11 yX11_partsOf wsX11_partsOf) := goodIn_app (goodIn_of _ (by decide +kernel)) ggX11_join_X11_partsOf
set_option maxRecDepth 20000 in
theorem ggX11_join_X11_kept : GoodIn wsX11_join wsX11_kept := goodIn_r _ [17, 9, 18, 19, 20, 3, 21, 22, 23, 24, 25, 26, 27, 28, 29, 30, 31, 32, 33, 34, 35, 36, 37, 38, 39, 40, 41, 42, 43, 44, 45, 46, 47, 48, 49, 50, 51, 52, 53, 54, 55, 56, 57, 58, 59, 60, 61, 62, 63, 64, 65, 66] (by decide +kernel) (by decide +kernel)
set_option maxRecDepth 20000 in
theorem gX11_join_X11_kept : GoodIn wsX11_join (wsV RX11 117 RX11 yX11_kept wsX11_kept) := goodIn_app (goodIn_of _ (by decide +kernel)) ggX11_join_X11_kept
theorem dX11_join_0 : decode cX11_join 0 = .ok (.iload_n 1, 1) := by decide +kernel
theorem dX11_join_1 : decode cX11_join 1 = .ok (.i2l, 1) := by decide +kernel
theorem dX11_join_2 : decode cX11_join 2 = .ok (.lconst 0, 1) := by decide +kernel
theorem dX11_join_3 : decode cX11_join 3 = .ok (.lconst 1, 1) := by decide +kernel
theorem dX11_join_4 : decode cX11_join 4 = .ok (.invokestatic 86, 3) := by decide +kernel
theorem dX11_join_7 : decode cX11_join 7 = .ok (.ifCond .eq 19, 3) := by decide +kernel
theorem dX11_join_10 : decode cX11_join 10 = .ok (.aload_n 0, 1) := by decide +kernel
theorem dX11_join_11 : decode cX11_join 11 = .ok (.iload_n 2, 1) := by decide +kernel
theorem dX11_join_12 : decode cX11_join 12 = .ok (.invokevirtual 121, 3) := by decide +kernel
theorem dX11_join_15 : decode cX11_join 15 = .ok (.ifCond .eq 11, 3) := by decide +kernel
theorem dX11_join_18 : decode cX11_join 18 = .ok (.aload_n 0, 1) := by decide +kernel
theorem dX11_join_19 : decode cX11_join 19 = .ok (.iload_n 3, 1) := by decide +kernel
theorem dX11_join_20 : decode cX11_join 20 = .ok (.invokevirtual 121, 3) := by decide +kernel
theorem dX11_join_23 : decode cX11_join 23 = .ok (.ifCond .ne 5, 3) := by decide +kernel
theorem dX11_join_26 : decode cX11_join 26 = .ok (.iconst (-1), 1) := by decide +kernel
theorem dX11_join_27 : decode cX11_join 27 = .ok (.ireturn, 1) := by decide +kernel
theorem dX11_join_28 : decode cX11_join 28 = .ok (.aload_n 0, 1) := by decide +kernel
theorem dX11_join_29 : decode cX11_join 29 = .ok (.iload_n 2, 1) := by decide +kernel
theorem dX11_join_30 : decode cX11_join 30 = .ok (.invokevirtual 124, 3) := by decide +kernel
theorem dX11_join_33 : decode cX11_join 33 = .ok (.aload_n 0, 1) := by decide +kernel
theorem dX11_join_34 : decode cX11_join 34 = .ok (.iload_n 3, 1) := by decide +kernel
theorem dX11_join_35 : decode cX11_join 35 = .ok (.invokevirtual 124, 3) := by decide +kernel
theorem dX11_join_38 : decode cX11_join 38 = .ok (.iadd, 1) := by decide +kernel
theorem dX11_join_39 : decode cX11_join 39 = .ok (.istore 4, 2) := by decide +kernel
theorem dX11_join_41 : decode cX11_join 41 = .ok (.iload 4, 2) := by decide +kernel
theorem dX11_join_43 : decode cX11_join 43 = .ok (.bipush 12, 2) := by decide +kernel
theorem dX11_join_45 : decode cX11_join 45 = .ok (.if_icmp .le 8, 3) := by decide +kernel
theorem dX11_join_48 : decode cX11_join 48 = .ok (.bipush (-7), 2) := by decide +kernel
theorem dX11_join_50 : decode cX11_join 50 = .ok (.goto 14, 3) := by decide +kernel
theorem dX11_join_53 : decode cX11_join 53 = .ok (.aload_n 0, 1) := by decide +kernel
theorem dX11_join_54 : decode cX11_join 54 = .ok (.iconst 1, 1) := by decide +kernel
theorem dX11_join_55 : decode cX11_join 55 = .ok (.iload_n 1, 1) := by decide +kernel
theorem dX11_join_56 : decode cX11_join 56 = .ok (.iadd, 1) := by decide +kernel
theorem dX11_join_57 : decode cX11_join 57 = .ok (.iload_n 2, 1) := by decide +kernel
theorem dX11_join_58 : decode cX11_join 58 = .ok (.iload_n 3, 1) := by decide +kernel
theorem dX11_join_59 : decode cX11_join 59 = .ok (.iload 4, 2) := by decide +kernel
theorem dX11_join_61 : decode cX11_join 61 = .ok (.invokevirtual 117, 3) := by decide +kernel
theorem dX11_join_64 : decode cX11_join 64 = .ok (.ireturn, 1) := by decide +kernel
set_option maxRecDepth 20000 in
theorem ggX11_usedBy_X11_kindOf : GoodIn wsX11_usedBy wsX11_kindOf := goodIn_r _ [6, 1, 15, 16, 17, 18, 19, 20, 21, 22, 23, 24, 25, 26, 27, 28, 29, 30, 31, 32, 33, 34, 35, 36, 37, 38, 39, 40, 41, 42, 43, 44, 45, 46, 47] (by decide +kernel) (by decide +kernel)
set_option maxRecDepth 20000 in
theorem gX11_usedBy_X11_kindOf : GoodIn wsX11_usedBy (wsV RX11 90 RX11 yX11_kindOf wsX11_kindOf) := goodIn_app (goodIn_of _ (by decide +kernel)) ggX11_usedBy_X11_kindOf
set_option maxRecDepth 20000 in
theorem ggX11_usedBy_X11_firstOf : GoodIn wsX11_usedBy wsX11_firstOf := goodIn_r _ [10, 1, 15, 16, 17, 18, 19, 20, 21, 22, 23, 24, 25, 26, 27, 28, 29, 30, 31, 32, 33, 34, 35, 36, 37, 38, 39, 40, 41, 42, 43, 44, 45, 46, 47] (by decide +kernel) (by decide +kernel)
set_option maxRecDepth 20000 in
theorem gX11_usedBy_X11_firstOf : GoodIn wsX11_usedBy (wsV RX11 94 RX11 yX11_firstOf wsX11_firstOf) := goodIn_app (goodIn_of _ (by decide +kernel)) ggX11_usedBy_X11_firstOf
set_option maxRecDepth 20000 in
theorem ggX11_usedBy_X11_secondOf : GoodIn wsX11_usedBy wsX11_secondOf := goodIn_r _ [14, 1, 15, 16, 17, 18, 19, 20, 21, 22, 23, 24, 25, 26, 27, 28, 29, 30, 31, 32, 33, 34, 35, 36, 37, 38, 39, 40, 41, 42, 43, 44, 45, 46, 47] (by decide +kernel) (by decide +kernel)
set_option maxRecDepth 20000 in
theorem gX11_usedBy_X11_secondOf : GoodIn wsX11_usedBy (wsV RX11 97 RX11 yX11_secondOf wsX11_secondOf) := goodIn_app (goodIn_of _ (by decide +kernel)) ggX11_usedBy_X11_secondOf
theorem dX11_usedBy_0 : decode cX11_usedBy 0 = .ok (.iconst 0, 1) := by decide +kernel
theorem dX11_usedBy_1 : decode cX11_usedBy 1 = .ok (.istore_n 2, 1) := by decide +kernel
theorem dX11_usedBy_2 : decode cX11_usedBy 2 = .ok (.iconst 0, 1) := by decide +kernel
theorem dX11_usedBy_3 : decode cX11_usedBy 3 = .ok (.istore_n 3, 1) := by decide +kernel
theorem dX11_usedBy_4 : decode cX11_usedBy 4 = .ok (.iload_n 3, 1) := by decide +kernel
theorem dX11_usedBy_5 : decode cX11_usedBy 5 = .ok (.aload_n 0, 1) := by decide +kernel
theorem dX11_usedBy_6 : decode cX11_usedBy 6 = .ok (.getfield 9, 3) := by decide +kernel
theorem dX11_usedBy_9 : decode cX11_usedBy 9 = .ok (.bipush 8, 2) := by decide +kernel
theorem dX11_usedBy_11 : decode cX11_usedBy 11 = .ok (.iaload, 1) := by decide +kernel
theorem dX11_usedBy_12 : decode cX11_usedBy 12 = .ok (.if_icmp .ge 43, 3) := by decide +kernel
theorem dX11_usedBy_15 : decode cX11_usedBy 15 = .ok (.iload_n 2, 1) := by decide +kernel
theorem dX11_usedBy_16 : decode cX11_usedBy 16 = .ok (.aload_n 0, 1) := by decide +kernel
theorem dX11_usedBy_17 : decode cX11_usedBy 17 = .ok (.iload_n 3, 1) := by decide +kernel
theorem dX11_usedBy_18 : decode cX11_usedBy 18 = .ok (.invokevirtual 90, 3) := by decide +kernel
theorem dX11_usedBy_21 : decode cX11_usedBy 21 = .ok (.ifCond .le 25, 3) := by decide +kernel
theorem dX11_usedBy_24 : decode cX11_usedBy 24 = .ok (.aload_n 0, 1) := by decide +kernel
theorem dX11_usedBy_25 : decode cX11_usedBy 25 = .ok (.iload_n 3, 1) := by decide +kernel
theorem dX11_usedBy_26 : decode cX11_usedBy 26 = .ok (.invokevirtual 94, 3) := by decide +kernel
theorem dX11_usedBy_29 : decode cX11_usedBy 29 = .ok (.iload_n 1, 1) := by decide +kernel
theorem dX11_usedBy_30 : decode cX11_usedBy 30 = .ok (.if_icmp .eq 12, 3) := by decide +kernel
theorem dX11_usedBy_33 : decode cX11_usedBy 33 = .ok (.aload_n 0, 1) := by decide +kernel
theorem dX11_usedBy_34 : decode cX11_usedBy 34 = .ok (.iload_n 3, 1) := by decide +kernel
theorem dX11_usedBy_35 : decode cX11_usedBy 35 = .ok (.invokevirtual 97, 3) := by decide +kernel
theorem dX11_usedBy_38 : decode cX11_usedBy 38 = .ok (.iload_n 1, 1) := by decide +kernel
theorem dX11_usedBy_39 : decode cX11_usedBy 39 = .ok (.if_icmp .ne 7, 3) := by decide +kernel
theorem dX11_usedBy_42 : decode cX11_usedBy 42 = .ok (.iconst 1, 1) := by decide +kernel
theorem dX11_usedBy_43 : decode cX11_usedBy 43 = .ok (.goto 4, 3) := by decide +kernel
theorem dX11_usedBy_46 : decode cX11_usedBy 46 = .ok (.iconst 0, 1) := by decide +kernel
theorem dX11_usedBy_47 : decode cX11_usedBy 47 = .ok (.iadd, 1) := by decide +kernel
theorem dX11_usedBy_48 : decode cX11_usedBy 48 = .ok (.istore_n 2, 1) := by decide +kernel
theorem dX11_usedBy_49 : decode cX11_usedBy 49 = .ok (.iinc 3 1, 3) := by decide +kernel
theorem dX11_usedBy_52 : decode cX11_usedBy 52 = .ok (.goto (-48), 3) := by decide +kernel
theorem dX11_usedBy_55 : decode cX11_usedBy 55 = .ok (.iload_n 2, 1) := by decide +kernel
theorem dX11_usedBy_56 : decode cX11_usedBy 56 = .ok (.ireturn, 1) := by decide +kernel
set_option maxRecDepth 20000 in
theorem ggX11_net_X11_isNet : GoodIn wsX11_net wsX11_isNet := goodIn_r _ [6, 7, 8, 9, 5, 10, 31, 32, 33, 34, 35, 36, 37, 38, 39, 40, 41, 42, 43, 44, 45, 46, 47, 48, 49, 50, 51, 52, 53, 54, 55, 56, 57, 58, 59, 60, 61, 62, 63] (by decide +kernel) (by decide +kernel)
set_option maxRecDepth 20000 in
theorem gX11_net_X11_isNet : GoodIn wsX11_net (wsV RX11 121 RX11 yX11_isNet wsX11_isNet) := goodIn_app (goodIn_of _ (by decide +kernel)) ggX11_net_X11_isNet
set_option maxRecDepth 20000 in
theorem ggX11_net_X11_in : GoodIn wsX11_net wsX11_in := goodIn_r _ [10] (by decide +kernel) (by decide +kernel)
set_option maxRecDepth 20000 in
theorem gX11_net_X11_in : GoodIn wsX11_net (va_wsS RX11 86 yX11_in wsX11_in) := goodIn_app (goodIn_of _ (by decide +kernel)) ggX11_net_X11_in
set_option maxRecDepth 20000 in
theorem ggX11_net_X11_kindOf : GoodIn wsX11_net wsX11_kindOf := goodIn_r _ [14, 7, 31, 32, 33, 34, 35, 36, 37, 38, 39, 40, 41, 42, 43, 44, 45, 46, 47, 48, 49, 50, 51, 52, 53, 54, 55, 56, 57, 58, 59, 60, 61, 62, 63] (by decide +kernel) (by decide +kernel)
set_option maxRecDepth 20000 in
theorem gX11_net_X11_kindOf : GoodIn wsX11_net (wsV RX11 90 RX11 yX11_kindOf wsX11_kindOf) := goodIn_app (goodIn_of _ (by decide +kernel)) ggX11_net_X11_kindOf
set_option maxRecDepth 20000 in
theorem ggX11_net_X11_firstOf : GoodIn wsX11_net wsX11_firstOf := goodIn_r _ [18, 7, 31, 32, 33, 34, 35, 36, 37, 38, 39, 40, 41, 42, 43, 44, 45, 46, 47, 48, 49, 50, 51, 52, 53, 54, 55, 56, 57, 58, 59, 60, 61, 62, 63] (by decide +kernel) (by decide +kernel)
set_option maxRecDepth 20000 in
theorem gX11_net_X11_firstOf : GoodIn wsX11_net (wsV RX11 94 RX11 yX11_firstOf wsX11_firstOf) := goodIn_app (goodIn_of _ (by decide +kernel)) ggX11_net_X11_firstOf
set_option maxRecDepth 20000 in
theorem ggX11_net_X11_secondOf : GoodIn wsX11_net wsX11_secondOf := goodIn_r _ [22, 7, 31, 32, 33, 34, 35, 36, 37, 38, 39, 40, 41, 42, 43, 44, 45, 46, 47, 48, 49, 50, 51, 52, 53, 54, 55, 56, 57, 58, 59, 60, 61, 62, 63] (by decide +kernel) (by decide +kernel)
set_option maxRecDepth 20000 in
theorem gX11_net_X11_secondOf : GoodIn wsX11_net (wsV RX11 97 RX11 yX11_secondOf wsX11_secondOf) := goodIn_app (goodIn_of _ (by decide +kernel)) ggX11_net_X11_secondOf
set_option maxRecDepth 20000 in
theorem ggX11_net_X11_partsOf : GoodIn wsX11_net wsX11_partsOf := goodIn_r _ [26, 7, 31, 32, 33, 34, 35, 36, 37, 38, 39, 40, 41, 42, 43, 44, 45, 46, 47, 48, 49, 50, 51, 52, 53, 54, 55, 56, 57, 58, 59, 60, 61, 62, 63] (by decide +kernel) (by decide +kernel)
set_option maxRecDepth 20000 in
theorem gX11_net_X11_partsOf : GoodIn wsX11_net (wsV RX11 124 RX11 yX11_partsOf wsX11_partsOf) := goodIn_app (goodIn_of _ (by decide +kernel)) ggX11_net_X11_partsOf
set_option maxRecDepth 20000 in
theorem ggX11_net_X11_usedBy : GoodIn wsX11_net wsX11_usedBy := goodIn_r _ [30, 7, 11, 12, 13, 5, 14, 15, 16, 17, 18, 19, 20, 21, 22, 31, 32, 33, 34, 35, 36, 37, 38, 39, 40, 41, 42, 43, 44, 45, 46, 47, 48, 49, 50, 51, 52, 53, 54, 55, 56, 57, 58, 59, 60, 61, 62, 63] (by decide +kernel) (by decide +kernel)
set_option maxRecDepth 20000 in
theorem gX11_net_X11_usedBy : GoodIn wsX11_net (wsV RX11 129 RX11 yX11_usedBy wsX11_usedBy) := goodIn_app (goodIn_of _ (by decide +kernel)) ggX11_net_X11_usedBy
theorem dX11_net_0 : decode cX11_net 0 = .ok (.aload_n 0, 1) := by decide +kernel
theorem dX11_net_1 : decode cX11_net 1 = .ok (.iload_n 1, 1) := by decide +kernel
theorem dX11_net_2 : decode cX11_net 2 = .ok (.invokevirtual 121, 3) := by decide +kernel
theorem dX11_net_5 : decode cX11_net 5 = .ok (.ifCond .eq 15, 3) := by decide +kernel
theorem dX11_net_8 : decode cX11_net 8 = .ok (.iload_n 2, 1) := by decide +kernel
theorem dX11_net_9 : decode cX11_net 9 = .ok (.i2l, 1) := by decide +kernel
theorem dX11_net_10 : decode cX11_net 10 = .ok (.lconst 0, 1) := by decide +kernel
theorem dX11_net_11 : decode cX11_net 11 = .ok (.ldc2_w 127, 3) := by decide +kernel
theorem dX11_net_14 : decode cX11_net 14 = .ok (.invokestatic 86, 3) := by decide +kernel
theorem dX11_net_17 : decode cX11_net 17 = .ok (.ifCond .ne 5, 3) := by decide +kernel
theorem dX11_net_20 : decode cX11_net 20 = .ok (.iconst (-1), 1) := by decide +kernel
theorem dX11_net_21 : decode cX11_net 21 = .ok (.ireturn, 1) := by decide +kernel
theorem dX11_net_22 : decode cX11_net 22 = .ok (.iload_n 2, 1) := by decide +kernel
theorem dX11_net_23 : decode cX11_net 23 = .ok (.tableswitch 66 0 3 #[29, 35, 41, 60], 29) := by decide +kernel
theorem dX11_net_52 : decode cX11_net 52 = .ok (.aload_n 0, 1) := by decide +kernel
theorem dX11_net_53 : decode cX11_net 53 = .ok (.iload_n 1, 1) := by decide +kernel
theorem dX11_net_54 : decode cX11_net 54 = .ok (.invokevirtual 90, 3) := by decide +kernel
theorem dX11_net_57 : decode cX11_net 57 = .ok (.ireturn, 1) := by decide +kernel
theorem dX11_net_58 : decode cX11_net 58 = .ok (.aload_n 0, 1) := by decide +kernel
theorem dX11_net_59 : decode cX11_net 59 = .ok (.iload_n 1, 1) := by decide +kernel
theorem dX11_net_60 : decode cX11_net 60 = .ok (.invokevirtual 94, 3) := by decide +kernel
theorem dX11_net_63 : decode cX11_net 63 = .ok (.ireturn, 1) := by decide +kernel
theorem dX11_net_64 : decode cX11_net 64 = .ok (.aload_n 0, 1) := by decide +kernel
