theorem dX11_net_65 : decode cX11_net 65 = .ok (.iload_n 1, 1) := by decide +kernel
theorem dX11_net_66 : decode cX11_net 66 = .ok (.invokevirtual 90, 3) := by decide +kernel
theorem dX11_net_69 : decode cX11_net 69 = .ok (.ifCond .ne 8, 3) := by decide +kernel
theorem dX11_net_72 : decode cX11_net 72 = .ok (.bipush (-2), 2) := by decide +kernel
theorem dX11_net_74 : decode cX11_net 74 = .ok (.goto 8, 3) := by decide +kernel
theorem dX11_net_77 : decode cX11_net 77 = .ok (.aload_n 0, 1) := by decide +kernel
theorem dX11_net_78 : decode cX11_net 78 = .ok (.iload_n 1, 1) := by decide +kernel
theorem dX11_net_79 : decode cX11_net 79 = .ok (.invokevirtual 97, 3) := by decide +kernel
theorem dX11_net_82 : decode cX11_net 82 = .ok (.ireturn, 1) := by decide +kernel
theorem dX11_net_83 : decode cX11_net 83 = .ok (.aload_n 0, 1) := by decide +kernel
theorem dX11_net_84 : decode cX11_net 84 = .ok (.iload_n 1, 1) := by decide +kernel
theorem dX11_net_85 : decode cX11_net 85 = .ok (.invokevirtual 124, 3) := by decide +kernel
theorem dX11_net_88 : decode cX11_net 88 = .ok (.ireturn, 1) := by decide +kernel
theorem dX11_net_89 : decode cX11_net 89 = .ok (.aload_n 0, 1) := by decide +kernel
theorem dX11_net_90 : decode cX11_net 90 = .ok (.iload_n 1, 1) := by decide +kernel
theorem dX11_net_91 : decode cX11_net 91 = .ok (.invokevirtual 129, 3) := by decide +kernel
theorem dX11_net_94 : decode cX11_net 94 = .ok (.ireturn, 1) := by decide +kernel
theorem dX11_divisor_0 : decode cX11_divisor 0 = .ok (.lload_n 0, 1) := by decide +kernel
theorem dX11_divisor_1 : decode cX11_divisor 1 = .ok (.lstore 4, 2) := by decide +kernel
theorem dX11_divisor_3 : decode cX11_divisor 3 = .ok (.lload_n 2, 1) := by decide +kernel
theorem dX11_divisor_4 : decode cX11_divisor 4 = .ok (.lstore 6, 2) := by decide +kernel
theorem dX11_divisor_6 : decode cX11_divisor 6 = .ok (.lload 6, 2) := by decide +kernel
theorem dX11_divisor_8 : decode cX11_divisor 8 = .ok (.lconst 0, 1) := by decide +kernel
theorem dX11_divisor_9 : decode cX11_divisor 9 = .ok (.lcmp, 1) := by decide +kernel
theorem dX11_divisor_10 : decode cX11_divisor 10 = .ok (.ifCond .eq 21, 3) := by decide +kernel
theorem dX11_divisor_13 : decode cX11_divisor 13 = .ok (.lload 4, 2) := by decide +kernel
theorem dX11_divisor_15 : decode cX11_divisor 15 = .ok (.lload 6, 2) := by decide +kernel
theorem dX11_divisor_17 : decode cX11_divisor 17 = .ok (.lrem, 1) := by decide +kernel
theorem dX11_divisor_18 : decode cX11_divisor 18 = .ok (.lstore 8, 2) := by decide +kernel
theorem dX11_divisor_20 : decode cX11_divisor 20 = .ok (.lload 6, 2) := by decide +kernel
theorem dX11_divisor_22 : decode cX11_divisor 22 = .ok (.lstore 4, 2) := by decide +kernel
theorem dX11_divisor_24 : decode cX11_divisor 24 = .ok (.lload 8, 2) := by decide +kernel
theorem dX11_divisor_26 : decode cX11_divisor 26 = .ok (.lstore 6, 2) := by decide +kernel
theorem dX11_divisor_28 : decode cX11_divisor 28 = .ok (.goto (-22), 3) := by decide +kernel
theorem dX11_divisor_31 : decode cX11_divisor 31 = .ok (.lload 4, 2) := by decide +kernel
theorem dX11_divisor_33 : decode cX11_divisor 33 = .ok (.lreturn, 1) := by decide +kernel
set_option maxRecDepth 20000 in
theorem ggX11_becomes_X11_divisor : GoodIn wsX11_becomes wsX11_divisor := goodIn_r _ [8] (by decide +kernel) (by decide +kernel)
set_option maxRecDepth 20000 in
theorem gX11_becomes_X11_divisor : GoodIn wsX11_becomes (va_wsS RX11 132 yX11_divisor wsX11_divisor) := goodIn_app (goodIn_of _ (by decide +kernel)) ggX11_becomes_X11_divisor
theorem dX11_becomes_0 : decode cX11_becomes 0 = .ok (.lload_n 1, 1) := by decide +kernel
theorem dX11_becomes_1 : decode cX11_becomes 1 = .ok (.lload_n 3, 1) := by decide +kernel
theorem dX11_becomes_2 : decode cX11_becomes 2 = .ok (.invokestatic 132, 3) := by decide +kernel
theorem dX11_becomes_5 : decode cX11_becomes 5 = .ok (.lstore 5, 2) := by decide +kernel
theorem dX11_becomes_7 : decode cX11_becomes 7 = .ok (.aload_n 0, 1) := by decide +kernel
theorem dX11_becomes_8 : decode cX11_becomes 8 = .ok (.lload_n 1, 1) := by decide +kernel
theorem dX11_becomes_9 : decode cX11_becomes 9 = .ok (.lload 5, 2) := by decide +kernel
theorem dX11_becomes_11 : decode cX11_becomes 11 = .ok (.ldiv, 1) := by decide +kernel
theorem dX11_becomes_12 : decode cX11_becomes 12 = .ok (.putfield 136, 3) := by decide +kernel
theorem dX11_becomes_15 : decode cX11_becomes 15 = .ok (.aload_n 0, 1) := by decide +kernel
theorem dX11_becomes_16 : decode cX11_becomes 16 = .ok (.lload_n 3, 1) := by decide +kernel
theorem dX11_becomes_17 : decode cX11_becomes 17 = .ok (.lload 5, 2) := by decide +kernel
theorem dX11_becomes_19 : decode cX11_becomes 19 = .ok (.ldiv, 1) := by decide +kernel
theorem dX11_becomes_20 : decode cX11_becomes 20 = .ok (.putfield 140, 3) := by decide +kernel
theorem dX11_becomes_23 : decode cX11_becomes 23 = .ok (.aload_n 0, 1) := by decide +kernel
theorem dX11_becomes_24 : decode cX11_becomes 24 = .ok (.getfield 136, 3) := by decide +kernel
theorem dX11_becomes_27 : decode cX11_becomes 27 = .ok (.ldc2_w 143, 3) := by decide +kernel
theorem dX11_becomes_30 : decode cX11_becomes 30 = .ok (.lcmp, 1) := by decide +kernel
theorem dX11_becomes_31 : decode cX11_becomes 31 = .ok (.ifCond .gt 14, 3) := by decide +kernel
theorem dX11_becomes_34 : decode cX11_becomes 34 = .ok (.aload_n 0, 1) := by decide +kernel
theorem dX11_becomes_35 : decode cX11_becomes 35 = .ok (.getfield 140, 3) := by decide +kernel
theorem dX11_becomes_38 : decode cX11_becomes 38 = .ok (.ldc2_w 143, 3) := by decide +kernel
theorem dX11_becomes_41 : decode cX11_becomes 41 = .ok (.lcmp, 1) := by decide +kernel
theorem dX11_becomes_42 : decode cX11_becomes 42 = .ok (.ifCond .le 17, 3) := by decide +kernel
theorem dX11_becomes_45 : decode cX11_becomes 45 = .ok (.aload_n 0, 1) := by decide +kernel
theorem dX11_becomes_46 : decode cX11_becomes 46 = .ok (.ldc2_w 145, 3) := by decide +kernel
theorem dX11_becomes_49 : decode cX11_becomes 49 = .ok (.putfield 136, 3) := by decide +kernel
theorem dX11_becomes_52 : decode cX11_becomes 52 = .ok (.aload_n 0, 1) := by decide +kernel
theorem dX11_becomes_53 : decode cX11_becomes 53 = .ok (.ldc2_w 145, 3) := by decide +kernel
theorem dX11_becomes_56 : decode cX11_becomes 56 = .ok (.putfield 140, 3) := by decide +kernel
theorem dX11_becomes_59 : decode cX11_becomes 59 = .ok (.return_, 1) := by decide +kernel
set_option maxRecDepth 20000 in
theorem ggX11_joined_X11_becomes : GoodIn wsX11_joined wsX11_becomes := goodIn_r _ [8, 2, 3, 9, 1, 10, 11, 7, 12, 13, 14, 15, 16, 17, 18, 19, 20, 21, 22, 23, 24, 25, 26, 27, 28, 29, 30, 31, 32, 33, 34, 35, 36, 37, 38, 39, 40, 41, 42, 43, 44, 45] (by decide +kernel) (by decide +kernel)
set_option maxRecDepth 20000 in
theorem gX11_joined_X11_becomes : GoodIn wsX11_joined (wsV RX11 147 RX11 yX11_becomes wsX11_becomes) := goodIn_app (goodIn_of _ (by decide +kernel)) ggX11_joined_X11_becomes
theorem dX11_joined_0 : decode cX11_joined 0 = .ok (.lload_n 2, 1) := by decide +kernel
theorem dX11_joined_1 : decode cX11_joined 1 = .ok (.lconst 0, 1) := by decide +kernel
theorem dX11_joined_2 : decode cX11_joined 2 = .ok (.lcmp, 1) := by decide +kernel
theorem dX11_joined_3 : decode cX11_joined 3 = .ok (.ifCond .lt 10, 3) := by decide +kernel
theorem dX11_joined_6 : decode cX11_joined 6 = .ok (.lload 6, 2) := by decide +kernel
theorem dX11_joined_8 : decode cX11_joined 8 = .ok (.lconst 0, 1) := by decide +kernel
theorem dX11_joined_9 : decode cX11_joined 9 = .ok (.lcmp, 1) := by decide +kernel
theorem dX11_joined_10 : decode cX11_joined 10 = .ok (.ifCond .ge 20, 3) := by decide +kernel
theorem dX11_joined_13 : decode cX11_joined 13 = .ok (.aload_n 0, 1) := by decide +kernel
theorem dX11_joined_14 : decode cX11_joined 14 = .ok (.ldc2_w 145, 3) := by decide +kernel
theorem dX11_joined_17 : decode cX11_joined 17 = .ok (.putfield 136, 3) := by decide +kernel
theorem dX11_joined_20 : decode cX11_joined 20 = .ok (.aload_n 0, 1) := by decide +kernel
theorem dX11_joined_21 : decode cX11_joined 21 = .ok (.ldc2_w 145, 3) := by decide +kernel
theorem dX11_joined_24 : decode cX11_joined 24 = .ok (.putfield 140, 3) := by decide +kernel
theorem dX11_joined_27 : decode cX11_joined 27 = .ok (.goto 146, 3) := by decide +kernel
theorem dX11_joined_30 : decode cX11_joined 30 = .ok (.iload_n 1, 1) := by decide +kernel
theorem dX11_joined_31 : decode cX11_joined 31 = .ok (.iconst 1, 1) := by decide +kernel
theorem dX11_joined_32 : decode cX11_joined 32 = .ok (.if_icmp .ne 26, 3) := by decide +kernel
theorem dX11_joined_35 : decode cX11_joined 35 = .ok (.lload 4, 2) := by decide +kernel
theorem dX11_joined_37 : decode cX11_joined 37 = .ok (.lconst 0, 1) := by decide +kernel
theorem dX11_joined_38 : decode cX11_joined 38 = .ok (.lcmp, 1) := by decide +kernel
theorem dX11_joined_39 : decode cX11_joined 39 = .ok (.ifCond .eq 10, 3) := by decide +kernel
theorem dX11_joined_42 : decode cX11_joined 42 = .ok (.lload 8, 2) := by decide +kernel
theorem dX11_joined_44 : decode cX11_joined 44 = .ok (.lconst 0, 1) := by decide +kernel
theorem dX11_joined_45 : decode cX11_joined 45 = .ok (.lcmp, 1) := by decide +kernel
theorem dX11_joined_46 : decode cX11_joined 46 = .ok (.ifCond .ne 12, 3) := by decide +kernel
theorem dX11_joined_49 : decode cX11_joined 49 = .ok (.aload_n 0, 1) := by decide +kernel
theorem dX11_joined_50 : decode cX11_joined 50 = .ok (.lconst 1, 1) := by decide +kernel
theorem dX11_joined_51 : decode cX11_joined 51 = .ok (.lconst 0, 1) := by decide +kernel
theorem dX11_joined_52 : decode cX11_joined 52 = .ok (.invokevirtual 147, 3) := by decide +kernel
theorem dX11_joined_55 : decode cX11_joined 55 = .ok (.goto 118, 3) := by decide +kernel
theorem dX11_joined_58 : decode cX11_joined 58 = .ok (.iload_n 1, 1) := by decide +kernel
theorem dX11_joined_59 : decode cX11_joined 59 = .ok (.iconst 1, 1) := by decide +kernel
theorem dX11_joined_60 : decode cX11_joined 60 = .ok (.if_icmp .ne 25, 3) := by decide +kernel
theorem dX11_joined_63 : decode cX11_joined 63 = .ok (.aload_n 0, 1) := by decide +kernel
theorem dX11_joined_64 : decode cX11_joined 64 = .ok (.lload_n 2, 1) := by decide +kernel
theorem dX11_joined_65 : decode cX11_joined 65 = .ok (.lload 8, 2) := by decide +kernel
theorem dX11_joined_67 : decode cX11_joined 67 = .ok (.lmul, 1) := by decide +kernel
theorem dX11_joined_68 : decode cX11_joined 68 = .ok (.lload 6, 2) := by decide +kernel
theorem dX11_joined_70 : decode cX11_joined 70 = .ok (.lload 4, 2) := by decide +kernel
theorem dX11_joined_72 : decode cX11_joined 72 = .ok (.lmul, 1) := by decide +kernel
theorem dX11_joined_73 : decode cX11_joined 73 = .ok (.ladd, 1) := by decide +kernel
theorem dX11_joined_74 : decode cX11_joined 74 = .ok (.lload 4, 2) := by decide +kernel
theorem dX11_joined_76 : decode cX11_joined 76 = .ok (.lload 8, 2) := by decide +kernel
theorem dX11_joined_78 : decode cX11_joined 78 = .ok (.lmul, 1) := by decide +kernel
theorem dX11_joined_79 : decode cX11_joined 79 = .ok (.invokevirtual 147, 3) := by decide +kernel
theorem dX11_joined_82 : decode cX11_joined 82 = .ok (.goto 91, 3) := by decide +kernel
theorem dX11_joined_85 : decode cX11_joined 85 = .ok (.lload_n 2, 1) := by decide +kernel
theorem dX11_joined_86 : decode cX11_joined 86 = .ok (.lconst 0, 1) := by decide +kernel
theorem dX11_joined_87 : decode cX11_joined 87 = .ok (.lcmp, 1) := by decide +kernel
theorem dX11_joined_88 : decode cX11_joined 88 = .ok (.ifCond .eq 10, 3) := by decide +kernel
theorem dX11_joined_91 : decode cX11_joined 91 = .ok (.lload 6, 2) := by decide +kernel
theorem dX11_joined_93 : decode cX11_joined 93 = .ok (.lconst 0, 1) := by decide +kernel
theorem dX11_joined_94 : decode cX11_joined 94 = .ok (.lcmp, 1) := by decide +kernel
theorem dX11_joined_95 : decode cX11_joined 95 = .ok (.ifCond .ne 12, 3) := by decide +kernel
theorem dX11_joined_98 : decode cX11_joined 98 = .ok (.aload_n 0, 1) := by decide +kernel
theorem dX11_joined_99 : decode cX11_joined 99 = .ok (.lconst 0, 1) := by decide +kernel
theorem dX11_joined_100 : decode cX11_joined 100 = .ok (.lconst 1, 1) := by decide +kernel
theorem dX11_joined_101 : decode cX11_joined 101 = .ok (.invokevirtual 147, 3) := by decide +kernel
theorem dX11_joined_104 : decode cX11_joined 104 = .ok (.goto 69, 3) := by decide +kernel
theorem dX11_joined_107 : decode cX11_joined 107 = .ok (.lload 4, 2) := by decide +kernel
theorem dX11_joined_109 : decode cX11_joined 109 = .ok (.lconst 0, 1) := by decide +kernel
theorem dX11_joined_110 : decode cX11_joined 110 = .ok (.lcmp, 1) := by decide +kernel
theorem dX11_joined_111 : decode cX11_joined 111 = .ok (.ifCond .eq 10, 3) := by decide +kernel
theorem dX11_joined_114 : decode cX11_joined 114 = .ok (.lload 8, 2) := by decide +kernel
theorem dX11_joined_116 : decode cX11_joined 116 = .ok (.lconst 0, 1) := by decide +kernel
theorem dX11_joined_117 : decode cX11_joined 117 = .ok (.lcmp, 1) := by decide +kernel
theorem dX11_joined_118 : decode cX11_joined 118 = .ok (.ifCond .ne 37, 3) := by decide +kernel
theorem dX11_joined_121 : decode cX11_joined 121 = .ok (.aload_n 0, 1) := by decide +kernel
theorem dX11_joined_122 : decode cX11_joined 122 = .ok (.lload 4, 2) := by decide +kernel
theorem dX11_joined_124 : decode cX11_joined 124 = .ok (.lconst 0, 1) := by decide +kernel
theorem dX11_joined_125 : decode cX11_joined 125 = .ok (.lcmp, 1) := by decide +kernel
theorem dX11_joined_126 : decode cX11_joined 126 = .ok (.ifCond .ne 8, 3) := by decide +kernel
theorem dX11_joined_129 : decode cX11_joined 129 = .ok (.lload 6, 2) := by decide +kernel
theorem dX11_joined_131 : decode cX11_joined 131 = .ok (.goto 4, 3) := by decide +kernel
theorem dX11_joined_134 : decode cX11_joined 134 = .ok (.lload_n 2, 1) := by decide +kernel
theorem dX11_joined_135 : decode cX11_joined 135 = .ok (.lload 4, 2) := by decide +kernel
theorem dX11_joined_137 : decode cX11_joined 137 = .ok (.lconst 0, 1) := by decide +kernel
theorem dX11_joined_138 : decode cX11_joined 138 = .ok (.lcmp, 1) := by decide +kernel
theorem dX11_joined_139 : decode cX11_joined 139 = .ok (.ifCond .ne 8, 3) := by decide +kernel
theorem dX11_joined_142 : decode cX11_joined 142 = .ok (.lload 8, 2) := by decide +kernel
theorem dX11_joined_144 : decode cX11_joined 144 = .ok (.goto 5, 3) := by decide +kernel
theorem dX11_joined_147 : decode cX11_joined 147 = .ok (.lload 4, 2) := by decide +kernel
theorem dX11_joined_149 : decode cX11_joined 149 = .ok (.invokevirtual 147, 3) := by decide +kernel
theorem dX11_joined_152 : decode cX11_joined 152 = .ok (.goto 21, 3) := by decide +kernel
theorem dX11_joined_155 : decode cX11_joined 155 = .ok (.aload_n 0, 1) := by decide +kernel
theorem dX11_joined_156 : decode cX11_joined 156 = .ok (.lload_n 2, 1) := by decide +kernel
theorem dX11_joined_157 : decode cX11_joined 157 = .ok (.lload 6, 2) := by decide +kernel
theorem dX11_joined_159 : decode cX11_joined 159 = .ok (.lmul, 1) := by decide +kernel
theorem dX11_joined_160 : decode cX11_joined 160 = .ok (.lload_n 2, 1) := by decide +kernel
theorem dX11_joined_161 : decode cX11_joined 161 = .ok (.lload 8, 2) := by decide +kernel
theorem dX11_joined_163 : decode cX11_joined 163 = .ok (.lmul, 1) := by decide +kernel
theorem dX11_joined_164 : decode cX11_joined 164 = .ok (.lload 6, 2) := by decide +kernel
theorem dX11_joined_166 : decode cX11_joined 166 = .ok (.lload 4, 2) := by decide +kernel
theorem dX11_joined_168 : decode cX11_joined 168 = .ok (.lmul, 1) := by decide +kernel
theorem dX11_joined_169 : decode cX11_joined 169 = .ok (.ladd, 1) := by decide +kernel
theorem dX11_joined_170 : decode cX11_joined 170 = .ok (.invokevirtual 147, 3) := by decide +kernel
theorem dX11_joined_173 : decode cX11_joined 173 = .ok (.return_, 1) := by decide +kernel
set_option maxRecDepth 20000 in
theorem ggX11_values_X11_kindOf : GoodIn wsX11_values wsX11_kindOf := goodIn_r _ [10, 1, 32, 33, 34, 35, 36, 37, 38, 39, 40, 41, 42, 43, 44, 45, 46, 47, 48, 49, 50, 51, 52, 53, 54, 55, 56, 57, 58, 59, 60, 61, 62, 63, 64] (by decide +kernel) (by decide +kernel)
set_option maxRecDepth 20000 in
theorem gX11_values_X11_kindOf : GoodIn wsX11_values (wsV RX11 90 RX11 yX11_kindOf wsX11_kindOf) := goodIn_app (goodIn_of _ (by decide +kernel)) ggX11_values_X11_kindOf
set_option maxRecDepth 20000 in
theorem ggX11_values_X11_firstOf : GoodIn wsX11_values wsX11_firstOf := goodIn_r _ [14, 1, 32, 33, 34, 35, 36, 37, 38, 39, 40, 41, 42, 43, 44, 45, 46, 47, 48, 49, 50, 51, 52, 53, 54, 55, 56, 57, 58, 59, 60, 61, 62, 63, 64] (by decide +kernel) (by decide +kernel)
set_option maxRecDepth 20000 in
theorem gX11_values_X11_firstOf : GoodIn wsX11_values (wsV RX11 94 RX11 yX11_firstOf wsX11_firstOf) := goodIn_app (goodIn_of _ (by decide +kernel)) ggX11_values_X11_firstOf
set_option maxRecDepth 20000 in
theorem ggX11_values_X11_becomes : GoodIn wsX11_values wsX11_becomes := goodIn_r _ [18, 4, 5, 19, 20, 21, 22, 9, 23, 32, 33, 34, 35, 36, 37, 38, 39, 40, 41, 42, 43, 44, 45, 46, 47, 48, 49, 50, 51, 52, 53, 54, 55, 56, 57, 58, 59, 60, 61, 62, 63, 64] (by decide +kernel) (by decide +kernel)
set_option maxRecDepth 20000 in
theorem gX11_values_X11_becomes : GoodIn wsX11_values (wsV RX11 147 RX11 yX11_becomes wsX11_becomes) := goodIn_app (goodIn_of _ (by decide +kernel)) ggX11_values_X11_becomes
set_option maxRecDepth 20000 in
theorem ggX11_values_X11_secondOf : GoodIn wsX11_values wsX11_secondOf := goodIn_r _ [27, 1, 32, 33, 34, 35, 36, 37, 38, 39, 40, 41, 42, 43, 44, 45, 46, 47, 48, 49, 50, 51, 52, 53, 54, 55, 56, 57, 58, 59, 60, 61, 62, 63, 64] (by decide +kernel) (by decide +kernel)
set_option maxRecDepth 20000 in
theorem gX11_values_X11_secondOf : GoodIn wsX11_values (wsV RX11 97 RX11 yX11_secondOf wsX11_secondOf) := goodIn_app (goodIn_of _ (by decide +kernel)) ggX11_values_X11_secondOf
set_option maxRecDepth 20000 in
theorem ggX11_values_X11_joined : GoodIn wsX11_values wsX11_joined := goodIn_r _ [31, 20, 4, 5, 15, 16, 17, 9, 18, 19, 21, 22, 23, 32, 33, 34, 35, 36, 37, 38, 39, 40, 41, 42, 43, 44, 45, 46, 47, 48, 49, 50, 51, 52, 53, 54, 55, 56, 57, 58, 59, 60, 61, 62, 63, 64] (by decide +kernel) (by decide +kernel)
set_option maxRecDepth 20000 in
theorem gX11_values_X11_joined : GoodIn wsX11_values (wsV RX11 151 RX11 yX11_joined wsX11_joined) := goodIn_app (goodIn_of _ (by decide +kernel)) ggX11_values_X11_joined
theorem dX11_values_0 : decode cX11_values 0 = .ok (.iconst 0, 1) := by decide +kernel
theorem dX11_values_1 : decode cX11_values 1 = .ok (.istore_n 1, 1) := by decide +kernel
theorem dX11_values_2 : decode cX11_values 2 = .ok (.iload_n 1, 1) := by decide +kernel
theorem dX11_values_3 : decode cX11_values 3 = .ok (.aload_n 0, 1) := by decide +kernel
theorem dX11_values_4 : decode cX11_values 4 = .ok (.getfield 9, 3) := by decide +kernel
theorem dX11_values_7 : decode cX11_values 7 = .ok (.bipush 8, 2) := by decide +kernel
theorem dX11_values_9 : decode cX11_values 9 = .ok (.iaload, 1) := by decide +kernel
theorem dX11_values_10 : decode cX11_values 10 = .ok (.if_icmp .ge 107, 3) := by decide +kernel
theorem dX11_values_13 : decode cX11_values 13 = .ok (.aload_n 0, 1) := by decide +kernel
theorem dX11_values_14 : decode cX11_values 14 = .ok (.iload_n 1, 1) := by decide +kernel
theorem dX11_values_15 : decode cX11_values 15 = .ok (.invokevirtual 90, 3) := by decide +kernel
theorem dX11_values_18 : decode cX11_values 18 = .ok (.ifCond .ne 24, 3) := by decide +kernel
theorem dX11_values_21 : decode cX11_values 21 = .ok (.aload_n 0, 1) := by decide +kernel
theorem dX11_values_22 : decode cX11_values 22 = .ok (.aload_n 0, 1) := by decide +kernel
theorem dX11_values_23 : decode cX11_values 23 = .ok (.getfield 9, 3) := by decide +kernel
theorem dX11_values_26 : decode cX11_values 26 = .ok (.iconst 0, 1) := by decide +kernel
theorem dX11_values_27 : decode cX11_values 27 = .ok (.aload_n 0, 1) := by decide +kernel
theorem dX11_values_28 : decode cX11_values 28 = .ok (.iload_n 1, 1) := by decide +kernel
theorem dX11_values_29 : decode cX11_values 29 = .ok (.invokevirtual 94, 3) := by decide +kernel
theorem dX11_values_32 : decode cX11_values 32 = .ok (.iadd, 1) := by decide +kernel
theorem dX11_values_33 : decode cX11_values 33 = .ok (.iaload, 1) := by decide +kernel
theorem dX11_values_34 : decode cX11_values 34 = .ok (.i2l, 1) := by decide +kernel
theorem dX11_values_35 : decode cX11_values 35 = .ok (.lconst 1, 1) := by decide +kernel
theorem dX11_values_36 : decode cX11_values 36 = .ok (.invokevirtual 147, 3) := by decide +kernel
theorem dX11_values_39 : decode cX11_values 39 = .ok (.goto 52, 3) := by decide +kernel
theorem dX11_values_42 : decode cX11_values 42 = .ok (.aload_n 0, 1) := by decide +kernel
theorem dX11_values_43 : decode cX11_values 43 = .ok (.aload_n 0, 1) := by decide +kernel
theorem dX11_values_44 : decode cX11_values 44 = .ok (.iload_n 1, 1) := by decide +kernel
theorem dX11_values_45 : decode cX11_values 45 = .ok (.invokevirtual 90, 3) := by decide +kernel
theorem dX11_values_48 : decode cX11_values 48 = .ok (.aload_n 0, 1) := by decide +kernel
theorem dX11_values_49 : decode cX11_values 49 = .ok (.getfield 18, 3) := by decide +kernel
theorem dX11_values_52 : decode cX11_values 52 = .ok (.aload_n 0, 1) := by decide +kernel
theorem dX11_values_53 : decode cX11_values 53 = .ok (.iload_n 1, 1) := by decide +kernel
theorem dX11_values_54 : decode cX11_values 54 = .ok (.invokevirtual 94, 3) := by decide +kernel
theorem dX11_values_57 : decode cX11_values 57 = .ok (.laload, 1) := by decide +kernel
theorem dX11_values_58 : decode cX11_values 58 = .ok (.aload_n 0, 1) := by decide +kernel
theorem dX11_values_59 : decode cX11_values 59 = .ok (.getfield 22, 3) := by decide +kernel
theorem dX11_values_62 : decode cX11_values 62 = .ok (.aload_n 0, 1) := by decide +kernel
theorem dX11_values_63 : decode cX11_values 63 = .ok (.iload_n 1, 1) := by decide +kernel
theorem dX11_values_64 : decode cX11_values 64 = .ok (.invokevirtual 94, 3) := by decide +kernel
theorem dX11_values_67 : decode cX11_values 67 = .ok (.laload, 1) := by decide +kernel
theorem dX11_values_68 : decode cX11_values 68 = .ok (.aload_n 0, 1) := by decide +kernel
theorem dX11_values_69 : decode cX11_values 69 = .ok (.getfield 18, 3) := by decide +kernel
theorem dX11_values_72 : decode cX11_values 72 = .ok (.aload_n 0, 1) := by decide +kernel
theorem dX11_values_73 : decode cX11_values 73 = .ok (.iload_n 1, 1) := by decide +kernel
theorem dX11_values_74 : decode cX11_values 74 = .ok (.invokevirtual 97, 3) := by decide +kernel
theorem dX11_values_77 : decode cX11_values 77 = .ok (.laload, 1) := by decide +kernel
theorem dX11_values_78 : decode cX11_values 78 = .ok (.aload_n 0, 1) := by decide +kernel
theorem dX11_values_79 : decode cX11_values 79 = .ok (.getfield 22, 3) := by decide +kernel
theorem dX11_values_82 : decode cX11_values 82 = .ok (.aload_n 0, 1) := by decide +kernel
theorem dX11_values_83 : decode cX11_values 83 = .ok (.iload_n 1, 1) := by decide +kernel
theorem dX11_values_84 : decode cX11_values 84 = .ok (.invokevirtual 97, 3) := by decide +kernel
theorem dX11_values_87 : decode cX11_values 87 = .ok (.laload, 1) := by decide +kernel
theorem dX11_values_88 : decode cX11_values 88 = .ok (.invokevirtual 151, 3) := by decide +kernel
theorem dX11_values_91 : decode cX11_values 91 = .ok (.aload_n 0, 1) := by decide +kernel
theorem dX11_values_92 : decode cX11_values 92 = .ok (.getfield 18, 3) := by decide +kernel
theorem dX11_values_95 : decode cX11_values 95 = .ok (.iload_n 1, 1) := by decide +kernel
theorem dX11_values_96 : decode cX11_values 96 = .ok (.aload_n 0, 1) := by decide +kernel
theorem dX11_values_97 : decode cX11_values 97 = .ok (.getfield 136, 3) := by decide +kernel
theorem dX11_values_100 : decode cX11_values 100 = .ok (.lastore, 1) := by decide +kernel
theorem dX11_values_101 : decode cX11_values 101 = .ok (.aload_n 0, 1) := by decide +kernel
theorem dX11_values_102 : decode cX11_values 102 = .ok (.getfield 22, 3) := by decide +kernel
theorem dX11_values_105 : decode cX11_values 105 = .ok (.iload_n 1, 1) := by decide +kernel
theorem dX11_values_106 : decode cX11_values 106 = .ok (.aload_n 0, 1) := by decide +kernel
theorem dX11_values_107 : decode cX11_values 107 = .ok (.getfield 140, 3) := by decide +kernel
theorem dX11_values_110 : decode cX11_values 110 = .ok (.lastore, 1) := by decide +kernel
theorem dX11_values_111 : decode cX11_values 111 = .ok (.iinc 1 1, 3) := by decide +kernel
theorem dX11_values_114 : decode cX11_values 114 = .ok (.goto (-112), 3) := by decide +kernel
theorem dX11_values_117 : decode cX11_values 117 = .ok (.return_, 1) := by decide +kernel
set_option maxRecDepth 20000 in
theorem ggX11_value_X11_isNet : GoodIn wsX11_value wsX11_isNet := goodIn_r _ [8, 9, 10, 11, 7, 12, 44, 45, 46, 47, 48, 49, 50, 51, 52, 53, 54, 55, 56, 57, 58, 59, 60, 61, 62, 63, 64, 65, 66, 67, 68, 69, 70, 71, 72, 73, 74, 75, 76] (by decide +kernel) (by decide +kernel)
set_option maxRecDepth 20000 in
theorem gX11_value_X11_isNet : GoodIn wsX11_value (wsV RX11 121 RX11 yX11_isNet wsX11_isNet) := goodIn_app (goodIn_of _ (by decide +kernel)) ggX11_value_X11_isNet
set_option maxRecDepth 20000 in
theorem ggX11_value_X11_in : GoodIn wsX11_value wsX11_in := goodIn_r _ [12] (by decide +kernel) (by decide +kernel)
set_option maxRecDepth 20000 in
theorem gX11_value_X11_in : GoodIn wsX11_value (va_wsS RX11 86 yX11_in wsX11_in) := goodIn_app (goodIn_of _ (by decide +kernel)) ggX11_value_X11_in
set_option maxRecDepth 20000 in
theorem ggX11_value_X11_values : GoodIn wsX11_value wsX11_values := goodIn_r _ [16, 9, 2, 3, 17, 18, 19, 20, 21, 7, 22, 23, 24, 25, 26, 27, 28, 29, 30, 31, 32, 33, 34, 35, 36, 37, 38, 39, 40, 41, 42, 43, 44, 45, 46, 47, 48, 49, 50, 51, 52, 53, 54, 55, 56, 57, 58, 59, 60, 61, 62, 63, 64, 65, 66, 67, 68, 69, 70, 71, 72, 73, 74, 75, 76] (by decide +kernel) (by decide +kernel)
set_option maxRecDepth 20000 in
theorem gX11_value_X11_values : GoodIn wsX11_value (wsV RX11 157 RX11 yX11_values wsX11_values) := goodIn_app (goodIn_of _ (by decide +kernel)) ggX11_value_X11_values
theorem dX11_value_0 : decode cX11_value 0 = .ok (.aload_n 0, 1) := by decide +kernel
theorem dX11_value_1 : decode cX11_value 1 = .ok (.iload_n 1, 1) := by decide +kernel
theorem dX11_value_2 : decode cX11_value 2 = .ok (.invokevirtual 121, 3) := by decide +kernel
theorem dX11_value_5 : decode cX11_value 5 = .ok (.ifCond .eq 13, 3) := by decide +kernel
theorem dX11_value_8 : decode cX11_value 8 = .ok (.iload_n 2, 1) := by decide +kernel
theorem dX11_value_9 : decode cX11_value 9 = .ok (.i2l, 1) := by decide +kernel
theorem dX11_value_10 : decode cX11_value 10 = .ok (.lconst 0, 1) := by decide +kernel
theorem dX11_value_11 : decode cX11_value 11 = .ok (.lconst 1, 1) := by decide +kernel
theorem dX11_value_12 : decode cX11_value 12 = .ok (.invokestatic 86, 3) := by decide +kernel
theorem dX11_value_15 : decode cX11_value 15 = .ok (.ifCond .ne 7, 3) := by decide +kernel
theorem dX11_value_18 : decode cX11_value 18 = .ok (.ldc2_w 155, 3) := by decide +kernel
theorem dX11_value_21 : decode cX11_value 21 = .ok (.lreturn, 1) := by decide +kernel
theorem dX11_value_22 : decode cX11_value 22 = .ok (.aload_n 0, 1) := by decide +kernel
theorem dX11_value_23 : decode cX11_value 23 = .ok (.invokevirtual 157, 3) := by decide +kernel
theorem dX11_value_26 : decode cX11_value 26 = .ok (.iload_n 2, 1) := by decide +kernel
theorem dX11_value_27 : decode cX11_value 27 = .ok (.ifCond .ne 12, 3) := by decide +kernel
theorem dX11_value_30 : decode cX11_value 30 = .ok (.aload_n 0, 1) := by decide +kernel
theorem dX11_value_31 : decode cX11_value 31 = .ok (.getfield 18, 3) := by decide +kernel
theorem dX11_value_34 : decode cX11_value 34 = .ok (.iload_n 1, 1) := by decide +kernel
theorem dX11_value_35 : decode cX11_value 35 = .ok (.laload, 1) := by decide +kernel
theorem dX11_value_36 : decode cX11_value 36 = .ok (.goto 9, 3) := by decide +kernel
theorem dX11_value_39 : decode cX11_value 39 = .ok (.aload_n 0, 1) := by decide +kernel
theorem dX11_value_40 : decode cX11_value 40 = .ok (.getfield 22, 3) := by decide +kernel
theorem dX11_value_43 : decode cX11_value 43 = .ok (.iload_n 1, 1) := by decide +kernel
theorem dX11_value_44 : decode cX11_value 44 = .ok (.laload, 1) := by decide +kernel
theorem dX11_value_45 : decode cX11_value 45 = .ok (.lreturn, 1) := by decide +kernel
set_option maxRecDepth 20000 in
theorem ggX11_alike_X11_isNet : GoodIn wsX11_alike wsX11_isNet := goodIn_r _ [7, 8, 9, 10, 6, 11, 43, 44, 45, 46, 47, 48, 49, 50, 51, 52, 53, 54, 55, 56, 57, 58, 59, 60, 61, 62, 63, 64, 65, 66, 67, 68, 69, 70, 71, 72, 73, 74, 75] (by decide +kernel) (by decide +kernel)
set_option maxRecDepth 20000 in
theorem gX11_alike_X11_isNet : GoodIn wsX11_alike (wsV RX11 121 RX11 yX11_isNet wsX11_isNet) := goodIn_app (goodIn_of _ (by decide +kernel)) ggX11_alike_X11_isNet
set_option maxRecDepth 20000 in
theorem ggX11_alike_X11_values : GoodIn wsX11_alike wsX11_values := goodIn_r _ [15, 8, 1, 2, 16, 17, 18, 19, 20, 6, 21, 22, 23, 24, 25, 26, 27, 28, 29, 30, 31, 32, 33, 34, 35, 36, 37, 38, 39, 40, 41, 42, 43, 44, 45, 46, 47, 48, 49, 50, 51, 52, 53, 54, 55, 56, 57, 58, 59, 60, 61, 62, 63, 64, 65, 66, 67, 68, 69, 70, 71, 72, 73, 74, 75] (by decide +kernel) (by decide +kernel)
set_option maxRecDepth 20000 in
theorem gX11_alike_X11_values : GoodIn wsX11_alike (wsV RX11 157 RX11 yX11_values wsX11_values) := goodIn_app (goodIn_of _ (by decide +kernel)) ggX11_alike_X11_values
theorem dX11_alike_0 : decode cX11_alike 0 = .ok (.aload_n 0, 1) := by decide +kernel
theorem dX11_alike_1 : decode cX11_alike 1 = .ok (.iload_n 1, 1) := by decide +kernel
theorem dX11_alike_2 : decode cX11_alike 2 = .ok (.invokevirtual 121, 3) := by decide +kernel
theorem dX11_alike_5 : decode cX11_alike 5 = .ok (.ifCond .eq 11, 3) := by decide +kernel
theorem dX11_alike_8 : decode cX11_alike 8 = .ok (.aload_n 0, 1) := by decide +kernel
theorem dX11_alike_9 : decode cX11_alike 9 = .ok (.iload_n 2, 1) := by decide +kernel
theorem dX11_alike_10 : decode cX11_alike 10 = .ok (.invokevirtual 121, 3) := by decide +kernel
theorem dX11_alike_13 : decode cX11_alike 13 = .ok (.ifCond .ne 5, 3) := by decide +kernel
theorem dX11_alike_16 : decode cX11_alike 16 = .ok (.iconst (-1), 1) := by decide +kernel
theorem dX11_alike_17 : decode cX11_alike 17 = .ok (.ireturn, 1) := by decide +kernel
theorem dX11_alike_18 : decode cX11_alike 18 = .ok (.aload_n 0, 1) := by decide +kernel
theorem dX11_alike_19 : decode cX11_alike 19 = .ok (.invokevirtual 157, 3) := by decide +kernel
theorem dX11_alike_22 : decode cX11_alike 22 = .ok (.aload_n 0, 1) := by decide +kernel
theorem dX11_alike_23 : decode cX11_alike 23 = .ok (.getfield 18, 3) := by decide +kernel
theorem dX11_alike_26 : decode cX11_alike 26 = .ok (.iload_n 1, 1) := by decide +kernel
theorem dX11_alike_27 : decode cX11_alike 27 = .ok (.laload, 1) := by decide +kernel
theorem dX11_alike_28 : decode cX11_alike 28 = .ok (.lconst 0, 1) := by decide +kernel
theorem dX11_alike_29 : decode cX11_alike 29 = .ok (.lcmp, 1) := by decide +kernel
theorem dX11_alike_30 : decode cX11_alike 30 = .ok (.ifCond .lt 14, 3) := by decide +kernel
theorem dX11_alike_33 : decode cX11_alike 33 = .ok (.aload_n 0, 1) := by decide +kernel
theorem dX11_alike_34 : decode cX11_alike 34 = .ok (.getfield 18, 3) := by decide +kernel
theorem dX11_alike_37 : decode cX11_alike 37 = .ok (.iload_n 2, 1) := by decide +kernel
theorem dX11_alike_38 : decode cX11_alike 38 = .ok (.laload, 1) := by decide +kernel
theorem dX11_alike_39 : decode cX11_alike 39 = .ok (.lconst 0, 1) := by decide +kernel
theorem dX11_alike_40 : decode cX11_alike 40 = .ok (.lcmp, 1) := by decide +kernel
theorem dX11_alike_41 : decode cX11_alike 41 = .ok (.ifCond .ge 6, 3) := by decide +kernel
theorem dX11_alike_44 : decode cX11_alike 44 = .ok (.bipush (-7), 2) := by decide +kernel
theorem dX11_alike_46 : decode cX11_alike 46 = .ok (.ireturn, 1) := by decide +kernel
theorem dX11_alike_47 : decode cX11_alike 47 = .ok (.aload_n 0, 1) := by decide +kernel
theorem dX11_alike_48 : decode cX11_alike 48 = .ok (.getfield 18, 3) := by decide +kernel
theorem dX11_alike_51 : decode cX11_alike 51 = .ok (.iload_n 1, 1) := by decide +kernel
theorem dX11_alike_52 : decode cX11_alike 52 = .ok (.laload, 1) := by decide +kernel
theorem dX11_alike_53 : decode cX11_alike 53 = .ok (.aload_n 0, 1) := by decide +kernel
theorem dX11_alike_54 : decode cX11_alike 54 = .ok (.getfield 18, 3) := by decide +kernel
theorem dX11_alike_57 : decode cX11_alike 57 = .ok (.iload_n 2, 1) := by decide +kernel
theorem dX11_alike_58 : decode cX11_alike 58 = .ok (.laload, 1) := by decide +kernel
theorem dX11_alike_59 : decode cX11_alike 59 = .ok (.lcmp, 1) := by decide +kernel
theorem dX11_alike_60 : decode cX11_alike 60 = .ok (.ifCond .ne 23, 3) := by decide +kernel
theorem dX11_alike_63 : decode cX11_alike 63 = .ok (.aload_n 0, 1) := by decide +kernel
theorem dX11_alike_64 : decode cX11_alike 64 = .ok (.getfield 22, 3) := by decide +kernel
theorem dX11_alike_67 : decode cX11_alike 67 = .ok (.iload_n 1, 1) := by decide +kernel
theorem dX11_alike_68 : decode cX11_alike 68 = .ok (.laload, 1) := by decide +kernel
theorem dX11_alike_69 : decode cX11_alike 69 = .ok (.aload_n 0, 1) := by decide +kernel
theorem dX11_alike_70 : decode cX11_alike 70 = .ok (.getfield 22, 3) := by decide +kernel
theorem dX11_alike_73 : decode cX11_alike 73 = .ok (.iload_n 2, 1) := by decide +kernel
theorem dX11_alike_74 : decode cX11_alike 74 = .ok (.laload, 1) := by decide +kernel
theorem dX11_alike_75 : decode cX11_alike 75 = .ok (.lcmp, 1) := by decide +kernel
theorem dX11_alike_76 : decode cX11_alike 76 = .ok (.ifCond .ne 7, 3) := by decide +kernel
theorem dX11_alike_79 : decode cX11_alike 79 = .ok (.iconst 1, 1) := by decide +kernel
theorem dX11_alike_80 : decode cX11_alike 80 = .ok (.goto 4, 3) := by decide +kernel
theorem dX11_alike_83 : decode cX11_alike 83 = .ok (.iconst 0, 1) := by decide +kernel
theorem dX11_alike_84 : decode cX11_alike 84 = .ok (.ireturn, 1) := by decide +kernel
theorem dX11_endOf_0 : decode cX11_endOf 0 = .ok (.aload_n 0, 1) := by decide +kernel
theorem dX11_endOf_1 : decode cX11_endOf 1 = .ok (.getfield 9, 3) := by decide +kernel
theorem dX11_endOf_4 : decode cX11_endOf 4 = .ok (.iconst 0, 1) := by decide +kernel
theorem dX11_endOf_5 : decode cX11_endOf 5 = .ok (.iload_n 1, 1) := by decide +kernel
theorem dX11_endOf_6 : decode cX11_endOf 6 = .ok (.iadd, 1) := by decide +kernel
theorem dX11_endOf_7 : decode cX11_endOf 7 = .ok (.iaload, 1) := by decide +kernel
theorem dX11_endOf_8 : decode cX11_endOf 8 = .ok (.istore_n 3, 1) := by decide +kernel
theorem dX11_endOf_9 : decode cX11_endOf 9 = .ok (.aload_n 0, 1) := by decide +kernel
theorem dX11_endOf_10 : decode cX11_endOf 10 = .ok (.getfield 9, 3) := by decide +kernel
theorem dX11_endOf_13 : decode cX11_endOf 13 = .ok (.iconst 4, 1) := by decide +kernel
theorem dX11_endOf_14 : decode cX11_endOf 14 = .ok (.iload_n 1, 1) := by decide +kernel
theorem dX11_endOf_15 : decode cX11_endOf 15 = .ok (.iadd, 1) := by decide +kernel
theorem dX11_endOf_16 : decode cX11_endOf 16 = .ok (.iaload, 1) := by decide +kernel
theorem dX11_endOf_17 : decode cX11_endOf 17 = .ok (.istore 4, 2) := by decide +kernel
theorem dX11_endOf_19 : decode cX11_endOf 19 = .ok (.iload_n 2, 1) := by decide +kernel
theorem dX11_endOf_20 : decode cX11_endOf 20 = .ok (.ifCond .ne 18, 3) := by decide +kernel
theorem dX11_endOf_23 : decode cX11_endOf 23 = .ok (.iload_n 3, 1) := by decide +kernel
theorem dX11_endOf_24 : decode cX11_endOf 24 = .ok (.bipush 100, 2) := by decide +kernel
theorem dX11_endOf_26 : decode cX11_endOf 26 = .ok (.iload 4, 2) := by decide +kernel
theorem dX11_endOf_28 : decode cX11_endOf 28 = .ok (.isub, 1) := by decide +kernel
theorem dX11_endOf_29 : decode cX11_endOf 29 = .ok (.imul, 1) := by decide +kernel
theorem dX11_endOf_30 : decode cX11_endOf 30 = .ok (.i2d, 1) := by decide +kernel
theorem dX11_endOf_31 : decode cX11_endOf 31 = .ok (.ldc2_w 160, 3) := by decide +kernel
theorem dX11_endOf_34 : decode cX11_endOf 34 = .ok (.ddiv, 1) := by decide +kernel
theorem dX11_endOf_35 : decode cX11_endOf 35 = .ok (.goto 25, 3) := by decide +kernel
theorem dX11_endOf_38 : decode cX11_endOf 38 = .ok (.iload_n 2, 1) := by decide +kernel
theorem dX11_endOf_39 : decode cX11_endOf 39 = .ok (.iconst 1, 1) := by decide +kernel
theorem dX11_endOf_40 : decode cX11_endOf 40 = .ok (.if_icmp .ne 18, 3) := by decide +kernel
theorem dX11_endOf_43 : decode cX11_endOf 43 = .ok (.iload_n 3, 1) := by decide +kernel
theorem dX11_endOf_44 : decode cX11_endOf 44 = .ok (.bipush 100, 2) := by decide +kernel
theorem dX11_endOf_46 : decode cX11_endOf 46 = .ok (.iload 4, 2) := by decide +kernel
theorem dX11_endOf_48 : decode cX11_endOf 48 = .ok (.iadd, 1) := by decide +kernel
theorem dX11_endOf_49 : decode cX11_endOf 49 = .ok (.imul, 1) := by decide +kernel
theorem dX11_endOf_50 : decode cX11_endOf 50 = .ok (.i2d, 1) := by decide +kernel
theorem dX11_endOf_51 : decode cX11_endOf 51 = .ok (.ldc2_w 160, 3) := by decide +kernel
theorem dX11_endOf_54 : decode cX11_endOf 54 = .ok (.ddiv, 1) := by decide +kernel
theorem dX11_endOf_55 : decode cX11_endOf 55 = .ok (.goto 5, 3) := by decide +kernel
theorem dX11_endOf_58 : decode cX11_endOf 58 = .ok (.iload_n 3, 1) := by decide +kernel
theorem dX11_endOf_59 : decode cX11_endOf 59 = .ok (.i2d, 1) := by decide +kernel
theorem dX11_endOf_60 : decode cX11_endOf 60 = .ok (.dreturn, 1) := by decide +kernel
set_option maxRecDepth 20000 in
theorem ggX11_ends_X11_isNet : GoodIn wsX11_ends wsX11_isNet := goodIn_r _ [8, 9, 10, 11, 7, 12, 42, 43, 44, 45, 46, 47, 48, 49, 50, 51, 52, 53, 54, 55, 56, 57, 58, 59, 60, 61, 62, 63, 64, 65, 66, 67, 68, 69, 70, 71, 72, 73, 74] (by decide +kernel) (by decide +kernel)
set_option maxRecDepth 20000 in
theorem gX11_ends_X11_isNet : GoodIn wsX11_ends (wsV RX11 121 RX11 yX11_isNet wsX11_isNet) := goodIn_app (goodIn_of _ (by decide +kernel)) ggX11_ends_X11_isNet
set_option maxRecDepth 20000 in
theorem ggX11_ends_X11_in : GoodIn wsX11_ends wsX11_in := goodIn_r _ [12] (by decide +kernel) (by decide +kernel)
set_option maxRecDepth 20000 in
theorem gX11_ends_X11_in : GoodIn wsX11_ends (va_wsS RX11 86 yX11_in wsX11_in) := goodIn_app (goodIn_of _ (by decide +kernel)) ggX11_ends_X11_in
set_option maxRecDepth 20000 in
theorem ggX11_ends_X11_kindOf : GoodIn wsX11_ends wsX11_kindOf := goodIn_r _ [16, 9, 42, 43, 44, 45, 46, 47, 48, 49, 50, 51, 52, 53, 54, 55, 56, 57, 58, 59, 60, 61, 62, 63, 64, 65, 66, 67, 68, 69, 70, 71, 72, 73, 74] (by decide +kernel) (by decide +kernel)
set_option maxRecDepth 20000 in
theorem gX11_ends_X11_kindOf : GoodIn wsX11_ends (wsV RX11 90 RX11 yX11_kindOf wsX11_kindOf) := goodIn_app (goodIn_of _ (by decide +kernel)) ggX11_ends_X11_kindOf
set_option maxRecDepth 20000 in
theorem ggX11_ends_X11_firstOf : GoodIn wsX11_ends wsX11_firstOf := goodIn_r _ [20, 9, 42, 43, 44, 45, 46, 47, 48, 49, 50, 51, 52, 53, 54, 55, 56, 57, 58, 59, 60, 61, 62, 63, 64, 65, 66, 67, 68, 69, 70, 71, 72, 73, 74] (by decide +kernel) (by decide +kernel)
set_option maxRecDepth 20000 in
theorem gX11_ends_X11_firstOf : GoodIn wsX11_ends (wsV RX11 94 RX11 yX11_firstOf wsX11_firstOf) := goodIn_app (goodIn_of _ (by decide +kernel)) ggX11_ends_X11_firstOf
set_option maxRecDepth 20000 in
theorem ggX11_ends_X11_endOf : GoodIn wsX11_ends wsX11_endOf := goodIn_r _ [24, 9, 25, 42, 43, 44, 45, 46, 47, 48, 49, 50, 51, 52, 53, 54, 55, 56, 57, 58, 59, 60, 61, 62, 63, 64, 65, 66, 67, 68, 69, 70, 71, 72, 73, 74] (by decide +kernel) (by decide +kernel)
set_option maxRecDepth 20000 in
theorem gX11_ends_X11_endOf : GoodIn wsX11_ends (wsV RX11 162 RX11 yX11_endOf wsX11_endOf) := goodIn_app (goodIn_of _ (by decide +kernel)) ggX11_ends_X11_endOf
set_option maxRecDepth 20000 in
theorem ggX11_ends_X11_secondOf : GoodIn wsX11_ends wsX11_secondOf := goodIn_r _ [29, 9, 42, 43, 44, 45, 46, 47, 48, 49, 50, 51, 52, 53, 54, 55, 56, 57, 58, 59, 60, 61, 62, 63, 64, 65, 66, 67, 68, 69, 70, 71, 72, 73, 74] (by decide +kernel) (by decide +kernel)
set_option maxRecDepth 20000 in
theorem gX11_ends_X11_secondOf : GoodIn wsX11_ends (wsV RX11 97 RX11 yX11_secondOf wsX11_secondOf) := goodIn_app (goodIn_of _ (by decide +kernel)) ggX11_ends_X11_secondOf
set_option maxRecDepth 20000 in
theorem ggX11_ends_Jxe99ae_doubleToLongBits_ccdee : GoodIn wsX11_ends wsJxe99ae_doubleToLongBits_ccdee := goodIn_r _ [33, 34, 35, 36, 37, 38, 39, 40, 32, 41] (by decide +kernel) (by decide +kernel)
set_option maxRecDepth 20000 in
theorem gX11_ends_Jxe99ae_doubleToLongBits_ccdee : GoodIn wsX11_ends (va_wsS RX11 166 yJxe99ae_doubleToLongBits_ccdee wsJxe99ae_doubleToLongBits_ccdee) := goodIn_app (goodIn_of _ (by decide +kernel)) ggX11_ends_Jxe99ae_doubleToLongBits_ccdee
theorem dX11_ends_0 : decode cX11_ends 0 = .ok (.aload_n 0, 1) := by decide +kernel
theorem dX11_ends_1 : decode cX11_ends 1 = .ok (.iload_n 1, 1) := by decide +kernel
theorem dX11_ends_2 : decode cX11_ends 2 = .ok (.invokevirtual 121, 3) := by decide +kernel
theorem dX11_ends_5 : decode cX11_ends 5 = .ok (.ifCond .eq 15, 3) := by decide +kernel
theorem dX11_ends_8 : decode cX11_ends 8 = .ok (.iload_n 2, 1) := by decide +kernel
theorem dX11_ends_9 : decode cX11_ends 9 = .ok (.i2l, 1) := by decide +kernel
theorem dX11_ends_10 : decode cX11_ends 10 = .ok (.lconst 0, 1) := by decide +kernel
theorem dX11_ends_11 : decode cX11_ends 11 = .ok (.ldc2_w 112, 3) := by decide +kernel
theorem dX11_ends_14 : decode cX11_ends 14 = .ok (.invokestatic 86, 3) := by decide +kernel
theorem dX11_ends_17 : decode cX11_ends 17 = .ok (.ifCond .ne 7, 3) := by decide +kernel
theorem dX11_ends_20 : decode cX11_ends 20 = .ok (.ldc2_w 155, 3) := by decide +kernel
theorem dX11_ends_23 : decode cX11_ends 23 = .ok (.lreturn, 1) := by decide +kernel
theorem dX11_ends_24 : decode cX11_ends 24 = .ok (.iconst 0, 1) := by decide +kernel
theorem dX11_ends_25 : decode cX11_ends 25 = .ok (.istore_n 3, 1) := by decide +kernel
theorem dX11_ends_26 : decode cX11_ends 26 = .ok (.iload_n 3, 1) := by decide +kernel
theorem dX11_ends_27 : decode cX11_ends 27 = .ok (.iload_n 1, 1) := by decide +kernel
theorem dX11_ends_28 : decode cX11_ends 28 = .ok (.if_icmp .gt 94, 3) := by decide +kernel
theorem dX11_ends_31 : decode cX11_ends 31 = .ok (.aload_n 0, 1) := by decide +kernel
theorem dX11_ends_32 : decode cX11_ends 32 = .ok (.iload_n 3, 1) := by decide +kernel
theorem dX11_ends_33 : decode cX11_ends 33 = .ok (.invokevirtual 90, 3) := by decide +kernel
theorem dX11_ends_36 : decode cX11_ends 36 = .ok (.ifCond .ne 22, 3) := by decide +kernel
theorem dX11_ends_39 : decode cX11_ends 39 = .ok (.aload_n 0, 1) := by decide +kernel
theorem dX11_ends_40 : decode cX11_ends 40 = .ok (.getfield 25, 3) := by decide +kernel
theorem dX11_ends_43 : decode cX11_ends 43 = .ok (.iload_n 3, 1) := by decide +kernel
theorem dX11_ends_44 : decode cX11_ends 44 = .ok (.aload_n 0, 1) := by decide +kernel
theorem dX11_ends_45 : decode cX11_ends 45 = .ok (.aload_n 0, 1) := by decide +kernel
theorem dX11_ends_46 : decode cX11_ends 46 = .ok (.iload_n 3, 1) := by decide +kernel
theorem dX11_ends_47 : decode cX11_ends 47 = .ok (.invokevirtual 94, 3) := by decide +kernel
theorem dX11_ends_50 : decode cX11_ends 50 = .ok (.iload_n 2, 1) := by decide +kernel
theorem dX11_ends_51 : decode cX11_ends 51 = .ok (.invokevirtual 162, 3) := by decide +kernel
theorem dX11_ends_54 : decode cX11_ends 54 = .ok (.dastore, 1) := by decide +kernel
theorem dX11_ends_55 : decode cX11_ends 55 = .ok (.goto 61, 3) := by decide +kernel
theorem dX11_ends_58 : decode cX11_ends 58 = .ok (.aload_n 0, 1) := by decide +kernel
theorem dX11_ends_59 : decode cX11_ends 59 = .ok (.getfield 25, 3) := by decide +kernel
theorem dX11_ends_62 : decode cX11_ends 62 = .ok (.aload_n 0, 1) := by decide +kernel
theorem dX11_ends_63 : decode cX11_ends 63 = .ok (.iload_n 3, 1) := by decide +kernel
theorem dX11_ends_64 : decode cX11_ends 64 = .ok (.invokevirtual 94, 3) := by decide +kernel
theorem dX11_ends_67 : decode cX11_ends 67 = .ok (.daload, 1) := by decide +kernel
theorem dX11_ends_68 : decode cX11_ends 68 = .ok (.dstore 4, 2) := by decide +kernel
theorem dX11_ends_70 : decode cX11_ends 70 = .ok (.aload_n 0, 1) := by decide +kernel
theorem dX11_ends_71 : decode cX11_ends 71 = .ok (.getfield 25, 3) := by decide +kernel
theorem dX11_ends_74 : decode cX11_ends 74 = .ok (.aload_n 0, 1) := by decide +kernel
theorem dX11_ends_75 : decode cX11_ends 75 = .ok (.iload_n 3, 1) := by decide +kernel
theorem dX11_ends_76 : decode cX11_ends 76 = .ok (.invokevirtual 97, 3) := by decide +kernel
theorem dX11_ends_79 : decode cX11_ends 79 = .ok (.daload, 1) := by decide +kernel
theorem dX11_ends_80 : decode cX11_ends 80 = .ok (.dstore 6, 2) := by decide +kernel
theorem dX11_ends_82 : decode cX11_ends 82 = .ok (.aload_n 0, 1) := by decide +kernel
theorem dX11_ends_83 : decode cX11_ends 83 = .ok (.getfield 25, 3) := by decide +kernel
theorem dX11_ends_86 : decode cX11_ends 86 = .ok (.iload_n 3, 1) := by decide +kernel
theorem dX11_ends_87 : decode cX11_ends 87 = .ok (.aload_n 0, 1) := by decide +kernel
theorem dX11_ends_88 : decode cX11_ends 88 = .ok (.iload_n 3, 1) := by decide +kernel
theorem dX11_ends_89 : decode cX11_ends 89 = .ok (.invokevirtual 90, 3) := by decide +kernel
theorem dX11_ends_92 : decode cX11_ends 92 = .ok (.iconst 1, 1) := by decide +kernel
theorem dX11_ends_93 : decode cX11_ends 93 = .ok (.if_icmp .ne 11, 3) := by decide +kernel
theorem dX11_ends_96 : decode cX11_ends 96 = .ok (.dload 4, 2) := by decide +kernel
theorem dX11_ends_98 : decode cX11_ends 98 = .ok (.dload 6, 2) := by decide +kernel
theorem dX11_ends_100 : decode cX11_ends 100 = .ok (.dadd, 1) := by decide +kernel
theorem dX11_ends_101 : decode cX11_ends 101 = .ok (.goto 14, 3) := by decide +kernel
theorem dX11_ends_104 : decode cX11_ends 104 = .ok (.dload 4, 2) := by decide +kernel
theorem dX11_ends_106 : decode cX11_ends 106 = .ok (.dload 6, 2) := by decide +kernel
theorem dX11_ends_108 : decode cX11_ends 108 = .ok (.dmul, 1) := by decide +kernel
theorem dX11_ends_109 : decode cX11_ends 109 = .ok (.dload 4, 2) := by decide +kernel
theorem dX11_ends_111 : decode cX11_ends 111 = .ok (.dload 6, 2) := by decide +kernel
theorem dX11_ends_113 : decode cX11_ends 113 = .ok (.dadd, 1) := by decide +kernel
theorem dX11_ends_114 : decode cX11_ends 114 = .ok (.ddiv, 1) := by decide +kernel
theorem dX11_ends_115 : decode cX11_ends 115 = .ok (.dastore, 1) := by decide +kernel
theorem dX11_ends_116 : decode cX11_ends 116 = .ok (.iinc 3 1, 3) := by decide +kernel
theorem dX11_ends_119 : decode cX11_ends 119 = .ok (.goto (-93), 3) := by decide +kernel
theorem dX11_ends_122 : decode cX11_ends 122 = .ok (.aload_n 0, 1) := by decide +kernel
theorem dX11_ends_123 : decode cX11_ends 123 = .ok (.getfield 25, 3) := by decide +kernel
theorem dX11_ends_126 : decode cX11_ends 126 = .ok (.iload_n 1, 1) := by decide +kernel
theorem dX11_ends_127 : decode cX11_ends 127 = .ok (.daload, 1) := by decide +kernel
theorem dX11_ends_128 : decode cX11_ends 128 = .ok (.invokestatic 166, 3) := by decide +kernel
theorem dX11_ends_131 : decode cX11_ends 131 = .ok (.lreturn, 1) := by decide +kernel
theorem dX11_joinedFloats_0 : decode cX11_joinedFloats 0 = .ok (.iload_n 0, 1) := by decide +kernel
theorem dX11_joinedFloats_1 : decode cX11_joinedFloats 1 = .ok (.iconst 1, 1) := by decide +kernel
theorem dX11_joinedFloats_2 : decode cX11_joinedFloats 2 = .ok (.if_icmp .ne 9, 3) := by decide +kernel
theorem dX11_joinedFloats_5 : decode cX11_joinedFloats 5 = .ok (.fload_n 1, 1) := by decide +kernel
theorem dX11_joinedFloats_6 : decode cX11_joinedFloats 6 = .ok (.fload_n 2, 1) := by decide +kernel
theorem dX11_joinedFloats_7 : decode cX11_joinedFloats 7 = .ok (.fadd, 1) := by decide +kernel
theorem dX11_joinedFloats_8 : decode cX11_joinedFloats 8 = .ok (.goto 12, 3) := by decide +kernel
theorem dX11_joinedFloats_11 : decode cX11_joinedFloats 11 = .ok (.fconst 1, 1) := by decide +kernel
theorem dX11_joinedFloats_12 : decode cX11_joinedFloats 12 = .ok (.fconst 1, 1) := by decide +kernel
theorem dX11_joinedFloats_13 : decode cX11_joinedFloats 13 = .ok (.fload_n 1, 1) := by decide +kernel
theorem dX11_joinedFloats_14 : decode cX11_joinedFloats 14 = .ok (.fdiv, 1) := by decide +kernel
theorem dX11_joinedFloats_15 : decode cX11_joinedFloats 15 = .ok (.fconst 1, 1) := by decide +kernel
theorem dX11_joinedFloats_16 : decode cX11_joinedFloats 16 = .ok (.fload_n 2, 1) := by decide +kernel
theorem dX11_joinedFloats_17 : decode cX11_joinedFloats 17 = .ok (.fdiv, 1) := by decide +kernel
theorem dX11_joinedFloats_18 : decode cX11_joinedFloats 18 = .ok (.fadd, 1) := by decide +kernel
theorem dX11_joinedFloats_19 : decode cX11_joinedFloats 19 = .ok (.fdiv, 1) := by decide +kernel
theorem dX11_joinedFloats_20 : decode cX11_joinedFloats 20 = .ok (.freturn, 1) := by decide +kernel
set_option maxRecDepth 20000 in
theorem ggX11_shortly_X11_isNet : GoodIn wsX11_shortly wsX11_isNet := goodIn_r _ [8, 3, 9, 10, 7, 11, 39, 40, 41, 42, 43, 44, 45, 46, 47, 48, 49, 50, 51, 52, 53, 54, 55, 56, 57, 58, 59, 60, 61, 62, 63, 64, 65, 66, 67, 68, 69, 70, 71] (by decide +kernel) (by decide +kernel)
set_option maxRecDepth 20000 in
theorem gX11_shortly_X11_isNet : GoodIn wsX11_shortly (wsV RX11 121 RX11 yX11_isNet wsX11_isNet) := goodIn_app (goodIn_of _ (by decide +kernel)) ggX11_shortly_X11_isNet
set_option maxRecDepth 20000 in
theorem ggX11_shortly_X11_kindOf : GoodIn wsX11_shortly wsX11_kindOf := goodIn_r _ [15, 3, 39, 40, 41, 42, 43, 44, 45, 46, 47, 48, 49, 50, 51, 52, 53, 54, 55, 56, 57, 58, 59, 60, 61, 62, 63, 64, 65, 66, 67, 68, 69, 70, 71] (by decide +kernel) (by decide +kernel)
set_option maxRecDepth 20000 in
theorem gX11_shortly_X11_kindOf : GoodIn wsX11_shortly (wsV RX11 90 RX11 yX11_kindOf wsX11_kindOf) := goodIn_app (goodIn_of _ (by decide +kernel)) ggX11_shortly_X11_kindOf
set_option maxRecDepth 20000 in
theorem ggX11_shortly_X11_firstOf : GoodIn wsX11_shortly wsX11_firstOf := goodIn_r _ [19, 3, 39, 40, 41, 42, 43, 44, 45, 46, 47, 48, 49, 50, 51, 52, 53, 54, 55, 56, 57, 58, 59, 60, 61, 62, 63, 64, 65, 66, 67, 68, 69, 70, 71] (by decide +kernel) (by decide +kernel)
set_option maxRecDepth 20000 in
theorem gX11_shortly_X11_firstOf : GoodIn wsX11_shortly (wsV RX11 94 RX11 yX11_firstOf wsX11_firstOf) := goodIn_app (goodIn_of _ (by decide +kernel)) ggX11_shortly_X11_firstOf
set_option maxRecDepth 20000 in
theorem ggX11_shortly_X11_secondOf : GoodIn wsX11_shortly wsX11_secondOf := goodIn_r _ [23, 3, 39, 40, 41, 42, 43, 44, 45, 46, 47, 48, 49, 50, 51, 52, 53, 54, 55, 56, 57, 58, 59, 60, 61, 62, 63, 64, 65, 66, 67, 68, 69, 70, 71] (by decide +kernel) (by decide +kernel)
set_option maxRecDepth 20000 in
theorem gX11_shortly_X11_secondOf : GoodIn wsX11_shortly (wsV RX11 97 RX11 yX11_secondOf wsX11_secondOf) := goodIn_app (goodIn_of _ (by decide +kernel)) ggX11_shortly_X11_secondOf
set_option maxRecDepth 20000 in
theorem ggX11_shortly_X11_joinedFloats : GoodIn wsX11_shortly wsX11_joinedFloats := goodIn_r _ [26] (by decide +kernel) (by decide +kernel)
set_option maxRecDepth 20000 in
theorem gX11_shortly_X11_joinedFloats : GoodIn wsX11_shortly (va_wsS RX11 172 yX11_joinedFloats wsX11_joinedFloats) := goodIn_app (goodIn_of _ (by decide +kernel)) ggX11_shortly_X11_joinedFloats
set_option maxRecDepth 20000 in
theorem ggX11_shortly_Jxf58ca_floatToIntBits_5c35a : GoodIn wsX11_shortly wsJxf58ca_floatToIntBits_5c35a := goodIn_r _ [30, 31, 32, 33, 34, 35, 36, 37, 29, 38] (by decide +kernel) (by decide +kernel)
set_option maxRecDepth 20000 in
theorem gX11_shortly_Jxf58ca_floatToIntBits_5c35a : GoodIn wsX11_shortly (va_wsS RX11 176 yJxf58ca_floatToIntBits_5c35a wsJxf58ca_floatToIntBits_5c35a) := goodIn_app (goodIn_of _ (by decide +kernel)) ggX11_shortly_Jxf58ca_floatToIntBits_5c35a
theorem dX11_shortly_0 : decode cX11_shortly 0 = .ok (.aload_n 0, 1) := by decide +kernel
theorem dX11_shortly_1 : decode cX11_shortly 1 = .ok (.iload_n 1, 1) := by decide +kernel
theorem dX11_shortly_2 : decode cX11_shortly 2 = .ok (.invokevirtual 121, 3) := by decide +kernel
theorem dX11_shortly_5 : decode cX11_shortly 5 = .ok (.ifCond .ne 7, 3) := by decide +kernel
theorem dX11_shortly_8 : decode cX11_shortly 8 = .ok (.ldc2_w 155, 3) := by decide +kernel
theorem dX11_shortly_11 : decode cX11_shortly 11 = .ok (.lreturn, 1) := by decide +kernel
theorem dX11_shortly_12 : decode cX11_shortly 12 = .ok (.iconst 0, 1) := by decide +kernel
theorem dX11_shortly_13 : decode cX11_shortly 13 = .ok (.istore_n 2, 1) := by decide +kernel
theorem dX11_shortly_14 : decode cX11_shortly 14 = .ok (.iload_n 2, 1) := by decide +kernel
theorem dX11_shortly_15 : decode cX11_shortly 15 = .ok (.iload_n 1, 1) := by decide +kernel
theorem dX11_shortly_16 : decode cX11_shortly 16 = .ok (.if_icmp .gt 67, 3) := by decide +kernel
theorem dX11_shortly_19 : decode cX11_shortly 19 = .ok (.aload_n 0, 1) := by decide +kernel
theorem dX11_shortly_20 : decode cX11_shortly 20 = .ok (.getfield 29, 3) := by decide +kernel
theorem dX11_shortly_23 : decode cX11_shortly 23 = .ok (.iload_n 2, 1) := by decide +kernel
theorem dX11_shortly_24 : decode cX11_shortly 24 = .ok (.aload_n 0, 1) := by decide +kernel
theorem dX11_shortly_25 : decode cX11_shortly 25 = .ok (.iload_n 2, 1) := by decide +kernel
theorem dX11_shortly_26 : decode cX11_shortly 26 = .ok (.invokevirtual 90, 3) := by decide +kernel
theorem dX11_shortly_29 : decode cX11_shortly 29 = .ok (.ifCond .ne 19, 3) := by decide +kernel
theorem dX11_shortly_32 : decode cX11_shortly 32 = .ok (.aload_n 0, 1) := by decide +kernel
theorem dX11_shortly_33 : decode cX11_shortly 33 = .ok (.getfield 9, 3) := by decide +kernel
theorem dX11_shortly_36 : decode cX11_shortly 36 = .ok (.iconst 0, 1) := by decide +kernel
theorem dX11_shortly_37 : decode cX11_shortly 37 = .ok (.aload_n 0, 1) := by decide +kernel
theorem dX11_shortly_38 : decode cX11_shortly 38 = .ok (.iload_n 2, 1) := by decide +kernel
theorem dX11_shortly_39 : decode cX11_shortly 39 = .ok (.invokevirtual 94, 3) := by decide +kernel
theorem dX11_shortly_42 : decode cX11_shortly 42 = .ok (.iadd, 1) := by decide +kernel
theorem dX11_shortly_43 : decode cX11_shortly 43 = .ok (.iaload, 1) := by decide +kernel
theorem dX11_shortly_44 : decode cX11_shortly 44 = .ok (.i2f, 1) := by decide +kernel
theorem dX11_shortly_45 : decode cX11_shortly 45 = .ok (.goto 31, 3) := by decide +kernel
theorem dX11_shortly_48 : decode cX11_shortly 48 = .ok (.aload_n 0, 1) := by decide +kernel
theorem dX11_shortly_49 : decode cX11_shortly 49 = .ok (.iload_n 2, 1) := by decide +kernel
theorem dX11_shortly_50 : decode cX11_shortly 50 = .ok (.invokevirtual 90, 3) := by decide +kernel
theorem dX11_shortly_53 : decode cX11_shortly 53 = .ok (.aload_n 0, 1) := by decide +kernel
theorem dX11_shortly_54 : decode cX11_shortly 54 = .ok (.getfield 29, 3) := by decide +kernel
theorem dX11_shortly_57 : decode cX11_shortly 57 = .ok (.aload_n 0, 1) := by decide +kernel
theorem dX11_shortly_58 : decode cX11_shortly 58 = .ok (.iload_n 2, 1) := by decide +kernel
theorem dX11_shortly_59 : decode cX11_shortly 59 = .ok (.invokevirtual 94, 3) := by decide +kernel
theorem dX11_shortly_62 : decode cX11_shortly 62 = .ok (.faload, 1) := by decide +kernel
theorem dX11_shortly_63 : decode cX11_shortly 63 = .ok (.aload_n 0, 1) := by decide +kernel
theorem dX11_shortly_64 : decode cX11_shortly 64 = .ok (.getfield 29, 3) := by decide +kernel
theorem dX11_shortly_67 : decode cX11_shortly 67 = .ok (.aload_n 0, 1) := by decide +kernel
theorem dX11_shortly_68 : decode cX11_shortly 68 = .ok (.iload_n 2, 1) := by decide +kernel
theorem dX11_shortly_69 : decode cX11_shortly 69 = .ok (.invokevirtual 97, 3) := by decide +kernel
theorem dX11_shortly_72 : decode cX11_shortly 72 = .ok (.faload, 1) := by decide +kernel
theorem dX11_shortly_73 : decode cX11_shortly 73 = .ok (.invokestatic 172, 3) := by decide +kernel
theorem dX11_shortly_76 : decode cX11_shortly 76 = .ok (.fastore, 1) := by decide +kernel
theorem dX11_shortly_77 : decode cX11_shortly 77 = .ok (.iinc 2 1, 3) := by decide +kernel
theorem dX11_shortly_80 : decode cX11_shortly 80 = .ok (.goto (-66), 3) := by decide +kernel
theorem dX11_shortly_83 : decode cX11_shortly 83 = .ok (.aload_n 0, 1) := by decide +kernel
theorem dX11_shortly_84 : decode cX11_shortly 84 = .ok (.getfield 29, 3) := by decide +kernel
theorem dX11_shortly_87 : decode cX11_shortly 87 = .ok (.iload_n 1, 1) := by decide +kernel
theorem dX11_shortly_88 : decode cX11_shortly 88 = .ok (.faload, 1) := by decide +kernel
theorem dX11_shortly_89 : decode cX11_shortly 89 = .ok (.invokestatic 176, 3) := by decide +kernel
theorem dX11_shortly_92 : decode cX11_shortly 92 = .ok (.i2l, 1) := by decide +kernel
theorem dX11_shortly_93 : decode cX11_shortly 93 = .ok (.lreturn, 1) := by decide +kernel
set_option maxRecDepth 20000 in
theorem ggX11_goes_X11_kindOf : GoodIn wsX11_goes wsX11_kindOf := goodIn_r _ [9, 10, 19, 20, 21, 22, 23, 24, 25, 26, 27, 28, 29, 30, 31, 32, 33, 34, 35, 36, 37, 38, 39, 40, 41, 42, 43, 44, 45, 46, 47, 48, 49, 50, 51] (by decide +kernel) (by decide +kernel)
set_option maxRecDepth 20000 in
theorem gX11_goes_X11_kindOf : GoodIn wsX11_goes (wsV RX11 90 RX11 yX11_kindOf wsX11_kindOf) := goodIn_app (goodIn_of _ (by decide +kernel)) ggX11_goes_X11_kindOf
set_option maxRecDepth 20000 in
theorem ggX11_goes_X11_secondOf : GoodIn wsX11_goes wsX11_secondOf := goodIn_r _ [14, 10, 19, 20, 21, 22, 23, 24, 25, 26, 27, 28, 29, 30, 31, 32, 33, 34, 35, 36, 37, 38, 39, 40, 41, 42, 43, 44, 45, 46, 47, 48, 49, 50, 51] (by decide +kernel) (by decide +kernel)
set_option maxRecDepth 20000 in
theorem gX11_goes_X11_secondOf : GoodIn wsX11_goes (wsV RX11 97 RX11 yX11_secondOf wsX11_secondOf) := goodIn_app (goodIn_of _ (by decide +kernel)) ggX11_goes_X11_secondOf
set_option maxRecDepth 20000 in
theorem ggX11_goes_X11_firstOf : GoodIn wsX11_goes wsX11_firstOf := goodIn_r _ [18, 10, 19, 20, 21, 22, 23, 24, 25, 26, 27, 28, 29, 30, 31, 32, 33, 34, 35, 36, 37, 38, 39, 40, 41, 42, 43, 44, 45, 46, 47, 48, 49, 50, 51] (by decide +kernel) (by decide +kernel)
set_option maxRecDepth 20000 in
theorem gX11_goes_X11_firstOf : GoodIn wsX11_goes (wsV RX11 94 RX11 yX11_firstOf wsX11_firstOf) := goodIn_app (goodIn_of _ (by decide +kernel)) ggX11_goes_X11_firstOf
theorem dX11_goes_0 : decode cX11_goes 0 = .ok (.aload_n 0, 1) := by decide +kernel
theorem dX11_goes_1 : decode cX11_goes 1 = .ok (.iconst 0, 1) := by decide +kernel
theorem dX11_goes_2 : decode cX11_goes 2 = .ok (.putfield 182, 3) := by decide +kernel
theorem dX11_goes_5 : decode cX11_goes 5 = .ok (.aload_n 0, 1) := by decide +kernel
theorem dX11_goes_6 : decode cX11_goes 6 = .ok (.iconst 1, 1) := by decide +kernel
theorem dX11_goes_7 : decode cX11_goes 7 = .ok (.putfield 186, 3) := by decide +kernel
theorem dX11_goes_10 : decode cX11_goes 10 = .ok (.aload_n 0, 1) := by decide +kernel
theorem dX11_goes_11 : decode cX11_goes 11 = .ok (.getfield 36, 3) := by decide +kernel
theorem dX11_goes_14 : decode cX11_goes 14 = .ok (.iconst 0, 1) := by decide +kernel
theorem dX11_goes_15 : decode cX11_goes 15 = .ok (.iload_n 1, 1) := by decide +kernel
theorem dX11_goes_16 : decode cX11_goes 16 = .ok (.iastore, 1) := by decide +kernel
theorem dX11_goes_17 : decode cX11_goes 17 = .ok (.aload_n 0, 1) := by decide +kernel
theorem dX11_goes_18 : decode cX11_goes 18 = .ok (.getfield 186, 3) := by decide +kernel
theorem dX11_goes_21 : decode cX11_goes 21 = .ok (.ifCond .le 125, 3) := by decide +kernel
theorem dX11_goes_24 : decode cX11_goes 24 = .ok (.aload_n 0, 1) := by decide +kernel
theorem dX11_goes_25 : decode cX11_goes 25 = .ok (.dup, 1) := by decide +kernel
theorem dX11_goes_26 : decode cX11_goes 26 = .ok (.getfield 186, 3) := by decide +kernel
theorem dX11_goes_29 : decode cX11_goes 29 = .ok (.iconst 1, 1) := by decide +kernel
theorem dX11_goes_30 : decode cX11_goes 30 = .ok (.isub, 1) := by decide +kernel
theorem dX11_goes_31 : decode cX11_goes 31 = .ok (.putfield 186, 3) := by decide +kernel
theorem dX11_goes_34 : decode cX11_goes 34 = .ok (.aload_n 0, 1) := by decide +kernel
theorem dX11_goes_35 : decode cX11_goes 35 = .ok (.getfield 36, 3) := by decide +kernel
theorem dX11_goes_38 : decode cX11_goes 38 = .ok (.aload_n 0, 1) := by decide +kernel
theorem dX11_goes_39 : decode cX11_goes 39 = .ok (.getfield 186, 3) := by decide +kernel
theorem dX11_goes_42 : decode cX11_goes 42 = .ok (.iaload, 1) := by decide +kernel
theorem dX11_goes_43 : decode cX11_goes 43 = .ok (.istore_n 2, 1) := by decide +kernel
theorem dX11_goes_44 : decode cX11_goes 44 = .ok (.iload_n 2, 1) := by decide +kernel
theorem dX11_goes_45 : decode cX11_goes 45 = .ok (.ifCond .lt 11, 3) := by decide +kernel
theorem dX11_goes_48 : decode cX11_goes 48 = .ok (.aload_n 0, 1) := by decide +kernel
theorem dX11_goes_49 : decode cX11_goes 49 = .ok (.iload_n 2, 1) := by decide +kernel
theorem dX11_goes_50 : decode cX11_goes 50 = .ok (.invokevirtual 90, 3) := by decide +kernel
theorem dX11_goes_53 : decode cX11_goes 53 = .ok (.ifCond .ne 36, 3) := by decide +kernel
theorem dX11_goes_56 : decode cX11_goes 56 = .ok (.aload_n 0, 1) := by decide +kernel
theorem dX11_goes_57 : decode cX11_goes 57 = .ok (.getfield 33, 3) := by decide +kernel
theorem dX11_goes_60 : decode cX11_goes 60 = .ok (.aload_n 0, 1) := by decide +kernel
theorem dX11_goes_61 : decode cX11_goes 61 = .ok (.getfield 182, 3) := by decide +kernel
theorem dX11_goes_64 : decode cX11_goes 64 = .ok (.iload_n 2, 1) := by decide +kernel
theorem dX11_goes_65 : decode cX11_goes 65 = .ok (.ifCond .ge 9, 3) := by decide +kernel
theorem dX11_goes_68 : decode cX11_goes 68 = .ok (.iconst (-1), 1) := by decide +kernel
theorem dX11_goes_69 : decode cX11_goes 69 = .ok (.iload_n 2, 1) := by decide +kernel
theorem dX11_goes_70 : decode cX11_goes 70 = .ok (.isub, 1) := by decide +kernel
theorem dX11_goes_71 : decode cX11_goes 71 = .ok (.goto 4, 3) := by decide +kernel
theorem dX11_goes_74 : decode cX11_goes 74 = .ok (.iload_n 2, 1) := by decide +kernel
theorem dX11_goes_75 : decode cX11_goes 75 = .ok (.iastore, 1) := by decide +kernel
theorem dX11_goes_76 : decode cX11_goes 76 = .ok (.aload_n 0, 1) := by decide +kernel
theorem dX11_goes_77 : decode cX11_goes 77 = .ok (.dup, 1) := by decide +kernel
theorem dX11_goes_78 : decode cX11_goes 78 = .ok (.getfield 182, 3) := by decide +kernel
theorem dX11_goes_81 : decode cX11_goes 81 = .ok (.iconst 1, 1) := by decide +kernel
theorem dX11_goes_82 : decode cX11_goes 82 = .ok (.iadd, 1) := by decide +kernel
theorem dX11_goes_83 : decode cX11_goes 83 = .ok (.putfield 182, 3) := by decide +kernel
theorem dX11_goes_86 : decode cX11_goes 86 = .ok (.goto 57, 3) := by decide +kernel
theorem dX11_goes_89 : decode cX11_goes 89 = .ok (.aload_n 0, 1) := by decide +kernel
theorem dX11_goes_90 : decode cX11_goes 90 = .ok (.getfield 36, 3) := by decide +kernel
theorem dX11_goes_93 : decode cX11_goes 93 = .ok (.aload_n 0, 1) := by decide +kernel
theorem dX11_goes_94 : decode cX11_goes 94 = .ok (.getfield 186, 3) := by decide +kernel
theorem dX11_goes_97 : decode cX11_goes 97 = .ok (.iconst (-1), 1) := by decide +kernel
theorem dX11_goes_98 : decode cX11_goes 98 = .ok (.iload_n 2, 1) := by decide +kernel
theorem dX11_goes_99 : decode cX11_goes 99 = .ok (.isub, 1) := by decide +kernel
theorem dX11_goes_100 : decode cX11_goes 100 = .ok (.iastore, 1) := by decide +kernel
theorem dX11_goes_101 : decode cX11_goes 101 = .ok (.aload_n 0, 1) := by decide +kernel
theorem dX11_goes_102 : decode cX11_goes 102 = .ok (.getfield 36, 3) := by decide +kernel
theorem dX11_goes_105 : decode cX11_goes 105 = .ok (.aload_n 0, 1) := by decide +kernel
theorem dX11_goes_106 : decode cX11_goes 106 = .ok (.getfield 186, 3) := by decide +kernel
theorem dX11_goes_109 : decode cX11_goes 109 = .ok (.iconst 1, 1) := by decide +kernel
theorem dX11_goes_110 : decode cX11_goes 110 = .ok (.iadd, 1) := by decide +kernel
theorem dX11_goes_111 : decode cX11_goes 111 = .ok (.aload_n 0, 1) := by decide +kernel
theorem dX11_goes_112 : decode cX11_goes 112 = .ok (.iload_n 2, 1) := by decide +kernel
theorem dX11_goes_113 : decode cX11_goes 113 = .ok (.invokevirtual 97, 3) := by decide +kernel
theorem dX11_goes_116 : decode cX11_goes 116 = .ok (.iastore, 1) := by decide +kernel
theorem dX11_goes_117 : decode cX11_goes 117 = .ok (.aload_n 0, 1) := by decide +kernel
theorem dX11_goes_118 : decode cX11_goes 118 = .ok (.getfield 36, 3) := by decide +kernel
theorem dX11_goes_121 : decode cX11_goes 121 = .ok (.aload_n 0, 1) := by decide +kernel
theorem dX11_goes_122 : decode cX11_goes 122 = .ok (.getfield 186, 3) := by decide +kernel
theorem dX11_goes_125 : decode cX11_goes 125 = .ok (.iconst 2, 1) := by decide +kernel
theorem dX11_goes_126 : decode cX11_goes 126 = .ok (.iadd, 1) := by decide +kernel
theorem dX11_goes_127 : decode cX11_goes 127 = .ok (.aload_n 0, 1) := by decide +kernel
theorem dX11_goes_128 : decode cX11_goes 128 = .ok (.iload_n 2, 1) := by decide +kernel
theorem dX11_goes_129 : decode cX11_goes 129 = .ok (.invokevirtual 94, 3) := by decide +kernel
theorem dX11_goes_132 : decode cX11_goes 132 = .ok (.iastore, 1) := by decide +kernel
theorem dX11_goes_133 : decode cX11_goes 133 = .ok (.aload_n 0, 1) := by decide +kernel
theorem dX11_goes_134 : decode cX11_goes 134 = .ok (.dup, 1) := by decide +kernel
theorem dX11_goes_135 : decode cX11_goes 135 = .ok (.getfield 186, 3) := by decide +kernel
theorem dX11_goes_138 : decode cX11_goes 138 = .ok (.iconst 3, 1) := by decide +kernel
theorem dX11_goes_139 : decode cX11_goes 139 = .ok (.iadd, 1) := by decide +kernel
theorem dX11_goes_140 : decode cX11_goes 140 = .ok (.putfield 186, 3) := by decide +kernel
theorem dX11_goes_143 : decode cX11_goes 143 = .ok (.goto (-126), 3) := by decide +kernel
theorem dX11_goes_146 : decode cX11_goes 146 = .ok (.return_, 1) := by decide +kernel
theorem dX11_drawnPart_0 : decode cX11_drawnPart 0 = .ok (.aload_n 0, 1) := by decide +kernel
theorem dX11_drawnPart_1 : decode cX11_drawnPart 1 = .ok (.aload_n 0, 1) := by decide +kernel
theorem dX11_drawnPart_2 : decode cX11_drawnPart 2 = .ok (.getfield 189, 3) := by decide +kernel
theorem dX11_drawnPart_5 : decode cX11_drawnPart 5 = .ok (.ldc 192, 2) := by decide +kernel
theorem dX11_drawnPart_7 : decode cX11_drawnPart 7 = .ok (.imul, 1) := by decide +kernel
theorem dX11_drawnPart_8 : decode cX11_drawnPart 8 = .ok (.sipush 12345, 3) := by decide +kernel
theorem dX11_drawnPart_11 : decode cX11_drawnPart 11 = .ok (.iadd, 1) := by decide +kernel
theorem dX11_drawnPart_12 : decode cX11_drawnPart 12 = .ok (.putfield 189, 3) := by decide +kernel
theorem dX11_drawnPart_15 : decode cX11_drawnPart 15 = .ok (.aload_n 0, 1) := by decide +kernel
theorem dX11_drawnPart_16 : decode cX11_drawnPart 16 = .ok (.getfield 189, 3) := by decide +kernel
theorem dX11_drawnPart_19 : decode cX11_drawnPart 19 = .ok (.bipush 16, 2) := by decide +kernel
theorem dX11_drawnPart_21 : decode cX11_drawnPart 21 = .ok (.iushr, 1) := by decide +kernel
theorem dX11_drawnPart_22 : decode cX11_drawnPart 22 = .ok (.sipush 201, 3) := by decide +kernel
theorem dX11_drawnPart_25 : decode cX11_drawnPart 25 = .ok (.irem, 1) := by decide +kernel
theorem dX11_drawnPart_26 : decode cX11_drawnPart 26 = .ok (.bipush 100, 2) := by decide +kernel
theorem dX11_drawnPart_28 : decode cX11_drawnPart 28 = .ok (.isub, 1) := by decide +kernel
theorem dX11_drawnPart_29 : decode cX11_drawnPart 29 = .ok (.istore_n 2, 1) := by decide +kernel
theorem dX11_drawnPart_30 : decode cX11_drawnPart 30 = .ok (.aload_n 0, 1) := by decide +kernel
theorem dX11_drawnPart_31 : decode cX11_drawnPart 31 = .ok (.getfield 9, 3) := by decide +kernel
theorem dX11_drawnPart_34 : decode cX11_drawnPart 34 = .ok (.iconst 0, 1) := by decide +kernel
theorem dX11_drawnPart_35 : decode cX11_drawnPart 35 = .ok (.iload_n 1, 1) := by decide +kernel
theorem dX11_drawnPart_36 : decode cX11_drawnPart 36 = .ok (.iadd, 1) := by decide +kernel
theorem dX11_drawnPart_37 : decode cX11_drawnPart 37 = .ok (.iaload, 1) := by decide +kernel
theorem dX11_drawnPart_38 : decode cX11_drawnPart 38 = .ok (.i2f, 1) := by decide +kernel
theorem dX11_drawnPart_39 : decode cX11_drawnPart 39 = .ok (.fstore_n 3, 1) := by decide +kernel
theorem dX11_drawnPart_40 : decode cX11_drawnPart 40 = .ok (.fload_n 3, 1) := by decide +kernel
theorem dX11_drawnPart_41 : decode cX11_drawnPart 41 = .ok (.fload_n 3, 1) := by decide +kernel
theorem dX11_drawnPart_42 : decode cX11_drawnPart 42 = .ok (.aload_n 0, 1) := by decide +kernel
theorem dX11_drawnPart_43 : decode cX11_drawnPart 43 = .ok (.getfield 9, 3) := by decide +kernel
theorem dX11_drawnPart_46 : decode cX11_drawnPart 46 = .ok (.iconst 4, 1) := by decide +kernel
theorem dX11_drawnPart_47 : decode cX11_drawnPart 47 = .ok (.iload_n 1, 1) := by decide +kernel
theorem dX11_drawnPart_48 : decode cX11_drawnPart 48 = .ok (.iadd, 1) := by decide +kernel
theorem dX11_drawnPart_49 : decode cX11_drawnPart 49 = .ok (.iaload, 1) := by decide +kernel
theorem dX11_drawnPart_50 : decode cX11_drawnPart 50 = .ok (.iload_n 2, 1) := by decide +kernel
theorem dX11_drawnPart_51 : decode cX11_drawnPart 51 = .ok (.imul, 1) := by decide +kernel
theorem dX11_drawnPart_52 : decode cX11_drawnPart 52 = .ok (.i2f, 1) := by decide +kernel
theorem dX11_drawnPart_53 : decode cX11_drawnPart 53 = .ok (.fmul, 1) := by decide +kernel
theorem dX11_drawnPart_54 : decode cX11_drawnPart 54 = .ok (.ldc 193, 2) := by decide +kernel
theorem dX11_drawnPart_56 : decode cX11_drawnPart 56 = .ok (.fdiv, 1) := by decide +kernel
theorem dX11_drawnPart_57 : decode cX11_drawnPart 57 = .ok (.fadd, 1) := by decide +kernel
theorem dX11_drawnPart_58 : decode cX11_drawnPart 58 = .ok (.freturn, 1) := by decide +kernel
set_option maxRecDepth 20000 in
theorem ggX11_draws_X11_kindOf : GoodIn wsX11_draws wsX11_kindOf := goodIn_r _ [8, 9, 24, 25, 26, 27, 28, 29, 30, 31, 32, 33, 34, 35, 36, 37, 38, 39, 40, 41, 42, 43, 44, 45, 46, 47, 48, 49, 50, 51, 52, 53, 54, 55, 56] (by decide +kernel) (by decide +kernel)
set_option maxRecDepth 20000 in
theorem gX11_draws_X11_kindOf : GoodIn wsX11_draws (wsV RX11 90 RX11 yX11_kindOf wsX11_kindOf) := goodIn_app (goodIn_of _ (by decide +kernel)) ggX11_draws_X11_kindOf
set_option maxRecDepth 20000 in
theorem ggX11_draws_X11_firstOf : GoodIn wsX11_draws wsX11_firstOf := goodIn_r _ [13, 9, 24, 25, 26, 27, 28, 29, 30, 31, 32, 33, 34, 35, 36, 37, 38, 39, 40, 41, 42, 43, 44, 45, 46, 47, 48, 49, 50, 51, 52, 53, 54, 55, 56] (by decide +kernel) (by decide +kernel)
set_option maxRecDepth 20000 in
theorem gX11_draws_X11_firstOf : GoodIn wsX11_draws (wsV RX11 94 RX11 yX11_firstOf wsX11_firstOf) := goodIn_app (goodIn_of _ (by decide +kernel)) ggX11_draws_X11_firstOf
set_option maxRecDepth 20000 in
theorem ggX11_draws_X11_drawnPart : GoodIn wsX11_draws wsX11_drawnPart := goodIn_r _ [17, 18, 19, 9, 20, 24, 25, 26, 27, 28, 29, 30, 31, 32, 33, 34, 35, 36, 37, 38, 39, 40, 41, 42, 43, 44, 45, 46, 47, 48, 49, 50, 51, 52, 53, 54, 55, 56] (by decide +kernel) (by decide +kernel)
set_option maxRecDepth 20000 in
theorem gX11_draws_X11_drawnPart : GoodIn wsX11_draws (wsV RX11 194 RX11 yX11_drawnPart wsX11_drawnPart) := goodIn_app (goodIn_of _ (by decide +kernel)) ggX11_draws_X11_drawnPart
set_option maxRecDepth 20000 in
theorem ggX11_draws_X11_joinedFloats : GoodIn wsX11_draws wsX11_joinedFloats := goodIn_r _ [23] (by decide +kernel) (by decide +kernel)
set_option maxRecDepth 20000 in
theorem gX11_draws_X11_joinedFloats : GoodIn wsX11_draws (va_wsS RX11 172 yX11_joinedFloats wsX11_joinedFloats) := goodIn_app (goodIn_of _ (by decide +kernel)) ggX11_draws_X11_joinedFloats
theorem dX11_draws_0 : decode cX11_draws 0 = .ok (.iconst 0, 1) := by decide +kernel
theorem dX11_draws_1 : decode cX11_draws 1 = .ok (.istore_n 1, 1) := by decide +kernel
theorem dX11_draws_2 : decode cX11_draws 2 = .ok (.iconst 0, 1) := by decide +kernel
theorem dX11_draws_3 : decode cX11_draws 3 = .ok (.istore_n 2, 1) := by decide +kernel
theorem dX11_draws_4 : decode cX11_draws 4 = .ok (.iload_n 2, 1) := by decide +kernel
theorem dX11_draws_5 : decode cX11_draws 5 = .ok (.aload_n 0, 1) := by decide +kernel
theorem dX11_draws_6 : decode cX11_draws 6 = .ok (.getfield 182, 3) := by decide +kernel
theorem dX11_draws_9 : decode cX11_draws 9 = .ok (.if_icmp .ge 79, 3) := by decide +kernel
theorem dX11_draws_12 : decode cX11_draws 12 = .ok (.aload_n 0, 1) := by decide +kernel
theorem dX11_draws_13 : decode cX11_draws 13 = .ok (.aload_n 0, 1) := by decide +kernel
theorem dX11_draws_14 : decode cX11_draws 14 = .ok (.getfield 33, 3) := by decide +kernel
theorem dX11_draws_17 : decode cX11_draws 17 = .ok (.iload_n 2, 1) := by decide +kernel
theorem dX11_draws_18 : decode cX11_draws 18 = .ok (.iaload, 1) := by decide +kernel
theorem dX11_draws_19 : decode cX11_draws 19 = .ok (.invokevirtual 90, 3) := by decide +kernel
theorem dX11_draws_22 : decode cX11_draws 22 = .ok (.istore_n 3, 1) := by decide +kernel
theorem dX11_draws_23 : decode cX11_draws 23 = .ok (.iload_n 3, 1) := by decide +kernel
theorem dX11_draws_24 : decode cX11_draws 24 = .ok (.ifCond .ne 29, 3) := by decide +kernel
theorem dX11_draws_27 : decode cX11_draws 27 = .ok (.aload_n 0, 1) := by decide +kernel
theorem dX11_draws_28 : decode cX11_draws 28 = .ok (.getfield 39, 3) := by decide +kernel
theorem dX11_draws_31 : decode cX11_draws 31 = .ok (.iload_n 1, 1) := by decide +kernel
theorem dX11_draws_32 : decode cX11_draws 32 = .ok (.aload_n 0, 1) := by decide +kernel
theorem dX11_draws_33 : decode cX11_draws 33 = .ok (.aload_n 0, 1) := by decide +kernel
theorem dX11_draws_34 : decode cX11_draws 34 = .ok (.aload_n 0, 1) := by decide +kernel
theorem dX11_draws_35 : decode cX11_draws 35 = .ok (.getfield 33, 3) := by decide +kernel
theorem dX11_draws_38 : decode cX11_draws 38 = .ok (.iload_n 2, 1) := by decide +kernel
theorem dX11_draws_39 : decode cX11_draws 39 = .ok (.iaload, 1) := by decide +kernel
theorem dX11_draws_40 : decode cX11_draws 40 = .ok (.invokevirtual 94, 3) := by decide +kernel
theorem dX11_draws_43 : decode cX11_draws 43 = .ok (.invokevirtual 194, 3) := by decide +kernel
theorem dX11_draws_46 : decode cX11_draws 46 = .ok (.fastore, 1) := by decide +kernel
theorem dX11_draws_47 : decode cX11_draws 47 = .ok (.iinc 1 1, 3) := by decide +kernel
theorem dX11_draws_50 : decode cX11_draws 50 = .ok (.goto 32, 3) := by decide +kernel
theorem dX11_draws_53 : decode cX11_draws 53 = .ok (.iinc 1 (-1), 3) := by decide +kernel
theorem dX11_draws_56 : decode cX11_draws 56 = .ok (.aload_n 0, 1) := by decide +kernel
theorem dX11_draws_57 : decode cX11_draws 57 = .ok (.getfield 39, 3) := by decide +kernel
theorem dX11_draws_60 : decode cX11_draws 60 = .ok (.iload_n 1, 1) := by decide +kernel
theorem dX11_draws_61 : decode cX11_draws 61 = .ok (.iconst 1, 1) := by decide +kernel
theorem dX11_draws_62 : decode cX11_draws 62 = .ok (.isub, 1) := by decide +kernel
theorem dX11_draws_63 : decode cX11_draws 63 = .ok (.iload_n 3, 1) := by decide +kernel
theorem dX11_draws_64 : decode cX11_draws 64 = .ok (.aload_n 0, 1) := by decide +kernel
theorem dX11_draws_65 : decode cX11_draws 65 = .ok (.getfield 39, 3) := by decide +kernel
theorem dX11_draws_68 : decode cX11_draws 68 = .ok (.iload_n 1, 1) := by decide +kernel
theorem dX11_draws_69 : decode cX11_draws 69 = .ok (.iconst 1, 1) := by decide +kernel
theorem dX11_draws_70 : decode cX11_draws 70 = .ok (.isub, 1) := by decide +kernel
theorem dX11_draws_71 : decode cX11_draws 71 = .ok (.faload, 1) := by decide +kernel
theorem dX11_draws_72 : decode cX11_draws 72 = .ok (.aload_n 0, 1) := by decide +kernel
theorem dX11_draws_73 : decode cX11_draws 73 = .ok (.getfield 39, 3) := by decide +kernel
theorem dX11_draws_76 : decode cX11_draws 76 = .ok (.iload_n 1, 1) := by decide +kernel
theorem dX11_draws_77 : decode cX11_draws 77 = .ok (.faload, 1) := by decide +kernel
theorem dX11_draws_78 : decode cX11_draws 78 = .ok (.invokestatic 172, 3) := by decide +kernel
theorem dX11_draws_81 : decode cX11_draws 81 = .ok (.fastore, 1) := by decide +kernel
theorem dX11_draws_82 : decode cX11_draws 82 = .ok (.iinc 2 1, 3) := by decide +kernel
theorem dX11_draws_85 : decode cX11_draws 85 = .ok (.goto (-81), 3) := by decide +kernel
theorem dX11_draws_88 : decode cX11_draws 88 = .ok (.aload_n 0, 1) := by decide +kernel
theorem dX11_draws_89 : decode cX11_draws 89 = .ok (.getfield 39, 3) := by decide +kernel
theorem dX11_draws_92 : decode cX11_draws 92 = .ok (.iconst 0, 1) := by decide +kernel
theorem dX11_draws_93 : decode cX11_draws 93 = .ok (.faload, 1) := by decide +kernel
theorem dX11_draws_94 : decode cX11_draws 94 = .ok (.freturn, 1) := by decide +kernel
set_option maxRecDepth 20000 in
theorem ggX11_drawn_X11_isNet : GoodIn wsX11_drawn wsX11_isNet := goodIn_r _ [7, 8, 9, 10, 6, 11, 58, 59, 60, 61, 62, 63, 64, 65, 66, 67, 68, 69, 70, 71, 72, 73, 74, 75, 76, 77, 78, 79, 80, 81, 82, 83, 84, 85, 86, 87, 88, 89, 90] (by decide +kernel) (by decide +kernel)
set_option maxRecDepth 20000 in
theorem gX11_drawn_X11_isNet : GoodIn wsX11_drawn (wsV RX11 121 RX11 yX11_isNet wsX11_isNet) := goodIn_app (goodIn_of _ (by decide +kernel)) ggX11_drawn_X11_isNet
set_option maxRecDepth 20000 in
theorem ggX11_drawn_X11_goes : GoodIn wsX11_drawn wsX11_goes := goodIn_r _ [15, 16, 17, 18, 19, 20, 21, 22, 6, 23, 8, 24, 25, 26, 27, 28, 29, 30, 31, 58, 59, 60, 61, 62, 63, 64, 65, 66, 67, 68, 69, 70, 71, 72, 73, 74, 75, 76, 77, 78, 79, 80, 81, 82, 83, 84, 85, 86, 87, 88, 89, 90] (by decide +kernel) (by decide +kernel)
set_option maxRecDepth 20000 in
theorem gX11_drawn_X11_goes : GoodIn wsX11_drawn (wsV RX11 198 RX11 yX11_goes wsX11_goes) := goodIn_app (goodIn_of _ (by decide +kernel)) ggX11_drawn_X11_goes
set_option maxRecDepth 20000 in
theorem ggX11_drawn_X11_draws : GoodIn wsX11_drawn wsX11_draws := goodIn_r _ [35, 16, 19, 36, 20, 21, 22, 6, 23, 8, 28, 29, 30, 31, 37, 38, 39, 40, 2, 41, 42, 43, 44, 45, 58, 59, 60, 61, 62, 63, 64, 65, 66, 67, 68, 69, 70, 71, 72, 73, 74, 75, 76, 77, 78, 79, 80, 81, 82, 83, 84, 85, 86, 87, 88, 89, 90] (by decide +kernel) (by decide +kernel)
set_option maxRecDepth 20000 in
theorem gX11_drawn_X11_draws : GoodIn wsX11_drawn (wsV RX11 202 RX11 yX11_draws wsX11_draws) := goodIn_app (goodIn_of _ (by decide +kernel)) ggX11_drawn_X11_draws
set_option maxRecDepth 20000 in
theorem ggX11_drawn_Jxf58ca_floatToIntBits_5c35a : GoodIn wsX11_drawn wsJxf58ca_floatToIntBits_5c35a := goodIn_r _ [49, 50, 51, 52, 53, 54, 55, 56, 48, 57] (by decide +kernel) (by decide +kernel)
set_option maxRecDepth 20000 in
theorem gX11_drawn_Jxf58ca_floatToIntBits_5c35a : GoodIn wsX11_drawn (va_wsS RX11 176 yJxf58ca_floatToIntBits_5c35a wsJxf58ca_floatToIntBits_5c35a) := goodIn_app (goodIn_of _ (by decide +kernel)) ggX11_drawn_Jxf58ca_floatToIntBits_5c35a
theorem dX11_drawn_0 : decode cX11_drawn 0 = .ok (.aload_n 0, 1) := by decide +kernel
theorem dX11_drawn_1 : decode cX11_drawn 1 = .ok (.iload_n 1, 1) := by decide +kernel
theorem dX11_drawn_2 : decode cX11_drawn 2 = .ok (.invokevirtual 121, 3) := by decide +kernel
theorem dX11_drawn_5 : decode cX11_drawn 5 = .ok (.ifCond .ne 7, 3) := by decide +kernel
theorem dX11_drawn_8 : decode cX11_drawn 8 = .ok (.ldc2_w 155, 3) := by decide +kernel
theorem dX11_drawn_11 : decode cX11_drawn 11 = .ok (.lreturn, 1) := by decide +kernel
theorem dX11_drawn_12 : decode cX11_drawn 12 = .ok (.aload_n 0, 1) := by decide +kernel
theorem dX11_drawn_13 : decode cX11_drawn 13 = .ok (.iload_n 2, 1) := by decide +kernel
theorem dX11_drawn_14 : decode cX11_drawn 14 = .ok (.putfield 189, 3) := by decide +kernel
theorem dX11_drawn_17 : decode cX11_drawn 17 = .ok (.aload_n 0, 1) := by decide +kernel
theorem dX11_drawn_18 : decode cX11_drawn 18 = .ok (.iload_n 1, 1) := by decide +kernel
theorem dX11_drawn_19 : decode cX11_drawn 19 = .ok (.invokevirtual 198, 3) := by decide +kernel
theorem dX11_drawn_22 : decode cX11_drawn 22 = .ok (.aload_n 0, 1) := by decide +kernel
theorem dX11_drawn_23 : decode cX11_drawn 23 = .ok (.invokevirtual 202, 3) := by decide +kernel
theorem dX11_drawn_26 : decode cX11_drawn 26 = .ok (.invokestatic 176, 3) := by decide +kernel
theorem dX11_drawn_29 : decode cX11_drawn 29 = .ok (.i2l, 1) := by decide +kernel
theorem dX11_drawn_30 : decode cX11_drawn 30 = .ok (.lreturn, 1) := by decide +kernel
set_option maxRecDepth 20000 in
theorem ggX11_within_X11_isNet : GoodIn wsX11_within wsX11_isNet := goodIn_r _ [9, 10, 11, 12, 8, 13, 52, 53, 54, 55, 56, 57, 58, 59, 60, 61, 62, 63, 64, 65, 66, 67, 68, 69, 70, 71, 72, 73, 74, 75, 76, 77, 78, 79, 80, 81, 82, 83, 84] (by decide +kernel) (by decide +kernel)
set_option maxRecDepth 20000 in
theorem gX11_within_X11_isNet : GoodIn wsX11_within (wsV RX11 121 RX11 yX11_isNet wsX11_isNet) := goodIn_app (goodIn_of _ (by decide +kernel)) ggX11_within_X11_isNet
set_option maxRecDepth 20000 in
theorem ggX11_within_X11_in : GoodIn wsX11_within wsX11_in := goodIn_r _ [13] (by decide +kernel) (by decide +kernel)
set_option maxRecDepth 20000 in
theorem gX11_within_X11_in : GoodIn wsX11_within (va_wsS RX11 86 yX11_in wsX11_in) := goodIn_app (goodIn_of _ (by decide +kernel)) ggX11_within_X11_in
set_option maxRecDepth 20000 in
theorem ggX11_within_X11_isWish : GoodIn wsX11_within wsX11_isWish := goodIn_r _ [16, 17, 11, 12, 8, 13] (by decide +kernel) (by decide +kernel)
set_option maxRecDepth 20000 in
theorem gX11_within_X11_isWish : GoodIn wsX11_within (va_wsS RX11 208 yX11_isWish wsX11_isWish) := goodIn_app (goodIn_of _ (by decide +kernel)) ggX11_within_X11_isWish
set_option maxRecDepth 20000 in
theorem ggX11_within_X11_goes : GoodIn wsX11_within wsX11_goes := goodIn_r _ [21, 22, 23, 24, 25, 26, 27, 28, 8, 29, 10, 30, 31, 32, 33, 34, 35, 36, 37, 52, 53, 54, 55, 56, 57, 58, 59, 60, 61, 62, 63, 64, 65, 66, 67, 68, 69, 70, 71, 72, 73, 74, 75, 76, 77, 78, 79, 80, 81, 82, 83, 84] (by decide +kernel) (by decide +kernel)
set_option maxRecDepth 20000 in
theorem gX11_within_X11_goes : GoodIn wsX11_within (wsV RX11 198 RX11 yX11_goes wsX11_goes) := goodIn_app (goodIn_of _ (by decide +kernel)) ggX11_within_X11_goes
set_option maxRecDepth 20000 in
theorem ggX11_within_X11_draws : GoodIn wsX11_within wsX11_draws := goodIn_r _ [41, 22, 25, 42, 26, 27, 28, 8, 29, 10, 34, 35, 36, 37, 43, 44, 45, 46, 3, 47, 48, 49, 50, 51, 52, 53, 54, 55, 56, 57, 58, 59, 60, 61, 62, 63, 64, 65, 66, 67, 68, 69, 70, 71, 72, 73, 74, 75, 76, 77, 78, 79, 80, 81, 82, 83, 84] (by decide +kernel) (by decide +kernel)
set_option maxRecDepth 20000 in
theorem gX11_within_X11_draws : GoodIn wsX11_within (wsV RX11 202 RX11 yX11_draws wsX11_draws) := goodIn_app (goodIn_of _ (by decide +kernel)) ggX11_within_X11_draws
theorem dX11_within_0 : decode cX11_within 0 = .ok (.aload_n 0, 1) := by decide +kernel
theorem dX11_within_1 : decode cX11_within 1 = .ok (.iload_n 1, 1) := by decide +kernel
theorem dX11_within_2 : decode cX11_within 2 = .ok (.invokevirtual 121, 3) := by decide +kernel
theorem dX11_within_5 : decode cX11_within 5 = .ok (.ifCond .eq 38, 3) := by decide +kernel
theorem dX11_within_8 : decode cX11_within 8 = .ok (.iload_n 3, 1) := by decide +kernel
theorem dX11_within_9 : decode cX11_within 9 = .ok (.i2l, 1) := by decide +kernel
theorem dX11_within_10 : decode cX11_within 10 = .ok (.lconst 1, 1) := by decide +kernel
theorem dX11_within_11 : decode cX11_within 11 = .ok (.ldc2_w 206, 3) := by decide +kernel
theorem dX11_within_14 : decode cX11_within 14 = .ok (.invokestatic 86, 3) := by decide +kernel
theorem dX11_within_17 : decode cX11_within 17 = .ok (.ifCond .eq 26, 3) := by decide +kernel
theorem dX11_within_20 : decode cX11_within 20 = .ok (.iload 4, 2) := by decide +kernel
theorem dX11_within_22 : decode cX11_within 22 = .ok (.iload 5, 2) := by decide +kernel
theorem dX11_within_24 : decode cX11_within 24 = .ok (.invokestatic 208, 3) := by decide +kernel
theorem dX11_within_27 : decode cX11_within 27 = .ok (.ifCond .eq 16, 3) := by decide +kernel
theorem dX11_within_30 : decode cX11_within 30 = .ok (.iload 6, 2) := by decide +kernel
theorem dX11_within_32 : decode cX11_within 32 = .ok (.i2l, 1) := by decide +kernel
theorem dX11_within_33 : decode cX11_within 33 = .ok (.lconst 0, 1) := by decide +kernel
theorem dX11_within_34 : decode cX11_within 34 = .ok (.ldc2_w 108, 3) := by decide +kernel
theorem dX11_within_37 : decode cX11_within 37 = .ok (.invokestatic 86, 3) := by decide +kernel
theorem dX11_within_40 : decode cX11_within 40 = .ok (.ifCond .ne 5, 3) := by decide +kernel
theorem dX11_within_43 : decode cX11_within 43 = .ok (.iconst (-1), 1) := by decide +kernel
theorem dX11_within_44 : decode cX11_within 44 = .ok (.ireturn, 1) := by decide +kernel
theorem dX11_within_45 : decode cX11_within 45 = .ok (.aload_n 0, 1) := by decide +kernel
theorem dX11_within_46 : decode cX11_within 46 = .ok (.iload_n 2, 1) := by decide +kernel
theorem dX11_within_47 : decode cX11_within 47 = .ok (.putfield 189, 3) := by decide +kernel
theorem dX11_within_50 : decode cX11_within 50 = .ok (.aload_n 0, 1) := by decide +kernel
theorem dX11_within_51 : decode cX11_within 51 = .ok (.iload_n 1, 1) := by decide +kernel
theorem dX11_within_52 : decode cX11_within 52 = .ok (.invokevirtual 198, 3) := by decide +kernel
theorem dX11_within_55 : decode cX11_within 55 = .ok (.iload 4, 2) := by decide +kernel
theorem dX11_within_57 : decode cX11_within 57 = .ok (.i2f, 1) := by decide +kernel
theorem dX11_within_58 : decode cX11_within 58 = .ok (.iload 5, 2) := by decide +kernel
theorem dX11_within_60 : decode cX11_within 60 = .ok (.i2f, 1) := by decide +kernel
theorem dX11_within_61 : decode cX11_within 61 = .ok (.fdiv, 1) := by decide +kernel
theorem dX11_within_62 : decode cX11_within 62 = .ok (.fstore 7, 2) := by decide +kernel
theorem dX11_within_64 : decode cX11_within 64 = .ok (.iconst 0, 1) := by decide +kernel
theorem dX11_within_65 : decode cX11_within 65 = .ok (.istore 8, 2) := by decide +kernel
theorem dX11_within_67 : decode cX11_within 67 = .ok (.iconst 0, 1) := by decide +kernel
theorem dX11_within_68 : decode cX11_within 68 = .ok (.istore 9, 2) := by decide +kernel
theorem dX11_within_70 : decode cX11_within 70 = .ok (.iload 9, 2) := by decide +kernel
theorem dX11_within_72 : decode cX11_within 72 = .ok (.iload_n 3, 1) := by decide +kernel
theorem dX11_within_73 : decode cX11_within 73 = .ok (.if_icmp .ge 56, 3) := by decide +kernel
theorem dX11_within_76 : decode cX11_within 76 = .ok (.aload_n 0, 1) := by decide +kernel
theorem dX11_within_77 : decode cX11_within 77 = .ok (.invokevirtual 202, 3) := by decide +kernel
theorem dX11_within_80 : decode cX11_within 80 = .ok (.fload 7, 2) := by decide +kernel
theorem dX11_within_82 : decode cX11_within 82 = .ok (.fsub, 1) := by decide +kernel
theorem dX11_within_83 : decode cX11_within 83 = .ok (.fstore 10, 2) := by decide +kernel
theorem dX11_within_85 : decode cX11_within 85 = .ok (.fload 10, 2) := by decide +kernel
theorem dX11_within_87 : decode cX11_within 87 = .ok (.fconst 0, 1) := by decide +kernel
theorem dX11_within_88 : decode cX11_within 88 = .ok (.fcmp .g, 1) := by decide +kernel
theorem dX11_within_89 : decode cX11_within 89 = .ok (.ifCond .ge 9, 3) := by decide +kernel
theorem dX11_within_92 : decode cX11_within 92 = .ok (.fconst 0, 1) := by decide +kernel
theorem dX11_within_93 : decode cX11_within 93 = .ok (.fload 10, 2) := by decide +kernel
theorem dX11_within_95 : decode cX11_within 95 = .ok (.fsub, 1) := by decide +kernel
theorem dX11_within_96 : decode cX11_within 96 = .ok (.fstore 10, 2) := by decide +kernel
theorem dX11_within_98 : decode cX11_within 98 = .ok (.iload 8, 2) := by decide +kernel
theorem dX11_within_100 : decode cX11_within 100 = .ok (.fload 10, 2) := by decide +kernel
theorem dX11_within_102 : decode cX11_within 102 = .ok (.ldc 212, 2) := by decide +kernel
theorem dX11_within_104 : decode cX11_within 104 = .ok (.fmul, 1) := by decide +kernel
theorem dX11_within_105 : decode cX11_within 105 = .ok (.fload 7, 2) := by decide +kernel
theorem dX11_within_107 : decode cX11_within 107 = .ok (.iload 6, 2) := by decide +kernel
theorem dX11_within_109 : decode cX11_within 109 = .ok (.i2f, 1) := by decide +kernel
theorem dX11_within_110 : decode cX11_within 110 = .ok (.fmul, 1) := by decide +kernel
theorem dX11_within_111 : decode cX11_within 111 = .ok (.fcmp .g, 1) := by decide +kernel
theorem dX11_within_112 : decode cX11_within 112 = .ok (.ifCond .gt 7, 3) := by decide +kernel
theorem dX11_within_115 : decode cX11_within 115 = .ok (.iconst 1, 1) := by decide +kernel
theorem dX11_within_116 : decode cX11_within 116 = .ok (.goto 4, 3) := by decide +kernel
theorem dX11_within_119 : decode cX11_within 119 = .ok (.iconst 0, 1) := by decide +kernel
theorem dX11_within_120 : decode cX11_within 120 = .ok (.iadd, 1) := by decide +kernel
theorem dX11_within_121 : decode cX11_within 121 = .ok (.istore 8, 2) := by decide +kernel
theorem dX11_within_123 : decode cX11_within 123 = .ok (.iinc 9 1, 3) := by decide +kernel
theorem dX11_within_126 : decode cX11_within 126 = .ok (.goto (-56), 3) := by decide +kernel
theorem dX11_within_129 : decode cX11_within 129 = .ok (.iload 8, 2) := by decide +kernel
theorem dX11_within_131 : decode cX11_within 131 = .ok (.ireturn, 1) := by decide +kernel
set_option maxRecDepth 20000 in
theorem ggX11_isWish_X11_in : GoodIn wsX11_isWish wsX11_in := goodIn_r _ [5] (by decide +kernel) (by decide +kernel)
set_option maxRecDepth 20000 in
theorem gX11_isWish_X11_in : GoodIn wsX11_isWish (va_wsS RX11 86 yX11_in wsX11_in) := goodIn_app (goodIn_of _ (by decide +kernel)) ggX11_isWish_X11_in
theorem dX11_isWish_0 : decode cX11_isWish 0 = .ok (.iload_n 0, 1) := by decide +kernel
theorem dX11_isWish_1 : decode cX11_isWish 1 = .ok (.i2l, 1) := by decide +kernel
theorem dX11_isWish_2 : decode cX11_isWish 2 = .ok (.lconst 1, 1) := by decide +kernel
theorem dX11_isWish_3 : decode cX11_isWish 3 = .ok (.ldc2_w 213, 3) := by decide +kernel
theorem dX11_isWish_6 : decode cX11_isWish 6 = .ok (.invokestatic 86, 3) := by decide +kernel
theorem dX11_isWish_9 : decode cX11_isWish 9 = .ok (.ifCond .eq 19, 3) := by decide +kernel
theorem dX11_isWish_12 : decode cX11_isWish 12 = .ok (.iload_n 1, 1) := by decide +kernel
theorem dX11_isWish_13 : decode cX11_isWish 13 = .ok (.i2l, 1) := by decide +kernel
theorem dX11_isWish_14 : decode cX11_isWish 14 = .ok (.lconst 1, 1) := by decide +kernel
theorem dX11_isWish_15 : decode cX11_isWish 15 = .ok (.ldc2_w 213, 3) := by decide +kernel
theorem dX11_isWish_18 : decode cX11_isWish 18 = .ok (.invokestatic 86, 3) := by decide +kernel
theorem dX11_isWish_21 : decode cX11_isWish 21 = .ok (.ifCond .eq 7, 3) := by decide +kernel
theorem dX11_isWish_24 : decode cX11_isWish 24 = .ok (.iconst 1, 1) := by decide +kernel
theorem dX11_isWish_25 : decode cX11_isWish 25 = .ok (.goto 4, 3) := by decide +kernel
theorem dX11_isWish_28 : decode cX11_isWish 28 = .ok (.iconst 0, 1) := by decide +kernel
theorem dX11_isWish_29 : decode cX11_isWish 29 = .ok (.ireturn, 1) := by decide +kernel
set_option maxRecDepth 20000 in
theorem ggX11_laySame_X11_kindOf : GoodIn wsX11_laySame wsX11_kindOf := goodIn_r _ [7, 1, 16, 17, 18, 19, 20, 21, 22, 23, 24, 25, 26, 27, 28, 29, 30, 31, 32, 33, 34, 35, 36, 37, 38, 39, 40, 41, 42, 43, 44, 45, 46, 47, 48] (by decide +kernel) (by decide +kernel)
set_option maxRecDepth 20000 in
theorem gX11_laySame_X11_kindOf : GoodIn wsX11_laySame (wsV RX11 90 RX11 yX11_kindOf wsX11_kindOf) := goodIn_app (goodIn_of _ (by decide +kernel)) ggX11_laySame_X11_kindOf
set_option maxRecDepth 20000 in
theorem ggX11_laySame_X11_firstOf : GoodIn wsX11_laySame wsX11_firstOf := goodIn_r _ [11, 1, 16, 17, 18, 19, 20, 21, 22, 23, 24, 25, 26, 27, 28, 29, 30, 31, 32, 33, 34, 35, 36, 37, 38, 39, 40, 41, 42, 43, 44, 45, 46, 47, 48] (by decide +kernel) (by decide +kernel)
set_option maxRecDepth 20000 in
theorem gX11_laySame_X11_firstOf : GoodIn wsX11_laySame (wsV RX11 94 RX11 yX11_firstOf wsX11_firstOf) := goodIn_app (goodIn_of _ (by decide +kernel)) ggX11_laySame_X11_firstOf
set_option maxRecDepth 20000 in
theorem ggX11_laySame_X11_secondOf : GoodIn wsX11_laySame wsX11_secondOf := goodIn_r _ [15, 1, 16, 17, 18, 19, 20, 21, 22, 23, 24, 25, 26, 27, 28, 29, 30, 31, 32, 33, 34, 35, 36, 37, 38, 39, 40, 41, 42, 43, 44, 45, 46, 47, 48] (by decide +kernel) (by decide +kernel)
set_option maxRecDepth 20000 in
theorem gX11_laySame_X11_secondOf : GoodIn wsX11_laySame (wsV RX11 97 RX11 yX11_secondOf wsX11_secondOf) := goodIn_app (goodIn_of _ (by decide +kernel)) ggX11_laySame_X11_secondOf
theorem dX11_laySame_0 : decode cX11_laySame 0 = .ok (.iconst 0, 1) := by decide +kernel
theorem dX11_laySame_1 : decode cX11_laySame 1 = .ok (.istore_n 1, 1) := by decide +kernel
theorem dX11_laySame_2 : decode cX11_laySame 2 = .ok (.iload_n 1, 1) := by decide +kernel
theorem dX11_laySame_3 : decode cX11_laySame 3 = .ok (.aload_n 0, 1) := by decide +kernel
theorem dX11_laySame_4 : decode cX11_laySame 4 = .ok (.getfield 9, 3) := by decide +kernel
theorem dX11_laySame_7 : decode cX11_laySame 7 = .ok (.bipush 8, 2) := by decide +kernel
theorem dX11_laySame_9 : decode cX11_laySame 9 = .ok (.iaload, 1) := by decide +kernel
theorem dX11_laySame_10 : decode cX11_laySame 10 = .ok (.if_icmp .ge 145, 3) := by decide +kernel
theorem dX11_laySame_13 : decode cX11_laySame 13 = .ok (.aload_n 0, 1) := by decide +kernel
theorem dX11_laySame_14 : decode cX11_laySame 14 = .ok (.getfield 42, 3) := by decide +kernel
theorem dX11_laySame_17 : decode cX11_laySame 17 = .ok (.iload_n 1, 1) := by decide +kernel
theorem dX11_laySame_18 : decode cX11_laySame 18 = .ok (.iload_n 1, 1) := by decide +kernel
theorem dX11_laySame_19 : decode cX11_laySame 19 = .ok (.iastore, 1) := by decide +kernel
theorem dX11_laySame_20 : decode cX11_laySame 20 = .ok (.iload_n 1, 1) := by decide +kernel
theorem dX11_laySame_21 : decode cX11_laySame 21 = .ok (.iconst 1, 1) := by decide +kernel
theorem dX11_laySame_22 : decode cX11_laySame 22 = .ok (.isub, 1) := by decide +kernel
theorem dX11_laySame_23 : decode cX11_laySame 23 = .ok (.istore_n 2, 1) := by decide +kernel
theorem dX11_laySame_24 : decode cX11_laySame 24 = .ok (.iload_n 2, 1) := by decide +kernel
theorem dX11_laySame_25 : decode cX11_laySame 25 = .ok (.ifCond .lt 124, 3) := by decide +kernel
theorem dX11_laySame_28 : decode cX11_laySame 28 = .ok (.aload_n 0, 1) := by decide +kernel
theorem dX11_laySame_29 : decode cX11_laySame 29 = .ok (.iload_n 2, 1) := by decide +kernel
theorem dX11_laySame_30 : decode cX11_laySame 30 = .ok (.invokevirtual 90, 3) := by decide +kernel
theorem dX11_laySame_33 : decode cX11_laySame 33 = .ok (.aload_n 0, 1) := by decide +kernel
theorem dX11_laySame_34 : decode cX11_laySame 34 = .ok (.iload_n 1, 1) := by decide +kernel
theorem dX11_laySame_35 : decode cX11_laySame 35 = .ok (.invokevirtual 90, 3) := by decide +kernel
theorem dX11_laySame_38 : decode cX11_laySame 38 = .ok (.if_icmp .ne 105, 3) := by decide +kernel
theorem dX11_laySame_41 : decode cX11_laySame 41 = .ok (.aload_n 0, 1) := by decide +kernel
theorem dX11_laySame_42 : decode cX11_laySame 42 = .ok (.iload_n 1, 1) := by decide +kernel
theorem dX11_laySame_43 : decode cX11_laySame 43 = .ok (.invokevirtual 90, 3) := by decide +kernel
theorem dX11_laySame_46 : decode cX11_laySame 46 = .ok (.ifCond .le 97, 3) := by decide +kernel
theorem dX11_laySame_49 : decode cX11_laySame 49 = .ok (.aload_n 0, 1) := by decide +kernel
theorem dX11_laySame_50 : decode cX11_laySame 50 = .ok (.getfield 42, 3) := by decide +kernel
theorem dX11_laySame_53 : decode cX11_laySame 53 = .ok (.aload_n 0, 1) := by decide +kernel
theorem dX11_laySame_54 : decode cX11_laySame 54 = .ok (.iload_n 1, 1) := by decide +kernel
theorem dX11_laySame_55 : decode cX11_laySame 55 = .ok (.invokevirtual 94, 3) := by decide +kernel
theorem dX11_laySame_58 : decode cX11_laySame 58 = .ok (.iaload, 1) := by decide +kernel
theorem dX11_laySame_59 : decode cX11_laySame 59 = .ok (.istore_n 3, 1) := by decide +kernel
theorem dX11_laySame_60 : decode cX11_laySame 60 = .ok (.aload_n 0, 1) := by decide +kernel
theorem dX11_laySame_61 : decode cX11_laySame 61 = .ok (.getfield 42, 3) := by decide +kernel
theorem dX11_laySame_64 : decode cX11_laySame 64 = .ok (.aload_n 0, 1) := by decide +kernel
theorem dX11_laySame_65 : decode cX11_laySame 65 = .ok (.iload_n 1, 1) := by decide +kernel
theorem dX11_laySame_66 : decode cX11_laySame 66 = .ok (.invokevirtual 97, 3) := by decide +kernel
theorem dX11_laySame_69 : decode cX11_laySame 69 = .ok (.iaload, 1) := by decide +kernel
theorem dX11_laySame_70 : decode cX11_laySame 70 = .ok (.istore 4, 2) := by decide +kernel
theorem dX11_laySame_72 : decode cX11_laySame 72 = .ok (.aload_n 0, 1) := by decide +kernel
theorem dX11_laySame_73 : decode cX11_laySame 73 = .ok (.getfield 42, 3) := by decide +kernel
theorem dX11_laySame_76 : decode cX11_laySame 76 = .ok (.aload_n 0, 1) := by decide +kernel
theorem dX11_laySame_77 : decode cX11_laySame 77 = .ok (.iload_n 2, 1) := by decide +kernel
theorem dX11_laySame_78 : decode cX11_laySame 78 = .ok (.invokevirtual 94, 3) := by decide +kernel
theorem dX11_laySame_81 : decode cX11_laySame 81 = .ok (.iaload, 1) := by decide +kernel
theorem dX11_laySame_82 : decode cX11_laySame 82 = .ok (.istore 5, 2) := by decide +kernel
theorem dX11_laySame_84 : decode cX11_laySame 84 = .ok (.aload_n 0, 1) := by decide +kernel
theorem dX11_laySame_85 : decode cX11_laySame 85 = .ok (.getfield 42, 3) := by decide +kernel
theorem dX11_laySame_88 : decode cX11_laySame 88 = .ok (.aload_n 0, 1) := by decide +kernel
theorem dX11_laySame_89 : decode cX11_laySame 89 = .ok (.iload_n 2, 1) := by decide +kernel
theorem dX11_laySame_90 : decode cX11_laySame 90 = .ok (.invokevirtual 97, 3) := by decide +kernel
theorem dX11_laySame_93 : decode cX11_laySame 93 = .ok (.iaload, 1) := by decide +kernel
theorem dX11_laySame_94 : decode cX11_laySame 94 = .ok (.istore 6, 2) := by decide +kernel
theorem dX11_laySame_96 : decode cX11_laySame 96 = .ok (.aload_n 0, 1) := by decide +kernel
theorem dX11_laySame_97 : decode cX11_laySame 97 = .ok (.getfield 42, 3) := by decide +kernel
theorem dX11_laySame_100 : decode cX11_laySame 100 = .ok (.iload_n 1, 1) := by decide +kernel
theorem dX11_laySame_101 : decode cX11_laySame 101 = .ok (.iload_n 3, 1) := by decide +kernel
theorem dX11_laySame_102 : decode cX11_laySame 102 = .ok (.iload 5, 2) := by decide +kernel
theorem dX11_laySame_104 : decode cX11_laySame 104 = .ok (.if_icmp .ne 10, 3) := by decide +kernel
theorem dX11_laySame_107 : decode cX11_laySame 107 = .ok (.iload 4, 2) := by decide +kernel
theorem dX11_laySame_109 : decode cX11_laySame 109 = .ok (.iload 6, 2) := by decide +kernel
theorem dX11_laySame_111 : decode cX11_laySame 111 = .ok (.if_icmp .eq 16, 3) := by decide +kernel
theorem dX11_laySame_114 : decode cX11_laySame 114 = .ok (.iload_n 3, 1) := by decide +kernel
theorem dX11_laySame_115 : decode cX11_laySame 115 = .ok (.iload 6, 2) := by decide +kernel
theorem dX11_laySame_117 : decode cX11_laySame 117 = .ok (.if_icmp .ne 19, 3) := by decide +kernel
theorem dX11_laySame_120 : decode cX11_laySame 120 = .ok (.iload 4, 2) := by decide +kernel
theorem dX11_laySame_122 : decode cX11_laySame 122 = .ok (.iload 5, 2) := by decide +kernel
theorem dX11_laySame_124 : decode cX11_laySame 124 = .ok (.if_icmp .ne 12, 3) := by decide +kernel
theorem dX11_laySame_127 : decode cX11_laySame 127 = .ok (.aload_n 0, 1) := by decide +kernel
theorem dX11_laySame_128 : decode cX11_laySame 128 = .ok (.getfield 42, 3) := by decide +kernel
theorem dX11_laySame_131 : decode cX11_laySame 131 = .ok (.iload_n 2, 1) := by decide +kernel
theorem dX11_laySame_132 : decode cX11_laySame 132 = .ok (.iaload, 1) := by decide +kernel
theorem dX11_laySame_133 : decode cX11_laySame 133 = .ok (.goto 9, 3) := by decide +kernel
theorem dX11_laySame_136 : decode cX11_laySame 136 = .ok (.aload_n 0, 1) := by decide +kernel
theorem dX11_laySame_137 : decode cX11_laySame 137 = .ok (.getfield 42, 3) := by decide +kernel
theorem dX11_laySame_140 : decode cX11_laySame 140 = .ok (.iload_n 1, 1) := by decide +kernel
theorem dX11_laySame_141 : decode cX11_laySame 141 = .ok (.iaload, 1) := by decide +kernel
theorem dX11_laySame_142 : decode cX11_laySame 142 = .ok (.iastore, 1) := by decide +kernel
theorem dX11_laySame_143 : decode cX11_laySame 143 = .ok (.iinc 2 (-1), 3) := by decide +kernel
theorem dX11_laySame_146 : decode cX11_laySame 146 = .ok (.goto (-122), 3) := by decide +kernel
theorem dX11_laySame_149 : decode cX11_laySame 149 = .ok (.iinc 1 1, 3) := by decide +kernel
theorem dX11_laySame_152 : decode cX11_laySame 152 = .ok (.goto (-150), 3) := by decide +kernel
theorem dX11_laySame_155 : decode cX11_laySame 155 = .ok (.return_, 1) := by decide +kernel
set_option maxRecDepth 20000 in
theorem ggX11_turned_X11_isNet : GoodIn wsX11_turned wsX11_isNet := goodIn_r _ [6, 7, 8, 9, 5, 10, 27, 28, 29, 30, 31, 32, 33, 34, 35, 36, 37, 38, 39, 40, 41, 42, 43, 44, 45, 46, 47, 48, 49, 50, 51, 52, 53, 54, 55, 56, 57, 58, 59] (by decide +kernel) (by decide +kernel)
set_option maxRecDepth 20000 in
theorem gX11_turned_X11_isNet : GoodIn wsX11_turned (wsV RX11 121 RX11 yX11_isNet wsX11_isNet) := goodIn_app (goodIn_of _ (by decide +kernel)) ggX11_turned_X11_isNet
set_option maxRecDepth 20000 in
theorem ggX11_turned_X11_laySame : GoodIn wsX11_turned wsX11_laySame := goodIn_r _ [14, 7, 1, 15, 16, 17, 5, 18, 19, 20, 21, 22, 23, 24, 25, 26, 27, 28, 29, 30, 31, 32, 33, 34, 35, 36, 37, 38, 39, 40, 41, 42, 43, 44, 45, 46, 47, 48, 49, 50, 51, 52, 53, 54, 55, 56, 57, 58, 59] (by decide +kernel) (by decide +kernel)
set_option maxRecDepth 20000 in
theorem gX11_turned_X11_laySame : GoodIn wsX11_turned (wsV RX11 215 RX11 yX11_laySame wsX11_laySame) := goodIn_app (goodIn_of _ (by decide +kernel)) ggX11_turned_X11_laySame
theorem dX11_turned_0 : decode cX11_turned 0 = .ok (.aload_n 0, 1) := by decide +kernel
theorem dX11_turned_1 : decode cX11_turned 1 = .ok (.iload_n 1, 1) := by decide +kernel
theorem dX11_turned_2 : decode cX11_turned 2 = .ok (.invokevirtual 121, 3) := by decide +kernel
theorem dX11_turned_5 : decode cX11_turned 5 = .ok (.ifCond .eq 11, 3) := by decide +kernel
theorem dX11_turned_8 : decode cX11_turned 8 = .ok (.aload_n 0, 1) := by decide +kernel
theorem dX11_turned_9 : decode cX11_turned 9 = .ok (.iload_n 2, 1) := by decide +kernel
theorem dX11_turned_10 : decode cX11_turned 10 = .ok (.invokevirtual 121, 3) := by decide +kernel
theorem dX11_turned_13 : decode cX11_turned 13 = .ok (.ifCond .ne 5, 3) := by decide +kernel
theorem dX11_turned_16 : decode cX11_turned 16 = .ok (.iconst (-1), 1) := by decide +kernel
theorem dX11_turned_17 : decode cX11_turned 17 = .ok (.ireturn, 1) := by decide +kernel
theorem dX11_turned_18 : decode cX11_turned 18 = .ok (.aload_n 0, 1) := by decide +kernel
theorem dX11_turned_19 : decode cX11_turned 19 = .ok (.invokevirtual 215, 3) := by decide +kernel
theorem dX11_turned_22 : decode cX11_turned 22 = .ok (.aload_n 0, 1) := by decide +kernel
theorem dX11_turned_23 : decode cX11_turned 23 = .ok (.getfield 42, 3) := by decide +kernel
theorem dX11_turned_26 : decode cX11_turned 26 = .ok (.iload_n 1, 1) := by decide +kernel
theorem dX11_turned_27 : decode cX11_turned 27 = .ok (.iaload, 1) := by decide +kernel
theorem dX11_turned_28 : decode cX11_turned 28 = .ok (.aload_n 0, 1) := by decide +kernel
theorem dX11_turned_29 : decode cX11_turned 29 = .ok (.getfield 42, 3) := by decide +kernel
theorem dX11_turned_32 : decode cX11_turned 32 = .ok (.iload_n 2, 1) := by decide +kernel
theorem dX11_turned_33 : decode cX11_turned 33 = .ok (.iaload, 1) := by decide +kernel
theorem dX11_turned_34 : decode cX11_turned 34 = .ok (.if_icmp .ne 7, 3) := by decide +kernel
theorem dX11_turned_37 : decode cX11_turned 37 = .ok (.iconst 1, 1) := by decide +kernel
theorem dX11_turned_38 : decode cX11_turned 38 = .ok (.goto 4, 3) := by decide +kernel
theorem dX11_turned_41 : decode cX11_turned 41 = .ok (.iconst 0, 1) := by decide +kernel
theorem dX11_turned_42 : decode cX11_turned 42 = .ok (.ireturn, 1) := by decide +kernel
set_option maxRecDepth 20000 in
theorem ggX11_valueFailing_X11_kindOf : GoodIn wsX11_valueFailing wsX11_kindOf := goodIn_r _ [12, 4, 30, 31, 32, 33, 34, 35, 36, 37, 38, 39, 40, 41, 42, 43, 44, 45, 46, 47, 48, 49, 50, 51, 52, 53, 54, 55, 56, 57, 58, 59, 60, 61, 62] (by decide +kernel) (by decide +kernel)
set_option maxRecDepth 20000 in
theorem gX11_valueFailing_X11_kindOf : GoodIn wsX11_valueFailing (wsV RX11 90 RX11 yX11_kindOf wsX11_kindOf) := goodIn_app (goodIn_of _ (by decide +kernel)) ggX11_valueFailing_X11_kindOf
set_option maxRecDepth 20000 in
theorem ggX11_valueFailing_X11_firstOf : GoodIn wsX11_valueFailing wsX11_firstOf := goodIn_r _ [16, 4, 30, 31, 32, 33, 34, 35, 36, 37, 38, 39, 40, 41, 42, 43, 44, 45, 46, 47, 48, 49, 50, 51, 52, 53, 54, 55, 56, 57, 58, 59, 60, 61, 62] (by decide +kernel) (by decide +kernel)
set_option maxRecDepth 20000 in
theorem gX11_valueFailing_X11_firstOf : GoodIn wsX11_valueFailing (wsV RX11 94 RX11 yX11_firstOf wsX11_firstOf) := goodIn_app (goodIn_of _ (by decide +kernel)) ggX11_valueFailing_X11_firstOf
set_option maxRecDepth 20000 in
theorem ggX11_valueFailing_X11_joined : GoodIn wsX11_valueFailing wsX11_joined := goodIn_r _ [20, 21, 6, 7, 22, 23, 24, 11, 25, 26, 27, 28, 29, 30, 31, 32, 33, 34, 35, 36, 37, 38, 39, 40, 41, 42, 43, 44, 45, 46, 47, 48, 49, 50, 51, 52, 53, 54, 55, 56, 57, 58, 59, 60, 61, 62] (by decide +kernel) (by decide +kernel)
set_option maxRecDepth 20000 in
theorem gX11_valueFailing_X11_joined : GoodIn wsX11_valueFailing (wsV RX11 151 RX11 yX11_joined wsX11_joined) := goodIn_app (goodIn_of _ (by decide +kernel)) ggX11_valueFailing_X11_joined
theorem dX11_valueFailing_0 : decode cX11_valueFailing 0 = .ok (.iconst 0, 1) := by decide +kernel
theorem dX11_valueFailing_1 : decode cX11_valueFailing 1 = .ok (.istore_n 3, 1) := by decide +kernel
theorem dX11_valueFailing_2 : decode cX11_valueFailing 2 = .ok (.iconst 0, 1) := by decide +kernel
theorem dX11_valueFailing_3 : decode cX11_valueFailing 3 = .ok (.istore 4, 2) := by decide +kernel
theorem dX11_valueFailing_5 : decode cX11_valueFailing 5 = .ok (.iconst 0, 1) := by decide +kernel
theorem dX11_valueFailing_6 : decode cX11_valueFailing 6 = .ok (.istore 5, 2) := by decide +kernel
theorem dX11_valueFailing_8 : decode cX11_valueFailing 8 = .ok (.iload 5, 2) := by decide +kernel
theorem dX11_valueFailing_10 : decode cX11_valueFailing 10 = .ok (.aload_n 0, 1) := by decide +kernel
theorem dX11_valueFailing_11 : decode cX11_valueFailing 11 = .ok (.getfield 182, 3) := by decide +kernel
theorem dX11_valueFailing_14 : decode cX11_valueFailing 14 = .ok (.if_icmp .ge 164, 3) := by decide +kernel
theorem dX11_valueFailing_17 : decode cX11_valueFailing 17 = .ok (.aload_n 0, 1) := by decide +kernel
theorem dX11_valueFailing_18 : decode cX11_valueFailing 18 = .ok (.aload_n 0, 1) := by decide +kernel
theorem dX11_valueFailing_19 : decode cX11_valueFailing 19 = .ok (.getfield 33, 3) := by decide +kernel
theorem dX11_valueFailing_22 : decode cX11_valueFailing 22 = .ok (.iload 5, 2) := by decide +kernel
theorem dX11_valueFailing_24 : decode cX11_valueFailing 24 = .ok (.iaload, 1) := by decide +kernel
theorem dX11_valueFailing_25 : decode cX11_valueFailing 25 = .ok (.invokevirtual 90, 3) := by decide +kernel
theorem dX11_valueFailing_28 : decode cX11_valueFailing 28 = .ok (.istore 6, 2) := by decide +kernel
theorem dX11_valueFailing_30 : decode cX11_valueFailing 30 = .ok (.iload 6, 2) := by decide +kernel
theorem dX11_valueFailing_32 : decode cX11_valueFailing 32 = .ok (.ifCond .ne 79, 3) := by decide +kernel
theorem dX11_valueFailing_35 : decode cX11_valueFailing 35 = .ok (.iload 4, 2) := by decide +kernel
theorem dX11_valueFailing_37 : decode cX11_valueFailing 37 = .ok (.iload_n 1, 1) := by decide +kernel
theorem dX11_valueFailing_38 : decode cX11_valueFailing 38 = .ok (.if_icmp .ne 7, 3) := by decide +kernel
theorem dX11_valueFailing_41 : decode cX11_valueFailing 41 = .ok (.iconst 1, 1) := by decide +kernel
theorem dX11_valueFailing_42 : decode cX11_valueFailing 42 = .ok (.goto 4, 3) := by decide +kernel
theorem dX11_valueFailing_45 : decode cX11_valueFailing 45 = .ok (.iconst 0, 1) := by decide +kernel
theorem dX11_valueFailing_46 : decode cX11_valueFailing 46 = .ok (.istore 7, 2) := by decide +kernel
theorem dX11_valueFailing_48 : decode cX11_valueFailing 48 = .ok (.aload_n 0, 1) := by decide +kernel
theorem dX11_valueFailing_49 : decode cX11_valueFailing 49 = .ok (.getfield 45, 3) := by decide +kernel
theorem dX11_valueFailing_52 : decode cX11_valueFailing 52 = .ok (.iload_n 3, 1) := by decide +kernel
theorem dX11_valueFailing_53 : decode cX11_valueFailing 53 = .ok (.iload 7, 2) := by decide +kernel
theorem dX11_valueFailing_55 : decode cX11_valueFailing 55 = .ok (.ifCond .eq 10, 3) := by decide +kernel
theorem dX11_valueFailing_58 : decode cX11_valueFailing 58 = .ok (.lconst 1, 1) := by decide +kernel
theorem dX11_valueFailing_59 : decode cX11_valueFailing 59 = .ok (.iload_n 2, 1) := by decide +kernel
theorem dX11_valueFailing_60 : decode cX11_valueFailing 60 = .ok (.i2l, 1) := by decide +kernel
theorem dX11_valueFailing_61 : decode cX11_valueFailing 61 = .ok (.lsub, 1) := by decide +kernel
theorem dX11_valueFailing_62 : decode cX11_valueFailing 62 = .ok (.goto 22, 3) := by decide +kernel
theorem dX11_valueFailing_65 : decode cX11_valueFailing 65 = .ok (.aload_n 0, 1) := by decide +kernel
theorem dX11_valueFailing_66 : decode cX11_valueFailing 66 = .ok (.getfield 9, 3) := by decide +kernel
theorem dX11_valueFailing_69 : decode cX11_valueFailing 69 = .ok (.iconst 0, 1) := by decide +kernel
theorem dX11_valueFailing_70 : decode cX11_valueFailing 70 = .ok (.aload_n 0, 1) := by decide +kernel
theorem dX11_valueFailing_71 : decode cX11_valueFailing 71 = .ok (.aload_n 0, 1) := by decide +kernel
theorem dX11_valueFailing_72 : decode cX11_valueFailing 72 = .ok (.getfield 33, 3) := by decide +kernel
theorem dX11_valueFailing_75 : decode cX11_valueFailing 75 = .ok (.iload 5, 2) := by decide +kernel
theorem dX11_valueFailing_77 : decode cX11_valueFailing 77 = .ok (.iaload, 1) := by decide +kernel
theorem dX11_valueFailing_78 : decode cX11_valueFailing 78 = .ok (.invokevirtual 94, 3) := by decide +kernel
theorem dX11_valueFailing_81 : decode cX11_valueFailing 81 = .ok (.iadd, 1) := by decide +kernel
theorem dX11_valueFailing_82 : decode cX11_valueFailing 82 = .ok (.iaload, 1) := by decide +kernel
theorem dX11_valueFailing_83 : decode cX11_valueFailing 83 = .ok (.i2l, 1) := by decide +kernel
theorem dX11_valueFailing_84 : decode cX11_valueFailing 84 = .ok (.lastore, 1) := by decide +kernel
theorem dX11_valueFailing_85 : decode cX11_valueFailing 85 = .ok (.aload_n 0, 1) := by decide +kernel
theorem dX11_valueFailing_86 : decode cX11_valueFailing 86 = .ok (.getfield 48, 3) := by decide +kernel
theorem dX11_valueFailing_89 : decode cX11_valueFailing 89 = .ok (.iload_n 3, 1) := by decide +kernel
theorem dX11_valueFailing_90 : decode cX11_valueFailing 90 = .ok (.iload 7, 2) := by decide +kernel
theorem dX11_valueFailing_92 : decode cX11_valueFailing 92 = .ok (.ifCond .eq 8, 3) := by decide +kernel
theorem dX11_valueFailing_95 : decode cX11_valueFailing 95 = .ok (.iload_n 2, 1) := by decide +kernel
theorem dX11_valueFailing_96 : decode cX11_valueFailing 96 = .ok (.i2l, 1) := by decide +kernel
theorem dX11_valueFailing_97 : decode cX11_valueFailing 97 = .ok (.goto 4, 3) := by decide +kernel
theorem dX11_valueFailing_100 : decode cX11_valueFailing 100 = .ok (.lconst 1, 1) := by decide +kernel
theorem dX11_valueFailing_101 : decode cX11_valueFailing 101 = .ok (.lastore, 1) := by decide +kernel
theorem dX11_valueFailing_102 : decode cX11_valueFailing 102 = .ok (.iinc 4 1, 3) := by decide +kernel
theorem dX11_valueFailing_105 : decode cX11_valueFailing 105 = .ok (.iinc 3 1, 3) := by decide +kernel
theorem dX11_valueFailing_108 : decode cX11_valueFailing 108 = .ok (.goto 64, 3) := by decide +kernel
theorem dX11_valueFailing_111 : decode cX11_valueFailing 111 = .ok (.iinc 3 (-1), 3) := by decide +kernel
theorem dX11_valueFailing_114 : decode cX11_valueFailing 114 = .ok (.aload_n 0, 1) := by decide +kernel
theorem dX11_valueFailing_115 : decode cX11_valueFailing 115 = .ok (.iload 6, 2) := by decide +kernel
theorem dX11_valueFailing_117 : decode cX11_valueFailing 117 = .ok (.aload_n 0, 1) := by decide +kernel
theorem dX11_valueFailing_118 : decode cX11_valueFailing 118 = .ok (.getfield 45, 3) := by decide +kernel
theorem dX11_valueFailing_121 : decode cX11_valueFailing 121 = .ok (.iload_n 3, 1) := by decide +kernel
theorem dX11_valueFailing_122 : decode cX11_valueFailing 122 = .ok (.iconst 1, 1) := by decide +kernel
theorem dX11_valueFailing_123 : decode cX11_valueFailing 123 = .ok (.isub, 1) := by decide +kernel
theorem dX11_valueFailing_124 : decode cX11_valueFailing 124 = .ok (.laload, 1) := by decide +kernel
theorem dX11_valueFailing_125 : decode cX11_valueFailing 125 = .ok (.aload_n 0, 1) := by decide +kernel
theorem dX11_valueFailing_126 : decode cX11_valueFailing 126 = .ok (.getfield 48, 3) := by decide +kernel
theorem dX11_valueFailing_129 : decode cX11_valueFailing 129 = .ok (.iload_n 3, 1) := by decide +kernel
theorem dX11_valueFailing_130 : decode cX11_valueFailing 130 = .ok (.iconst 1, 1) := by decide +kernel
theorem dX11_valueFailing_131 : decode cX11_valueFailing 131 = .ok (.isub, 1) := by decide +kernel
theorem dX11_valueFailing_132 : decode cX11_valueFailing 132 = .ok (.laload, 1) := by decide +kernel
theorem dX11_valueFailing_133 : decode cX11_valueFailing 133 = .ok (.aload_n 0, 1) := by decide +kernel
theorem dX11_valueFailing_134 : decode cX11_valueFailing 134 = .ok (.getfield 45, 3) := by decide +kernel
theorem dX11_valueFailing_137 : decode cX11_valueFailing 137 = .ok (.iload_n 3, 1) := by decide +kernel
theorem dX11_valueFailing_138 : decode cX11_valueFailing 138 = .ok (.laload, 1) := by decide +kernel
theorem dX11_valueFailing_139 : decode cX11_valueFailing 139 = .ok (.aload_n 0, 1) := by decide +kernel
theorem dX11_valueFailing_140 : decode cX11_valueFailing 140 = .ok (.getfield 48, 3) := by decide +kernel
theorem dX11_valueFailing_143 : decode cX11_valueFailing 143 = .ok (.iload_n 3, 1) := by decide +kernel
theorem dX11_valueFailing_144 : decode cX11_valueFailing 144 = .ok (.laload, 1) := by decide +kernel
theorem dX11_valueFailing_145 : decode cX11_valueFailing 145 = .ok (.invokevirtual 151, 3) := by decide +kernel
theorem dX11_valueFailing_148 : decode cX11_valueFailing 148 = .ok (.aload_n 0, 1) := by decide +kernel
theorem dX11_valueFailing_149 : decode cX11_valueFailing 149 = .ok (.getfield 45, 3) := by decide +kernel
theorem dX11_valueFailing_152 : decode cX11_valueFailing 152 = .ok (.iload_n 3, 1) := by decide +kernel
theorem dX11_valueFailing_153 : decode cX11_valueFailing 153 = .ok (.iconst 1, 1) := by decide +kernel
theorem dX11_valueFailing_154 : decode cX11_valueFailing 154 = .ok (.isub, 1) := by decide +kernel
theorem dX11_valueFailing_155 : decode cX11_valueFailing 155 = .ok (.aload_n 0, 1) := by decide +kernel
theorem dX11_valueFailing_156 : decode cX11_valueFailing 156 = .ok (.getfield 136, 3) := by decide +kernel
theorem dX11_valueFailing_159 : decode cX11_valueFailing 159 = .ok (.lastore, 1) := by decide +kernel
theorem dX11_valueFailing_160 : decode cX11_valueFailing 160 = .ok (.aload_n 0, 1) := by decide +kernel
theorem dX11_valueFailing_161 : decode cX11_valueFailing 161 = .ok (.getfield 48, 3) := by decide +kernel
theorem dX11_valueFailing_164 : decode cX11_valueFailing 164 = .ok (.iload_n 3, 1) := by decide +kernel
theorem dX11_valueFailing_165 : decode cX11_valueFailing 165 = .ok (.iconst 1, 1) := by decide +kernel
theorem dX11_valueFailing_166 : decode cX11_valueFailing 166 = .ok (.isub, 1) := by decide +kernel
theorem dX11_valueFailing_167 : decode cX11_valueFailing 167 = .ok (.aload_n 0, 1) := by decide +kernel
theorem dX11_valueFailing_168 : decode cX11_valueFailing 168 = .ok (.getfield 140, 3) := by decide +kernel
theorem dX11_valueFailing_171 : decode cX11_valueFailing 171 = .ok (.lastore, 1) := by decide +kernel
theorem dX11_valueFailing_172 : decode cX11_valueFailing 172 = .ok (.iinc 5 1, 3) := by decide +kernel
theorem dX11_valueFailing_175 : decode cX11_valueFailing 175 = .ok (.goto (-167), 3) := by decide +kernel
theorem dX11_valueFailing_178 : decode cX11_valueFailing 178 = .ok (.aload_n 0, 1) := by decide +kernel
theorem dX11_valueFailing_179 : decode cX11_valueFailing 179 = .ok (.aload_n 0, 1) := by decide +kernel
theorem dX11_valueFailing_180 : decode cX11_valueFailing 180 = .ok (.getfield 45, 3) := by decide +kernel
theorem dX11_valueFailing_183 : decode cX11_valueFailing 183 = .ok (.iconst 0, 1) := by decide +kernel
theorem dX11_valueFailing_184 : decode cX11_valueFailing 184 = .ok (.laload, 1) := by decide +kernel
theorem dX11_valueFailing_185 : decode cX11_valueFailing 185 = .ok (.putfield 136, 3) := by decide +kernel
theorem dX11_valueFailing_188 : decode cX11_valueFailing 188 = .ok (.aload_n 0, 1) := by decide +kernel
theorem dX11_valueFailing_189 : decode cX11_valueFailing 189 = .ok (.aload_n 0, 1) := by decide +kernel
theorem dX11_valueFailing_190 : decode cX11_valueFailing 190 = .ok (.getfield 48, 3) := by decide +kernel
theorem dX11_valueFailing_193 : decode cX11_valueFailing 193 = .ok (.iconst 0, 1) := by decide +kernel
theorem dX11_valueFailing_194 : decode cX11_valueFailing 194 = .ok (.laload, 1) := by decide +kernel
theorem dX11_valueFailing_195 : decode cX11_valueFailing 195 = .ok (.putfield 140, 3) := by decide +kernel
theorem dX11_valueFailing_198 : decode cX11_valueFailing 198 = .ok (.return_, 1) := by decide +kernel
set_option maxRecDepth 20000 in
theorem ggX11_fails_X11_isNet : GoodIn wsX11_fails wsX11_isNet := goodIn_r _ [8, 9, 10, 11, 7, 12, 56, 57, 58, 59, 60, 61, 62, 63, 64, 65, 66, 67, 68, 69, 70, 71, 72, 73, 74, 75, 76, 77, 78, 79, 80, 81, 82, 83, 84, 85, 86, 87, 88] (by decide +kernel) (by decide +kernel)
set_option maxRecDepth 20000 in
theorem gX11_fails_X11_isNet : GoodIn wsX11_fails (wsV RX11 121 RX11 yX11_isNet wsX11_isNet) := goodIn_app (goodIn_of _ (by decide +kernel)) ggX11_fails_X11_isNet
set_option maxRecDepth 20000 in
theorem ggX11_fails_X11_partsOf : GoodIn wsX11_fails wsX11_partsOf := goodIn_r _ [16, 9, 56, 57, 58, 59, 60, 61, 62, 63, 64, 65, 66, 67, 68, 69, 70, 71, 72, 73, 74, 75, 76, 77, 78, 79, 80, 81, 82, 83, 84, 85, 86, 87, 88] (by decide +kernel) (by decide +kernel)
set_option maxRecDepth 20000 in
theorem gX11_fails_X11_partsOf : GoodIn wsX11_fails (wsV RX11 124 RX11 yX11_partsOf wsX11_partsOf) := goodIn_app (goodIn_of _ (by decide +kernel)) ggX11_fails_X11_partsOf
set_option maxRecDepth 20000 in
theorem ggX11_fails_X11_in : GoodIn wsX11_fails wsX11_in := goodIn_r _ [12] (by decide +kernel) (by decide +kernel)
set_option maxRecDepth 20000 in
theorem gX11_fails_X11_in : GoodIn wsX11_fails (va_wsS RX11 86 yX11_in wsX11_in) := goodIn_app (goodIn_of _ (by decide +kernel)) ggX11_fails_X11_in
set_option maxRecDepth 20000 in
theorem ggX11_fails_X11_goes : GoodIn wsX11_fails wsX11_goes := goodIn_r _ [20, 21, 22, 23, 24, 25, 26, 27, 7, 28, 9, 29, 30, 31, 32, 33, 34, 35, 36, 56, 57, 58, 59, 60, 61, 62, 63, 64, 65, 66, 67, 68, 69, 70, 71, 72, 73, 74, 75, 76, 77, 78, 79, 80, 81, 82, 83, 84, 85, 86, 87, 88] (by decide +kernel) (by decide +kernel)
set_option maxRecDepth 20000 in
theorem gX11_fails_X11_goes : GoodIn wsX11_fails (wsV RX11 198 RX11 yX11_goes wsX11_goes) := goodIn_app (goodIn_of _ (by decide +kernel)) ggX11_fails_X11_goes
set_option maxRecDepth 20000 in
theorem ggX11_fails_X11_valueFailing : GoodIn wsX11_fails wsX11_valueFailing := goodIn_r _ [40, 21, 24, 41, 9, 42, 2, 3, 25, 26, 27, 7, 28, 33, 34, 35, 36, 43, 44, 45, 46, 47, 48, 49, 50, 51, 52, 53, 54, 55, 56, 57, 58, 59, 60, 61, 62, 63, 64, 65, 66, 67, 68, 69, 70, 71, 72, 73, 74, 75, 76, 77, 78, 79, 80, 81, 82, 83, 84, 85, 86, 87, 88] (by decide +kernel) (by decide +kernel)
set_option maxRecDepth 20000 in
theorem gX11_fails_X11_valueFailing : GoodIn wsX11_fails (wsV RX11 218 RX11 yX11_valueFailing wsX11_valueFailing) := goodIn_app (goodIn_of _ (by decide +kernel)) ggX11_fails_X11_valueFailing
theorem dX11_fails_0 : decode cX11_fails 0 = .ok (.aload_n 0, 1) := by decide +kernel
theorem dX11_fails_1 : decode cX11_fails 1 = .ok (.iload_n 1, 1) := by decide +kernel
theorem dX11_fails_2 : decode cX11_fails 2 = .ok (.invokevirtual 121, 3) := by decide +kernel
theorem dX11_fails_5 : decode cX11_fails 5 = .ok (.ifCond .eq 41, 3) := by decide +kernel
theorem dX11_fails_8 : decode cX11_fails 8 = .ok (.iload_n 2, 1) := by decide +kernel
theorem dX11_fails_9 : decode cX11_fails 9 = .ok (.i2l, 1) := by decide +kernel
theorem dX11_fails_10 : decode cX11_fails 10 = .ok (.lconst 0, 1) := by decide +kernel
theorem dX11_fails_11 : decode cX11_fails 11 = .ok (.aload_n 0, 1) := by decide +kernel
theorem dX11_fails_12 : decode cX11_fails 12 = .ok (.iload_n 1, 1) := by decide +kernel
theorem dX11_fails_13 : decode cX11_fails 13 = .ok (.invokevirtual 124, 3) := by decide +kernel
theorem dX11_fails_16 : decode cX11_fails 16 = .ok (.iconst 1, 1) := by decide +kernel
theorem dX11_fails_17 : decode cX11_fails 17 = .ok (.isub, 1) := by decide +kernel
theorem dX11_fails_18 : decode cX11_fails 18 = .ok (.i2l, 1) := by decide +kernel
theorem dX11_fails_19 : decode cX11_fails 19 = .ok (.invokestatic 86, 3) := by decide +kernel
theorem dX11_fails_22 : decode cX11_fails 22 = .ok (.ifCond .eq 24, 3) := by decide +kernel
theorem dX11_fails_25 : decode cX11_fails 25 = .ok (.iload_n 3, 1) := by decide +kernel
theorem dX11_fails_26 : decode cX11_fails 26 = .ok (.i2l, 1) := by decide +kernel
theorem dX11_fails_27 : decode cX11_fails 27 = .ok (.lconst 0, 1) := by decide +kernel
theorem dX11_fails_28 : decode cX11_fails 28 = .ok (.lconst 1, 1) := by decide +kernel
theorem dX11_fails_29 : decode cX11_fails 29 = .ok (.invokestatic 86, 3) := by decide +kernel
theorem dX11_fails_32 : decode cX11_fails 32 = .ok (.ifCond .eq 14, 3) := by decide +kernel
theorem dX11_fails_35 : decode cX11_fails 35 = .ok (.iload 4, 2) := by decide +kernel
theorem dX11_fails_37 : decode cX11_fails 37 = .ok (.i2l, 1) := by decide +kernel
theorem dX11_fails_38 : decode cX11_fails 38 = .ok (.lconst 0, 1) := by decide +kernel
theorem dX11_fails_39 : decode cX11_fails 39 = .ok (.lconst 1, 1) := by decide +kernel
theorem dX11_fails_40 : decode cX11_fails 40 = .ok (.invokestatic 86, 3) := by decide +kernel
theorem dX11_fails_43 : decode cX11_fails 43 = .ok (.ifCond .ne 7, 3) := by decide +kernel
theorem dX11_fails_46 : decode cX11_fails 46 = .ok (.ldc2_w 155, 3) := by decide +kernel
theorem dX11_fails_49 : decode cX11_fails 49 = .ok (.lreturn, 1) := by decide +kernel
theorem dX11_fails_50 : decode cX11_fails 50 = .ok (.aload_n 0, 1) := by decide +kernel
theorem dX11_fails_51 : decode cX11_fails 51 = .ok (.iload_n 1, 1) := by decide +kernel
theorem dX11_fails_52 : decode cX11_fails 52 = .ok (.invokevirtual 198, 3) := by decide +kernel
theorem dX11_fails_55 : decode cX11_fails 55 = .ok (.aload_n 0, 1) := by decide +kernel
theorem dX11_fails_56 : decode cX11_fails 56 = .ok (.iload_n 2, 1) := by decide +kernel
theorem dX11_fails_57 : decode cX11_fails 57 = .ok (.iload_n 3, 1) := by decide +kernel
theorem dX11_fails_58 : decode cX11_fails 58 = .ok (.invokevirtual 218, 3) := by decide +kernel
theorem dX11_fails_61 : decode cX11_fails 61 = .ok (.iload 4, 2) := by decide +kernel
theorem dX11_fails_63 : decode cX11_fails 63 = .ok (.ifCond .ne 10, 3) := by decide +kernel
theorem dX11_fails_66 : decode cX11_fails 66 = .ok (.aload_n 0, 1) := by decide +kernel
theorem dX11_fails_67 : decode cX11_fails 67 = .ok (.getfield 136, 3) := by decide +kernel
theorem dX11_fails_70 : decode cX11_fails 70 = .ok (.goto 7, 3) := by decide +kernel
theorem dX11_fails_73 : decode cX11_fails 73 = .ok (.aload_n 0, 1) := by decide +kernel
theorem dX11_fails_74 : decode cX11_fails 74 = .ok (.getfield 140, 3) := by decide +kernel
theorem dX11_fails_77 : decode cX11_fails 77 = .ok (.lreturn, 1) := by decide +kernel
theorem dX11_isLess_0 : decode cX11_isLess 0 = .ok (.lload_n 0, 1) := by decide +kernel
theorem dX11_isLess_1 : decode cX11_isLess 1 = .ok (.lstore 8, 2) := by decide +kernel
theorem dX11_isLess_3 : decode cX11_isLess 3 = .ok (.lload_n 2, 1) := by decide +kernel
theorem dX11_isLess_4 : decode cX11_isLess 4 = .ok (.lstore 10, 2) := by decide +kernel
theorem dX11_isLess_6 : decode cX11_isLess 6 = .ok (.lload 4, 2) := by decide +kernel
theorem dX11_isLess_8 : decode cX11_isLess 8 = .ok (.lstore 12, 2) := by decide +kernel
theorem dX11_isLess_10 : decode cX11_isLess 10 = .ok (.lload 6, 2) := by decide +kernel
theorem dX11_isLess_12 : decode cX11_isLess 12 = .ok (.lstore 14, 2) := by decide +kernel
theorem dX11_isLess_14 : decode cX11_isLess 14 = .ok (.iconst 0, 1) := by decide +kernel
theorem dX11_isLess_15 : decode cX11_isLess 15 = .ok (.istore 16, 2) := by decide +kernel
theorem dX11_isLess_17 : decode cX11_isLess 17 = .ok (.lload 10, 2) := by decide +kernel
theorem dX11_isLess_19 : decode cX11_isLess 19 = .ok (.lconst 0, 1) := by decide +kernel
theorem dX11_isLess_20 : decode cX11_isLess 20 = .ok (.lcmp, 1) := by decide +kernel
theorem dX11_isLess_21 : decode cX11_isLess 21 = .ok (.ifCond .eq 69, 3) := by decide +kernel
theorem dX11_isLess_24 : decode cX11_isLess 24 = .ok (.lload 14, 2) := by decide +kernel
theorem dX11_isLess_26 : decode cX11_isLess 26 = .ok (.lconst 0, 1) := by decide +kernel
theorem dX11_isLess_27 : decode cX11_isLess 27 = .ok (.lcmp, 1) := by decide +kernel
theorem dX11_isLess_28 : decode cX11_isLess 28 = .ok (.ifCond .eq 62, 3) := by decide +kernel
theorem dX11_isLess_31 : decode cX11_isLess 31 = .ok (.lload 8, 2) := by decide +kernel
theorem dX11_isLess_33 : decode cX11_isLess 33 = .ok (.lload 10, 2) := by decide +kernel
theorem dX11_isLess_35 : decode cX11_isLess 35 = .ok (.ldiv, 1) := by decide +kernel
theorem dX11_isLess_36 : decode cX11_isLess 36 = .ok (.lload 12, 2) := by decide +kernel
theorem dX11_isLess_38 : decode cX11_isLess 38 = .ok (.lload 14, 2) := by decide +kernel
theorem dX11_isLess_40 : decode cX11_isLess 40 = .ok (.ldiv, 1) := by decide +kernel
theorem dX11_isLess_41 : decode cX11_isLess 41 = .ok (.lcmp, 1) := by decide +kernel
theorem dX11_isLess_42 : decode cX11_isLess 42 = .ok (.ifCond .ne 48, 3) := by decide +kernel
theorem dX11_isLess_45 : decode cX11_isLess 45 = .ok (.lload 8, 2) := by decide +kernel
theorem dX11_isLess_47 : decode cX11_isLess 47 = .ok (.lload 10, 2) := by decide +kernel
theorem dX11_isLess_49 : decode cX11_isLess 49 = .ok (.lrem, 1) := by decide +kernel
theorem dX11_isLess_50 : decode cX11_isLess 50 = .ok (.lstore 17, 2) := by decide +kernel
theorem dX11_isLess_52 : decode cX11_isLess 52 = .ok (.lload 12, 2) := by decide +kernel
theorem dX11_isLess_54 : decode cX11_isLess 54 = .ok (.lload 14, 2) := by decide +kernel
theorem dX11_isLess_56 : decode cX11_isLess 56 = .ok (.lrem, 1) := by decide +kernel
theorem dX11_isLess_57 : decode cX11_isLess 57 = .ok (.lstore 19, 2) := by decide +kernel
theorem dX11_isLess_59 : decode cX11_isLess 59 = .ok (.lload 10, 2) := by decide +kernel
theorem dX11_isLess_61 : decode cX11_isLess 61 = .ok (.lstore 8, 2) := by decide +kernel
theorem dX11_isLess_63 : decode cX11_isLess 63 = .ok (.lload 17, 2) := by decide +kernel
theorem dX11_isLess_65 : decode cX11_isLess 65 = .ok (.lstore 10, 2) := by decide +kernel
theorem dX11_isLess_67 : decode cX11_isLess 67 = .ok (.lload 14, 2) := by decide +kernel
theorem dX11_isLess_69 : decode cX11_isLess 69 = .ok (.lstore 12, 2) := by decide +kernel
theorem dX11_isLess_71 : decode cX11_isLess 71 = .ok (.lload 19, 2) := by decide +kernel
theorem dX11_isLess_73 : decode cX11_isLess 73 = .ok (.lstore 14, 2) := by decide +kernel
theorem dX11_isLess_75 : decode cX11_isLess 75 = .ok (.iload 16, 2) := by decide +kernel
theorem dX11_isLess_77 : decode cX11_isLess 77 = .ok (.ifCond .ne 7, 3) := by decide +kernel
theorem dX11_isLess_80 : decode cX11_isLess 80 = .ok (.iconst 1, 1) := by decide +kernel
theorem dX11_isLess_81 : decode cX11_isLess 81 = .ok (.goto 4, 3) := by decide +kernel
theorem dX11_isLess_84 : decode cX11_isLess 84 = .ok (.iconst 0, 1) := by decide +kernel
theorem dX11_isLess_85 : decode cX11_isLess 85 = .ok (.istore 16, 2) := by decide +kernel
theorem dX11_isLess_87 : decode cX11_isLess 87 = .ok (.goto (-70), 3) := by decide +kernel
theorem dX11_isLess_90 : decode cX11_isLess 90 = .ok (.lload 10, 2) := by decide +kernel
theorem dX11_isLess_92 : decode cX11_isLess 92 = .ok (.lconst 0, 1) := by decide +kernel
theorem dX11_isLess_93 : decode cX11_isLess 93 = .ok (.lcmp, 1) := by decide +kernel
theorem dX11_isLess_94 : decode cX11_isLess 94 = .ok (.ifCond .eq 28, 3) := by decide +kernel
theorem dX11_isLess_97 : decode cX11_isLess 97 = .ok (.lload 14, 2) := by decide +kernel
theorem dX11_isLess_99 : decode cX11_isLess 99 = .ok (.lconst 0, 1) := by decide +kernel
theorem dX11_isLess_100 : decode cX11_isLess 100 = .ok (.lcmp, 1) := by decide +kernel
theorem dX11_isLess_101 : decode cX11_isLess 101 = .ok (.ifCond .eq 17, 3) := by decide +kernel
theorem dX11_isLess_104 : decode cX11_isLess 104 = .ok (.lload 8, 2) := by decide +kernel
theorem dX11_isLess_106 : decode cX11_isLess 106 = .ok (.lload 10, 2) := by decide +kernel
theorem dX11_isLess_108 : decode cX11_isLess 108 = .ok (.ldiv, 1) := by decide +kernel
theorem dX11_isLess_109 : decode cX11_isLess 109 = .ok (.lload 12, 2) := by decide +kernel
theorem dX11_isLess_111 : decode cX11_isLess 111 = .ok (.lload 14, 2) := by decide +kernel
theorem dX11_isLess_113 : decode cX11_isLess 113 = .ok (.ldiv, 1) := by decide +kernel
theorem dX11_isLess_114 : decode cX11_isLess 114 = .ok (.lcmp, 1) := by decide +kernel
theorem dX11_isLess_115 : decode cX11_isLess 115 = .ok (.ifCond .ge 7, 3) := by decide +kernel
theorem dX11_isLess_118 : decode cX11_isLess 118 = .ok (.iconst 1, 1) := by decide +kernel
theorem dX11_isLess_119 : decode cX11_isLess 119 = .ok (.goto 4, 3) := by decide +kernel
theorem dX11_isLess_122 : decode cX11_isLess 122 = .ok (.iconst 0, 1) := by decide +kernel
theorem dX11_isLess_123 : decode cX11_isLess 123 = .ok (.istore 17, 2) := by decide +kernel
theorem dX11_isLess_125 : decode cX11_isLess 125 = .ok (.lload 14, 2) := by decide +kernel
theorem dX11_isLess_127 : decode cX11_isLess 127 = .ok (.lconst 0, 1) := by decide +kernel
theorem dX11_isLess_128 : decode cX11_isLess 128 = .ok (.lcmp, 1) := by decide +kernel
theorem dX11_isLess_129 : decode cX11_isLess 129 = .ok (.ifCond .eq 28, 3) := by decide +kernel
theorem dX11_isLess_132 : decode cX11_isLess 132 = .ok (.lload 10, 2) := by decide +kernel
theorem dX11_isLess_134 : decode cX11_isLess 134 = .ok (.lconst 0, 1) := by decide +kernel
theorem dX11_isLess_135 : decode cX11_isLess 135 = .ok (.lcmp, 1) := by decide +kernel
theorem dX11_isLess_136 : decode cX11_isLess 136 = .ok (.ifCond .eq 17, 3) := by decide +kernel
theorem dX11_isLess_139 : decode cX11_isLess 139 = .ok (.lload 12, 2) := by decide +kernel
theorem dX11_isLess_141 : decode cX11_isLess 141 = .ok (.lload 14, 2) := by decide +kernel
theorem dX11_isLess_143 : decode cX11_isLess 143 = .ok (.ldiv, 1) := by decide +kernel
theorem dX11_isLess_144 : decode cX11_isLess 144 = .ok (.lload 8, 2) := by decide +kernel
theorem dX11_isLess_146 : decode cX11_isLess 146 = .ok (.lload 10, 2) := by decide +kernel
theorem dX11_isLess_148 : decode cX11_isLess 148 = .ok (.ldiv, 1) := by decide +kernel
theorem dX11_isLess_149 : decode cX11_isLess 149 = .ok (.lcmp, 1) := by decide +kernel
theorem dX11_isLess_150 : decode cX11_isLess 150 = .ok (.ifCond .ge 7, 3) := by decide +kernel
theorem dX11_isLess_153 : decode cX11_isLess 153 = .ok (.iconst 1, 1) := by decide +kernel
theorem dX11_isLess_154 : decode cX11_isLess 154 = .ok (.goto 4, 3) := by decide +kernel
theorem dX11_isLess_157 : decode cX11_isLess 157 = .ok (.iconst 0, 1) := by decide +kernel
theorem dX11_isLess_158 : decode cX11_isLess 158 = .ok (.istore 18, 2) := by decide +kernel
theorem dX11_isLess_160 : decode cX11_isLess 160 = .ok (.iload 16, 2) := by decide +kernel
theorem dX11_isLess_162 : decode cX11_isLess 162 = .ok (.ifCond .eq 8, 3) := by decide +kernel
theorem dX11_isLess_165 : decode cX11_isLess 165 = .ok (.iload 18, 2) := by decide +kernel
theorem dX11_isLess_167 : decode cX11_isLess 167 = .ok (.goto 5, 3) := by decide +kernel
theorem dX11_isLess_170 : decode cX11_isLess 170 = .ok (.iload 17, 2) := by decide +kernel
theorem dX11_isLess_172 : decode cX11_isLess 172 = .ok (.ireturn, 1) := by decide +kernel
set_option maxRecDepth 20000 in
theorem ggX11_worst_X11_isNet : GoodIn wsX11_worst wsX11_isNet := goodIn_r _ [7, 8, 9, 10, 6, 11, 58, 59, 60, 61, 62, 63, 64, 65, 66, 67, 68, 69, 70, 71, 72, 73, 74, 75, 76, 77, 78, 79, 80, 81, 82, 83, 84, 85, 86, 87, 88, 89, 90] (by decide +kernel) (by decide +kernel)
set_option maxRecDepth 20000 in
theorem gX11_worst_X11_isNet : GoodIn wsX11_worst (wsV RX11 121 RX11 yX11_isNet wsX11_isNet) := goodIn_app (goodIn_of _ (by decide +kernel)) ggX11_worst_X11_isNet
set_option maxRecDepth 20000 in
theorem ggX11_worst_X11_in : GoodIn wsX11_worst wsX11_in := goodIn_r _ [11] (by decide +kernel) (by decide +kernel)
set_option maxRecDepth 20000 in
theorem gX11_worst_X11_in : GoodIn wsX11_worst (va_wsS RX11 86 yX11_in wsX11_in) := goodIn_app (goodIn_of _ (by decide +kernel)) ggX11_worst_X11_in
set_option maxRecDepth 20000 in
theorem ggX11_worst_X11_goes : GoodIn wsX11_worst wsX11_goes := goodIn_r _ [15, 16, 17, 18, 19, 20, 21, 22, 6, 23, 8, 24, 25, 26, 27, 28, 29, 30, 31, 58, 59, 60, 61, 62, 63, 64, 65, 66, 67, 68, 69, 70, 71, 72, 73, 74, 75, 76, 77, 78, 79, 80, 81, 82, 83, 84, 85, 86, 87, 88, 89, 90] (by decide +kernel) (by decide +kernel)
set_option maxRecDepth 20000 in
theorem gX11_worst_X11_goes : GoodIn wsX11_worst (wsV RX11 198 RX11 yX11_goes wsX11_goes) := goodIn_app (goodIn_of _ (by decide +kernel)) ggX11_worst_X11_goes
set_option maxRecDepth 20000 in
theorem ggX11_worst_X11_partsOf : GoodIn wsX11_worst wsX11_partsOf := goodIn_r _ [35, 8, 58, 59, 60, 61, 62, 63, 64, 65, 66, 67, 68, 69, 70, 71, 72, 73, 74, 75, 76, 77, 78, 79, 80, 81, 82, 83, 84, 85, 86, 87, 88, 89, 90] (by decide +kernel) (by decide +kernel)
set_option maxRecDepth 20000 in
theorem gX11_worst_X11_partsOf : GoodIn wsX11_worst (wsV RX11 124 RX11 yX11_partsOf wsX11_partsOf) := goodIn_app (goodIn_of _ (by decide +kernel)) ggX11_worst_X11_partsOf
set_option maxRecDepth 20000 in
theorem ggX11_worst_X11_valueFailing : GoodIn wsX11_worst wsX11_valueFailing := goodIn_r _ [39, 16, 19, 40, 8, 41, 1, 2, 20, 21, 22, 6, 23, 28, 29, 30, 31, 42, 43, 44, 45, 46, 47, 48, 49, 50, 51, 52, 53, 54, 58, 59, 60, 61, 62, 63, 64, 65, 66, 67, 68, 69, 70, 71, 72, 73, 74, 75, 76, 77, 78, 79, 80, 81, 82, 83, 84, 85, 86, 87, 88, 89, 90] (by decide +kernel) (by decide +kernel)
set_option maxRecDepth 20000 in
theorem gX11_worst_X11_valueFailing : GoodIn wsX11_worst (wsV RX11 218 RX11 yX11_valueFailing wsX11_valueFailing) := goodIn_app (goodIn_of _ (by decide +kernel)) ggX11_worst_X11_valueFailing
set_option maxRecDepth 20000 in
theorem ggX11_worst_X11_isLess : GoodIn wsX11_worst wsX11_isLess := goodIn_r _ [57] (by decide +kernel) (by decide +kernel)
set_option maxRecDepth 20000 in
theorem gX11_worst_X11_isLess : GoodIn wsX11_worst (va_wsS RX11 222 yX11_isLess wsX11_isLess) := goodIn_app (goodIn_of _ (by decide +kernel)) ggX11_worst_X11_isLess
theorem dX11_worst_0 : decode cX11_worst 0 = .ok (.aload_n 0, 1) := by decide +kernel
theorem dX11_worst_1 : decode cX11_worst 1 = .ok (.iload_n 1, 1) := by decide +kernel
theorem dX11_worst_2 : decode cX11_worst 2 = .ok (.invokevirtual 121, 3) := by decide +kernel
theorem dX11_worst_5 : decode cX11_worst 5 = .ok (.ifCond .eq 13, 3) := by decide +kernel
theorem dX11_worst_8 : decode cX11_worst 8 = .ok (.iload_n 2, 1) := by decide +kernel
theorem dX11_worst_9 : decode cX11_worst 9 = .ok (.i2l, 1) := by decide +kernel
theorem dX11_worst_10 : decode cX11_worst 10 = .ok (.lconst 0, 1) := by decide +kernel
theorem dX11_worst_11 : decode cX11_worst 11 = .ok (.lconst 1, 1) := by decide +kernel
theorem dX11_worst_12 : decode cX11_worst 12 = .ok (.invokestatic 86, 3) := by decide +kernel
theorem dX11_worst_15 : decode cX11_worst 15 = .ok (.ifCond .ne 5, 3) := by decide +kernel
theorem dX11_worst_18 : decode cX11_worst 18 = .ok (.iconst (-1), 1) := by decide +kernel
theorem dX11_worst_19 : decode cX11_worst 19 = .ok (.ireturn, 1) := by decide +kernel
theorem dX11_worst_20 : decode cX11_worst 20 = .ok (.aload_n 0, 1) := by decide +kernel
theorem dX11_worst_21 : decode cX11_worst 21 = .ok (.iload_n 1, 1) := by decide +kernel
theorem dX11_worst_22 : decode cX11_worst 22 = .ok (.invokevirtual 198, 3) := by decide +kernel
theorem dX11_worst_25 : decode cX11_worst 25 = .ok (.iconst 0, 1) := by decide +kernel
theorem dX11_worst_26 : decode cX11_worst 26 = .ok (.istore_n 3, 1) := by decide +kernel
theorem dX11_worst_27 : decode cX11_worst 27 = .ok (.lconst 0, 1) := by decide +kernel
theorem dX11_worst_28 : decode cX11_worst 28 = .ok (.lstore 4, 2) := by decide +kernel
theorem dX11_worst_30 : decode cX11_worst 30 = .ok (.lconst 1, 1) := by decide +kernel
theorem dX11_worst_31 : decode cX11_worst 31 = .ok (.lstore 6, 2) := by decide +kernel
theorem dX11_worst_33 : decode cX11_worst 33 = .ok (.iconst 0, 1) := by decide +kernel
theorem dX11_worst_34 : decode cX11_worst 34 = .ok (.istore 8, 2) := by decide +kernel
theorem dX11_worst_36 : decode cX11_worst 36 = .ok (.iload 8, 2) := by decide +kernel
theorem dX11_worst_38 : decode cX11_worst 38 = .ok (.aload_n 0, 1) := by decide +kernel
theorem dX11_worst_39 : decode cX11_worst 39 = .ok (.iload_n 1, 1) := by decide +kernel
theorem dX11_worst_40 : decode cX11_worst 40 = .ok (.invokevirtual 124, 3) := by decide +kernel
theorem dX11_worst_43 : decode cX11_worst 43 = .ok (.if_icmp .ge 127, 3) := by decide +kernel
theorem dX11_worst_46 : decode cX11_worst 46 = .ok (.aload_n 0, 1) := by decide +kernel
theorem dX11_worst_47 : decode cX11_worst 47 = .ok (.iload 8, 2) := by decide +kernel
theorem dX11_worst_49 : decode cX11_worst 49 = .ok (.iload_n 2, 1) := by decide +kernel
theorem dX11_worst_50 : decode cX11_worst 50 = .ok (.invokevirtual 218, 3) := by decide +kernel
theorem dX11_worst_53 : decode cX11_worst 53 = .ok (.aload_n 0, 1) := by decide +kernel
theorem dX11_worst_54 : decode cX11_worst 54 = .ok (.getfield 136, 3) := by decide +kernel
theorem dX11_worst_57 : decode cX11_worst 57 = .ok (.lconst 0, 1) := by decide +kernel
theorem dX11_worst_58 : decode cX11_worst 58 = .ok (.lcmp, 1) := by decide +kernel
theorem dX11_worst_59 : decode cX11_worst 59 = .ok (.ifCond .ge 6, 3) := by decide +kernel
theorem dX11_worst_62 : decode cX11_worst 62 = .ok (.bipush (-7), 2) := by decide +kernel
theorem dX11_worst_64 : decode cX11_worst 64 = .ok (.ireturn, 1) := by decide +kernel
theorem dX11_worst_65 : decode cX11_worst 65 = .ok (.iload 8, 2) := by decide +kernel
theorem dX11_worst_67 : decode cX11_worst 67 = .ok (.ifCond .eq 46, 3) := by decide +kernel
theorem dX11_worst_70 : decode cX11_worst 70 = .ok (.iload_n 2, 1) := by decide +kernel
theorem dX11_worst_71 : decode cX11_worst 71 = .ok (.ifCond .ne 24, 3) := by decide +kernel
theorem dX11_worst_74 : decode cX11_worst 74 = .ok (.lload 4, 2) := by decide +kernel
theorem dX11_worst_76 : decode cX11_worst 76 = .ok (.lload 6, 2) := by decide +kernel
theorem dX11_worst_78 : decode cX11_worst 78 = .ok (.aload_n 0, 1) := by decide +kernel
theorem dX11_worst_79 : decode cX11_worst 79 = .ok (.getfield 136, 3) := by decide +kernel
theorem dX11_worst_82 : decode cX11_worst 82 = .ok (.aload_n 0, 1) := by decide +kernel
theorem dX11_worst_83 : decode cX11_worst 83 = .ok (.getfield 140, 3) := by decide +kernel
theorem dX11_worst_86 : decode cX11_worst 86 = .ok (.invokestatic 222, 3) := by decide +kernel
theorem dX11_worst_89 : decode cX11_worst 89 = .ok (.ifCond .eq 28, 3) := by decide +kernel
theorem dX11_worst_92 : decode cX11_worst 92 = .ok (.goto 21, 3) := by decide +kernel
theorem dX11_worst_95 : decode cX11_worst 95 = .ok (.aload_n 0, 1) := by decide +kernel
theorem dX11_worst_96 : decode cX11_worst 96 = .ok (.getfield 136, 3) := by decide +kernel
theorem dX11_worst_99 : decode cX11_worst 99 = .ok (.aload_n 0, 1) := by decide +kernel
theorem dX11_worst_100 : decode cX11_worst 100 = .ok (.getfield 140, 3) := by decide +kernel
theorem dX11_worst_103 : decode cX11_worst 103 = .ok (.lload 4, 2) := by decide +kernel
theorem dX11_worst_105 : decode cX11_worst 105 = .ok (.lload 6, 2) := by decide +kernel
theorem dX11_worst_107 : decode cX11_worst 107 = .ok (.invokestatic 222, 3) := by decide +kernel
theorem dX11_worst_110 : decode cX11_worst 110 = .ok (.ifCond .eq 7, 3) := by decide +kernel
theorem dX11_worst_113 : decode cX11_worst 113 = .ok (.iconst 1, 1) := by decide +kernel
theorem dX11_worst_114 : decode cX11_worst 114 = .ok (.goto 4, 3) := by decide +kernel
theorem dX11_worst_117 : decode cX11_worst 117 = .ok (.iconst 0, 1) := by decide +kernel
theorem dX11_worst_118 : decode cX11_worst 118 = .ok (.istore 9, 2) := by decide +kernel
theorem dX11_worst_120 : decode cX11_worst 120 = .ok (.iload 9, 2) := by decide +kernel
theorem dX11_worst_122 : decode cX11_worst 122 = .ok (.ifCond .eq 8, 3) := by decide +kernel
theorem dX11_worst_125 : decode cX11_worst 125 = .ok (.iload 8, 2) := by decide +kernel
theorem dX11_worst_127 : decode cX11_worst 127 = .ok (.goto 4, 3) := by decide +kernel
theorem dX11_worst_130 : decode cX11_worst 130 = .ok (.iload_n 3, 1) := by decide +kernel
theorem dX11_worst_131 : decode cX11_worst 131 = .ok (.istore_n 3, 1) := by decide +kernel
theorem dX11_worst_132 : decode cX11_worst 132 = .ok (.iload 9, 2) := by decide +kernel
theorem dX11_worst_134 : decode cX11_worst 134 = .ok (.ifCond .eq 10, 3) := by decide +kernel
theorem dX11_worst_137 : decode cX11_worst 137 = .ok (.aload_n 0, 1) := by decide +kernel
theorem dX11_worst_138 : decode cX11_worst 138 = .ok (.getfield 136, 3) := by decide +kernel
theorem dX11_worst_141 : decode cX11_worst 141 = .ok (.goto 5, 3) := by decide +kernel
theorem dX11_worst_144 : decode cX11_worst 144 = .ok (.lload 4, 2) := by decide +kernel
theorem dX11_worst_146 : decode cX11_worst 146 = .ok (.lstore 4, 2) := by decide +kernel
theorem dX11_worst_148 : decode cX11_worst 148 = .ok (.iload 9, 2) := by decide +kernel
theorem dX11_worst_150 : decode cX11_worst 150 = .ok (.ifCond .eq 10, 3) := by decide +kernel
theorem dX11_worst_153 : decode cX11_worst 153 = .ok (.aload_n 0, 1) := by decide +kernel
theorem dX11_worst_154 : decode cX11_worst 154 = .ok (.getfield 140, 3) := by decide +kernel
theorem dX11_worst_157 : decode cX11_worst 157 = .ok (.goto 5, 3) := by decide +kernel
theorem dX11_worst_160 : decode cX11_worst 160 = .ok (.lload 6, 2) := by decide +kernel
theorem dX11_worst_162 : decode cX11_worst 162 = .ok (.lstore 6, 2) := by decide +kernel
theorem dX11_worst_164 : decode cX11_worst 164 = .ok (.iinc 8 1, 3) := by decide +kernel
theorem dX11_worst_167 : decode cX11_worst 167 = .ok (.goto (-131), 3) := by decide +kernel
theorem dX11_worst_170 : decode cX11_worst 170 = .ok (.iload_n 3, 1) := by decide +kernel
theorem dX11_worst_171 : decode cX11_worst 171 = .ok (.ireturn, 1) := by decide +kernel
set_option maxRecDepth 20000 in
theorem ggX11_feed_X11_in : GoodIn wsX11_feed wsX11_in := goodIn_r _ [8] (by decide +kernel) (by decide +kernel)
set_option maxRecDepth 20000 in
theorem gX11_feed_X11_in : GoodIn wsX11_feed (va_wsS RX11 86 yX11_in wsX11_in) := goodIn_app (goodIn_of _ (by decide +kernel)) ggX11_feed_X11_in
theorem dX11_feed_0 : decode cX11_feed 0 = .ok (.iload_n 1, 1) := by decide +kernel
theorem dX11_feed_1 : decode cX11_feed 1 = .ok (.i2l, 1) := by decide +kernel
theorem dX11_feed_2 : decode cX11_feed 2 = .ok (.ldc2_w 226, 3) := by decide +kernel
theorem dX11_feed_5 : decode cX11_feed 5 = .ok (.ldc2_w 228, 3) := by decide +kernel
theorem dX11_feed_8 : decode cX11_feed 8 = .ok (.invokestatic 86, 3) := by decide +kernel
theorem dX11_feed_11 : decode cX11_feed 11 = .ok (.ifCond .ne 5, 3) := by decide +kernel
theorem dX11_feed_14 : decode cX11_feed 14 = .ok (.iconst (-1), 1) := by decide +kernel
theorem dX11_feed_15 : decode cX11_feed 15 = .ok (.ireturn, 1) := by decide +kernel
theorem dX11_feed_16 : decode cX11_feed 16 = .ok (.aload_n 0, 1) := by decide +kernel
theorem dX11_feed_17 : decode cX11_feed 17 = .ok (.getfield 230, 3) := by decide +kernel
theorem dX11_feed_20 : decode cX11_feed 20 = .ok (.bipush 60, 2) := by decide +kernel
theorem dX11_feed_22 : decode cX11_feed 22 = .ok (.if_icmp .ne 6, 3) := by decide +kernel
theorem dX11_feed_25 : decode cX11_feed 25 = .ok (.bipush (-3), 2) := by decide +kernel
theorem dX11_feed_27 : decode cX11_feed 27 = .ok (.ireturn, 1) := by decide +kernel
theorem dX11_feed_28 : decode cX11_feed 28 = .ok (.aload_n 0, 1) := by decide +kernel
theorem dX11_feed_29 : decode cX11_feed 29 = .ok (.getfield 51, 3) := by decide +kernel
theorem dX11_feed_32 : decode cX11_feed 32 = .ok (.aload_n 0, 1) := by decide +kernel
theorem dX11_feed_33 : decode cX11_feed 33 = .ok (.getfield 230, 3) := by decide +kernel
theorem dX11_feed_36 : decode cX11_feed 36 = .ok (.iload_n 1, 1) := by decide +kernel
theorem dX11_feed_37 : decode cX11_feed 37 = .ok (.iastore, 1) := by decide +kernel
theorem dX11_feed_38 : decode cX11_feed 38 = .ok (.aload_n 0, 1) := by decide +kernel
theorem dX11_feed_39 : decode cX11_feed 39 = .ok (.dup, 1) := by decide +kernel
theorem dX11_feed_40 : decode cX11_feed 40 = .ok (.getfield 230, 3) := by decide +kernel
theorem dX11_feed_43 : decode cX11_feed 43 = .ok (.iconst 1, 1) := by decide +kernel
theorem dX11_feed_44 : decode cX11_feed 44 = .ok (.iadd, 1) := by decide +kernel
theorem dX11_feed_45 : decode cX11_feed 45 = .ok (.putfield 230, 3) := by decide +kernel
theorem dX11_feed_48 : decode cX11_feed 48 = .ok (.aload_n 0, 1) := by decide +kernel
theorem dX11_feed_49 : decode cX11_feed 49 = .ok (.getfield 230, 3) := by decide +kernel
theorem dX11_feed_52 : decode cX11_feed 52 = .ok (.ireturn, 1) := by decide +kernel
set_option maxRecDepth 20000 in
theorem ggX11_faultOf_X11_in : GoodIn wsX11_faultOf wsX11_in := goodIn_r _ [10] (by decide +kernel) (by decide +kernel)
set_option maxRecDepth 20000 in
theorem gX11_faultOf_X11_in : GoodIn wsX11_faultOf (va_wsS RX11 86 yX11_in wsX11_in) := goodIn_app (goodIn_of _ (by decide +kernel)) ggX11_faultOf_X11_in
set_option maxRecDepth 20000 in
theorem ggX11_faultOf_X11_isThere : GoodIn wsX11_faultOf wsX11_isThere := goodIn_r _ [14, 15, 16, 17, 9, 18, 19, 7, 8, 10, 20, 21, 22, 23, 24, 25, 26, 27, 28, 29, 30, 31, 32, 33, 34, 35, 36, 37, 38, 39, 40, 41, 42, 43, 44, 45, 46, 47, 48, 49, 50, 51, 52] (by decide +kernel) (by decide +kernel)
set_option maxRecDepth 20000 in
theorem gX11_faultOf_X11_isThere : GoodIn wsX11_faultOf (wsV RX11 114 RX11 yX11_isThere wsX11_isThere) := goodIn_app (goodIn_of _ (by decide +kernel)) ggX11_faultOf_X11_isThere
theorem dX11_faultOf_0 : decode cX11_faultOf 0 = .ok (.aload_n 0, 1) := by decide +kernel
theorem dX11_faultOf_1 : decode cX11_faultOf 1 = .ok (.iconst 0, 1) := by decide +kernel
theorem dX11_faultOf_2 : decode cX11_faultOf 2 = .ok (.putfield 233, 3) := by decide +kernel
theorem dX11_faultOf_5 : decode cX11_faultOf 5 = .ok (.iconst 0, 1) := by decide +kernel
theorem dX11_faultOf_6 : decode cX11_faultOf 6 = .ok (.istore_n 1, 1) := by decide +kernel
theorem dX11_faultOf_7 : decode cX11_faultOf 7 = .ok (.iconst 1, 1) := by decide +kernel
theorem dX11_faultOf_8 : decode cX11_faultOf 8 = .ok (.istore_n 2, 1) := by decide +kernel
theorem dX11_faultOf_9 : decode cX11_faultOf 9 = .ok (.iconst 0, 1) := by decide +kernel
theorem dX11_faultOf_10 : decode cX11_faultOf 10 = .ok (.istore_n 3, 1) := by decide +kernel
theorem dX11_faultOf_11 : decode cX11_faultOf 11 = .ok (.iload_n 3, 1) := by decide +kernel
theorem dX11_faultOf_12 : decode cX11_faultOf 12 = .ok (.aload_n 0, 1) := by decide +kernel
theorem dX11_faultOf_13 : decode cX11_faultOf 13 = .ok (.getfield 230, 3) := by decide +kernel
theorem dX11_faultOf_16 : decode cX11_faultOf 16 = .ok (.if_icmp .ge 238, 3) := by decide +kernel
theorem dX11_faultOf_19 : decode cX11_faultOf 19 = .ok (.aload_n 0, 1) := by decide +kernel
theorem dX11_faultOf_20 : decode cX11_faultOf 20 = .ok (.getfield 51, 3) := by decide +kernel
theorem dX11_faultOf_23 : decode cX11_faultOf 23 = .ok (.iload_n 3, 1) := by decide +kernel
theorem dX11_faultOf_24 : decode cX11_faultOf 24 = .ok (.iaload, 1) := by decide +kernel
theorem dX11_faultOf_25 : decode cX11_faultOf 25 = .ok (.istore 4, 2) := by decide +kernel
theorem dX11_faultOf_27 : decode cX11_faultOf 27 = .ok (.iload_n 2, 1) := by decide +kernel
theorem dX11_faultOf_28 : decode cX11_faultOf 28 = .ok (.ifCond .eq 114, 3) := by decide +kernel
theorem dX11_faultOf_31 : decode cX11_faultOf 31 = .ok (.iload 4, 2) := by decide +kernel
theorem dX11_faultOf_33 : decode cX11_faultOf 33 = .ok (.i2l, 1) := by decide +kernel
theorem dX11_faultOf_34 : decode cX11_faultOf 34 = .ok (.ldc2_w 236, 3) := by decide +kernel
theorem dX11_faultOf_37 : decode cX11_faultOf 37 = .ok (.ldc2_w 238, 3) := by decide +kernel
theorem dX11_faultOf_40 : decode cX11_faultOf 40 = .ok (.invokestatic 86, 3) := by decide +kernel
theorem dX11_faultOf_43 : decode cX11_faultOf 43 = .ok (.ifCond .eq 25, 3) := by decide +kernel
theorem dX11_faultOf_46 : decode cX11_faultOf 46 = .ok (.aload_n 0, 1) := by decide +kernel
theorem dX11_faultOf_47 : decode cX11_faultOf 47 = .ok (.iload 4, 2) := by decide +kernel
theorem dX11_faultOf_49 : decode cX11_faultOf 49 = .ok (.bipush 97, 2) := by decide +kernel
theorem dX11_faultOf_51 : decode cX11_faultOf 51 = .ok (.isub, 1) := by decide +kernel
theorem dX11_faultOf_52 : decode cX11_faultOf 52 = .ok (.invokevirtual 114, 3) := by decide +kernel
theorem dX11_faultOf_55 : decode cX11_faultOf 55 = .ok (.ifCond .eq 13, 3) := by decide +kernel
theorem dX11_faultOf_58 : decode cX11_faultOf 58 = .ok (.iload_n 1, 1) := by decide +kernel
theorem dX11_faultOf_59 : decode cX11_faultOf 59 = .ok (.bipush 12, 2) := by decide +kernel
theorem dX11_faultOf_61 : decode cX11_faultOf 61 = .ok (.if_icmp .ge 7, 3) := by decide +kernel
theorem dX11_faultOf_64 : decode cX11_faultOf 64 = .ok (.iconst 1, 1) := by decide +kernel
theorem dX11_faultOf_65 : decode cX11_faultOf 65 = .ok (.goto 4, 3) := by decide +kernel
theorem dX11_faultOf_68 : decode cX11_faultOf 68 = .ok (.iconst 0, 1) := by decide +kernel
theorem dX11_faultOf_69 : decode cX11_faultOf 69 = .ok (.istore 5, 2) := by decide +kernel
theorem dX11_faultOf_71 : decode cX11_faultOf 71 = .ok (.iload 4, 2) := by decide +kernel
theorem dX11_faultOf_73 : decode cX11_faultOf 73 = .ok (.bipush 40, 2) := by decide +kernel
theorem dX11_faultOf_75 : decode cX11_faultOf 75 = .ok (.if_icmp .ne 16, 3) := by decide +kernel
theorem dX11_faultOf_78 : decode cX11_faultOf 78 = .ok (.aload_n 0, 1) := by decide +kernel
theorem dX11_faultOf_79 : decode cX11_faultOf 79 = .ok (.getfield 233, 3) := by decide +kernel
theorem dX11_faultOf_82 : decode cX11_faultOf 82 = .ok (.bipush 11, 2) := by decide +kernel
theorem dX11_faultOf_84 : decode cX11_faultOf 84 = .ok (.if_icmp .ge 7, 3) := by decide +kernel
theorem dX11_faultOf_87 : decode cX11_faultOf 87 = .ok (.iconst 1, 1) := by decide +kernel
theorem dX11_faultOf_88 : decode cX11_faultOf 88 = .ok (.goto 4, 3) := by decide +kernel
theorem dX11_faultOf_91 : decode cX11_faultOf 91 = .ok (.iconst 0, 1) := by decide +kernel
theorem dX11_faultOf_92 : decode cX11_faultOf 92 = .ok (.istore 6, 2) := by decide +kernel
theorem dX11_faultOf_94 : decode cX11_faultOf 94 = .ok (.iload 5, 2) := by decide +kernel
theorem dX11_faultOf_96 : decode cX11_faultOf 96 = .ok (.ifCond .ne 10, 3) := by decide +kernel
theorem dX11_faultOf_99 : decode cX11_faultOf 99 = .ok (.iload 6, 2) := by decide +kernel
theorem dX11_faultOf_101 : decode cX11_faultOf 101 = .ok (.ifCond .ne 5, 3) := by decide +kernel
theorem dX11_faultOf_104 : decode cX11_faultOf 104 = .ok (.iload_n 3, 1) := by decide +kernel
theorem dX11_faultOf_105 : decode cX11_faultOf 105 = .ok (.ireturn, 1) := by decide +kernel
theorem dX11_faultOf_106 : decode cX11_faultOf 106 = .ok (.iload 6, 2) := by decide +kernel
theorem dX11_faultOf_108 : decode cX11_faultOf 108 = .ok (.ifCond .eq 26, 3) := by decide +kernel
theorem dX11_faultOf_111 : decode cX11_faultOf 111 = .ok (.aload_n 0, 1) := by decide +kernel
theorem dX11_faultOf_112 : decode cX11_faultOf 112 = .ok (.getfield 54, 3) := by decide +kernel
theorem dX11_faultOf_115 : decode cX11_faultOf 115 = .ok (.aload_n 0, 1) := by decide +kernel
theorem dX11_faultOf_116 : decode cX11_faultOf 116 = .ok (.getfield 233, 3) := by decide +kernel
theorem dX11_faultOf_119 : decode cX11_faultOf 119 = .ok (.iconst 0, 1) := by decide +kernel
theorem dX11_faultOf_120 : decode cX11_faultOf 120 = .ok (.iastore, 1) := by decide +kernel
theorem dX11_faultOf_121 : decode cX11_faultOf 121 = .ok (.aload_n 0, 1) := by decide +kernel
theorem dX11_faultOf_122 : decode cX11_faultOf 122 = .ok (.dup, 1) := by decide +kernel
theorem dX11_faultOf_123 : decode cX11_faultOf 123 = .ok (.getfield 233, 3) := by decide +kernel
theorem dX11_faultOf_126 : decode cX11_faultOf 126 = .ok (.iconst 1, 1) := by decide +kernel
theorem dX11_faultOf_127 : decode cX11_faultOf 127 = .ok (.iadd, 1) := by decide +kernel
theorem dX11_faultOf_128 : decode cX11_faultOf 128 = .ok (.putfield 233, 3) := by decide +kernel
theorem dX11_faultOf_131 : decode cX11_faultOf 131 = .ok (.goto 8, 3) := by decide +kernel
theorem dX11_faultOf_134 : decode cX11_faultOf 134 = .ok (.iinc 1 1, 3) := by decide +kernel
theorem dX11_faultOf_137 : decode cX11_faultOf 137 = .ok (.iconst 0, 1) := by decide +kernel
theorem dX11_faultOf_138 : decode cX11_faultOf 138 = .ok (.istore_n 2, 1) := by decide +kernel
theorem dX11_faultOf_139 : decode cX11_faultOf 139 = .ok (.goto 109, 3) := by decide +kernel
theorem dX11_faultOf_142 : decode cX11_faultOf 142 = .ok (.aload_n 0, 1) := by decide +kernel
theorem dX11_faultOf_143 : decode cX11_faultOf 143 = .ok (.getfield 233, 3) := by decide +kernel
theorem dX11_faultOf_146 : decode cX11_faultOf 146 = .ok (.ifCond .le 59, 3) := by decide +kernel
theorem dX11_faultOf_149 : decode cX11_faultOf 149 = .ok (.aload_n 0, 1) := by decide +kernel
theorem dX11_faultOf_150 : decode cX11_faultOf 150 = .ok (.getfield 54, 3) := by decide +kernel
theorem dX11_faultOf_153 : decode cX11_faultOf 153 = .ok (.aload_n 0, 1) := by decide +kernel
theorem dX11_faultOf_154 : decode cX11_faultOf 154 = .ok (.getfield 233, 3) := by decide +kernel
theorem dX11_faultOf_157 : decode cX11_faultOf 157 = .ok (.iconst 1, 1) := by decide +kernel
theorem dX11_faultOf_158 : decode cX11_faultOf 158 = .ok (.isub, 1) := by decide +kernel
theorem dX11_faultOf_159 : decode cX11_faultOf 159 = .ok (.iaload, 1) := by decide +kernel
theorem dX11_faultOf_160 : decode cX11_faultOf 160 = .ok (.ifCond .ne 45, 3) := by decide +kernel
theorem dX11_faultOf_163 : decode cX11_faultOf 163 = .ok (.iload 4, 2) := by decide +kernel
theorem dX11_faultOf_165 : decode cX11_faultOf 165 = .ok (.bipush 43, 2) := by decide +kernel
theorem dX11_faultOf_167 : decode cX11_faultOf 167 = .ok (.if_icmp .eq 10, 3) := by decide +kernel
theorem dX11_faultOf_170 : decode cX11_faultOf 170 = .ok (.iload 4, 2) := by decide +kernel
theorem dX11_faultOf_172 : decode cX11_faultOf 172 = .ok (.bipush 124, 2) := by decide +kernel
theorem dX11_faultOf_174 : decode cX11_faultOf 174 = .ok (.if_icmp .ne 31, 3) := by decide +kernel
theorem dX11_faultOf_177 : decode cX11_faultOf 177 = .ok (.aload_n 0, 1) := by decide +kernel
theorem dX11_faultOf_178 : decode cX11_faultOf 178 = .ok (.getfield 54, 3) := by decide +kernel
theorem dX11_faultOf_181 : decode cX11_faultOf 181 = .ok (.aload_n 0, 1) := by decide +kernel
theorem dX11_faultOf_182 : decode cX11_faultOf 182 = .ok (.getfield 233, 3) := by decide +kernel
theorem dX11_faultOf_185 : decode cX11_faultOf 185 = .ok (.iconst 1, 1) := by decide +kernel
theorem dX11_faultOf_186 : decode cX11_faultOf 186 = .ok (.isub, 1) := by decide +kernel
theorem dX11_faultOf_187 : decode cX11_faultOf 187 = .ok (.iload 4, 2) := by decide +kernel
theorem dX11_faultOf_189 : decode cX11_faultOf 189 = .ok (.bipush 43, 2) := by decide +kernel
theorem dX11_faultOf_191 : decode cX11_faultOf 191 = .ok (.if_icmp .ne 7, 3) := by decide +kernel
theorem dX11_faultOf_194 : decode cX11_faultOf 194 = .ok (.iconst 1, 1) := by decide +kernel
theorem dX11_faultOf_195 : decode cX11_faultOf 195 = .ok (.goto 4, 3) := by decide +kernel
theorem dX11_faultOf_198 : decode cX11_faultOf 198 = .ok (.iconst 2, 1) := by decide +kernel
theorem dX11_faultOf_199 : decode cX11_faultOf 199 = .ok (.iastore, 1) := by decide +kernel
theorem dX11_faultOf_200 : decode cX11_faultOf 200 = .ok (.iconst 1, 1) := by decide +kernel
theorem dX11_faultOf_201 : decode cX11_faultOf 201 = .ok (.istore_n 2, 1) := by decide +kernel
theorem dX11_faultOf_202 : decode cX11_faultOf 202 = .ok (.goto 46, 3) := by decide +kernel
theorem dX11_faultOf_205 : decode cX11_faultOf 205 = .ok (.aload_n 0, 1) := by decide +kernel
theorem dX11_faultOf_206 : decode cX11_faultOf 206 = .ok (.getfield 233, 3) := by decide +kernel
theorem dX11_faultOf_209 : decode cX11_faultOf 209 = .ok (.ifCond .le 37, 3) := by decide +kernel
theorem dX11_faultOf_212 : decode cX11_faultOf 212 = .ok (.aload_n 0, 1) := by decide +kernel
theorem dX11_faultOf_213 : decode cX11_faultOf 213 = .ok (.getfield 54, 3) := by decide +kernel
theorem dX11_faultOf_216 : decode cX11_faultOf 216 = .ok (.aload_n 0, 1) := by decide +kernel
theorem dX11_faultOf_217 : decode cX11_faultOf 217 = .ok (.getfield 233, 3) := by decide +kernel
theorem dX11_faultOf_220 : decode cX11_faultOf 220 = .ok (.iconst 1, 1) := by decide +kernel
theorem dX11_faultOf_221 : decode cX11_faultOf 221 = .ok (.isub, 1) := by decide +kernel
theorem dX11_faultOf_222 : decode cX11_faultOf 222 = .ok (.iaload, 1) := by decide +kernel
theorem dX11_faultOf_223 : decode cX11_faultOf 223 = .ok (.ifCond .le 23, 3) := by decide +kernel
theorem dX11_faultOf_226 : decode cX11_faultOf 226 = .ok (.iload 4, 2) := by decide +kernel
theorem dX11_faultOf_228 : decode cX11_faultOf 228 = .ok (.bipush 41, 2) := by decide +kernel
theorem dX11_faultOf_230 : decode cX11_faultOf 230 = .ok (.if_icmp .ne 16, 3) := by decide +kernel
theorem dX11_faultOf_233 : decode cX11_faultOf 233 = .ok (.aload_n 0, 1) := by decide +kernel
theorem dX11_faultOf_234 : decode cX11_faultOf 234 = .ok (.dup, 1) := by decide +kernel
theorem dX11_faultOf_235 : decode cX11_faultOf 235 = .ok (.getfield 233, 3) := by decide +kernel
theorem dX11_faultOf_238 : decode cX11_faultOf 238 = .ok (.iconst 1, 1) := by decide +kernel
theorem dX11_faultOf_239 : decode cX11_faultOf 239 = .ok (.isub, 1) := by decide +kernel
theorem dX11_faultOf_240 : decode cX11_faultOf 240 = .ok (.putfield 233, 3) := by decide +kernel
theorem dX11_faultOf_243 : decode cX11_faultOf 243 = .ok (.goto 5, 3) := by decide +kernel
theorem dX11_faultOf_246 : decode cX11_faultOf 246 = .ok (.iload_n 3, 1) := by decide +kernel
theorem dX11_faultOf_247 : decode cX11_faultOf 247 = .ok (.ireturn, 1) := by decide +kernel
theorem dX11_faultOf_248 : decode cX11_faultOf 248 = .ok (.iinc 3 1, 3) := by decide +kernel
theorem dX11_faultOf_251 : decode cX11_faultOf 251 = .ok (.goto (-240), 3) := by decide +kernel
theorem dX11_faultOf_254 : decode cX11_faultOf 254 = .ok (.iload_n 2, 1) := by decide +kernel
theorem dX11_faultOf_255 : decode cX11_faultOf 255 = .ok (.ifCond .ne 10, 3) := by decide +kernel
theorem dX11_faultOf_258 : decode cX11_faultOf 258 = .ok (.aload_n 0, 1) := by decide +kernel
theorem dX11_faultOf_259 : decode cX11_faultOf 259 = .ok (.getfield 233, 3) := by decide +kernel
theorem dX11_faultOf_262 : decode cX11_faultOf 262 = .ok (.ifCond .le 10, 3) := by decide +kernel
theorem dX11_faultOf_265 : decode cX11_faultOf 265 = .ok (.aload_n 0, 1) := by decide +kernel
theorem dX11_faultOf_266 : decode cX11_faultOf 266 = .ok (.getfield 230, 3) := by decide +kernel
theorem dX11_faultOf_269 : decode cX11_faultOf 269 = .ok (.goto 4, 3) := by decide +kernel
theorem dX11_faultOf_272 : decode cX11_faultOf 272 = .ok (.iconst (-1), 1) := by decide +kernel
theorem dX11_faultOf_273 : decode cX11_faultOf 273 = .ok (.ireturn, 1) := by decide +kernel
set_option maxRecDepth 20000 in
theorem ggX11_keeps_X11_partsOf : GoodIn wsX11_keeps wsX11_partsOf := goodIn_r _ [10, 11, 32, 33, 34, 35, 36, 37, 38, 39, 40, 41, 42, 43, 44, 45, 46, 47, 48, 49, 50, 51, 52, 53, 54, 55, 56, 57, 58, 59, 60, 61, 62, 63, 64] (by decide +kernel) (by decide +kernel)
set_option maxRecDepth 20000 in
theorem gX11_keeps_X11_partsOf : GoodIn wsX11_keeps (wsV RX11 124 RX11 yX11_partsOf wsX11_partsOf) := goodIn_app (goodIn_of _ (by decide +kernel)) ggX11_keeps_X11_partsOf
set_option maxRecDepth 20000 in
theorem ggX11_keeps_X11_kept : GoodIn wsX11_keeps wsX11_kept := goodIn_r _ [15, 11, 16, 17, 18, 9, 19, 20, 21, 22, 23, 24, 25, 26, 27, 28, 29, 30, 31, 32, 33, 34, 35, 36, 37, 38, 39, 40, 41, 42, 43, 44, 45, 46, 47, 48, 49, 50, 51, 52, 53, 54, 55, 56, 57, 58, 59, 60, 61, 62, 63, 64] (by decide +kernel) (by decide +kernel)
set_option maxRecDepth 20000 in
theorem gX11_keeps_X11_kept : GoodIn wsX11_keeps (wsV RX11 117 RX11 yX11_kept wsX11_kept) := goodIn_app (goodIn_of _ (by decide +kernel)) ggX11_keeps_X11_kept
theorem dX11_keeps_0 : decode cX11_keeps 0 = .ok (.iconst 0, 1) := by decide +kernel
theorem dX11_keeps_1 : decode cX11_keeps 1 = .ok (.istore_n 1, 1) := by decide +kernel
theorem dX11_keeps_2 : decode cX11_keeps 2 = .ok (.aload_n 0, 1) := by decide +kernel
theorem dX11_keeps_3 : decode cX11_keeps 3 = .ok (.iconst 0, 1) := by decide +kernel
theorem dX11_keeps_4 : decode cX11_keeps 4 = .ok (.putfield 233, 3) := by decide +kernel
theorem dX11_keeps_7 : decode cX11_keeps 7 = .ok (.iconst 0, 1) := by decide +kernel
theorem dX11_keeps_8 : decode cX11_keeps 8 = .ok (.istore_n 2, 1) := by decide +kernel
theorem dX11_keeps_9 : decode cX11_keeps 9 = .ok (.iload_n 2, 1) := by decide +kernel
theorem dX11_keeps_10 : decode cX11_keeps 10 = .ok (.aload_n 0, 1) := by decide +kernel
theorem dX11_keeps_11 : decode cX11_keeps 11 = .ok (.getfield 230, 3) := by decide +kernel
theorem dX11_keeps_14 : decode cX11_keeps 14 = .ok (.if_icmp .ge 191, 3) := by decide +kernel
theorem dX11_keeps_17 : decode cX11_keeps 17 = .ok (.aload_n 0, 1) := by decide +kernel
theorem dX11_keeps_18 : decode cX11_keeps 18 = .ok (.getfield 51, 3) := by decide +kernel
theorem dX11_keeps_21 : decode cX11_keeps 21 = .ok (.iload_n 2, 1) := by decide +kernel
theorem dX11_keeps_22 : decode cX11_keeps 22 = .ok (.iaload, 1) := by decide +kernel
theorem dX11_keeps_23 : decode cX11_keeps 23 = .ok (.istore_n 3, 1) := by decide +kernel
theorem dX11_keeps_24 : decode cX11_keeps 24 = .ok (.iconst 0, 1) := by decide +kernel
theorem dX11_keeps_25 : decode cX11_keeps 25 = .ok (.istore 4, 2) := by decide +kernel
theorem dX11_keeps_27 : decode cX11_keeps 27 = .ok (.iload_n 3, 1) := by decide +kernel
theorem dX11_keeps_28 : decode cX11_keeps 28 = .ok (.bipush 40, 2) := by decide +kernel
theorem dX11_keeps_30 : decode cX11_keeps 30 = .ok (.if_icmp .ne 16, 3) := by decide +kernel
theorem dX11_keeps_33 : decode cX11_keeps 33 = .ok (.aload_n 0, 1) := by decide +kernel
theorem dX11_keeps_34 : decode cX11_keeps 34 = .ok (.dup, 1) := by decide +kernel
theorem dX11_keeps_35 : decode cX11_keeps 35 = .ok (.getfield 233, 3) := by decide +kernel
theorem dX11_keeps_38 : decode cX11_keeps 38 = .ok (.iconst 1, 1) := by decide +kernel
theorem dX11_keeps_39 : decode cX11_keeps 39 = .ok (.iadd, 1) := by decide +kernel
theorem dX11_keeps_40 : decode cX11_keeps 40 = .ok (.putfield 233, 3) := by decide +kernel
theorem dX11_keeps_43 : decode cX11_keeps 43 = .ok (.goto 148, 3) := by decide +kernel
theorem dX11_keeps_46 : decode cX11_keeps 46 = .ok (.iload_n 3, 1) := by decide +kernel
theorem dX11_keeps_47 : decode cX11_keeps 47 = .ok (.bipush 43, 2) := by decide +kernel
theorem dX11_keeps_49 : decode cX11_keeps 49 = .ok (.if_icmp .eq 9, 3) := by decide +kernel
theorem dX11_keeps_52 : decode cX11_keeps 52 = .ok (.iload_n 3, 1) := by decide +kernel
theorem dX11_keeps_53 : decode cX11_keeps 53 = .ok (.bipush 124, 2) := by decide +kernel
theorem dX11_keeps_55 : decode cX11_keeps 55 = .ok (.if_icmp .ne 28, 3) := by decide +kernel
theorem dX11_keeps_58 : decode cX11_keeps 58 = .ok (.aload_n 0, 1) := by decide +kernel
theorem dX11_keeps_59 : decode cX11_keeps 59 = .ok (.getfield 54, 3) := by decide +kernel
theorem dX11_keeps_62 : decode cX11_keeps 62 = .ok (.aload_n 0, 1) := by decide +kernel
theorem dX11_keeps_63 : decode cX11_keeps 63 = .ok (.getfield 233, 3) := by decide +kernel
theorem dX11_keeps_66 : decode cX11_keeps 66 = .ok (.iconst 1, 1) := by decide +kernel
theorem dX11_keeps_67 : decode cX11_keeps 67 = .ok (.isub, 1) := by decide +kernel
theorem dX11_keeps_68 : decode cX11_keeps 68 = .ok (.iload_n 3, 1) := by decide +kernel
theorem dX11_keeps_69 : decode cX11_keeps 69 = .ok (.bipush 43, 2) := by decide +kernel
theorem dX11_keeps_71 : decode cX11_keeps 71 = .ok (.if_icmp .ne 7, 3) := by decide +kernel
theorem dX11_keeps_74 : decode cX11_keeps 74 = .ok (.iconst 1, 1) := by decide +kernel
theorem dX11_keeps_75 : decode cX11_keeps 75 = .ok (.goto 4, 3) := by decide +kernel
theorem dX11_keeps_78 : decode cX11_keeps 78 = .ok (.iconst 2, 1) := by decide +kernel
theorem dX11_keeps_79 : decode cX11_keeps 79 = .ok (.iastore, 1) := by decide +kernel
theorem dX11_keeps_80 : decode cX11_keeps 80 = .ok (.goto 111, 3) := by decide +kernel
theorem dX11_keeps_83 : decode cX11_keeps 83 = .ok (.iload_n 3, 1) := by decide +kernel
theorem dX11_keeps_84 : decode cX11_keeps 84 = .ok (.bipush 41, 2) := by decide +kernel
theorem dX11_keeps_86 : decode cX11_keeps 86 = .ok (.if_icmp .ne 81, 3) := by decide +kernel
theorem dX11_keeps_89 : decode cX11_keeps 89 = .ok (.aload_n 0, 1) := by decide +kernel
theorem dX11_keeps_90 : decode cX11_keeps 90 = .ok (.dup, 1) := by decide +kernel
theorem dX11_keeps_91 : decode cX11_keeps 91 = .ok (.getfield 233, 3) := by decide +kernel
theorem dX11_keeps_94 : decode cX11_keeps 94 = .ok (.iconst 1, 1) := by decide +kernel
theorem dX11_keeps_95 : decode cX11_keeps 95 = .ok (.isub, 1) := by decide +kernel
theorem dX11_keeps_96 : decode cX11_keeps 96 = .ok (.putfield 233, 3) := by decide +kernel
theorem dX11_keeps_99 : decode cX11_keeps 99 = .ok (.iinc 1 (-1), 3) := by decide +kernel
theorem dX11_keeps_102 : decode cX11_keeps 102 = .ok (.aload_n 0, 1) := by decide +kernel
theorem dX11_keeps_103 : decode cX11_keeps 103 = .ok (.aload_n 0, 1) := by decide +kernel
theorem dX11_keeps_104 : decode cX11_keeps 104 = .ok (.getfield 54, 3) := by decide +kernel
theorem dX11_keeps_107 : decode cX11_keeps 107 = .ok (.aload_n 0, 1) := by decide +kernel
theorem dX11_keeps_108 : decode cX11_keeps 108 = .ok (.getfield 233, 3) := by decide +kernel
theorem dX11_keeps_111 : decode cX11_keeps 111 = .ok (.iaload, 1) := by decide +kernel
theorem dX11_keeps_112 : decode cX11_keeps 112 = .ok (.aload_n 0, 1) := by decide +kernel
theorem dX11_keeps_113 : decode cX11_keeps 113 = .ok (.getfield 57, 3) := by decide +kernel
theorem dX11_keeps_116 : decode cX11_keeps 116 = .ok (.iload_n 1, 1) := by decide +kernel
theorem dX11_keeps_117 : decode cX11_keeps 117 = .ok (.iconst 1, 1) := by decide +kernel
theorem dX11_keeps_118 : decode cX11_keeps 118 = .ok (.isub, 1) := by decide +kernel
theorem dX11_keeps_119 : decode cX11_keeps 119 = .ok (.iaload, 1) := by decide +kernel
theorem dX11_keeps_120 : decode cX11_keeps 120 = .ok (.aload_n 0, 1) := by decide +kernel
theorem dX11_keeps_121 : decode cX11_keeps 121 = .ok (.getfield 57, 3) := by decide +kernel
theorem dX11_keeps_124 : decode cX11_keeps 124 = .ok (.iload_n 1, 1) := by decide +kernel
theorem dX11_keeps_125 : decode cX11_keeps 125 = .ok (.iaload, 1) := by decide +kernel
theorem dX11_keeps_126 : decode cX11_keeps 126 = .ok (.aload_n 0, 1) := by decide +kernel
theorem dX11_keeps_127 : decode cX11_keeps 127 = .ok (.aload_n 0, 1) := by decide +kernel
theorem dX11_keeps_128 : decode cX11_keeps 128 = .ok (.getfield 57, 3) := by decide +kernel
theorem dX11_keeps_131 : decode cX11_keeps 131 = .ok (.iload_n 1, 1) := by decide +kernel
theorem dX11_keeps_132 : decode cX11_keeps 132 = .ok (.iconst 1, 1) := by decide +kernel
theorem dX11_keeps_133 : decode cX11_keeps 133 = .ok (.isub, 1) := by decide +kernel
theorem dX11_keeps_134 : decode cX11_keeps 134 = .ok (.iaload, 1) := by decide +kernel
theorem dX11_keeps_135 : decode cX11_keeps 135 = .ok (.invokevirtual 124, 3) := by decide +kernel
theorem dX11_keeps_138 : decode cX11_keeps 138 = .ok (.aload_n 0, 1) := by decide +kernel
theorem dX11_keeps_139 : decode cX11_keeps 139 = .ok (.aload_n 0, 1) := by decide +kernel
theorem dX11_keeps_140 : decode cX11_keeps 140 = .ok (.getfield 57, 3) := by decide +kernel
theorem dX11_keeps_143 : decode cX11_keeps 143 = .ok (.iload_n 1, 1) := by decide +kernel
theorem dX11_keeps_144 : decode cX11_keeps 144 = .ok (.iaload, 1) := by decide +kernel
theorem dX11_keeps_145 : decode cX11_keeps 145 = .ok (.invokevirtual 124, 3) := by decide +kernel
theorem dX11_keeps_148 : decode cX11_keeps 148 = .ok (.iadd, 1) := by decide +kernel
theorem dX11_keeps_149 : decode cX11_keeps 149 = .ok (.invokevirtual 117, 3) := by decide +kernel
theorem dX11_keeps_152 : decode cX11_keeps 152 = .ok (.istore 4, 2) := by decide +kernel
theorem dX11_keeps_154 : decode cX11_keeps 154 = .ok (.aload_n 0, 1) := by decide +kernel
theorem dX11_keeps_155 : decode cX11_keeps 155 = .ok (.getfield 57, 3) := by decide +kernel
theorem dX11_keeps_158 : decode cX11_keeps 158 = .ok (.iload_n 1, 1) := by decide +kernel
theorem dX11_keeps_159 : decode cX11_keeps 159 = .ok (.iconst 1, 1) := by decide +kernel
theorem dX11_keeps_160 : decode cX11_keeps 160 = .ok (.isub, 1) := by decide +kernel
theorem dX11_keeps_161 : decode cX11_keeps 161 = .ok (.iload 4, 2) := by decide +kernel
theorem dX11_keeps_163 : decode cX11_keeps 163 = .ok (.iastore, 1) := by decide +kernel
theorem dX11_keeps_164 : decode cX11_keeps 164 = .ok (.goto 27, 3) := by decide +kernel
theorem dX11_keeps_167 : decode cX11_keeps 167 = .ok (.aload_n 0, 1) := by decide +kernel
theorem dX11_keeps_168 : decode cX11_keeps 168 = .ok (.iconst 0, 1) := by decide +kernel
theorem dX11_keeps_169 : decode cX11_keeps 169 = .ok (.iload_n 3, 1) := by decide +kernel
theorem dX11_keeps_170 : decode cX11_keeps 170 = .ok (.bipush 97, 2) := by decide +kernel
theorem dX11_keeps_172 : decode cX11_keeps 172 = .ok (.isub, 1) := by decide +kernel
theorem dX11_keeps_173 : decode cX11_keeps 173 = .ok (.iconst 0, 1) := by decide +kernel
theorem dX11_keeps_174 : decode cX11_keeps 174 = .ok (.iconst 1, 1) := by decide +kernel
theorem dX11_keeps_175 : decode cX11_keeps 175 = .ok (.invokevirtual 117, 3) := by decide +kernel
theorem dX11_keeps_178 : decode cX11_keeps 178 = .ok (.istore 4, 2) := by decide +kernel
theorem dX11_keeps_180 : decode cX11_keeps 180 = .ok (.aload_n 0, 1) := by decide +kernel
theorem dX11_keeps_181 : decode cX11_keeps 181 = .ok (.getfield 57, 3) := by decide +kernel
theorem dX11_keeps_184 : decode cX11_keeps 184 = .ok (.iload_n 1, 1) := by decide +kernel
theorem dX11_keeps_185 : decode cX11_keeps 185 = .ok (.iload 4, 2) := by decide +kernel
theorem dX11_keeps_187 : decode cX11_keeps 187 = .ok (.iastore, 1) := by decide +kernel
theorem dX11_keeps_188 : decode cX11_keeps 188 = .ok (.iinc 1 1, 3) := by decide +kernel
theorem dX11_keeps_191 : decode cX11_keeps 191 = .ok (.iload 4, 2) := by decide +kernel
theorem dX11_keeps_193 : decode cX11_keeps 193 = .ok (.ifCond .ge 6, 3) := by decide +kernel
theorem dX11_keeps_196 : decode cX11_keeps 196 = .ok (.bipush (-3), 2) := by decide +kernel
theorem dX11_keeps_198 : decode cX11_keeps 198 = .ok (.ireturn, 1) := by decide +kernel
theorem dX11_keeps_199 : decode cX11_keeps 199 = .ok (.iinc 2 1, 3) := by decide +kernel
theorem dX11_keeps_202 : decode cX11_keeps 202 = .ok (.goto (-193), 3) := by decide +kernel
theorem dX11_keeps_205 : decode cX11_keeps 205 = .ok (.aload_n 0, 1) := by decide +kernel
theorem dX11_keeps_206 : decode cX11_keeps 206 = .ok (.getfield 57, 3) := by decide +kernel
theorem dX11_keeps_209 : decode cX11_keeps 209 = .ok (.iconst 0, 1) := by decide +kernel
theorem dX11_keeps_210 : decode cX11_keeps 210 = .ok (.iaload, 1) := by decide +kernel
theorem dX11_keeps_211 : decode cX11_keeps 211 = .ok (.ireturn, 1) := by decide +kernel
set_option maxRecDepth 20000 in
theorem ggX11_read_X11_faultOf : GoodIn wsX11_read wsX11_faultOf := goodIn_r _ [6, 7, 1, 8, 9, 10, 11, 12, 13, 5, 14, 15, 16, 17, 18, 19, 20, 21, 22, 23, 53, 54, 55, 56, 57, 58, 59, 60, 61, 62, 63, 64, 65, 66, 67, 68, 69, 70, 71, 72, 73, 74, 75, 76, 77, 78, 79, 80, 81, 82, 83, 84, 85] (by decide +kernel) (by decide +kernel)
set_option maxRecDepth 20000 in
theorem gX11_read_X11_faultOf : GoodIn wsX11_read (wsV RX11 240 RX11 yX11_faultOf wsX11_faultOf) := goodIn_app (goodIn_of _ (by decide +kernel)) ggX11_read_X11_faultOf
set_option maxRecDepth 20000 in
theorem ggX11_read_X11_keeps : GoodIn wsX11_read wsX11_keeps := goodIn_r _ [27, 7, 1, 8, 11, 28, 29, 30, 31, 5, 32, 19, 33, 34, 35, 36, 37, 38, 39, 40, 41, 42, 43, 44, 45, 46, 47, 48, 49, 50, 51, 52, 53, 54, 55, 56, 57, 58, 59, 60, 61, 62, 63, 64, 65, 66, 67, 68, 69, 70, 71, 72, 73, 74, 75, 76, 77, 78, 79, 80, 81, 82, 83, 84, 85] (by decide +kernel) (by decide +kernel)
set_option maxRecDepth 20000 in
theorem gX11_read_X11_keeps : GoodIn wsX11_read (wsV RX11 244 RX11 yX11_keeps wsX11_keeps) := goodIn_app (goodIn_of _ (by decide +kernel)) ggX11_read_X11_keeps
theorem dX11_read_0 : decode cX11_read 0 = .ok (.aload_n 0, 1) := by decide +kernel
theorem dX11_read_1 : decode cX11_read 1 = .ok (.invokevirtual 240, 3) := by decide +kernel
theorem dX11_read_4 : decode cX11_read 4 = .ok (.istore_n 1, 1) := by decide +kernel
theorem dX11_read_5 : decode cX11_read 5 = .ok (.iload_n 1, 1) := by decide +kernel
theorem dX11_read_6 : decode cX11_read 6 = .ok (.ifCond .lt 10, 3) := by decide +kernel
theorem dX11_read_9 : decode cX11_read 9 = .ok (.bipush (-100), 2) := by decide +kernel
theorem dX11_read_11 : decode cX11_read 11 = .ok (.iload_n 1, 1) := by decide +kernel
theorem dX11_read_12 : decode cX11_read 12 = .ok (.isub, 1) := by decide +kernel
theorem dX11_read_13 : decode cX11_read 13 = .ok (.goto 7, 3) := by decide +kernel
theorem dX11_read_16 : decode cX11_read 16 = .ok (.aload_n 0, 1) := by decide +kernel
theorem dX11_read_17 : decode cX11_read 17 = .ok (.invokevirtual 244, 3) := by decide +kernel
theorem dX11_read_20 : decode cX11_read 20 = .ok (.istore_n 2, 1) := by decide +kernel
theorem dX11_read_21 : decode cX11_read 21 = .ok (.aload_n 0, 1) := by decide +kernel
theorem dX11_read_22 : decode cX11_read 22 = .ok (.iconst 0, 1) := by decide +kernel
theorem dX11_read_23 : decode cX11_read 23 = .ok (.putfield 230, 3) := by decide +kernel
theorem dX11_read_26 : decode cX11_read 26 = .ok (.iload_n 2, 1) := by decide +kernel
theorem dX11_read_27 : decode cX11_read 27 = .ok (.ireturn, 1) := by decide +kernel
theorem dX11_prints_0 : decode cX11_prints 0 = .ok (.aload_n 0, 1) := by decide +kernel
theorem dX11_prints_1 : decode cX11_prints 1 = .ok (.getfield 60, 3) := by decide +kernel
theorem dX11_prints_4 : decode cX11_prints 4 = .ok (.aload_n 0, 1) := by decide +kernel
theorem dX11_prints_5 : decode cX11_prints 5 = .ok (.getfield 247, 3) := by decide +kernel
theorem dX11_prints_8 : decode cX11_prints 8 = .ok (.iload_n 1, 1) := by decide +kernel
theorem dX11_prints_9 : decode cX11_prints 9 = .ok (.iastore, 1) := by decide +kernel
theorem dX11_prints_10 : decode cX11_prints 10 = .ok (.aload_n 0, 1) := by decide +kernel
theorem dX11_prints_11 : decode cX11_prints 11 = .ok (.dup, 1) := by decide +kernel
theorem dX11_prints_12 : decode cX11_prints 12 = .ok (.getfield 247, 3) := by decide +kernel
theorem dX11_prints_15 : decode cX11_prints 15 = .ok (.iconst 1, 1) := by decide +kernel
theorem dX11_prints_16 : decode cX11_prints 16 = .ok (.iadd, 1) := by decide +kernel
theorem dX11_prints_17 : decode cX11_prints 17 = .ok (.putfield 247, 3) := by decide +kernel
theorem dX11_prints_20 : decode cX11_prints 20 = .ok (.return_, 1) := by decide +kernel
set_option maxRecDepth 20000 in
theorem ggX11_printsAll_X11_prints : GoodIn wsX11_printsAll wsX11_prints := goodIn_r _ [8, 9, 1, 23, 24, 25, 26, 27, 28, 29, 30, 31, 32, 33, 34, 35, 36, 37, 38, 39, 40, 41, 42, 43, 44, 45, 46, 47, 48, 49, 50, 51, 52, 53, 54, 55] (by decide +kernel) (by decide +kernel)
set_option maxRecDepth 20000 in
theorem gX11_printsAll_X11_prints : GoodIn wsX11_printsAll (wsV RX11 250 RX11 yX11_prints wsX11_prints) := goodIn_app (goodIn_of _ (by decide +kernel)) ggX11_printsAll_X11_prints
set_option maxRecDepth 20000 in
theorem ggX11_printsAll_X11_kindOf : GoodIn wsX11_printsAll wsX11_kindOf := goodIn_r _ [13, 14, 23, 24, 25, 26, 27, 28, 29, 30, 31, 32, 33, 34, 35, 36, 37, 38, 39, 40, 41, 42, 43, 44, 45, 46, 47, 48, 49, 50, 51, 52, 53, 54, 55] (by decide +kernel) (by decide +kernel)
set_option maxRecDepth 20000 in
theorem gX11_printsAll_X11_kindOf : GoodIn wsX11_printsAll (wsV RX11 90 RX11 yX11_kindOf wsX11_kindOf) := goodIn_app (goodIn_of _ (by decide +kernel)) ggX11_printsAll_X11_kindOf
set_option maxRecDepth 20000 in
theorem ggX11_printsAll_X11_firstOf : GoodIn wsX11_printsAll wsX11_firstOf := goodIn_r _ [18, 14, 23, 24, 25, 26, 27, 28, 29, 30, 31, 32, 33, 34, 35, 36, 37, 38, 39, 40, 41, 42, 43, 44, 45, 46, 47, 48, 49, 50, 51, 52, 53, 54, 55] (by decide +kernel) (by decide +kernel)
set_option maxRecDepth 20000 in
theorem gX11_printsAll_X11_firstOf : GoodIn wsX11_printsAll (wsV RX11 94 RX11 yX11_firstOf wsX11_firstOf) := goodIn_app (goodIn_of _ (by decide +kernel)) ggX11_printsAll_X11_firstOf
set_option maxRecDepth 20000 in
theorem ggX11_printsAll_X11_secondOf : GoodIn wsX11_printsAll wsX11_secondOf := goodIn_r _ [22, 14, 23, 24, 25, 26, 27, 28, 29, 30, 31, 32, 33, 34, 35, 36, 37, 38, 39, 40, 41, 42, 43, 44, 45, 46, 47, 48, 49, 50, 51, 52, 53, 54, 55] (by decide +kernel) (by decide +kernel)
set_option maxRecDepth 20000 in
theorem gX11_printsAll_X11_secondOf : GoodIn wsX11_printsAll (wsV RX11 97 RX11 yX11_secondOf wsX11_secondOf) := goodIn_app (goodIn_of _ (by decide +kernel)) ggX11_printsAll_X11_secondOf
theorem dX11_printsAll_0 : decode cX11_printsAll 0 = .ok (.aload_n 0, 1) := by decide +kernel
theorem dX11_printsAll_1 : decode cX11_printsAll 1 = .ok (.iconst 0, 1) := by decide +kernel
theorem dX11_printsAll_2 : decode cX11_printsAll 2 = .ok (.putfield 247, 3) := by decide +kernel
theorem dX11_printsAll_5 : decode cX11_printsAll 5 = .ok (.aload_n 0, 1) := by decide +kernel
theorem dX11_printsAll_6 : decode cX11_printsAll 6 = .ok (.iconst 1, 1) := by decide +kernel
theorem dX11_printsAll_7 : decode cX11_printsAll 7 = .ok (.putfield 186, 3) := by decide +kernel
theorem dX11_printsAll_10 : decode cX11_printsAll 10 = .ok (.aload_n 0, 1) := by decide +kernel
theorem dX11_printsAll_11 : decode cX11_printsAll 11 = .ok (.getfield 36, 3) := by decide +kernel
theorem dX11_printsAll_14 : decode cX11_printsAll 14 = .ok (.iconst 0, 1) := by decide +kernel
theorem dX11_printsAll_15 : decode cX11_printsAll 15 = .ok (.iload_n 1, 1) := by decide +kernel
theorem dX11_printsAll_16 : decode cX11_printsAll 16 = .ok (.iastore, 1) := by decide +kernel
theorem dX11_printsAll_17 : decode cX11_printsAll 17 = .ok (.aload_n 0, 1) := by decide +kernel
theorem dX11_printsAll_18 : decode cX11_printsAll 18 = .ok (.getfield 186, 3) := by decide +kernel
theorem dX11_printsAll_21 : decode cX11_printsAll 21 = .ok (.ifCond .le 148, 3) := by decide +kernel
theorem dX11_printsAll_24 : decode cX11_printsAll 24 = .ok (.aload_n 0, 1) := by decide +kernel
theorem dX11_printsAll_25 : decode cX11_printsAll 25 = .ok (.dup, 1) := by decide +kernel
theorem dX11_printsAll_26 : decode cX11_printsAll 26 = .ok (.getfield 186, 3) := by decide +kernel
theorem dX11_printsAll_29 : decode cX11_printsAll 29 = .ok (.iconst 1, 1) := by decide +kernel
theorem dX11_printsAll_30 : decode cX11_printsAll 30 = .ok (.isub, 1) := by decide +kernel
theorem dX11_printsAll_31 : decode cX11_printsAll 31 = .ok (.putfield 186, 3) := by decide +kernel
theorem dX11_printsAll_34 : decode cX11_printsAll 34 = .ok (.aload_n 0, 1) := by decide +kernel
theorem dX11_printsAll_35 : decode cX11_printsAll 35 = .ok (.getfield 36, 3) := by decide +kernel
theorem dX11_printsAll_38 : decode cX11_printsAll 38 = .ok (.aload_n 0, 1) := by decide +kernel
theorem dX11_printsAll_39 : decode cX11_printsAll 39 = .ok (.getfield 186, 3) := by decide +kernel
theorem dX11_printsAll_42 : decode cX11_printsAll 42 = .ok (.iaload, 1) := by decide +kernel
theorem dX11_printsAll_43 : decode cX11_printsAll 43 = .ok (.istore_n 2, 1) := by decide +kernel
theorem dX11_printsAll_44 : decode cX11_printsAll 44 = .ok (.iload_n 2, 1) := by decide +kernel
theorem dX11_printsAll_45 : decode cX11_printsAll 45 = .ok (.ifCond .ge 12, 3) := by decide +kernel
theorem dX11_printsAll_48 : decode cX11_printsAll 48 = .ok (.aload_n 0, 1) := by decide +kernel
theorem dX11_printsAll_49 : decode cX11_printsAll 49 = .ok (.iload_n 2, 1) := by decide +kernel
theorem dX11_printsAll_50 : decode cX11_printsAll 50 = .ok (.ineg, 1) := by decide +kernel
theorem dX11_printsAll_51 : decode cX11_printsAll 51 = .ok (.invokevirtual 250, 3) := by decide +kernel
theorem dX11_printsAll_54 : decode cX11_printsAll 54 = .ok (.goto 112, 3) := by decide +kernel
theorem dX11_printsAll_57 : decode cX11_printsAll 57 = .ok (.aload_n 0, 1) := by decide +kernel
theorem dX11_printsAll_58 : decode cX11_printsAll 58 = .ok (.iload_n 2, 1) := by decide +kernel
theorem dX11_printsAll_59 : decode cX11_printsAll 59 = .ok (.invokevirtual 90, 3) := by decide +kernel
theorem dX11_printsAll_62 : decode cX11_printsAll 62 = .ok (.ifCond .ne 18, 3) := by decide +kernel
theorem dX11_printsAll_65 : decode cX11_printsAll 65 = .ok (.aload_n 0, 1) := by decide +kernel
theorem dX11_printsAll_66 : decode cX11_printsAll 66 = .ok (.bipush 97, 2) := by decide +kernel
theorem dX11_printsAll_68 : decode cX11_printsAll 68 = .ok (.aload_n 0, 1) := by decide +kernel
theorem dX11_printsAll_69 : decode cX11_printsAll 69 = .ok (.iload_n 2, 1) := by decide +kernel
theorem dX11_printsAll_70 : decode cX11_printsAll 70 = .ok (.invokevirtual 94, 3) := by decide +kernel
theorem dX11_printsAll_73 : decode cX11_printsAll 73 = .ok (.iadd, 1) := by decide +kernel
theorem dX11_printsAll_74 : decode cX11_printsAll 74 = .ok (.invokevirtual 250, 3) := by decide +kernel
theorem dX11_printsAll_77 : decode cX11_printsAll 77 = .ok (.goto 89, 3) := by decide +kernel
theorem dX11_printsAll_80 : decode cX11_printsAll 80 = .ok (.aload_n 0, 1) := by decide +kernel
theorem dX11_printsAll_81 : decode cX11_printsAll 81 = .ok (.bipush 40, 2) := by decide +kernel
theorem dX11_printsAll_83 : decode cX11_printsAll 83 = .ok (.invokevirtual 250, 3) := by decide +kernel
theorem dX11_printsAll_86 : decode cX11_printsAll 86 = .ok (.aload_n 0, 1) := by decide +kernel
theorem dX11_printsAll_87 : decode cX11_printsAll 87 = .ok (.getfield 36, 3) := by decide +kernel
theorem dX11_printsAll_90 : decode cX11_printsAll 90 = .ok (.aload_n 0, 1) := by decide +kernel
theorem dX11_printsAll_91 : decode cX11_printsAll 91 = .ok (.getfield 186, 3) := by decide +kernel
theorem dX11_printsAll_94 : decode cX11_printsAll 94 = .ok (.bipush (-41), 2) := by decide +kernel
theorem dX11_printsAll_96 : decode cX11_printsAll 96 = .ok (.iastore, 1) := by decide +kernel
theorem dX11_printsAll_97 : decode cX11_printsAll 97 = .ok (.aload_n 0, 1) := by decide +kernel
theorem dX11_printsAll_98 : decode cX11_printsAll 98 = .ok (.getfield 36, 3) := by decide +kernel
theorem dX11_printsAll_101 : decode cX11_printsAll 101 = .ok (.aload_n 0, 1) := by decide +kernel
theorem dX11_printsAll_102 : decode cX11_printsAll 102 = .ok (.getfield 186, 3) := by decide +kernel
theorem dX11_printsAll_105 : decode cX11_printsAll 105 = .ok (.iconst 1, 1) := by decide +kernel
theorem dX11_printsAll_106 : decode cX11_printsAll 106 = .ok (.iadd, 1) := by decide +kernel
theorem dX11_printsAll_107 : decode cX11_printsAll 107 = .ok (.aload_n 0, 1) := by decide +kernel
theorem dX11_printsAll_108 : decode cX11_printsAll 108 = .ok (.iload_n 2, 1) := by decide +kernel
theorem dX11_printsAll_109 : decode cX11_printsAll 109 = .ok (.invokevirtual 97, 3) := by decide +kernel
theorem dX11_printsAll_112 : decode cX11_printsAll 112 = .ok (.iastore, 1) := by decide +kernel
theorem dX11_printsAll_113 : decode cX11_printsAll 113 = .ok (.aload_n 0, 1) := by decide +kernel
theorem dX11_printsAll_114 : decode cX11_printsAll 114 = .ok (.getfield 36, 3) := by decide +kernel
theorem dX11_printsAll_117 : decode cX11_printsAll 117 = .ok (.aload_n 0, 1) := by decide +kernel
theorem dX11_printsAll_118 : decode cX11_printsAll 118 = .ok (.getfield 186, 3) := by decide +kernel
theorem dX11_printsAll_121 : decode cX11_printsAll 121 = .ok (.iconst 2, 1) := by decide +kernel
theorem dX11_printsAll_122 : decode cX11_printsAll 122 = .ok (.iadd, 1) := by decide +kernel
theorem dX11_printsAll_123 : decode cX11_printsAll 123 = .ok (.aload_n 0, 1) := by decide +kernel
theorem dX11_printsAll_124 : decode cX11_printsAll 124 = .ok (.iload_n 2, 1) := by decide +kernel
theorem dX11_printsAll_125 : decode cX11_printsAll 125 = .ok (.invokevirtual 90, 3) := by decide +kernel
theorem dX11_printsAll_128 : decode cX11_printsAll 128 = .ok (.iconst 1, 1) := by decide +kernel
theorem dX11_printsAll_129 : decode cX11_printsAll 129 = .ok (.if_icmp .ne 8, 3) := by decide +kernel
theorem dX11_printsAll_132 : decode cX11_printsAll 132 = .ok (.bipush (-43), 2) := by decide +kernel
theorem dX11_printsAll_134 : decode cX11_printsAll 134 = .ok (.goto 5, 3) := by decide +kernel
theorem dX11_printsAll_137 : decode cX11_printsAll 137 = .ok (.bipush (-124), 2) := by decide +kernel
theorem dX11_printsAll_139 : decode cX11_printsAll 139 = .ok (.iastore, 1) := by decide +kernel
theorem dX11_printsAll_140 : decode cX11_printsAll 140 = .ok (.aload_n 0, 1) := by decide +kernel
theorem dX11_printsAll_141 : decode cX11_printsAll 141 = .ok (.getfield 36, 3) := by decide +kernel
theorem dX11_printsAll_144 : decode cX11_printsAll 144 = .ok (.aload_n 0, 1) := by decide +kernel
theorem dX11_printsAll_145 : decode cX11_printsAll 145 = .ok (.getfield 186, 3) := by decide +kernel
theorem dX11_printsAll_148 : decode cX11_printsAll 148 = .ok (.iconst 3, 1) := by decide +kernel
theorem dX11_printsAll_149 : decode cX11_printsAll 149 = .ok (.iadd, 1) := by decide +kernel
theorem dX11_printsAll_150 : decode cX11_printsAll 150 = .ok (.aload_n 0, 1) := by decide +kernel
theorem dX11_printsAll_151 : decode cX11_printsAll 151 = .ok (.iload_n 2, 1) := by decide +kernel
theorem dX11_printsAll_152 : decode cX11_printsAll 152 = .ok (.invokevirtual 94, 3) := by decide +kernel
theorem dX11_printsAll_155 : decode cX11_printsAll 155 = .ok (.iastore, 1) := by decide +kernel
theorem dX11_printsAll_156 : decode cX11_printsAll 156 = .ok (.aload_n 0, 1) := by decide +kernel
theorem dX11_printsAll_157 : decode cX11_printsAll 157 = .ok (.dup, 1) := by decide +kernel
theorem dX11_printsAll_158 : decode cX11_printsAll 158 = .ok (.getfield 186, 3) := by decide +kernel
theorem dX11_printsAll_161 : decode cX11_printsAll 161 = .ok (.iconst 4, 1) := by decide +kernel
theorem dX11_printsAll_162 : decode cX11_printsAll 162 = .ok (.iadd, 1) := by decide +kernel
theorem dX11_printsAll_163 : decode cX11_printsAll 163 = .ok (.putfield 186, 3) := by decide +kernel
theorem dX11_printsAll_166 : decode cX11_printsAll 166 = .ok (.goto (-149), 3) := by decide +kernel
theorem dX11_printsAll_169 : decode cX11_printsAll 169 = .ok (.return_, 1) := by decide +kernel
set_option maxRecDepth 20000 in
theorem ggX11_print_X11_isNet : GoodIn wsX11_print wsX11_isNet := goodIn_r _ [7, 8, 9, 10, 6, 11, 34, 35, 36, 37, 38, 39, 40, 41, 42, 43, 44, 45, 46, 47, 48, 49, 50, 51, 52, 53, 54, 55, 56, 57, 58, 59, 60, 61, 62, 63, 64, 65, 66] (by decide +kernel) (by decide +kernel)
set_option maxRecDepth 20000 in
theorem gX11_print_X11_isNet : GoodIn wsX11_print (wsV RX11 121 RX11 yX11_isNet wsX11_isNet) := goodIn_app (goodIn_of _ (by decide +kernel)) ggX11_print_X11_isNet
set_option maxRecDepth 20000 in
theorem ggX11_print_X11_printsAll : GoodIn wsX11_print wsX11_printsAll := goodIn_r _ [15, 1, 16, 17, 18, 19, 20, 6, 21, 2, 22, 23, 24, 25, 8, 26, 27, 28, 29, 30, 31, 32, 33, 34, 35, 36, 37, 38, 39, 40, 41, 42, 43, 44, 45, 46, 47, 48, 49, 50, 51, 52, 53, 54, 55, 56, 57, 58, 59, 60, 61, 62, 63, 64, 65, 66] (by decide +kernel) (by decide +kernel)
set_option maxRecDepth 20000 in
theorem gX11_print_X11_printsAll : GoodIn wsX11_print (wsV RX11 253 RX11 yX11_printsAll wsX11_printsAll) := goodIn_app (goodIn_of _ (by decide +kernel)) ggX11_print_X11_printsAll
theorem dX11_print_0 : decode cX11_print 0 = .ok (.aload_n 0, 1) := by decide +kernel
theorem dX11_print_1 : decode cX11_print 1 = .ok (.iload_n 1, 1) := by decide +kernel
theorem dX11_print_2 : decode cX11_print 2 = .ok (.invokevirtual 121, 3) := by decide +kernel
theorem dX11_print_5 : decode cX11_print 5 = .ok (.ifCond .eq 8, 3) := by decide +kernel
theorem dX11_print_8 : decode cX11_print 8 = .ok (.iload_n 2, 1) := by decide +kernel
theorem dX11_print_9 : decode cX11_print 9 = .ok (.iconst (-1), 1) := by decide +kernel
theorem dX11_print_10 : decode cX11_print 10 = .ok (.if_icmp .ge 5, 3) := by decide +kernel
theorem dX11_print_13 : decode cX11_print 13 = .ok (.iconst (-1), 1) := by decide +kernel
theorem dX11_print_14 : decode cX11_print 14 = .ok (.ireturn, 1) := by decide +kernel
theorem dX11_print_15 : decode cX11_print 15 = .ok (.aload_n 0, 1) := by decide +kernel
theorem dX11_print_16 : decode cX11_print 16 = .ok (.iload_n 1, 1) := by decide +kernel
theorem dX11_print_17 : decode cX11_print 17 = .ok (.invokevirtual 253, 3) := by decide +kernel
theorem dX11_print_20 : decode cX11_print 20 = .ok (.iload_n 2, 1) := by decide +kernel
theorem dX11_print_21 : decode cX11_print 21 = .ok (.iconst (-1), 1) := by decide +kernel
theorem dX11_print_22 : decode cX11_print 22 = .ok (.if_icmp .ne 10, 3) := by decide +kernel
theorem dX11_print_25 : decode cX11_print 25 = .ok (.aload_n 0, 1) := by decide +kernel
theorem dX11_print_26 : decode cX11_print 26 = .ok (.getfield 247, 3) := by decide +kernel
