theorem dX11_print_29 : decode cX11_print 29 = .ok (.goto 22, 3) := by decide +kernel
theorem dX11_print_32 : decode cX11_print 32 = .ok (.iload_n 2, 1) := by decide +kernel
theorem dX11_print_33 : decode cX11_print 33 = .ok (.aload_n 0, 1) := by decide +kernel
theorem dX11_print_34 : decode cX11_print 34 = .ok (.getfield 247, 3) := by decide +kernel
theorem dX11_print_37 : decode cX11_print 37 = .ok (.if_icmp .ge 12, 3) := by decide +kernel
theorem dX11_print_40 : decode cX11_print 40 = .ok (.aload_n 0, 1) := by decide +kernel
theorem dX11_print_41 : decode cX11_print 41 = .ok (.getfield 60, 3) := by decide +kernel
theorem dX11_print_44 : decode cX11_print 44 = .ok (.iload_n 2, 1) := by decide +kernel
theorem dX11_print_45 : decode cX11_print 45 = .ok (.iaload, 1) := by decide +kernel
theorem dX11_print_46 : decode cX11_print 46 = .ok (.goto 5, 3) := by decide +kernel
theorem dX11_print_49 : decode cX11_print 49 = .ok (.bipush (-2), 2) := by decide +kernel
theorem dX11_print_51 : decode cX11_print 51 = .ok (.ireturn, 1) := by decide +kernel
theorem dX11_reachedAt_0 : decode cX11_reachedAt 0 = .ok (.iconst 0, 1) := by decide +kernel
theorem dX11_reachedAt_1 : decode cX11_reachedAt 1 = .ok (.istore 5, 2) := by decide +kernel
theorem dX11_reachedAt_3 : decode cX11_reachedAt 3 = .ok (.iload 5, 2) := by decide +kernel
theorem dX11_reachedAt_5 : decode cX11_reachedAt 5 = .ok (.aload_n 0, 1) := by decide +kernel
theorem dX11_reachedAt_6 : decode cX11_reachedAt 6 = .ok (.getfield 256, 3) := by decide +kernel
theorem dX11_reachedAt_9 : decode cX11_reachedAt 9 = .ok (.if_icmp .ge 36, 3) := by decide +kernel
theorem dX11_reachedAt_12 : decode cX11_reachedAt 12 = .ok (.aload_n 0, 1) := by decide +kernel
theorem dX11_reachedAt_13 : decode cX11_reachedAt 13 = .ok (.getfield 63, 3) := by decide +kernel
theorem dX11_reachedAt_16 : decode cX11_reachedAt 16 = .ok (.iload 5, 2) := by decide +kernel
theorem dX11_reachedAt_18 : decode cX11_reachedAt 18 = .ok (.laload, 1) := by decide +kernel
theorem dX11_reachedAt_19 : decode cX11_reachedAt 19 = .ok (.lload_n 1, 1) := by decide +kernel
theorem dX11_reachedAt_20 : decode cX11_reachedAt 20 = .ok (.lcmp, 1) := by decide +kernel
theorem dX11_reachedAt_21 : decode cX11_reachedAt 21 = .ok (.ifCond .ne 18, 3) := by decide +kernel
theorem dX11_reachedAt_24 : decode cX11_reachedAt 24 = .ok (.aload_n 0, 1) := by decide +kernel
theorem dX11_reachedAt_25 : decode cX11_reachedAt 25 = .ok (.getfield 66, 3) := by decide +kernel
theorem dX11_reachedAt_28 : decode cX11_reachedAt 28 = .ok (.iload 5, 2) := by decide +kernel
theorem dX11_reachedAt_30 : decode cX11_reachedAt 30 = .ok (.laload, 1) := by decide +kernel
theorem dX11_reachedAt_31 : decode cX11_reachedAt 31 = .ok (.lload_n 3, 1) := by decide +kernel
theorem dX11_reachedAt_32 : decode cX11_reachedAt 32 = .ok (.lcmp, 1) := by decide +kernel
theorem dX11_reachedAt_33 : decode cX11_reachedAt 33 = .ok (.ifCond .ne 6, 3) := by decide +kernel
theorem dX11_reachedAt_36 : decode cX11_reachedAt 36 = .ok (.iload 5, 2) := by decide +kernel
theorem dX11_reachedAt_38 : decode cX11_reachedAt 38 = .ok (.ireturn, 1) := by decide +kernel
theorem dX11_reachedAt_39 : decode cX11_reachedAt 39 = .ok (.iinc 5 1, 3) := by decide +kernel
theorem dX11_reachedAt_42 : decode cX11_reachedAt 42 = .ok (.goto (-39), 3) := by decide +kernel
theorem dX11_reachedAt_45 : decode cX11_reachedAt 45 = .ok (.iconst (-1), 1) := by decide +kernel
theorem dX11_reachedAt_46 : decode cX11_reachedAt 46 = .ok (.ireturn, 1) := by decide +kernel
set_option maxRecDepth 20000 in
theorem ggX11_reaches_X11_reachedAt : GoodIn wsX11_reaches wsX11_reachedAt := goodIn_r _ [13, 4, 3, 5, 14, 15, 16, 17, 18, 19, 20, 21, 22, 23, 24, 25, 26, 27, 28, 29, 30, 31, 32, 33, 34, 35, 36, 37, 38, 39, 40, 41, 42, 43, 44, 45, 46] (by decide +kernel) (by decide +kernel)
set_option maxRecDepth 20000 in
theorem gX11_reaches_X11_reachedAt : GoodIn wsX11_reaches (wsV RX11 259 RX11 yX11_reachedAt wsX11_reachedAt) := goodIn_app (goodIn_of _ (by decide +kernel)) ggX11_reaches_X11_reachedAt
theorem dX11_reaches_0 : decode cX11_reaches 0 = .ok (.aload_n 0, 1) := by decide +kernel
theorem dX11_reaches_1 : decode cX11_reaches 1 = .ok (.aload_n 0, 1) := by decide +kernel
theorem dX11_reaches_2 : decode cX11_reaches 2 = .ok (.getfield 136, 3) := by decide +kernel
theorem dX11_reaches_5 : decode cX11_reaches 5 = .ok (.aload_n 0, 1) := by decide +kernel
theorem dX11_reaches_6 : decode cX11_reaches 6 = .ok (.getfield 140, 3) := by decide +kernel
theorem dX11_reaches_9 : decode cX11_reaches 9 = .ok (.invokevirtual 259, 3) := by decide +kernel
theorem dX11_reaches_12 : decode cX11_reaches 12 = .ok (.ifCond .ge 69, 3) := by decide +kernel
theorem dX11_reaches_15 : decode cX11_reaches 15 = .ok (.aload_n 0, 1) := by decide +kernel
theorem dX11_reaches_16 : decode cX11_reaches 16 = .ok (.getfield 63, 3) := by decide +kernel
theorem dX11_reaches_19 : decode cX11_reaches 19 = .ok (.aload_n 0, 1) := by decide +kernel
theorem dX11_reaches_20 : decode cX11_reaches 20 = .ok (.getfield 256, 3) := by decide +kernel
theorem dX11_reaches_23 : decode cX11_reaches 23 = .ok (.aload_n 0, 1) := by decide +kernel
theorem dX11_reaches_24 : decode cX11_reaches 24 = .ok (.getfield 136, 3) := by decide +kernel
theorem dX11_reaches_27 : decode cX11_reaches 27 = .ok (.lastore, 1) := by decide +kernel
theorem dX11_reaches_28 : decode cX11_reaches 28 = .ok (.aload_n 0, 1) := by decide +kernel
theorem dX11_reaches_29 : decode cX11_reaches 29 = .ok (.getfield 66, 3) := by decide +kernel
theorem dX11_reaches_32 : decode cX11_reaches 32 = .ok (.aload_n 0, 1) := by decide +kernel
theorem dX11_reaches_33 : decode cX11_reaches 33 = .ok (.getfield 256, 3) := by decide +kernel
theorem dX11_reaches_36 : decode cX11_reaches 36 = .ok (.aload_n 0, 1) := by decide +kernel
theorem dX11_reaches_37 : decode cX11_reaches 37 = .ok (.getfield 140, 3) := by decide +kernel
theorem dX11_reaches_40 : decode cX11_reaches 40 = .ok (.lastore, 1) := by decide +kernel
theorem dX11_reaches_41 : decode cX11_reaches 41 = .ok (.aload_n 0, 1) := by decide +kernel
theorem dX11_reaches_42 : decode cX11_reaches 42 = .ok (.getfield 69, 3) := by decide +kernel
theorem dX11_reaches_45 : decode cX11_reaches 45 = .ok (.aload_n 0, 1) := by decide +kernel
theorem dX11_reaches_46 : decode cX11_reaches 46 = .ok (.getfield 256, 3) := by decide +kernel
theorem dX11_reaches_49 : decode cX11_reaches 49 = .ok (.iload_n 1, 1) := by decide +kernel
theorem dX11_reaches_50 : decode cX11_reaches 50 = .ok (.iastore, 1) := by decide +kernel
theorem dX11_reaches_51 : decode cX11_reaches 51 = .ok (.aload_n 0, 1) := by decide +kernel
theorem dX11_reaches_52 : decode cX11_reaches 52 = .ok (.getfield 72, 3) := by decide +kernel
theorem dX11_reaches_55 : decode cX11_reaches 55 = .ok (.aload_n 0, 1) := by decide +kernel
theorem dX11_reaches_56 : decode cX11_reaches 56 = .ok (.getfield 256, 3) := by decide +kernel
theorem dX11_reaches_59 : decode cX11_reaches 59 = .ok (.iload_n 2, 1) := by decide +kernel
theorem dX11_reaches_60 : decode cX11_reaches 60 = .ok (.iastore, 1) := by decide +kernel
theorem dX11_reaches_61 : decode cX11_reaches 61 = .ok (.aload_n 0, 1) := by decide +kernel
theorem dX11_reaches_62 : decode cX11_reaches 62 = .ok (.getfield 75, 3) := by decide +kernel
theorem dX11_reaches_65 : decode cX11_reaches 65 = .ok (.aload_n 0, 1) := by decide +kernel
theorem dX11_reaches_66 : decode cX11_reaches 66 = .ok (.getfield 256, 3) := by decide +kernel
theorem dX11_reaches_69 : decode cX11_reaches 69 = .ok (.iload_n 3, 1) := by decide +kernel
theorem dX11_reaches_70 : decode cX11_reaches 70 = .ok (.iastore, 1) := by decide +kernel
theorem dX11_reaches_71 : decode cX11_reaches 71 = .ok (.aload_n 0, 1) := by decide +kernel
theorem dX11_reaches_72 : decode cX11_reaches 72 = .ok (.dup, 1) := by decide +kernel
theorem dX11_reaches_73 : decode cX11_reaches 73 = .ok (.getfield 256, 3) := by decide +kernel
theorem dX11_reaches_76 : decode cX11_reaches 76 = .ok (.iconst 1, 1) := by decide +kernel
theorem dX11_reaches_77 : decode cX11_reaches 77 = .ok (.iadd, 1) := by decide +kernel
theorem dX11_reaches_78 : decode cX11_reaches 78 = .ok (.putfield 256, 3) := by decide +kernel
theorem dX11_reaches_81 : decode cX11_reaches 81 = .ok (.return_, 1) := by decide +kernel
set_option maxRecDepth 20000 in
theorem ggX11_reachesBoth_X11_joined : GoodIn wsX11_reachesBoth wsX11_joined := goodIn_r _ [7, 8, 9, 10, 11, 12, 13, 6, 14, 15, 16, 17, 18, 31, 32, 33, 34, 35, 36, 37, 38, 39, 40, 41, 42, 43, 44, 45, 46, 47, 48, 49, 50, 51, 52, 53, 54, 55, 56, 57, 58, 59, 60, 61, 62, 63] (by decide +kernel) (by decide +kernel)
set_option maxRecDepth 20000 in
theorem gX11_reachesBoth_X11_joined : GoodIn wsX11_reachesBoth (wsV RX11 151 RX11 yX11_joined wsX11_joined) := goodIn_app (goodIn_of _ (by decide +kernel)) ggX11_reachesBoth_X11_joined
set_option maxRecDepth 20000 in
theorem ggX11_reachesBoth_X11_reaches : GoodIn wsX11_reachesBoth wsX11_reaches := goodIn_r _ [22, 9, 10, 1, 23, 2, 24, 25, 26, 27, 28, 29, 6, 30, 31, 32, 33, 34, 35, 36, 37, 38, 39, 40, 41, 42, 43, 44, 45, 46, 47, 48, 49, 50, 51, 52, 53, 54, 55, 56, 57, 58, 59, 60, 61, 62, 63] (by decide +kernel) (by decide +kernel)
set_option maxRecDepth 20000 in
theorem gX11_reachesBoth_X11_reaches : GoodIn wsX11_reachesBoth (wsV RX11 263 RX11 yX11_reaches wsX11_reaches) := goodIn_app (goodIn_of _ (by decide +kernel)) ggX11_reachesBoth_X11_reaches
theorem dX11_reachesBoth_0 : decode cX11_reachesBoth 0 = .ok (.iconst 1, 1) := by decide +kernel
theorem dX11_reachesBoth_1 : decode cX11_reachesBoth 1 = .ok (.istore_n 3, 1) := by decide +kernel
theorem dX11_reachesBoth_2 : decode cX11_reachesBoth 2 = .ok (.iload_n 3, 1) := by decide +kernel
theorem dX11_reachesBoth_3 : decode cX11_reachesBoth 3 = .ok (.iconst 3, 1) := by decide +kernel
theorem dX11_reachesBoth_4 : decode cX11_reachesBoth 4 = .ok (.if_icmp .ge 45, 3) := by decide +kernel
theorem dX11_reachesBoth_7 : decode cX11_reachesBoth 7 = .ok (.aload_n 0, 1) := by decide +kernel
theorem dX11_reachesBoth_8 : decode cX11_reachesBoth 8 = .ok (.iload_n 3, 1) := by decide +kernel
theorem dX11_reachesBoth_9 : decode cX11_reachesBoth 9 = .ok (.aload_n 0, 1) := by decide +kernel
theorem dX11_reachesBoth_10 : decode cX11_reachesBoth 10 = .ok (.getfield 63, 3) := by decide +kernel
theorem dX11_reachesBoth_13 : decode cX11_reachesBoth 13 = .ok (.iload_n 1, 1) := by decide +kernel
theorem dX11_reachesBoth_14 : decode cX11_reachesBoth 14 = .ok (.laload, 1) := by decide +kernel
theorem dX11_reachesBoth_15 : decode cX11_reachesBoth 15 = .ok (.aload_n 0, 1) := by decide +kernel
theorem dX11_reachesBoth_16 : decode cX11_reachesBoth 16 = .ok (.getfield 66, 3) := by decide +kernel
theorem dX11_reachesBoth_19 : decode cX11_reachesBoth 19 = .ok (.iload_n 1, 1) := by decide +kernel
theorem dX11_reachesBoth_20 : decode cX11_reachesBoth 20 = .ok (.laload, 1) := by decide +kernel
theorem dX11_reachesBoth_21 : decode cX11_reachesBoth 21 = .ok (.aload_n 0, 1) := by decide +kernel
theorem dX11_reachesBoth_22 : decode cX11_reachesBoth 22 = .ok (.getfield 63, 3) := by decide +kernel
theorem dX11_reachesBoth_25 : decode cX11_reachesBoth 25 = .ok (.iload_n 2, 1) := by decide +kernel
theorem dX11_reachesBoth_26 : decode cX11_reachesBoth 26 = .ok (.laload, 1) := by decide +kernel
theorem dX11_reachesBoth_27 : decode cX11_reachesBoth 27 = .ok (.aload_n 0, 1) := by decide +kernel
theorem dX11_reachesBoth_28 : decode cX11_reachesBoth 28 = .ok (.getfield 66, 3) := by decide +kernel
theorem dX11_reachesBoth_31 : decode cX11_reachesBoth 31 = .ok (.iload_n 2, 1) := by decide +kernel
theorem dX11_reachesBoth_32 : decode cX11_reachesBoth 32 = .ok (.laload, 1) := by decide +kernel
theorem dX11_reachesBoth_33 : decode cX11_reachesBoth 33 = .ok (.invokevirtual 151, 3) := by decide +kernel
theorem dX11_reachesBoth_36 : decode cX11_reachesBoth 36 = .ok (.aload_n 0, 1) := by decide +kernel
theorem dX11_reachesBoth_37 : decode cX11_reachesBoth 37 = .ok (.iload_n 3, 1) := by decide +kernel
theorem dX11_reachesBoth_38 : decode cX11_reachesBoth 38 = .ok (.iload_n 1, 1) := by decide +kernel
theorem dX11_reachesBoth_39 : decode cX11_reachesBoth 39 = .ok (.iload_n 2, 1) := by decide +kernel
theorem dX11_reachesBoth_40 : decode cX11_reachesBoth 40 = .ok (.invokevirtual 263, 3) := by decide +kernel
theorem dX11_reachesBoth_43 : decode cX11_reachesBoth 43 = .ok (.iinc 3 1, 3) := by decide +kernel
theorem dX11_reachesBoth_46 : decode cX11_reachesBoth 46 = .ok (.goto (-44), 3) := by decide +kernel
theorem dX11_reachesBoth_49 : decode cX11_reachesBoth 49 = .ok (.return_, 1) := by decide +kernel
set_option maxRecDepth 20000 in
theorem ggX11_layReached_X11_isThere : GoodIn wsX11_layReached wsX11_isThere := goodIn_r _ [8, 3, 9, 10, 7, 11, 12, 13, 14, 15, 48, 49, 50, 51, 52, 53, 54, 55, 56, 57, 58, 59, 60, 61, 62, 63, 64, 65, 66, 67, 68, 69, 70, 71, 72, 73, 74, 75, 76, 77, 78, 79, 80] (by decide +kernel) (by decide +kernel)
set_option maxRecDepth 20000 in
theorem gX11_layReached_X11_isThere : GoodIn wsX11_layReached (wsV RX11 114 RX11 yX11_isThere wsX11_isThere) := goodIn_app (goodIn_of _ (by decide +kernel)) ggX11_layReached_X11_isThere
set_option maxRecDepth 20000 in
theorem ggX11_layReached_X11_becomes : GoodIn wsX11_layReached wsX11_becomes := goodIn_r _ [19, 20, 21, 22, 23, 24, 25, 7, 26, 48, 49, 50, 51, 52, 53, 54, 55, 56, 57, 58, 59, 60, 61, 62, 63, 64, 65, 66, 67, 68, 69, 70, 71, 72, 73, 74, 75, 76, 77, 78, 79, 80] (by decide +kernel) (by decide +kernel)
set_option maxRecDepth 20000 in
theorem gX11_layReached_X11_becomes : GoodIn wsX11_layReached (wsV RX11 147 RX11 yX11_becomes wsX11_becomes) := goodIn_app (goodIn_of _ (by decide +kernel)) ggX11_layReached_X11_becomes
set_option maxRecDepth 20000 in
theorem ggX11_layReached_X11_reaches : GoodIn wsX11_layReached wsX11_reaches := goodIn_r _ [30, 20, 21, 31, 1, 32, 33, 34, 35, 36, 37, 38, 7, 39, 48, 49, 50, 51, 52, 53, 54, 55, 56, 57, 58, 59, 60, 61, 62, 63, 64, 65, 66, 67, 68, 69, 70, 71, 72, 73, 74, 75, 76, 77, 78, 79, 80] (by decide +kernel) (by decide +kernel)
set_option maxRecDepth 20000 in
theorem gX11_layReached_X11_reaches : GoodIn wsX11_layReached (wsV RX11 263 RX11 yX11_reaches wsX11_reaches) := goodIn_app (goodIn_of _ (by decide +kernel)) ggX11_layReached_X11_reaches
set_option maxRecDepth 20000 in
theorem ggX11_layReached_X11_reachesBoth : GoodIn wsX11_layReached wsX11_reachesBoth := goodIn_r _ [43, 31, 32, 44, 45, 46, 7, 47, 23, 20, 21, 16, 17, 18, 19, 22, 24, 25, 26, 27, 28, 29, 30, 1, 33, 34, 35, 36, 37, 38, 39, 48, 49, 50, 51, 52, 53, 54, 55, 56, 57, 58, 59, 60, 61, 62, 63, 64, 65, 66, 67, 68, 69, 70, 71, 72, 73, 74, 75, 76, 77, 78, 79, 80] (by decide +kernel) (by decide +kernel)
set_option maxRecDepth 20000 in
theorem gX11_layReached_X11_reachesBoth : GoodIn wsX11_layReached (wsV RX11 267 RX11 yX11_reachesBoth wsX11_reachesBoth) := goodIn_app (goodIn_of _ (by decide +kernel)) ggX11_layReached_X11_reachesBoth
theorem dX11_layReached_0 : decode cX11_layReached 0 = .ok (.aload_n 0, 1) := by decide +kernel
theorem dX11_layReached_1 : decode cX11_layReached 1 = .ok (.iconst 0, 1) := by decide +kernel
theorem dX11_layReached_2 : decode cX11_layReached 2 = .ok (.putfield 256, 3) := by decide +kernel
theorem dX11_layReached_5 : decode cX11_layReached 5 = .ok (.aload_n 0, 1) := by decide +kernel
theorem dX11_layReached_6 : decode cX11_layReached 6 = .ok (.getfield 78, 3) := by decide +kernel
theorem dX11_layReached_9 : decode cX11_layReached 9 = .ok (.iconst 1, 1) := by decide +kernel
theorem dX11_layReached_10 : decode cX11_layReached 10 = .ok (.iconst 0, 1) := by decide +kernel
theorem dX11_layReached_11 : decode cX11_layReached 11 = .ok (.iastore, 1) := by decide +kernel
theorem dX11_layReached_12 : decode cX11_layReached 12 = .ok (.iconst 0, 1) := by decide +kernel
theorem dX11_layReached_13 : decode cX11_layReached 13 = .ok (.istore_n 2, 1) := by decide +kernel
theorem dX11_layReached_14 : decode cX11_layReached 14 = .ok (.iload_n 2, 1) := by decide +kernel
theorem dX11_layReached_15 : decode cX11_layReached 15 = .ok (.iconst 4, 1) := by decide +kernel
theorem dX11_layReached_16 : decode cX11_layReached 16 = .ok (.if_icmp .ge 38, 3) := by decide +kernel
theorem dX11_layReached_19 : decode cX11_layReached 19 = .ok (.aload_n 0, 1) := by decide +kernel
theorem dX11_layReached_20 : decode cX11_layReached 20 = .ok (.iload_n 2, 1) := by decide +kernel
theorem dX11_layReached_21 : decode cX11_layReached 21 = .ok (.invokevirtual 114, 3) := by decide +kernel
theorem dX11_layReached_24 : decode cX11_layReached 24 = .ok (.ifCond .eq 24, 3) := by decide +kernel
theorem dX11_layReached_27 : decode cX11_layReached 27 = .ok (.aload_n 0, 1) := by decide +kernel
theorem dX11_layReached_28 : decode cX11_layReached 28 = .ok (.aload_n 0, 1) := by decide +kernel
theorem dX11_layReached_29 : decode cX11_layReached 29 = .ok (.getfield 9, 3) := by decide +kernel
theorem dX11_layReached_32 : decode cX11_layReached 32 = .ok (.iconst 0, 1) := by decide +kernel
theorem dX11_layReached_33 : decode cX11_layReached 33 = .ok (.iload_n 2, 1) := by decide +kernel
theorem dX11_layReached_34 : decode cX11_layReached 34 = .ok (.iadd, 1) := by decide +kernel
theorem dX11_layReached_35 : decode cX11_layReached 35 = .ok (.iaload, 1) := by decide +kernel
theorem dX11_layReached_36 : decode cX11_layReached 36 = .ok (.i2l, 1) := by decide +kernel
theorem dX11_layReached_37 : decode cX11_layReached 37 = .ok (.lconst 1, 1) := by decide +kernel
theorem dX11_layReached_38 : decode cX11_layReached 38 = .ok (.invokevirtual 147, 3) := by decide +kernel
theorem dX11_layReached_41 : decode cX11_layReached 41 = .ok (.aload_n 0, 1) := by decide +kernel
theorem dX11_layReached_42 : decode cX11_layReached 42 = .ok (.iconst 0, 1) := by decide +kernel
theorem dX11_layReached_43 : decode cX11_layReached 43 = .ok (.iload_n 2, 1) := by decide +kernel
theorem dX11_layReached_44 : decode cX11_layReached 44 = .ok (.iconst 0, 1) := by decide +kernel
theorem dX11_layReached_45 : decode cX11_layReached 45 = .ok (.invokevirtual 263, 3) := by decide +kernel
theorem dX11_layReached_48 : decode cX11_layReached 48 = .ok (.iinc 2 1, 3) := by decide +kernel
theorem dX11_layReached_51 : decode cX11_layReached 51 = .ok (.goto (-37), 3) := by decide +kernel
theorem dX11_layReached_54 : decode cX11_layReached 54 = .ok (.aload_n 0, 1) := by decide +kernel
theorem dX11_layReached_55 : decode cX11_layReached 55 = .ok (.getfield 78, 3) := by decide +kernel
theorem dX11_layReached_58 : decode cX11_layReached 58 = .ok (.iconst 2, 1) := by decide +kernel
theorem dX11_layReached_59 : decode cX11_layReached 59 = .ok (.aload_n 0, 1) := by decide +kernel
theorem dX11_layReached_60 : decode cX11_layReached 60 = .ok (.getfield 256, 3) := by decide +kernel
theorem dX11_layReached_63 : decode cX11_layReached 63 = .ok (.iastore, 1) := by decide +kernel
theorem dX11_layReached_64 : decode cX11_layReached 64 = .ok (.iconst 2, 1) := by decide +kernel
theorem dX11_layReached_65 : decode cX11_layReached 65 = .ok (.istore_n 2, 1) := by decide +kernel
theorem dX11_layReached_66 : decode cX11_layReached 66 = .ok (.iload_n 2, 1) := by decide +kernel
theorem dX11_layReached_67 : decode cX11_layReached 67 = .ok (.iload_n 1, 1) := by decide +kernel
theorem dX11_layReached_68 : decode cX11_layReached 68 = .ok (.if_icmp .gt 114, 3) := by decide +kernel
theorem dX11_layReached_71 : decode cX11_layReached 71 = .ok (.iconst 1, 1) := by decide +kernel
theorem dX11_layReached_72 : decode cX11_layReached 72 = .ok (.istore_n 3, 1) := by decide +kernel
theorem dX11_layReached_73 : decode cX11_layReached 73 = .ok (.iload_n 3, 1) := by decide +kernel
theorem dX11_layReached_74 : decode cX11_layReached 74 = .ok (.iload_n 2, 1) := by decide +kernel
theorem dX11_layReached_75 : decode cX11_layReached 75 = .ok (.iconst 2, 1) := by decide +kernel
theorem dX11_layReached_76 : decode cX11_layReached 76 = .ok (.idiv, 1) := by decide +kernel
theorem dX11_layReached_77 : decode cX11_layReached 77 = .ok (.if_icmp .gt 87, 3) := by decide +kernel
theorem dX11_layReached_80 : decode cX11_layReached 80 = .ok (.aload_n 0, 1) := by decide +kernel
theorem dX11_layReached_81 : decode cX11_layReached 81 = .ok (.getfield 78, 3) := by decide +kernel
theorem dX11_layReached_84 : decode cX11_layReached 84 = .ok (.iload_n 3, 1) := by decide +kernel
theorem dX11_layReached_85 : decode cX11_layReached 85 = .ok (.iaload, 1) := by decide +kernel
theorem dX11_layReached_86 : decode cX11_layReached 86 = .ok (.istore 4, 2) := by decide +kernel
theorem dX11_layReached_88 : decode cX11_layReached 88 = .ok (.iload 4, 2) := by decide +kernel
theorem dX11_layReached_90 : decode cX11_layReached 90 = .ok (.aload_n 0, 1) := by decide +kernel
theorem dX11_layReached_91 : decode cX11_layReached 91 = .ok (.getfield 78, 3) := by decide +kernel
theorem dX11_layReached_94 : decode cX11_layReached 94 = .ok (.iload_n 3, 1) := by decide +kernel
theorem dX11_layReached_95 : decode cX11_layReached 95 = .ok (.iconst 1, 1) := by decide +kernel
theorem dX11_layReached_96 : decode cX11_layReached 96 = .ok (.iadd, 1) := by decide +kernel
theorem dX11_layReached_97 : decode cX11_layReached 97 = .ok (.iaload, 1) := by decide +kernel
theorem dX11_layReached_98 : decode cX11_layReached 98 = .ok (.if_icmp .ge 60, 3) := by decide +kernel
theorem dX11_layReached_101 : decode cX11_layReached 101 = .ok (.iload_n 3, 1) := by decide +kernel
theorem dX11_layReached_102 : decode cX11_layReached 102 = .ok (.iload_n 2, 1) := by decide +kernel
theorem dX11_layReached_103 : decode cX11_layReached 103 = .ok (.iload_n 3, 1) := by decide +kernel
theorem dX11_layReached_104 : decode cX11_layReached 104 = .ok (.isub, 1) := by decide +kernel
theorem dX11_layReached_105 : decode cX11_layReached 105 = .ok (.if_icmp .ne 8, 3) := by decide +kernel
theorem dX11_layReached_108 : decode cX11_layReached 108 = .ok (.iload 4, 2) := by decide +kernel
theorem dX11_layReached_110 : decode cX11_layReached 110 = .ok (.goto 11, 3) := by decide +kernel
theorem dX11_layReached_113 : decode cX11_layReached 113 = .ok (.aload_n 0, 1) := by decide +kernel
theorem dX11_layReached_114 : decode cX11_layReached 114 = .ok (.getfield 78, 3) := by decide +kernel
theorem dX11_layReached_117 : decode cX11_layReached 117 = .ok (.iload_n 2, 1) := by decide +kernel
theorem dX11_layReached_118 : decode cX11_layReached 118 = .ok (.iload_n 3, 1) := by decide +kernel
theorem dX11_layReached_119 : decode cX11_layReached 119 = .ok (.isub, 1) := by decide +kernel
theorem dX11_layReached_120 : decode cX11_layReached 120 = .ok (.iaload, 1) := by decide +kernel
theorem dX11_layReached_121 : decode cX11_layReached 121 = .ok (.istore 5, 2) := by decide +kernel
theorem dX11_layReached_123 : decode cX11_layReached 123 = .ok (.iload 5, 2) := by decide +kernel
theorem dX11_layReached_125 : decode cX11_layReached 125 = .ok (.aload_n 0, 1) := by decide +kernel
theorem dX11_layReached_126 : decode cX11_layReached 126 = .ok (.getfield 78, 3) := by decide +kernel
theorem dX11_layReached_129 : decode cX11_layReached 129 = .ok (.iload_n 2, 1) := by decide +kernel
theorem dX11_layReached_130 : decode cX11_layReached 130 = .ok (.iload_n 3, 1) := by decide +kernel
theorem dX11_layReached_131 : decode cX11_layReached 131 = .ok (.isub, 1) := by decide +kernel
theorem dX11_layReached_132 : decode cX11_layReached 132 = .ok (.iconst 1, 1) := by decide +kernel
theorem dX11_layReached_133 : decode cX11_layReached 133 = .ok (.iadd, 1) := by decide +kernel
theorem dX11_layReached_134 : decode cX11_layReached 134 = .ok (.iaload, 1) := by decide +kernel
theorem dX11_layReached_135 : decode cX11_layReached 135 = .ok (.if_icmp .ge 17, 3) := by decide +kernel
theorem dX11_layReached_138 : decode cX11_layReached 138 = .ok (.aload_n 0, 1) := by decide +kernel
theorem dX11_layReached_139 : decode cX11_layReached 139 = .ok (.iload 4, 2) := by decide +kernel
theorem dX11_layReached_141 : decode cX11_layReached 141 = .ok (.iload 5, 2) := by decide +kernel
theorem dX11_layReached_143 : decode cX11_layReached 143 = .ok (.invokevirtual 267, 3) := by decide +kernel
theorem dX11_layReached_146 : decode cX11_layReached 146 = .ok (.iinc 5 1, 3) := by decide +kernel
theorem dX11_layReached_149 : decode cX11_layReached 149 = .ok (.goto (-26), 3) := by decide +kernel
theorem dX11_layReached_152 : decode cX11_layReached 152 = .ok (.iinc 4 1, 3) := by decide +kernel
theorem dX11_layReached_155 : decode cX11_layReached 155 = .ok (.goto (-67), 3) := by decide +kernel
theorem dX11_layReached_158 : decode cX11_layReached 158 = .ok (.iinc 3 1, 3) := by decide +kernel
theorem dX11_layReached_161 : decode cX11_layReached 161 = .ok (.goto (-88), 3) := by decide +kernel
theorem dX11_layReached_164 : decode cX11_layReached 164 = .ok (.aload_n 0, 1) := by decide +kernel
theorem dX11_layReached_165 : decode cX11_layReached 165 = .ok (.getfield 78, 3) := by decide +kernel
theorem dX11_layReached_168 : decode cX11_layReached 168 = .ok (.iload_n 2, 1) := by decide +kernel
theorem dX11_layReached_169 : decode cX11_layReached 169 = .ok (.iconst 1, 1) := by decide +kernel
theorem dX11_layReached_170 : decode cX11_layReached 170 = .ok (.iadd, 1) := by decide +kernel
theorem dX11_layReached_171 : decode cX11_layReached 171 = .ok (.aload_n 0, 1) := by decide +kernel
theorem dX11_layReached_172 : decode cX11_layReached 172 = .ok (.getfield 256, 3) := by decide +kernel
theorem dX11_layReached_175 : decode cX11_layReached 175 = .ok (.iastore, 1) := by decide +kernel
theorem dX11_layReached_176 : decode cX11_layReached 176 = .ok (.iinc 2 1, 3) := by decide +kernel
theorem dX11_layReached_179 : decode cX11_layReached 179 = .ok (.goto (-113), 3) := by decide +kernel
theorem dX11_layReached_182 : decode cX11_layReached 182 = .ok (.return_, 1) := by decide +kernel
set_option maxRecDepth 20000 in
theorem ggX11_reached_X11_in : GoodIn wsX11_reached wsX11_in := goodIn_r _ [6] (by decide +kernel) (by decide +kernel)
set_option maxRecDepth 20000 in
theorem gX11_reached_X11_in : GoodIn wsX11_reached (va_wsS RX11 86 yX11_in wsX11_in) := goodIn_app (goodIn_of _ (by decide +kernel)) ggX11_reached_X11_in
set_option maxRecDepth 20000 in
theorem ggX11_reached_X11_layReached : GoodIn wsX11_reached wsX11_layReached := goodIn_r _ [10, 11, 2, 12, 13, 14, 15, 5, 16, 17, 18, 19, 20, 3, 4, 6, 21, 22, 23, 24, 25, 26, 27, 28, 29, 30, 31, 32, 33, 34, 35, 36, 37, 38, 39, 40, 41, 42, 43, 44, 45, 46, 47, 48, 49, 50, 51, 52, 53, 54, 55, 56, 57, 58, 59, 60, 61, 62, 63, 64, 65, 66, 67, 68, 69, 70, 71, 72, 73, 74, 75, 76, 77, 78, 79, 80, 81, 82, 83, 84, 85] (by decide +kernel) (by decide +kernel)
set_option maxRecDepth 20000 in
theorem gX11_reached_X11_layReached : GoodIn wsX11_reached (wsV RX11 270 RX11 yX11_layReached wsX11_layReached) := goodIn_app (goodIn_of _ (by decide +kernel)) ggX11_reached_X11_layReached
theorem dX11_reached_0 : decode cX11_reached 0 = .ok (.iload_n 1, 1) := by decide +kernel
theorem dX11_reached_1 : decode cX11_reached 1 = .ok (.i2l, 1) := by decide +kernel
theorem dX11_reached_2 : decode cX11_reached 2 = .ok (.lconst 1, 1) := by decide +kernel
theorem dX11_reached_3 : decode cX11_reached 3 = .ok (.ldc2_w 127, 3) := by decide +kernel
theorem dX11_reached_6 : decode cX11_reached 6 = .ok (.invokestatic 86, 3) := by decide +kernel
theorem dX11_reached_9 : decode cX11_reached 9 = .ok (.ifCond .ne 5, 3) := by decide +kernel
theorem dX11_reached_12 : decode cX11_reached 12 = .ok (.iconst (-1), 1) := by decide +kernel
theorem dX11_reached_13 : decode cX11_reached 13 = .ok (.ireturn, 1) := by decide +kernel
theorem dX11_reached_14 : decode cX11_reached 14 = .ok (.aload_n 0, 1) := by decide +kernel
theorem dX11_reached_15 : decode cX11_reached 15 = .ok (.iload_n 1, 1) := by decide +kernel
theorem dX11_reached_16 : decode cX11_reached 16 = .ok (.invokevirtual 270, 3) := by decide +kernel
theorem dX11_reached_19 : decode cX11_reached 19 = .ok (.aload_n 0, 1) := by decide +kernel
theorem dX11_reached_20 : decode cX11_reached 20 = .ok (.getfield 78, 3) := by decide +kernel
theorem dX11_reached_23 : decode cX11_reached 23 = .ok (.iload_n 1, 1) := by decide +kernel
theorem dX11_reached_24 : decode cX11_reached 24 = .ok (.iconst 1, 1) := by decide +kernel
theorem dX11_reached_25 : decode cX11_reached 25 = .ok (.iadd, 1) := by decide +kernel
theorem dX11_reached_26 : decode cX11_reached 26 = .ok (.iaload, 1) := by decide +kernel
theorem dX11_reached_27 : decode cX11_reached 27 = .ok (.aload_n 0, 1) := by decide +kernel
theorem dX11_reached_28 : decode cX11_reached 28 = .ok (.getfield 78, 3) := by decide +kernel
theorem dX11_reached_31 : decode cX11_reached 31 = .ok (.iload_n 1, 1) := by decide +kernel
theorem dX11_reached_32 : decode cX11_reached 32 = .ok (.iaload, 1) := by decide +kernel
theorem dX11_reached_33 : decode cX11_reached 33 = .ok (.isub, 1) := by decide +kernel
theorem dX11_reached_34 : decode cX11_reached 34 = .ok (.ireturn, 1) := by decide +kernel
set_option maxRecDepth 20000 in
theorem ggX11_lessThan_X11_isLess : GoodIn wsX11_lessThan wsX11_isLess := goodIn_r _ [6] (by decide +kernel) (by decide +kernel)
set_option maxRecDepth 20000 in
theorem gX11_lessThan_X11_isLess : GoodIn wsX11_lessThan (va_wsS RX11 222 yX11_isLess wsX11_isLess) := goodIn_app (goodIn_of _ (by decide +kernel)) ggX11_lessThan_X11_isLess
theorem dX11_lessThan_0 : decode cX11_lessThan 0 = .ok (.iconst 0, 1) := by decide +kernel
theorem dX11_lessThan_1 : decode cX11_lessThan 1 = .ok (.istore 4, 2) := by decide +kernel
theorem dX11_lessThan_3 : decode cX11_lessThan 3 = .ok (.iload_n 2, 1) := by decide +kernel
theorem dX11_lessThan_4 : decode cX11_lessThan 4 = .ok (.istore 5, 2) := by decide +kernel
theorem dX11_lessThan_6 : decode cX11_lessThan 6 = .ok (.iload 5, 2) := by decide +kernel
theorem dX11_lessThan_8 : decode cX11_lessThan 8 = .ok (.iload_n 3, 1) := by decide +kernel
theorem dX11_lessThan_9 : decode cX11_lessThan 9 = .ok (.if_icmp .ge 51, 3) := by decide +kernel
theorem dX11_lessThan_12 : decode cX11_lessThan 12 = .ok (.iload 4, 2) := by decide +kernel
theorem dX11_lessThan_14 : decode cX11_lessThan 14 = .ok (.aload_n 0, 1) := by decide +kernel
theorem dX11_lessThan_15 : decode cX11_lessThan 15 = .ok (.getfield 63, 3) := by decide +kernel
theorem dX11_lessThan_18 : decode cX11_lessThan 18 = .ok (.iload 5, 2) := by decide +kernel
theorem dX11_lessThan_20 : decode cX11_lessThan 20 = .ok (.laload, 1) := by decide +kernel
theorem dX11_lessThan_21 : decode cX11_lessThan 21 = .ok (.aload_n 0, 1) := by decide +kernel
theorem dX11_lessThan_22 : decode cX11_lessThan 22 = .ok (.getfield 66, 3) := by decide +kernel
theorem dX11_lessThan_25 : decode cX11_lessThan 25 = .ok (.iload 5, 2) := by decide +kernel
theorem dX11_lessThan_27 : decode cX11_lessThan 27 = .ok (.laload, 1) := by decide +kernel
theorem dX11_lessThan_28 : decode cX11_lessThan 28 = .ok (.aload_n 0, 1) := by decide +kernel
theorem dX11_lessThan_29 : decode cX11_lessThan 29 = .ok (.getfield 63, 3) := by decide +kernel
theorem dX11_lessThan_32 : decode cX11_lessThan 32 = .ok (.iload_n 1, 1) := by decide +kernel
theorem dX11_lessThan_33 : decode cX11_lessThan 33 = .ok (.laload, 1) := by decide +kernel
theorem dX11_lessThan_34 : decode cX11_lessThan 34 = .ok (.aload_n 0, 1) := by decide +kernel
theorem dX11_lessThan_35 : decode cX11_lessThan 35 = .ok (.getfield 66, 3) := by decide +kernel
theorem dX11_lessThan_38 : decode cX11_lessThan 38 = .ok (.iload_n 1, 1) := by decide +kernel
theorem dX11_lessThan_39 : decode cX11_lessThan 39 = .ok (.laload, 1) := by decide +kernel
theorem dX11_lessThan_40 : decode cX11_lessThan 40 = .ok (.invokestatic 222, 3) := by decide +kernel
theorem dX11_lessThan_43 : decode cX11_lessThan 43 = .ok (.ifCond .eq 7, 3) := by decide +kernel
theorem dX11_lessThan_46 : decode cX11_lessThan 46 = .ok (.iconst 1, 1) := by decide +kernel
theorem dX11_lessThan_47 : decode cX11_lessThan 47 = .ok (.goto 4, 3) := by decide +kernel
theorem dX11_lessThan_50 : decode cX11_lessThan 50 = .ok (.iconst 0, 1) := by decide +kernel
theorem dX11_lessThan_51 : decode cX11_lessThan 51 = .ok (.iadd, 1) := by decide +kernel
theorem dX11_lessThan_52 : decode cX11_lessThan 52 = .ok (.istore 4, 2) := by decide +kernel
theorem dX11_lessThan_54 : decode cX11_lessThan 54 = .ok (.iinc 5 1, 3) := by decide +kernel
theorem dX11_lessThan_57 : decode cX11_lessThan 57 = .ok (.goto (-51), 3) := by decide +kernel
theorem dX11_lessThan_60 : decode cX11_lessThan 60 = .ok (.iload 4, 2) := by decide +kernel
theorem dX11_lessThan_62 : decode cX11_lessThan 62 = .ok (.ireturn, 1) := by decide +kernel
set_option maxRecDepth 20000 in
theorem ggX11_reach_X11_in : GoodIn wsX11_reach wsX11_in := goodIn_r _ [11] (by decide +kernel) (by decide +kernel)
set_option maxRecDepth 20000 in
theorem gX11_reach_X11_in : GoodIn wsX11_reach (va_wsS RX11 86 yX11_in wsX11_in) := goodIn_app (goodIn_of _ (by decide +kernel)) ggX11_reach_X11_in
set_option maxRecDepth 20000 in
theorem ggX11_reach_X11_layReached : GoodIn wsX11_reach wsX11_layReached := goodIn_r _ [15, 16, 4, 17, 18, 19, 20, 10, 21, 22, 23, 24, 25, 8, 9, 11, 26, 27, 28, 29, 30, 31, 32, 33, 34, 35, 36, 37, 38, 39, 40, 5, 6, 41, 42, 43, 44, 45, 46, 47, 48, 49, 50, 51, 52, 53, 54, 55, 63, 64, 65, 66, 67, 68, 69, 70, 71, 72, 73, 74, 75, 76, 77, 78, 79, 80, 81, 82, 83, 84, 85, 86, 87, 88, 89, 90, 91, 92, 93, 94, 95] (by decide +kernel) (by decide +kernel)
set_option maxRecDepth 20000 in
theorem gX11_reach_X11_layReached : GoodIn wsX11_reach (wsV RX11 270 RX11 yX11_layReached wsX11_layReached) := goodIn_app (goodIn_of _ (by decide +kernel)) ggX11_reach_X11_layReached
set_option maxRecDepth 20000 in
theorem ggX11_reach_X11_lessThan : GoodIn wsX11_reach wsX11_lessThan := goodIn_r _ [59, 5, 6, 60, 61, 10, 62, 63, 64, 65, 66, 67, 68, 69, 70, 71, 72, 73, 74, 75, 76, 77, 78, 79, 80, 81, 82, 83, 84, 85, 86, 87, 88, 89, 90, 91, 92, 93, 94, 95] (by decide +kernel) (by decide +kernel)
set_option maxRecDepth 20000 in
theorem gX11_reach_X11_lessThan : GoodIn wsX11_reach (wsV RX11 273 RX11 yX11_lessThan wsX11_lessThan) := goodIn_app (goodIn_of _ (by decide +kernel)) ggX11_reach_X11_lessThan
theorem dX11_reach_0 : decode cX11_reach 0 = .ok (.iload_n 1, 1) := by decide +kernel
theorem dX11_reach_1 : decode cX11_reach 1 = .ok (.i2l, 1) := by decide +kernel
theorem dX11_reach_2 : decode cX11_reach 2 = .ok (.lconst 1, 1) := by decide +kernel
theorem dX11_reach_3 : decode cX11_reach 3 = .ok (.ldc2_w 127, 3) := by decide +kernel
theorem dX11_reach_6 : decode cX11_reach 6 = .ok (.invokestatic 86, 3) := by decide +kernel
theorem dX11_reach_9 : decode cX11_reach 9 = .ok (.ifCond .eq 19, 3) := by decide +kernel
theorem dX11_reach_12 : decode cX11_reach 12 = .ok (.iload_n 2, 1) := by decide +kernel
theorem dX11_reach_13 : decode cX11_reach 13 = .ok (.ifCond .lt 15, 3) := by decide +kernel
theorem dX11_reach_16 : decode cX11_reach 16 = .ok (.iload_n 3, 1) := by decide +kernel
theorem dX11_reach_17 : decode cX11_reach 17 = .ok (.i2l, 1) := by decide +kernel
theorem dX11_reach_18 : decode cX11_reach 18 = .ok (.lconst 0, 1) := by decide +kernel
theorem dX11_reach_19 : decode cX11_reach 19 = .ok (.ldc2_w 112, 3) := by decide +kernel
theorem dX11_reach_22 : decode cX11_reach 22 = .ok (.invokestatic 86, 3) := by decide +kernel
theorem dX11_reach_25 : decode cX11_reach 25 = .ok (.ifCond .ne 7, 3) := by decide +kernel
theorem dX11_reach_28 : decode cX11_reach 28 = .ok (.ldc2_w 155, 3) := by decide +kernel
theorem dX11_reach_31 : decode cX11_reach 31 = .ok (.lreturn, 1) := by decide +kernel
theorem dX11_reach_32 : decode cX11_reach 32 = .ok (.aload_n 0, 1) := by decide +kernel
theorem dX11_reach_33 : decode cX11_reach 33 = .ok (.iload_n 1, 1) := by decide +kernel
theorem dX11_reach_34 : decode cX11_reach 34 = .ok (.invokevirtual 270, 3) := by decide +kernel
theorem dX11_reach_37 : decode cX11_reach 37 = .ok (.aload_n 0, 1) := by decide +kernel
theorem dX11_reach_38 : decode cX11_reach 38 = .ok (.getfield 78, 3) := by decide +kernel
theorem dX11_reach_41 : decode cX11_reach 41 = .ok (.iload_n 1, 1) := by decide +kernel
theorem dX11_reach_42 : decode cX11_reach 42 = .ok (.iaload, 1) := by decide +kernel
theorem dX11_reach_43 : decode cX11_reach 43 = .ok (.istore 4, 2) := by decide +kernel
theorem dX11_reach_45 : decode cX11_reach 45 = .ok (.iload 4, 2) := by decide +kernel
theorem dX11_reach_47 : decode cX11_reach 47 = .ok (.aload_n 0, 1) := by decide +kernel
theorem dX11_reach_48 : decode cX11_reach 48 = .ok (.getfield 78, 3) := by decide +kernel
theorem dX11_reach_51 : decode cX11_reach 51 = .ok (.iload_n 1, 1) := by decide +kernel
theorem dX11_reach_52 : decode cX11_reach 52 = .ok (.iconst 1, 1) := by decide +kernel
theorem dX11_reach_53 : decode cX11_reach 53 = .ok (.iadd, 1) := by decide +kernel
theorem dX11_reach_54 : decode cX11_reach 54 = .ok (.iaload, 1) := by decide +kernel
theorem dX11_reach_55 : decode cX11_reach 55 = .ok (.if_icmp .ge 73, 3) := by decide +kernel
theorem dX11_reach_58 : decode cX11_reach 58 = .ok (.aload_n 0, 1) := by decide +kernel
theorem dX11_reach_59 : decode cX11_reach 59 = .ok (.iload 4, 2) := by decide +kernel
theorem dX11_reach_61 : decode cX11_reach 61 = .ok (.aload_n 0, 1) := by decide +kernel
theorem dX11_reach_62 : decode cX11_reach 62 = .ok (.getfield 78, 3) := by decide +kernel
theorem dX11_reach_65 : decode cX11_reach 65 = .ok (.iload_n 1, 1) := by decide +kernel
theorem dX11_reach_66 : decode cX11_reach 66 = .ok (.iaload, 1) := by decide +kernel
theorem dX11_reach_67 : decode cX11_reach 67 = .ok (.aload_n 0, 1) := by decide +kernel
theorem dX11_reach_68 : decode cX11_reach 68 = .ok (.getfield 78, 3) := by decide +kernel
theorem dX11_reach_71 : decode cX11_reach 71 = .ok (.iload_n 1, 1) := by decide +kernel
theorem dX11_reach_72 : decode cX11_reach 72 = .ok (.iconst 1, 1) := by decide +kernel
theorem dX11_reach_73 : decode cX11_reach 73 = .ok (.iadd, 1) := by decide +kernel
theorem dX11_reach_74 : decode cX11_reach 74 = .ok (.iaload, 1) := by decide +kernel
theorem dX11_reach_75 : decode cX11_reach 75 = .ok (.invokevirtual 273, 3) := by decide +kernel
theorem dX11_reach_78 : decode cX11_reach 78 = .ok (.iload_n 2, 1) := by decide +kernel
theorem dX11_reach_79 : decode cX11_reach 79 = .ok (.if_icmp .ne 43, 3) := by decide +kernel
theorem dX11_reach_82 : decode cX11_reach 82 = .ok (.iload_n 3, 1) := by decide +kernel
theorem dX11_reach_83 : decode cX11_reach 83 = .ok (.ifCond .ne 13, 3) := by decide +kernel
theorem dX11_reach_86 : decode cX11_reach 86 = .ok (.aload_n 0, 1) := by decide +kernel
theorem dX11_reach_87 : decode cX11_reach 87 = .ok (.getfield 63, 3) := by decide +kernel
theorem dX11_reach_90 : decode cX11_reach 90 = .ok (.iload 4, 2) := by decide +kernel
theorem dX11_reach_92 : decode cX11_reach 92 = .ok (.laload, 1) := by decide +kernel
theorem dX11_reach_93 : decode cX11_reach 93 = .ok (.goto 28, 3) := by decide +kernel
theorem dX11_reach_96 : decode cX11_reach 96 = .ok (.iload_n 3, 1) := by decide +kernel
theorem dX11_reach_97 : decode cX11_reach 97 = .ok (.iconst 1, 1) := by decide +kernel
theorem dX11_reach_98 : decode cX11_reach 98 = .ok (.if_icmp .ne 13, 3) := by decide +kernel
theorem dX11_reach_101 : decode cX11_reach 101 = .ok (.aload_n 0, 1) := by decide +kernel
theorem dX11_reach_102 : decode cX11_reach 102 = .ok (.getfield 66, 3) := by decide +kernel
theorem dX11_reach_105 : decode cX11_reach 105 = .ok (.iload 4, 2) := by decide +kernel
theorem dX11_reach_107 : decode cX11_reach 107 = .ok (.laload, 1) := by decide +kernel
theorem dX11_reach_108 : decode cX11_reach 108 = .ok (.goto 13, 3) := by decide +kernel
theorem dX11_reach_111 : decode cX11_reach 111 = .ok (.iload 4, 2) := by decide +kernel
theorem dX11_reach_113 : decode cX11_reach 113 = .ok (.aload_n 0, 1) := by decide +kernel
theorem dX11_reach_114 : decode cX11_reach 114 = .ok (.getfield 78, 3) := by decide +kernel
theorem dX11_reach_117 : decode cX11_reach 117 = .ok (.iload_n 1, 1) := by decide +kernel
theorem dX11_reach_118 : decode cX11_reach 118 = .ok (.iaload, 1) := by decide +kernel
theorem dX11_reach_119 : decode cX11_reach 119 = .ok (.isub, 1) := by decide +kernel
theorem dX11_reach_120 : decode cX11_reach 120 = .ok (.i2l, 1) := by decide +kernel
theorem dX11_reach_121 : decode cX11_reach 121 = .ok (.lreturn, 1) := by decide +kernel
theorem dX11_reach_122 : decode cX11_reach 122 = .ok (.iinc 4 1, 3) := by decide +kernel
theorem dX11_reach_125 : decode cX11_reach 125 = .ok (.goto (-80), 3) := by decide +kernel
theorem dX11_reach_128 : decode cX11_reach 128 = .ok (.ldc2_w 276, 3) := by decide +kernel
theorem dX11_reach_131 : decode cX11_reach 131 = .ok (.lreturn, 1) := by decide +kernel
theorem dX11_partsOfReached_0 : decode cX11_partsOfReached 0 = .ok (.iconst 1, 1) := by decide +kernel
theorem dX11_partsOfReached_1 : decode cX11_partsOfReached 1 = .ok (.istore_n 2, 1) := by decide +kernel
theorem dX11_partsOfReached_2 : decode cX11_partsOfReached 2 = .ok (.iload_n 1, 1) := by decide +kernel
theorem dX11_partsOfReached_3 : decode cX11_partsOfReached 3 = .ok (.aload_n 0, 1) := by decide +kernel
theorem dX11_partsOfReached_4 : decode cX11_partsOfReached 4 = .ok (.getfield 78, 3) := by decide +kernel
theorem dX11_partsOfReached_7 : decode cX11_partsOfReached 7 = .ok (.iload_n 2, 1) := by decide +kernel
theorem dX11_partsOfReached_8 : decode cX11_partsOfReached 8 = .ok (.iconst 1, 1) := by decide +kernel
theorem dX11_partsOfReached_9 : decode cX11_partsOfReached 9 = .ok (.iadd, 1) := by decide +kernel
theorem dX11_partsOfReached_10 : decode cX11_partsOfReached 10 = .ok (.iaload, 1) := by decide +kernel
theorem dX11_partsOfReached_11 : decode cX11_partsOfReached 11 = .ok (.if_icmp .lt 9, 3) := by decide +kernel
theorem dX11_partsOfReached_14 : decode cX11_partsOfReached 14 = .ok (.iinc 2 1, 3) := by decide +kernel
theorem dX11_partsOfReached_17 : decode cX11_partsOfReached 17 = .ok (.goto (-15), 3) := by decide +kernel
theorem dX11_partsOfReached_20 : decode cX11_partsOfReached 20 = .ok (.iload_n 2, 1) := by decide +kernel
theorem dX11_partsOfReached_21 : decode cX11_partsOfReached 21 = .ok (.ireturn, 1) := by decide +kernel
set_option maxRecDepth 20000 in
theorem ggX11_wished_X11_layReached : GoodIn wsX11_wished wsX11_layReached := goodIn_r _ [7, 8, 9, 10, 11, 12, 13, 6, 14, 15, 16, 17, 18, 19, 20, 21, 22, 23, 24, 25, 1, 2, 26, 27, 28, 29, 30, 31, 32, 33, 34, 35, 36, 37, 38, 39, 40, 41, 42, 43, 44, 45, 46, 47, 48, 49, 50, 51, 52, 53, 54, 55, 56, 57, 58, 59, 60, 61, 62, 63, 64, 65, 66, 67, 68, 69, 70, 71, 72, 73, 74, 75, 76, 77, 78, 79, 80, 81, 82, 83, 84] (by decide +kernel) (by decide +kernel)
set_option maxRecDepth 20000 in
theorem gX11_wished_X11_layReached : GoodIn wsX11_wished (wsV RX11 270 RX11 yX11_layReached wsX11_layReached) := goodIn_app (goodIn_of _ (by decide +kernel)) ggX11_wished_X11_layReached
set_option maxRecDepth 20000 in
theorem ggX11_wished_X11_becomes : GoodIn wsX11_wished wsX11_becomes := goodIn_r _ [25, 1, 2, 26, 27, 28, 29, 6, 30, 52, 53, 54, 55, 56, 57, 58, 59, 60, 61, 62, 63, 64, 65, 66, 67, 68, 69, 70, 71, 72, 73, 74, 75, 76, 77, 78, 79, 80, 81, 82, 83, 84] (by decide +kernel) (by decide +kernel)
set_option maxRecDepth 20000 in
theorem gX11_wished_X11_becomes : GoodIn wsX11_wished (wsV RX11 147 RX11 yX11_becomes wsX11_becomes) := goodIn_app (goodIn_of _ (by decide +kernel)) ggX11_wished_X11_becomes
set_option maxRecDepth 20000 in
theorem ggX11_wished_X11_reachedAt : GoodIn wsX11_wished wsX11_reachedAt := goodIn_r _ [43, 8, 35, 36, 52, 53, 54, 55, 56, 57, 58, 59, 60, 61, 62, 63, 64, 65, 66, 67, 68, 69, 70, 71, 72, 73, 74, 75, 76, 77, 78, 79, 80, 81, 82, 83, 84] (by decide +kernel) (by decide +kernel)
set_option maxRecDepth 20000 in
theorem gX11_wished_X11_reachedAt : GoodIn wsX11_wished (wsV RX11 259 RX11 yX11_reachedAt wsX11_reachedAt) := goodIn_app (goodIn_of _ (by decide +kernel)) ggX11_wished_X11_reachedAt
theorem dX11_wished_0 : decode cX11_wished 0 = .ok (.aload_n 0, 1) := by decide +kernel
theorem dX11_wished_1 : decode cX11_wished 1 = .ok (.iconst 4, 1) := by decide +kernel
theorem dX11_wished_2 : decode cX11_wished 2 = .ok (.invokevirtual 270, 3) := by decide +kernel
theorem dX11_wished_5 : decode cX11_wished 5 = .ok (.aload_n 0, 1) := by decide +kernel
theorem dX11_wished_6 : decode cX11_wished 6 = .ok (.iload_n 1, 1) := by decide +kernel
theorem dX11_wished_7 : decode cX11_wished 7 = .ok (.i2l, 1) := by decide +kernel
theorem dX11_wished_8 : decode cX11_wished 8 = .ok (.iload_n 2, 1) := by decide +kernel
theorem dX11_wished_9 : decode cX11_wished 9 = .ok (.i2l, 1) := by decide +kernel
theorem dX11_wished_10 : decode cX11_wished 10 = .ok (.invokevirtual 147, 3) := by decide +kernel
theorem dX11_wished_13 : decode cX11_wished 13 = .ok (.aload_n 0, 1) := by decide +kernel
theorem dX11_wished_14 : decode cX11_wished 14 = .ok (.aload_n 0, 1) := by decide +kernel
theorem dX11_wished_15 : decode cX11_wished 15 = .ok (.getfield 136, 3) := by decide +kernel
theorem dX11_wished_18 : decode cX11_wished 18 = .ok (.aload_n 0, 1) := by decide +kernel
theorem dX11_wished_19 : decode cX11_wished 19 = .ok (.getfield 140, 3) := by decide +kernel
theorem dX11_wished_22 : decode cX11_wished 22 = .ok (.invokevirtual 259, 3) := by decide +kernel
theorem dX11_wished_25 : decode cX11_wished 25 = .ok (.ireturn, 1) := by decide +kernel
set_option maxRecDepth 20000 in
theorem ggX11_fewest_X11_isWish : GoodIn wsX11_fewest wsX11_isWish := goodIn_r _ [4, 5, 6, 7, 3, 8] (by decide +kernel) (by decide +kernel)
set_option maxRecDepth 20000 in
theorem gX11_fewest_X11_isWish : GoodIn wsX11_fewest (va_wsS RX11 208 yX11_isWish wsX11_isWish) := goodIn_app (goodIn_of _ (by decide +kernel)) ggX11_fewest_X11_isWish
set_option maxRecDepth 20000 in
theorem ggX11_fewest_X11_wished : GoodIn wsX11_fewest wsX11_wished := goodIn_r _ [12, 13, 14, 15, 16, 17, 3, 18, 19, 20, 21, 22, 23, 24, 25, 26, 27, 28, 29, 6, 7, 8, 30, 31, 32, 33, 34, 35, 36, 37, 38, 39, 40, 41, 42, 43, 44, 45, 46, 47, 48, 49, 50, 51, 52, 53, 54, 55, 56, 57, 58, 59, 64, 65, 66, 67, 68, 69, 70, 71, 72, 73, 74, 75, 76, 77, 78, 79, 80, 81, 82, 83, 84, 85, 86, 87, 88, 89, 90, 91, 92, 93, 94, 95, 96] (by decide +kernel) (by decide +kernel)
set_option maxRecDepth 20000 in
theorem gX11_fewest_X11_wished : GoodIn wsX11_fewest (wsV RX11 278 RX11 yX11_wished wsX11_wished) := goodIn_app (goodIn_of _ (by decide +kernel)) ggX11_fewest_X11_wished
set_option maxRecDepth 20000 in
theorem ggX11_fewest_X11_partsOfReached : GoodIn wsX11_fewest wsX11_partsOfReached := goodIn_r _ [63, 20, 64, 65, 66, 67, 68, 69, 70, 71, 72, 73, 74, 75, 76, 77, 78, 79, 80, 81, 82, 83, 84, 85, 86, 87, 88, 89, 90, 91, 92, 93, 94, 95, 96] (by decide +kernel) (by decide +kernel)
set_option maxRecDepth 20000 in
theorem gX11_fewest_X11_partsOfReached : GoodIn wsX11_fewest (wsV RX11 282 RX11 yX11_partsOfReached wsX11_partsOfReached) := goodIn_app (goodIn_of _ (by decide +kernel)) ggX11_fewest_X11_partsOfReached
theorem dX11_fewest_0 : decode cX11_fewest 0 = .ok (.iload_n 1, 1) := by decide +kernel
theorem dX11_fewest_1 : decode cX11_fewest 1 = .ok (.iload_n 2, 1) := by decide +kernel
theorem dX11_fewest_2 : decode cX11_fewest 2 = .ok (.invokestatic 208, 3) := by decide +kernel
theorem dX11_fewest_5 : decode cX11_fewest 5 = .ok (.ifCond .ne 5, 3) := by decide +kernel
theorem dX11_fewest_8 : decode cX11_fewest 8 = .ok (.iconst (-1), 1) := by decide +kernel
theorem dX11_fewest_9 : decode cX11_fewest 9 = .ok (.ireturn, 1) := by decide +kernel
theorem dX11_fewest_10 : decode cX11_fewest 10 = .ok (.aload_n 0, 1) := by decide +kernel
theorem dX11_fewest_11 : decode cX11_fewest 11 = .ok (.iload_n 1, 1) := by decide +kernel
theorem dX11_fewest_12 : decode cX11_fewest 12 = .ok (.iload_n 2, 1) := by decide +kernel
theorem dX11_fewest_13 : decode cX11_fewest 13 = .ok (.invokevirtual 278, 3) := by decide +kernel
theorem dX11_fewest_16 : decode cX11_fewest 16 = .ok (.istore_n 3, 1) := by decide +kernel
theorem dX11_fewest_17 : decode cX11_fewest 17 = .ok (.iload_n 3, 1) := by decide +kernel
theorem dX11_fewest_18 : decode cX11_fewest 18 = .ok (.ifCond .ge 8, 3) := by decide +kernel
theorem dX11_fewest_21 : decode cX11_fewest 21 = .ok (.bipush (-2), 2) := by decide +kernel
theorem dX11_fewest_23 : decode cX11_fewest 23 = .ok (.goto 8, 3) := by decide +kernel
theorem dX11_fewest_26 : decode cX11_fewest 26 = .ok (.aload_n 0, 1) := by decide +kernel
theorem dX11_fewest_27 : decode cX11_fewest 27 = .ok (.iload_n 3, 1) := by decide +kernel
theorem dX11_fewest_28 : decode cX11_fewest 28 = .ok (.invokevirtual 282, 3) := by decide +kernel
theorem dX11_fewest_31 : decode cX11_fewest 31 = .ok (.ireturn, 1) := by decide +kernel
set_option maxRecDepth 20000 in
theorem ggX11_nearest_X11_isWish : GoodIn wsX11_nearest wsX11_isWish := goodIn_r _ [11, 12, 13, 14, 10, 15] (by decide +kernel) (by decide +kernel)
set_option maxRecDepth 20000 in
theorem gX11_nearest_X11_isWish : GoodIn wsX11_nearest (va_wsS RX11 208 yX11_isWish wsX11_isWish) := goodIn_app (goodIn_of _ (by decide +kernel)) ggX11_nearest_X11_isWish
set_option maxRecDepth 20000 in
theorem ggX11_nearest_X11_in : GoodIn wsX11_nearest wsX11_in := goodIn_r _ [15] (by decide +kernel) (by decide +kernel)
set_option maxRecDepth 20000 in
theorem gX11_nearest_X11_in : GoodIn wsX11_nearest (va_wsS RX11 86 yX11_in wsX11_in) := goodIn_app (goodIn_of _ (by decide +kernel)) ggX11_nearest_X11_in
set_option maxRecDepth 20000 in
theorem ggX11_nearest_X11_layReached : GoodIn wsX11_nearest wsX11_layReached := goodIn_r _ [19, 4, 20, 21, 22, 23, 24, 10, 25, 26, 27, 28, 29, 13, 14, 15, 30, 31, 32, 33, 34, 35, 36, 37, 38, 39, 40, 41, 42, 43, 44, 5, 6, 45, 46, 47, 48, 49, 50, 51, 52, 53, 54, 55, 56, 57, 58, 59, 67, 68, 69, 70, 71, 72, 73, 74, 75, 76, 77, 78, 79, 80, 81, 82, 83, 84, 85, 86, 87, 88, 89, 90, 91, 92, 93, 94, 95, 96, 97, 98, 99] (by decide +kernel) (by decide +kernel)
set_option maxRecDepth 20000 in
theorem gX11_nearest_X11_layReached : GoodIn wsX11_nearest (wsV RX11 270 RX11 yX11_layReached wsX11_layReached) := goodIn_app (goodIn_of _ (by decide +kernel)) ggX11_nearest_X11_layReached
set_option maxRecDepth 20000 in
theorem ggX11_nearest_X11_isLess : GoodIn wsX11_nearest wsX11_isLess := goodIn_r _ [62] (by decide +kernel) (by decide +kernel)
set_option maxRecDepth 20000 in
theorem gX11_nearest_X11_isLess : GoodIn wsX11_nearest (va_wsS RX11 222 yX11_isLess wsX11_isLess) := goodIn_app (goodIn_of _ (by decide +kernel)) ggX11_nearest_X11_isLess
set_option maxRecDepth 20000 in
theorem ggX11_nearest_X11_partsOfReached : GoodIn wsX11_nearest wsX11_partsOfReached := goodIn_r _ [66, 20, 67, 68, 69, 70, 71, 72, 73, 74, 75, 76, 77, 78, 79, 80, 81, 82, 83, 84, 85, 86, 87, 88, 89, 90, 91, 92, 93, 94, 95, 96, 97, 98, 99] (by decide +kernel) (by decide +kernel)
set_option maxRecDepth 20000 in
theorem gX11_nearest_X11_partsOfReached : GoodIn wsX11_nearest (wsV RX11 282 RX11 yX11_partsOfReached wsX11_partsOfReached) := goodIn_app (goodIn_of _ (by decide +kernel)) ggX11_nearest_X11_partsOfReached
theorem dX11_nearest_0 : decode cX11_nearest 0 = .ok (.iload_n 1, 1) := by decide +kernel
theorem dX11_nearest_1 : decode cX11_nearest 1 = .ok (.iload_n 2, 1) := by decide +kernel
theorem dX11_nearest_2 : decode cX11_nearest 2 = .ok (.invokestatic 208, 3) := by decide +kernel
theorem dX11_nearest_5 : decode cX11_nearest 5 = .ok (.ifCond .eq 28, 3) := by decide +kernel
theorem dX11_nearest_8 : decode cX11_nearest 8 = .ok (.iload_n 3, 1) := by decide +kernel
theorem dX11_nearest_9 : decode cX11_nearest 9 = .ok (.i2l, 1) := by decide +kernel
theorem dX11_nearest_10 : decode cX11_nearest 10 = .ok (.lconst 1, 1) := by decide +kernel
theorem dX11_nearest_11 : decode cX11_nearest 11 = .ok (.ldc2_w 127, 3) := by decide +kernel
theorem dX11_nearest_14 : decode cX11_nearest 14 = .ok (.invokestatic 86, 3) := by decide +kernel
theorem dX11_nearest_17 : decode cX11_nearest 17 = .ok (.ifCond .eq 16, 3) := by decide +kernel
theorem dX11_nearest_20 : decode cX11_nearest 20 = .ok (.iload 4, 2) := by decide +kernel
theorem dX11_nearest_22 : decode cX11_nearest 22 = .ok (.i2l, 1) := by decide +kernel
theorem dX11_nearest_23 : decode cX11_nearest 23 = .ok (.lconst 0, 1) := by decide +kernel
theorem dX11_nearest_24 : decode cX11_nearest 24 = .ok (.ldc2_w 112, 3) := by decide +kernel
theorem dX11_nearest_27 : decode cX11_nearest 27 = .ok (.invokestatic 86, 3) := by decide +kernel
theorem dX11_nearest_30 : decode cX11_nearest 30 = .ok (.ifCond .ne 7, 3) := by decide +kernel
theorem dX11_nearest_33 : decode cX11_nearest 33 = .ok (.ldc2_w 155, 3) := by decide +kernel
theorem dX11_nearest_36 : decode cX11_nearest 36 = .ok (.lreturn, 1) := by decide +kernel
theorem dX11_nearest_37 : decode cX11_nearest 37 = .ok (.aload_n 0, 1) := by decide +kernel
theorem dX11_nearest_38 : decode cX11_nearest 38 = .ok (.iload_n 3, 1) := by decide +kernel
theorem dX11_nearest_39 : decode cX11_nearest 39 = .ok (.invokevirtual 270, 3) := by decide +kernel
theorem dX11_nearest_42 : decode cX11_nearest 42 = .ok (.iconst (-1), 1) := by decide +kernel
theorem dX11_nearest_43 : decode cX11_nearest 43 = .ok (.istore 5, 2) := by decide +kernel
theorem dX11_nearest_45 : decode cX11_nearest 45 = .ok (.lconst 0, 1) := by decide +kernel
theorem dX11_nearest_46 : decode cX11_nearest 46 = .ok (.lstore 6, 2) := by decide +kernel
theorem dX11_nearest_48 : decode cX11_nearest 48 = .ok (.iconst 0, 1) := by decide +kernel
theorem dX11_nearest_49 : decode cX11_nearest 49 = .ok (.istore 8, 2) := by decide +kernel
theorem dX11_nearest_51 : decode cX11_nearest 51 = .ok (.iload 8, 2) := by decide +kernel
theorem dX11_nearest_53 : decode cX11_nearest 53 = .ok (.aload_n 0, 1) := by decide +kernel
theorem dX11_nearest_54 : decode cX11_nearest 54 = .ok (.getfield 256, 3) := by decide +kernel
theorem dX11_nearest_57 : decode cX11_nearest 57 = .ok (.if_icmp .ge 220, 3) := by decide +kernel
theorem dX11_nearest_60 : decode cX11_nearest 60 = .ok (.aload_n 0, 1) := by decide +kernel
theorem dX11_nearest_61 : decode cX11_nearest 61 = .ok (.getfield 63, 3) := by decide +kernel
theorem dX11_nearest_64 : decode cX11_nearest 64 = .ok (.iload 8, 2) := by decide +kernel
theorem dX11_nearest_66 : decode cX11_nearest 66 = .ok (.laload, 1) := by decide +kernel
theorem dX11_nearest_67 : decode cX11_nearest 67 = .ok (.iload_n 2, 1) := by decide +kernel
theorem dX11_nearest_68 : decode cX11_nearest 68 = .ok (.i2l, 1) := by decide +kernel
theorem dX11_nearest_69 : decode cX11_nearest 69 = .ok (.lmul, 1) := by decide +kernel
theorem dX11_nearest_70 : decode cX11_nearest 70 = .ok (.iload_n 1, 1) := by decide +kernel
theorem dX11_nearest_71 : decode cX11_nearest 71 = .ok (.i2l, 1) := by decide +kernel
theorem dX11_nearest_72 : decode cX11_nearest 72 = .ok (.aload_n 0, 1) := by decide +kernel
theorem dX11_nearest_73 : decode cX11_nearest 73 = .ok (.getfield 66, 3) := by decide +kernel
theorem dX11_nearest_76 : decode cX11_nearest 76 = .ok (.iload 8, 2) := by decide +kernel
theorem dX11_nearest_78 : decode cX11_nearest 78 = .ok (.laload, 1) := by decide +kernel
theorem dX11_nearest_79 : decode cX11_nearest 79 = .ok (.lmul, 1) := by decide +kernel
theorem dX11_nearest_80 : decode cX11_nearest 80 = .ok (.lsub, 1) := by decide +kernel
theorem dX11_nearest_81 : decode cX11_nearest 81 = .ok (.lstore 9, 2) := by decide +kernel
theorem dX11_nearest_83 : decode cX11_nearest 83 = .ok (.lload 9, 2) := by decide +kernel
theorem dX11_nearest_85 : decode cX11_nearest 85 = .ok (.lconst 0, 1) := by decide +kernel
theorem dX11_nearest_86 : decode cX11_nearest 86 = .ok (.lcmp, 1) := by decide +kernel
theorem dX11_nearest_87 : decode cX11_nearest 87 = .ok (.ifCond .ge 9, 3) := by decide +kernel
theorem dX11_nearest_90 : decode cX11_nearest 90 = .ok (.lload 9, 2) := by decide +kernel
theorem dX11_nearest_92 : decode cX11_nearest 92 = .ok (.lneg, 1) := by decide +kernel
theorem dX11_nearest_93 : decode cX11_nearest 93 = .ok (.goto 5, 3) := by decide +kernel
theorem dX11_nearest_96 : decode cX11_nearest 96 = .ok (.lload 9, 2) := by decide +kernel
theorem dX11_nearest_98 : decode cX11_nearest 98 = .ok (.lstore 9, 2) := by decide +kernel
theorem dX11_nearest_100 : decode cX11_nearest 100 = .ok (.iload 5, 2) := by decide +kernel
theorem dX11_nearest_102 : decode cX11_nearest 102 = .ok (.ifCond .lt 27, 3) := by decide +kernel
theorem dX11_nearest_105 : decode cX11_nearest 105 = .ok (.lload 9, 2) := by decide +kernel
theorem dX11_nearest_107 : decode cX11_nearest 107 = .ok (.aload_n 0, 1) := by decide +kernel
theorem dX11_nearest_108 : decode cX11_nearest 108 = .ok (.getfield 66, 3) := by decide +kernel
theorem dX11_nearest_111 : decode cX11_nearest 111 = .ok (.iload 8, 2) := by decide +kernel
theorem dX11_nearest_113 : decode cX11_nearest 113 = .ok (.laload, 1) := by decide +kernel
theorem dX11_nearest_114 : decode cX11_nearest 114 = .ok (.lload 6, 2) := by decide +kernel
theorem dX11_nearest_116 : decode cX11_nearest 116 = .ok (.aload_n 0, 1) := by decide +kernel
theorem dX11_nearest_117 : decode cX11_nearest 117 = .ok (.getfield 66, 3) := by decide +kernel
theorem dX11_nearest_120 : decode cX11_nearest 120 = .ok (.iload 5, 2) := by decide +kernel
theorem dX11_nearest_122 : decode cX11_nearest 122 = .ok (.laload, 1) := by decide +kernel
theorem dX11_nearest_123 : decode cX11_nearest 123 = .ok (.invokestatic 222, 3) := by decide +kernel
theorem dX11_nearest_126 : decode cX11_nearest 126 = .ok (.ifCond .eq 7, 3) := by decide +kernel
theorem dX11_nearest_129 : decode cX11_nearest 129 = .ok (.iconst 1, 1) := by decide +kernel
theorem dX11_nearest_130 : decode cX11_nearest 130 = .ok (.goto 4, 3) := by decide +kernel
theorem dX11_nearest_133 : decode cX11_nearest 133 = .ok (.iconst 0, 1) := by decide +kernel
theorem dX11_nearest_134 : decode cX11_nearest 134 = .ok (.istore 11, 2) := by decide +kernel
theorem dX11_nearest_136 : decode cX11_nearest 136 = .ok (.iload 5, 2) := by decide +kernel
theorem dX11_nearest_138 : decode cX11_nearest 138 = .ok (.ifCond .lt 36, 3) := by decide +kernel
theorem dX11_nearest_141 : decode cX11_nearest 141 = .ok (.iload 11, 2) := by decide +kernel
theorem dX11_nearest_143 : decode cX11_nearest 143 = .ok (.ifCond .ne 31, 3) := by decide +kernel
theorem dX11_nearest_146 : decode cX11_nearest 146 = .ok (.lload 6, 2) := by decide +kernel
theorem dX11_nearest_148 : decode cX11_nearest 148 = .ok (.aload_n 0, 1) := by decide +kernel
theorem dX11_nearest_149 : decode cX11_nearest 149 = .ok (.getfield 66, 3) := by decide +kernel
theorem dX11_nearest_152 : decode cX11_nearest 152 = .ok (.iload 5, 2) := by decide +kernel
theorem dX11_nearest_154 : decode cX11_nearest 154 = .ok (.laload, 1) := by decide +kernel
theorem dX11_nearest_155 : decode cX11_nearest 155 = .ok (.lload 9, 2) := by decide +kernel
theorem dX11_nearest_157 : decode cX11_nearest 157 = .ok (.aload_n 0, 1) := by decide +kernel
theorem dX11_nearest_158 : decode cX11_nearest 158 = .ok (.getfield 66, 3) := by decide +kernel
theorem dX11_nearest_161 : decode cX11_nearest 161 = .ok (.iload 8, 2) := by decide +kernel
theorem dX11_nearest_163 : decode cX11_nearest 163 = .ok (.laload, 1) := by decide +kernel
theorem dX11_nearest_164 : decode cX11_nearest 164 = .ok (.invokestatic 222, 3) := by decide +kernel
theorem dX11_nearest_167 : decode cX11_nearest 167 = .ok (.ifCond .ne 7, 3) := by decide +kernel
theorem dX11_nearest_170 : decode cX11_nearest 170 = .ok (.iconst 1, 1) := by decide +kernel
theorem dX11_nearest_171 : decode cX11_nearest 171 = .ok (.goto 4, 3) := by decide +kernel
theorem dX11_nearest_174 : decode cX11_nearest 174 = .ok (.iconst 0, 1) := by decide +kernel
theorem dX11_nearest_175 : decode cX11_nearest 175 = .ok (.istore 12, 2) := by decide +kernel
theorem dX11_nearest_177 : decode cX11_nearest 177 = .ok (.iload 11, 2) := by decide +kernel
theorem dX11_nearest_179 : decode cX11_nearest 179 = .ok (.ifCond .ne 57, 3) := by decide +kernel
theorem dX11_nearest_182 : decode cX11_nearest 182 = .ok (.iload 12, 2) := by decide +kernel
theorem dX11_nearest_184 : decode cX11_nearest 184 = .ok (.ifCond .eq 56, 3) := by decide +kernel
theorem dX11_nearest_187 : decode cX11_nearest 187 = .ok (.aload_n 0, 1) := by decide +kernel
theorem dX11_nearest_188 : decode cX11_nearest 188 = .ok (.iload 8, 2) := by decide +kernel
theorem dX11_nearest_190 : decode cX11_nearest 190 = .ok (.invokevirtual 282, 3) := by decide +kernel
theorem dX11_nearest_193 : decode cX11_nearest 193 = .ok (.aload_n 0, 1) := by decide +kernel
theorem dX11_nearest_194 : decode cX11_nearest 194 = .ok (.iload 5, 2) := by decide +kernel
theorem dX11_nearest_196 : decode cX11_nearest 196 = .ok (.invokevirtual 282, 3) := by decide +kernel
theorem dX11_nearest_199 : decode cX11_nearest 199 = .ok (.if_icmp .ne 41, 3) := by decide +kernel
theorem dX11_nearest_202 : decode cX11_nearest 202 = .ok (.aload_n 0, 1) := by decide +kernel
theorem dX11_nearest_203 : decode cX11_nearest 203 = .ok (.getfield 63, 3) := by decide +kernel
theorem dX11_nearest_206 : decode cX11_nearest 206 = .ok (.iload 8, 2) := by decide +kernel
theorem dX11_nearest_208 : decode cX11_nearest 208 = .ok (.laload, 1) := by decide +kernel
theorem dX11_nearest_209 : decode cX11_nearest 209 = .ok (.aload_n 0, 1) := by decide +kernel
theorem dX11_nearest_210 : decode cX11_nearest 210 = .ok (.getfield 66, 3) := by decide +kernel
theorem dX11_nearest_213 : decode cX11_nearest 213 = .ok (.iload 8, 2) := by decide +kernel
theorem dX11_nearest_215 : decode cX11_nearest 215 = .ok (.laload, 1) := by decide +kernel
theorem dX11_nearest_216 : decode cX11_nearest 216 = .ok (.aload_n 0, 1) := by decide +kernel
theorem dX11_nearest_217 : decode cX11_nearest 217 = .ok (.getfield 63, 3) := by decide +kernel
theorem dX11_nearest_220 : decode cX11_nearest 220 = .ok (.iload 5, 2) := by decide +kernel
theorem dX11_nearest_222 : decode cX11_nearest 222 = .ok (.laload, 1) := by decide +kernel
theorem dX11_nearest_223 : decode cX11_nearest 223 = .ok (.aload_n 0, 1) := by decide +kernel
theorem dX11_nearest_224 : decode cX11_nearest 224 = .ok (.getfield 66, 3) := by decide +kernel
theorem dX11_nearest_227 : decode cX11_nearest 227 = .ok (.iload 5, 2) := by decide +kernel
theorem dX11_nearest_229 : decode cX11_nearest 229 = .ok (.laload, 1) := by decide +kernel
theorem dX11_nearest_230 : decode cX11_nearest 230 = .ok (.invokestatic 222, 3) := by decide +kernel
theorem dX11_nearest_233 : decode cX11_nearest 233 = .ok (.ifCond .eq 7, 3) := by decide +kernel
theorem dX11_nearest_236 : decode cX11_nearest 236 = .ok (.iconst 1, 1) := by decide +kernel
theorem dX11_nearest_237 : decode cX11_nearest 237 = .ok (.goto 4, 3) := by decide +kernel
theorem dX11_nearest_240 : decode cX11_nearest 240 = .ok (.iconst 0, 1) := by decide +kernel
theorem dX11_nearest_241 : decode cX11_nearest 241 = .ok (.istore 11, 2) := by decide +kernel
theorem dX11_nearest_243 : decode cX11_nearest 243 = .ok (.iload 11, 2) := by decide +kernel
theorem dX11_nearest_245 : decode cX11_nearest 245 = .ok (.ifCond .eq 8, 3) := by decide +kernel
theorem dX11_nearest_248 : decode cX11_nearest 248 = .ok (.iload 8, 2) := by decide +kernel
theorem dX11_nearest_250 : decode cX11_nearest 250 = .ok (.goto 5, 3) := by decide +kernel
theorem dX11_nearest_253 : decode cX11_nearest 253 = .ok (.iload 5, 2) := by decide +kernel
theorem dX11_nearest_255 : decode cX11_nearest 255 = .ok (.istore 5, 2) := by decide +kernel
theorem dX11_nearest_257 : decode cX11_nearest 257 = .ok (.iload 11, 2) := by decide +kernel
theorem dX11_nearest_259 : decode cX11_nearest 259 = .ok (.ifCond .eq 8, 3) := by decide +kernel
theorem dX11_nearest_262 : decode cX11_nearest 262 = .ok (.lload 9, 2) := by decide +kernel
theorem dX11_nearest_264 : decode cX11_nearest 264 = .ok (.goto 5, 3) := by decide +kernel
theorem dX11_nearest_267 : decode cX11_nearest 267 = .ok (.lload 6, 2) := by decide +kernel
theorem dX11_nearest_269 : decode cX11_nearest 269 = .ok (.lstore 6, 2) := by decide +kernel
theorem dX11_nearest_271 : decode cX11_nearest 271 = .ok (.iinc 8 1, 3) := by decide +kernel
theorem dX11_nearest_274 : decode cX11_nearest 274 = .ok (.goto (-223), 3) := by decide +kernel
theorem dX11_nearest_277 : decode cX11_nearest 277 = .ok (.iload 5, 2) := by decide +kernel
theorem dX11_nearest_279 : decode cX11_nearest 279 = .ok (.ifCond .ge 7, 3) := by decide +kernel
theorem dX11_nearest_282 : decode cX11_nearest 282 = .ok (.ldc2_w 276, 3) := by decide +kernel
theorem dX11_nearest_285 : decode cX11_nearest 285 = .ok (.lreturn, 1) := by decide +kernel
theorem dX11_nearest_286 : decode cX11_nearest 286 = .ok (.iload 4, 2) := by decide +kernel
theorem dX11_nearest_288 : decode cX11_nearest 288 = .ok (.ifCond .ne 13, 3) := by decide +kernel
theorem dX11_nearest_291 : decode cX11_nearest 291 = .ok (.aload_n 0, 1) := by decide +kernel
theorem dX11_nearest_292 : decode cX11_nearest 292 = .ok (.getfield 63, 3) := by decide +kernel
theorem dX11_nearest_295 : decode cX11_nearest 295 = .ok (.iload 5, 2) := by decide +kernel
theorem dX11_nearest_297 : decode cX11_nearest 297 = .ok (.laload, 1) := by decide +kernel
theorem dX11_nearest_298 : decode cX11_nearest 298 = .ok (.goto 26, 3) := by decide +kernel
theorem dX11_nearest_301 : decode cX11_nearest 301 = .ok (.iload 4, 2) := by decide +kernel
theorem dX11_nearest_303 : decode cX11_nearest 303 = .ok (.iconst 1, 1) := by decide +kernel
theorem dX11_nearest_304 : decode cX11_nearest 304 = .ok (.if_icmp .ne 13, 3) := by decide +kernel
theorem dX11_nearest_307 : decode cX11_nearest 307 = .ok (.aload_n 0, 1) := by decide +kernel
theorem dX11_nearest_308 : decode cX11_nearest 308 = .ok (.getfield 66, 3) := by decide +kernel
theorem dX11_nearest_311 : decode cX11_nearest 311 = .ok (.iload 5, 2) := by decide +kernel
theorem dX11_nearest_313 : decode cX11_nearest 313 = .ok (.laload, 1) := by decide +kernel
theorem dX11_nearest_314 : decode cX11_nearest 314 = .ok (.goto 10, 3) := by decide +kernel
theorem dX11_nearest_317 : decode cX11_nearest 317 = .ok (.aload_n 0, 1) := by decide +kernel
theorem dX11_nearest_318 : decode cX11_nearest 318 = .ok (.iload 5, 2) := by decide +kernel
theorem dX11_nearest_320 : decode cX11_nearest 320 = .ok (.invokevirtual 282, 3) := by decide +kernel
theorem dX11_nearest_323 : decode cX11_nearest 323 = .ok (.i2l, 1) := by decide +kernel
theorem dX11_nearest_324 : decode cX11_nearest 324 = .ok (.lreturn, 1) := by decide +kernel
set_option maxRecDepth 20000 in
theorem ggX11_makes_X11_kept : GoodIn wsX11_makes wsX11_kept := goodIn_r _ [11, 12, 13, 14, 15, 10, 16, 17, 18, 19, 20, 21, 22, 23, 24, 25, 26, 27, 28, 33, 34, 35, 36, 37, 38, 39, 40, 41, 42, 43, 44, 45, 46, 47, 48, 49, 50, 51, 52, 53, 54, 55, 56, 57, 58, 59, 60, 61, 62, 63, 64, 65] (by decide +kernel) (by decide +kernel)
set_option maxRecDepth 20000 in
theorem gX11_makes_X11_kept : GoodIn wsX11_makes (wsV RX11 117 RX11 yX11_kept wsX11_kept) := goodIn_app (goodIn_of _ (by decide +kernel)) ggX11_makes_X11_kept
set_option maxRecDepth 20000 in
theorem ggX11_makes_X11_partsOf : GoodIn wsX11_makes wsX11_partsOf := goodIn_r _ [32, 12, 33, 34, 35, 36, 37, 38, 39, 40, 41, 42, 43, 44, 45, 46, 47, 48, 49, 50, 51, 52, 53, 54, 55, 56, 57, 58, 59, 60, 61, 62, 63, 64, 65] (by decide +kernel) (by decide +kernel)
set_option maxRecDepth 20000 in
theorem gX11_makes_X11_partsOf : GoodIn wsX11_makes (wsV RX11 124 RX11 yX11_partsOf wsX11_partsOf) := goodIn_app (goodIn_of _ (by decide +kernel)) ggX11_makes_X11_partsOf
theorem dX11_makes_0 : decode cX11_makes 0 = .ok (.iconst 0, 1) := by decide +kernel
theorem dX11_makes_1 : decode cX11_makes 1 = .ok (.istore_n 2, 1) := by decide +kernel
theorem dX11_makes_2 : decode cX11_makes 2 = .ok (.aload_n 0, 1) := by decide +kernel
theorem dX11_makes_3 : decode cX11_makes 3 = .ok (.iconst 1, 1) := by decide +kernel
theorem dX11_makes_4 : decode cX11_makes 4 = .ok (.putfield 186, 3) := by decide +kernel
theorem dX11_makes_7 : decode cX11_makes 7 = .ok (.aload_n 0, 1) := by decide +kernel
theorem dX11_makes_8 : decode cX11_makes 8 = .ok (.getfield 36, 3) := by decide +kernel
theorem dX11_makes_11 : decode cX11_makes 11 = .ok (.iconst 0, 1) := by decide +kernel
theorem dX11_makes_12 : decode cX11_makes 12 = .ok (.iload_n 1, 1) := by decide +kernel
theorem dX11_makes_13 : decode cX11_makes 13 = .ok (.iastore, 1) := by decide +kernel
theorem dX11_makes_14 : decode cX11_makes 14 = .ok (.aload_n 0, 1) := by decide +kernel
theorem dX11_makes_15 : decode cX11_makes 15 = .ok (.getfield 186, 3) := by decide +kernel
theorem dX11_makes_18 : decode cX11_makes 18 = .ok (.ifCond .le 206, 3) := by decide +kernel
theorem dX11_makes_21 : decode cX11_makes 21 = .ok (.aload_n 0, 1) := by decide +kernel
theorem dX11_makes_22 : decode cX11_makes 22 = .ok (.dup, 1) := by decide +kernel
theorem dX11_makes_23 : decode cX11_makes 23 = .ok (.getfield 186, 3) := by decide +kernel
theorem dX11_makes_26 : decode cX11_makes 26 = .ok (.iconst 1, 1) := by decide +kernel
theorem dX11_makes_27 : decode cX11_makes 27 = .ok (.isub, 1) := by decide +kernel
theorem dX11_makes_28 : decode cX11_makes 28 = .ok (.putfield 186, 3) := by decide +kernel
theorem dX11_makes_31 : decode cX11_makes 31 = .ok (.aload_n 0, 1) := by decide +kernel
theorem dX11_makes_32 : decode cX11_makes 32 = .ok (.getfield 36, 3) := by decide +kernel
theorem dX11_makes_35 : decode cX11_makes 35 = .ok (.aload_n 0, 1) := by decide +kernel
theorem dX11_makes_36 : decode cX11_makes 36 = .ok (.getfield 186, 3) := by decide +kernel
theorem dX11_makes_39 : decode cX11_makes 39 = .ok (.iaload, 1) := by decide +kernel
theorem dX11_makes_40 : decode cX11_makes 40 = .ok (.istore_n 3, 1) := by decide +kernel
theorem dX11_makes_41 : decode cX11_makes 41 = .ok (.iconst 0, 1) := by decide +kernel
theorem dX11_makes_42 : decode cX11_makes 42 = .ok (.istore 4, 2) := by decide +kernel
theorem dX11_makes_44 : decode cX11_makes 44 = .ok (.iload_n 3, 1) := by decide +kernel
theorem dX11_makes_45 : decode cX11_makes 45 = .ok (.ifCond .lt 71, 3) := by decide +kernel
theorem dX11_makes_48 : decode cX11_makes 48 = .ok (.aload_n 0, 1) := by decide +kernel
theorem dX11_makes_49 : decode cX11_makes 49 = .ok (.getfield 69, 3) := by decide +kernel
theorem dX11_makes_52 : decode cX11_makes 52 = .ok (.iload_n 3, 1) := by decide +kernel
theorem dX11_makes_53 : decode cX11_makes 53 = .ok (.iaload, 1) := by decide +kernel
theorem dX11_makes_54 : decode cX11_makes 54 = .ok (.ifCond .le 62, 3) := by decide +kernel
theorem dX11_makes_57 : decode cX11_makes 57 = .ok (.aload_n 0, 1) := by decide +kernel
theorem dX11_makes_58 : decode cX11_makes 58 = .ok (.getfield 36, 3) := by decide +kernel
theorem dX11_makes_61 : decode cX11_makes 61 = .ok (.aload_n 0, 1) := by decide +kernel
theorem dX11_makes_62 : decode cX11_makes 62 = .ok (.getfield 186, 3) := by decide +kernel
theorem dX11_makes_65 : decode cX11_makes 65 = .ok (.iconst (-1), 1) := by decide +kernel
theorem dX11_makes_66 : decode cX11_makes 66 = .ok (.iload_n 3, 1) := by decide +kernel
theorem dX11_makes_67 : decode cX11_makes 67 = .ok (.isub, 1) := by decide +kernel
theorem dX11_makes_68 : decode cX11_makes 68 = .ok (.iastore, 1) := by decide +kernel
theorem dX11_makes_69 : decode cX11_makes 69 = .ok (.aload_n 0, 1) := by decide +kernel
theorem dX11_makes_70 : decode cX11_makes 70 = .ok (.getfield 36, 3) := by decide +kernel
theorem dX11_makes_73 : decode cX11_makes 73 = .ok (.aload_n 0, 1) := by decide +kernel
theorem dX11_makes_74 : decode cX11_makes 74 = .ok (.getfield 186, 3) := by decide +kernel
theorem dX11_makes_77 : decode cX11_makes 77 = .ok (.iconst 1, 1) := by decide +kernel
theorem dX11_makes_78 : decode cX11_makes 78 = .ok (.iadd, 1) := by decide +kernel
theorem dX11_makes_79 : decode cX11_makes 79 = .ok (.aload_n 0, 1) := by decide +kernel
theorem dX11_makes_80 : decode cX11_makes 80 = .ok (.getfield 75, 3) := by decide +kernel
theorem dX11_makes_83 : decode cX11_makes 83 = .ok (.iload_n 3, 1) := by decide +kernel
theorem dX11_makes_84 : decode cX11_makes 84 = .ok (.iaload, 1) := by decide +kernel
theorem dX11_makes_85 : decode cX11_makes 85 = .ok (.iastore, 1) := by decide +kernel
theorem dX11_makes_86 : decode cX11_makes 86 = .ok (.aload_n 0, 1) := by decide +kernel
theorem dX11_makes_87 : decode cX11_makes 87 = .ok (.getfield 36, 3) := by decide +kernel
theorem dX11_makes_90 : decode cX11_makes 90 = .ok (.aload_n 0, 1) := by decide +kernel
theorem dX11_makes_91 : decode cX11_makes 91 = .ok (.getfield 186, 3) := by decide +kernel
theorem dX11_makes_94 : decode cX11_makes 94 = .ok (.iconst 2, 1) := by decide +kernel
theorem dX11_makes_95 : decode cX11_makes 95 = .ok (.iadd, 1) := by decide +kernel
theorem dX11_makes_96 : decode cX11_makes 96 = .ok (.aload_n 0, 1) := by decide +kernel
theorem dX11_makes_97 : decode cX11_makes 97 = .ok (.getfield 72, 3) := by decide +kernel
theorem dX11_makes_100 : decode cX11_makes 100 = .ok (.iload_n 3, 1) := by decide +kernel
theorem dX11_makes_101 : decode cX11_makes 101 = .ok (.iaload, 1) := by decide +kernel
theorem dX11_makes_102 : decode cX11_makes 102 = .ok (.iastore, 1) := by decide +kernel
theorem dX11_makes_103 : decode cX11_makes 103 = .ok (.aload_n 0, 1) := by decide +kernel
theorem dX11_makes_104 : decode cX11_makes 104 = .ok (.dup, 1) := by decide +kernel
theorem dX11_makes_105 : decode cX11_makes 105 = .ok (.getfield 186, 3) := by decide +kernel
theorem dX11_makes_108 : decode cX11_makes 108 = .ok (.iconst 3, 1) := by decide +kernel
theorem dX11_makes_109 : decode cX11_makes 109 = .ok (.iadd, 1) := by decide +kernel
theorem dX11_makes_110 : decode cX11_makes 110 = .ok (.putfield 186, 3) := by decide +kernel
theorem dX11_makes_113 : decode cX11_makes 113 = .ok (.goto 100, 3) := by decide +kernel
theorem dX11_makes_116 : decode cX11_makes 116 = .ok (.iload_n 3, 1) := by decide +kernel
theorem dX11_makes_117 : decode cX11_makes 117 = .ok (.ifCond .lt 32, 3) := by decide +kernel
theorem dX11_makes_120 : decode cX11_makes 120 = .ok (.aload_n 0, 1) := by decide +kernel
theorem dX11_makes_121 : decode cX11_makes 121 = .ok (.iconst 0, 1) := by decide +kernel
theorem dX11_makes_122 : decode cX11_makes 122 = .ok (.aload_n 0, 1) := by decide +kernel
theorem dX11_makes_123 : decode cX11_makes 123 = .ok (.getfield 72, 3) := by decide +kernel
theorem dX11_makes_126 : decode cX11_makes 126 = .ok (.iload_n 3, 1) := by decide +kernel
theorem dX11_makes_127 : decode cX11_makes 127 = .ok (.iaload, 1) := by decide +kernel
theorem dX11_makes_128 : decode cX11_makes 128 = .ok (.iconst 0, 1) := by decide +kernel
theorem dX11_makes_129 : decode cX11_makes 129 = .ok (.iconst 1, 1) := by decide +kernel
theorem dX11_makes_130 : decode cX11_makes 130 = .ok (.invokevirtual 117, 3) := by decide +kernel
theorem dX11_makes_133 : decode cX11_makes 133 = .ok (.istore 4, 2) := by decide +kernel
theorem dX11_makes_135 : decode cX11_makes 135 = .ok (.aload_n 0, 1) := by decide +kernel
theorem dX11_makes_136 : decode cX11_makes 136 = .ok (.getfield 57, 3) := by decide +kernel
theorem dX11_makes_139 : decode cX11_makes 139 = .ok (.iload_n 2, 1) := by decide +kernel
theorem dX11_makes_140 : decode cX11_makes 140 = .ok (.iload 4, 2) := by decide +kernel
theorem dX11_makes_142 : decode cX11_makes 142 = .ok (.iastore, 1) := by decide +kernel
theorem dX11_makes_143 : decode cX11_makes 143 = .ok (.iinc 2 1, 3) := by decide +kernel
theorem dX11_makes_146 : decode cX11_makes 146 = .ok (.goto 67, 3) := by decide +kernel
theorem dX11_makes_149 : decode cX11_makes 149 = .ok (.iinc 2 (-1), 3) := by decide +kernel
theorem dX11_makes_152 : decode cX11_makes 152 = .ok (.aload_n 0, 1) := by decide +kernel
theorem dX11_makes_153 : decode cX11_makes 153 = .ok (.aload_n 0, 1) := by decide +kernel
theorem dX11_makes_154 : decode cX11_makes 154 = .ok (.getfield 69, 3) := by decide +kernel
theorem dX11_makes_157 : decode cX11_makes 157 = .ok (.iconst (-1), 1) := by decide +kernel
theorem dX11_makes_158 : decode cX11_makes 158 = .ok (.iload_n 3, 1) := by decide +kernel
theorem dX11_makes_159 : decode cX11_makes 159 = .ok (.isub, 1) := by decide +kernel
theorem dX11_makes_160 : decode cX11_makes 160 = .ok (.iaload, 1) := by decide +kernel
theorem dX11_makes_161 : decode cX11_makes 161 = .ok (.aload_n 0, 1) := by decide +kernel
theorem dX11_makes_162 : decode cX11_makes 162 = .ok (.getfield 57, 3) := by decide +kernel
theorem dX11_makes_165 : decode cX11_makes 165 = .ok (.iload_n 2, 1) := by decide +kernel
theorem dX11_makes_166 : decode cX11_makes 166 = .ok (.iconst 1, 1) := by decide +kernel
theorem dX11_makes_167 : decode cX11_makes 167 = .ok (.isub, 1) := by decide +kernel
theorem dX11_makes_168 : decode cX11_makes 168 = .ok (.iaload, 1) := by decide +kernel
theorem dX11_makes_169 : decode cX11_makes 169 = .ok (.aload_n 0, 1) := by decide +kernel
theorem dX11_makes_170 : decode cX11_makes 170 = .ok (.getfield 57, 3) := by decide +kernel
theorem dX11_makes_173 : decode cX11_makes 173 = .ok (.iload_n 2, 1) := by decide +kernel
theorem dX11_makes_174 : decode cX11_makes 174 = .ok (.iaload, 1) := by decide +kernel
theorem dX11_makes_175 : decode cX11_makes 175 = .ok (.aload_n 0, 1) := by decide +kernel
theorem dX11_makes_176 : decode cX11_makes 176 = .ok (.aload_n 0, 1) := by decide +kernel
theorem dX11_makes_177 : decode cX11_makes 177 = .ok (.getfield 57, 3) := by decide +kernel
theorem dX11_makes_180 : decode cX11_makes 180 = .ok (.iload_n 2, 1) := by decide +kernel
theorem dX11_makes_181 : decode cX11_makes 181 = .ok (.iconst 1, 1) := by decide +kernel
theorem dX11_makes_182 : decode cX11_makes 182 = .ok (.isub, 1) := by decide +kernel
theorem dX11_makes_183 : decode cX11_makes 183 = .ok (.iaload, 1) := by decide +kernel
theorem dX11_makes_184 : decode cX11_makes 184 = .ok (.invokevirtual 124, 3) := by decide +kernel
theorem dX11_makes_187 : decode cX11_makes 187 = .ok (.aload_n 0, 1) := by decide +kernel
theorem dX11_makes_188 : decode cX11_makes 188 = .ok (.aload_n 0, 1) := by decide +kernel
theorem dX11_makes_189 : decode cX11_makes 189 = .ok (.getfield 57, 3) := by decide +kernel
theorem dX11_makes_192 : decode cX11_makes 192 = .ok (.iload_n 2, 1) := by decide +kernel
theorem dX11_makes_193 : decode cX11_makes 193 = .ok (.iaload, 1) := by decide +kernel
theorem dX11_makes_194 : decode cX11_makes 194 = .ok (.invokevirtual 124, 3) := by decide +kernel
theorem dX11_makes_197 : decode cX11_makes 197 = .ok (.iadd, 1) := by decide +kernel
theorem dX11_makes_198 : decode cX11_makes 198 = .ok (.invokevirtual 117, 3) := by decide +kernel
theorem dX11_makes_201 : decode cX11_makes 201 = .ok (.istore 4, 2) := by decide +kernel
theorem dX11_makes_203 : decode cX11_makes 203 = .ok (.aload_n 0, 1) := by decide +kernel
theorem dX11_makes_204 : decode cX11_makes 204 = .ok (.getfield 57, 3) := by decide +kernel
theorem dX11_makes_207 : decode cX11_makes 207 = .ok (.iload_n 2, 1) := by decide +kernel
theorem dX11_makes_208 : decode cX11_makes 208 = .ok (.iconst 1, 1) := by decide +kernel
theorem dX11_makes_209 : decode cX11_makes 209 = .ok (.isub, 1) := by decide +kernel
theorem dX11_makes_210 : decode cX11_makes 210 = .ok (.iload 4, 2) := by decide +kernel
theorem dX11_makes_212 : decode cX11_makes 212 = .ok (.iastore, 1) := by decide +kernel
theorem dX11_makes_213 : decode cX11_makes 213 = .ok (.iload 4, 2) := by decide +kernel
theorem dX11_makes_215 : decode cX11_makes 215 = .ok (.ifCond .ge 6, 3) := by decide +kernel
theorem dX11_makes_218 : decode cX11_makes 218 = .ok (.bipush (-3), 2) := by decide +kernel
theorem dX11_makes_220 : decode cX11_makes 220 = .ok (.ireturn, 1) := by decide +kernel
theorem dX11_makes_221 : decode cX11_makes 221 = .ok (.goto (-207), 3) := by decide +kernel
theorem dX11_makes_224 : decode cX11_makes 224 = .ok (.aload_n 0, 1) := by decide +kernel
theorem dX11_makes_225 : decode cX11_makes 225 = .ok (.getfield 57, 3) := by decide +kernel
theorem dX11_makes_228 : decode cX11_makes 228 = .ok (.iconst 0, 1) := by decide +kernel
theorem dX11_makes_229 : decode cX11_makes 229 = .ok (.iaload, 1) := by decide +kernel
theorem dX11_makes_230 : decode cX11_makes 230 = .ok (.ireturn, 1) := by decide +kernel
set_option maxRecDepth 20000 in
theorem ggX11_make_X11_isWish : GoodIn wsX11_make wsX11_isWish := goodIn_r _ [4, 5, 6, 7, 3, 8] (by decide +kernel) (by decide +kernel)
set_option maxRecDepth 20000 in
theorem gX11_make_X11_isWish : GoodIn wsX11_make (va_wsS RX11 208 yX11_isWish wsX11_isWish) := goodIn_app (goodIn_of _ (by decide +kernel)) ggX11_make_X11_isWish
set_option maxRecDepth 20000 in
theorem ggX11_make_X11_wished : GoodIn wsX11_make wsX11_wished := goodIn_r _ [12, 13, 14, 15, 16, 17, 3, 18, 19, 20, 21, 22, 23, 24, 25, 26, 27, 28, 29, 6, 7, 8, 30, 31, 32, 33, 34, 35, 36, 37, 38, 39, 40, 41, 42, 43, 44, 45, 46, 47, 48, 49, 50, 51, 52, 53, 54, 55, 56, 57, 58, 59, 91, 92, 93, 94, 95, 96, 97, 98, 99, 100, 101, 102, 103, 104, 105, 106, 107, 108, 109, 110, 111, 112, 113, 114, 115, 116, 117, 118, 119, 120, 121, 122, 123] (by decide +kernel) (by decide +kernel)
set_option maxRecDepth 20000 in
theorem gX11_make_X11_wished : GoodIn wsX11_make (wsV RX11 278 RX11 yX11_wished wsX11_wished) := goodIn_app (goodIn_of _ (by decide +kernel)) ggX11_make_X11_wished
set_option maxRecDepth 20000 in
theorem ggX11_make_X11_makes : GoodIn wsX11_make wsX11_makes := goodIn_r _ [63, 64, 65, 45, 47, 46, 66, 67, 68, 69, 3, 70, 21, 71, 72, 73, 74, 75, 76, 77, 78, 79, 80, 81, 82, 83, 84, 85, 86, 87, 88, 89, 90, 91, 92, 93, 94, 95, 96, 97, 98, 99, 100, 101, 102, 103, 104, 105, 106, 107, 108, 109, 110, 111, 112, 113, 114, 115, 116, 117, 118, 119, 120, 121, 122, 123] (by decide +kernel) (by decide +kernel)
set_option maxRecDepth 20000 in
theorem gX11_make_X11_makes : GoodIn wsX11_make (wsV RX11 285 RX11 yX11_makes wsX11_makes) := goodIn_app (goodIn_of _ (by decide +kernel)) ggX11_make_X11_makes
theorem dX11_make_0 : decode cX11_make 0 = .ok (.iload_n 1, 1) := by decide +kernel
theorem dX11_make_1 : decode cX11_make 1 = .ok (.iload_n 2, 1) := by decide +kernel
theorem dX11_make_2 : decode cX11_make 2 = .ok (.invokestatic 208, 3) := by decide +kernel
theorem dX11_make_5 : decode cX11_make 5 = .ok (.ifCond .ne 5, 3) := by decide +kernel
theorem dX11_make_8 : decode cX11_make 8 = .ok (.iconst (-1), 1) := by decide +kernel
theorem dX11_make_9 : decode cX11_make 9 = .ok (.ireturn, 1) := by decide +kernel
theorem dX11_make_10 : decode cX11_make 10 = .ok (.aload_n 0, 1) := by decide +kernel
theorem dX11_make_11 : decode cX11_make 11 = .ok (.iload_n 1, 1) := by decide +kernel
theorem dX11_make_12 : decode cX11_make 12 = .ok (.iload_n 2, 1) := by decide +kernel
theorem dX11_make_13 : decode cX11_make 13 = .ok (.invokevirtual 278, 3) := by decide +kernel
theorem dX11_make_16 : decode cX11_make 16 = .ok (.istore_n 3, 1) := by decide +kernel
theorem dX11_make_17 : decode cX11_make 17 = .ok (.iload_n 3, 1) := by decide +kernel
theorem dX11_make_18 : decode cX11_make 18 = .ok (.ifCond .ge 8, 3) := by decide +kernel
theorem dX11_make_21 : decode cX11_make 21 = .ok (.bipush (-2), 2) := by decide +kernel
theorem dX11_make_23 : decode cX11_make 23 = .ok (.goto 8, 3) := by decide +kernel
theorem dX11_make_26 : decode cX11_make 26 = .ok (.aload_n 0, 1) := by decide +kernel
theorem dX11_make_27 : decode cX11_make 27 = .ok (.iload_n 3, 1) := by decide +kernel
theorem dX11_make_28 : decode cX11_make 28 = .ok (.invokevirtual 285, 3) := by decide +kernel
theorem dX11_make_31 : decode cX11_make 31 = .ok (.ireturn, 1) := by decide +kernel
set_option maxRecDepth 20000 in
theorem ggX11_isPoint_X11_in : GoodIn wsX11_isPoint wsX11_in := goodIn_r _ [5] (by decide +kernel) (by decide +kernel)
set_option maxRecDepth 20000 in
theorem gX11_isPoint_X11_in : GoodIn wsX11_isPoint (va_wsS RX11 86 yX11_in wsX11_in) := goodIn_app (goodIn_of _ (by decide +kernel)) ggX11_isPoint_X11_in
theorem dX11_isPoint_0 : decode cX11_isPoint 0 = .ok (.iload_n 1, 1) := by decide +kernel
theorem dX11_isPoint_1 : decode cX11_isPoint 1 = .ok (.i2l, 1) := by decide +kernel
theorem dX11_isPoint_2 : decode cX11_isPoint 2 = .ok (.lconst 0, 1) := by decide +kernel
theorem dX11_isPoint_3 : decode cX11_isPoint 3 = .ok (.aload_n 0, 1) := by decide +kernel
theorem dX11_isPoint_4 : decode cX11_isPoint 4 = .ok (.getfield 9, 3) := by decide +kernel
theorem dX11_isPoint_7 : decode cX11_isPoint 7 = .ok (.sipush 169, 3) := by decide +kernel
theorem dX11_isPoint_10 : decode cX11_isPoint 10 = .ok (.iaload, 1) := by decide +kernel
theorem dX11_isPoint_11 : decode cX11_isPoint 11 = .ok (.iconst 1, 1) := by decide +kernel
theorem dX11_isPoint_12 : decode cX11_isPoint 12 = .ok (.isub, 1) := by decide +kernel
theorem dX11_isPoint_13 : decode cX11_isPoint 13 = .ok (.i2l, 1) := by decide +kernel
theorem dX11_isPoint_14 : decode cX11_isPoint 14 = .ok (.invokestatic 86, 3) := by decide +kernel
theorem dX11_isPoint_17 : decode cX11_isPoint 17 = .ok (.ireturn, 1) := by decide +kernel
set_option maxRecDepth 20000 in
theorem ggX11_isEdge_X11_in : GoodIn wsX11_isEdge wsX11_in := goodIn_r _ [5] (by decide +kernel) (by decide +kernel)
set_option maxRecDepth 20000 in
theorem gX11_isEdge_X11_in : GoodIn wsX11_isEdge (va_wsS RX11 86 yX11_in wsX11_in) := goodIn_app (goodIn_of _ (by decide +kernel)) ggX11_isEdge_X11_in
theorem dX11_isEdge_0 : decode cX11_isEdge 0 = .ok (.iload_n 1, 1) := by decide +kernel
theorem dX11_isEdge_1 : decode cX11_isEdge 1 = .ok (.i2l, 1) := by decide +kernel
theorem dX11_isEdge_2 : decode cX11_isEdge 2 = .ok (.lconst 0, 1) := by decide +kernel
theorem dX11_isEdge_3 : decode cX11_isEdge 3 = .ok (.aload_n 0, 1) := by decide +kernel
theorem dX11_isEdge_4 : decode cX11_isEdge 4 = .ok (.getfield 9, 3) := by decide +kernel
theorem dX11_isEdge_7 : decode cX11_isEdge 7 = .ok (.sipush 170, 3) := by decide +kernel
theorem dX11_isEdge_10 : decode cX11_isEdge 10 = .ok (.iaload, 1) := by decide +kernel
theorem dX11_isEdge_11 : decode cX11_isEdge 11 = .ok (.iconst 1, 1) := by decide +kernel
theorem dX11_isEdge_12 : decode cX11_isEdge 12 = .ok (.isub, 1) := by decide +kernel
theorem dX11_isEdge_13 : decode cX11_isEdge 13 = .ok (.i2l, 1) := by decide +kernel
theorem dX11_isEdge_14 : decode cX11_isEdge 14 = .ok (.invokestatic 86, 3) := by decide +kernel
theorem dX11_isEdge_17 : decode cX11_isEdge 17 = .ok (.ireturn, 1) := by decide +kernel
set_option maxRecDepth 20000 in
theorem ggX11_points_X11_in : GoodIn wsX11_points wsX11_in := goodIn_r _ [7] (by decide +kernel) (by decide +kernel)
set_option maxRecDepth 20000 in
theorem gX11_points_X11_in : GoodIn wsX11_points (va_wsS RX11 86 yX11_in wsX11_in) := goodIn_app (goodIn_of _ (by decide +kernel)) ggX11_points_X11_in
theorem dX11_points_0 : decode cX11_points 0 = .ok (.iload_n 1, 1) := by decide +kernel
theorem dX11_points_1 : decode cX11_points 1 = .ok (.i2l, 1) := by decide +kernel
theorem dX11_points_2 : decode cX11_points 2 = .ok (.ldc2_w 112, 3) := by decide +kernel
theorem dX11_points_5 : decode cX11_points 5 = .ok (.ldc2_w 288, 3) := by decide +kernel
theorem dX11_points_8 : decode cX11_points 8 = .ok (.invokestatic 86, 3) := by decide +kernel
theorem dX11_points_11 : decode cX11_points 11 = .ok (.ifCond .ne 5, 3) := by decide +kernel
theorem dX11_points_14 : decode cX11_points 14 = .ok (.iconst (-1), 1) := by decide +kernel
theorem dX11_points_15 : decode cX11_points 15 = .ok (.ireturn, 1) := by decide +kernel
theorem dX11_points_16 : decode cX11_points 16 = .ok (.aload_n 0, 1) := by decide +kernel
theorem dX11_points_17 : decode cX11_points 17 = .ok (.getfield 9, 3) := by decide +kernel
theorem dX11_points_20 : decode cX11_points 20 = .ok (.sipush 169, 3) := by decide +kernel
theorem dX11_points_23 : decode cX11_points 23 = .ok (.iaload, 1) := by decide +kernel
theorem dX11_points_24 : decode cX11_points 24 = .ok (.istore_n 2, 1) := by decide +kernel
theorem dX11_points_25 : decode cX11_points 25 = .ok (.aload_n 0, 1) := by decide +kernel
theorem dX11_points_26 : decode cX11_points 26 = .ok (.getfield 9, 3) := by decide +kernel
theorem dX11_points_29 : decode cX11_points 29 = .ok (.sipush 169, 3) := by decide +kernel
theorem dX11_points_32 : decode cX11_points 32 = .ok (.iload_n 1, 1) := by decide +kernel
theorem dX11_points_33 : decode cX11_points 33 = .ok (.iastore, 1) := by decide +kernel
theorem dX11_points_34 : decode cX11_points 34 = .ok (.aload_n 0, 1) := by decide +kernel
theorem dX11_points_35 : decode cX11_points 35 = .ok (.getfield 9, 3) := by decide +kernel
theorem dX11_points_38 : decode cX11_points 38 = .ok (.sipush 170, 3) := by decide +kernel
theorem dX11_points_41 : decode cX11_points 41 = .ok (.iconst 0, 1) := by decide +kernel
theorem dX11_points_42 : decode cX11_points 42 = .ok (.iastore, 1) := by decide +kernel
theorem dX11_points_43 : decode cX11_points 43 = .ok (.iload_n 2, 1) := by decide +kernel
theorem dX11_points_44 : decode cX11_points 44 = .ok (.ireturn, 1) := by decide +kernel
set_option maxRecDepth 20000 in
theorem ggX11_edge_X11_isPoint : GoodIn wsX11_edge wsX11_isPoint := goodIn_r _ [7, 2, 8, 9, 6, 10, 11, 12, 13, 14, 15, 16, 17, 18, 19, 20, 21, 22, 23, 24, 25, 26, 27, 28, 29, 30, 31, 32, 33, 34, 35, 36, 37, 38, 39, 40, 41, 42, 43] (by decide +kernel) (by decide +kernel)
set_option maxRecDepth 20000 in
theorem gX11_edge_X11_isPoint : GoodIn wsX11_edge (wsV RX11 290 RX11 yX11_isPoint wsX11_isPoint) := goodIn_app (goodIn_of _ (by decide +kernel)) ggX11_edge_X11_isPoint
set_option maxRecDepth 20000 in
theorem ggX11_edge_X11_in : GoodIn wsX11_edge wsX11_in := goodIn_r _ [10] (by decide +kernel) (by decide +kernel)
set_option maxRecDepth 20000 in
theorem gX11_edge_X11_in : GoodIn wsX11_edge (va_wsS RX11 86 yX11_in wsX11_in) := goodIn_app (goodIn_of _ (by decide +kernel)) ggX11_edge_X11_in
theorem dX11_edge_0 : decode cX11_edge 0 = .ok (.aload_n 0, 1) := by decide +kernel
theorem dX11_edge_1 : decode cX11_edge 1 = .ok (.iload_n 1, 1) := by decide +kernel
theorem dX11_edge_2 : decode cX11_edge 2 = .ok (.invokevirtual 290, 3) := by decide +kernel
theorem dX11_edge_5 : decode cX11_edge 5 = .ok (.ifCond .eq 28, 3) := by decide +kernel
theorem dX11_edge_8 : decode cX11_edge 8 = .ok (.aload_n 0, 1) := by decide +kernel
theorem dX11_edge_9 : decode cX11_edge 9 = .ok (.iload_n 2, 1) := by decide +kernel
theorem dX11_edge_10 : decode cX11_edge 10 = .ok (.invokevirtual 290, 3) := by decide +kernel
theorem dX11_edge_13 : decode cX11_edge 13 = .ok (.ifCond .eq 20, 3) := by decide +kernel
theorem dX11_edge_16 : decode cX11_edge 16 = .ok (.iload_n 1, 1) := by decide +kernel
theorem dX11_edge_17 : decode cX11_edge 17 = .ok (.iload_n 2, 1) := by decide +kernel
theorem dX11_edge_18 : decode cX11_edge 18 = .ok (.if_icmp .eq 15, 3) := by decide +kernel
theorem dX11_edge_21 : decode cX11_edge 21 = .ok (.iload_n 3, 1) := by decide +kernel
theorem dX11_edge_22 : decode cX11_edge 22 = .ok (.i2l, 1) := by decide +kernel
theorem dX11_edge_23 : decode cX11_edge 23 = .ok (.lconst 1, 1) := by decide +kernel
theorem dX11_edge_24 : decode cX11_edge 24 = .ok (.ldc2_w 108, 3) := by decide +kernel
theorem dX11_edge_27 : decode cX11_edge 27 = .ok (.invokestatic 86, 3) := by decide +kernel
theorem dX11_edge_30 : decode cX11_edge 30 = .ok (.ifCond .ne 5, 3) := by decide +kernel
theorem dX11_edge_33 : decode cX11_edge 33 = .ok (.iconst (-1), 1) := by decide +kernel
theorem dX11_edge_34 : decode cX11_edge 34 = .ok (.ireturn, 1) := by decide +kernel
theorem dX11_edge_35 : decode cX11_edge 35 = .ok (.aload_n 0, 1) := by decide +kernel
theorem dX11_edge_36 : decode cX11_edge 36 = .ok (.getfield 9, 3) := by decide +kernel
theorem dX11_edge_39 : decode cX11_edge 39 = .ok (.sipush 170, 3) := by decide +kernel
theorem dX11_edge_42 : decode cX11_edge 42 = .ok (.iaload, 1) := by decide +kernel
theorem dX11_edge_43 : decode cX11_edge 43 = .ok (.bipush 8, 2) := by decide +kernel
theorem dX11_edge_45 : decode cX11_edge 45 = .ok (.if_icmp .ne 6, 3) := by decide +kernel
theorem dX11_edge_48 : decode cX11_edge 48 = .ok (.bipush (-3), 2) := by decide +kernel
theorem dX11_edge_50 : decode cX11_edge 50 = .ok (.ireturn, 1) := by decide +kernel
theorem dX11_edge_51 : decode cX11_edge 51 = .ok (.sipush 171, 3) := by decide +kernel
theorem dX11_edge_54 : decode cX11_edge 54 = .ok (.iconst 3, 1) := by decide +kernel
theorem dX11_edge_55 : decode cX11_edge 55 = .ok (.aload_n 0, 1) := by decide +kernel
theorem dX11_edge_56 : decode cX11_edge 56 = .ok (.getfield 9, 3) := by decide +kernel
theorem dX11_edge_59 : decode cX11_edge 59 = .ok (.sipush 170, 3) := by decide +kernel
theorem dX11_edge_62 : decode cX11_edge 62 = .ok (.iaload, 1) := by decide +kernel
theorem dX11_edge_63 : decode cX11_edge 63 = .ok (.imul, 1) := by decide +kernel
theorem dX11_edge_64 : decode cX11_edge 64 = .ok (.iadd, 1) := by decide +kernel
theorem dX11_edge_65 : decode cX11_edge 65 = .ok (.istore 4, 2) := by decide +kernel
theorem dX11_edge_67 : decode cX11_edge 67 = .ok (.aload_n 0, 1) := by decide +kernel
theorem dX11_edge_68 : decode cX11_edge 68 = .ok (.getfield 9, 3) := by decide +kernel
theorem dX11_edge_71 : decode cX11_edge 71 = .ok (.iload 4, 2) := by decide +kernel
theorem dX11_edge_73 : decode cX11_edge 73 = .ok (.iload_n 1, 1) := by decide +kernel
theorem dX11_edge_74 : decode cX11_edge 74 = .ok (.iastore, 1) := by decide +kernel
theorem dX11_edge_75 : decode cX11_edge 75 = .ok (.aload_n 0, 1) := by decide +kernel
theorem dX11_edge_76 : decode cX11_edge 76 = .ok (.getfield 9, 3) := by decide +kernel
theorem dX11_edge_79 : decode cX11_edge 79 = .ok (.iload 4, 2) := by decide +kernel
theorem dX11_edge_81 : decode cX11_edge 81 = .ok (.iconst 1, 1) := by decide +kernel
theorem dX11_edge_82 : decode cX11_edge 82 = .ok (.iadd, 1) := by decide +kernel
theorem dX11_edge_83 : decode cX11_edge 83 = .ok (.iload_n 2, 1) := by decide +kernel
theorem dX11_edge_84 : decode cX11_edge 84 = .ok (.iastore, 1) := by decide +kernel
theorem dX11_edge_85 : decode cX11_edge 85 = .ok (.aload_n 0, 1) := by decide +kernel
theorem dX11_edge_86 : decode cX11_edge 86 = .ok (.getfield 9, 3) := by decide +kernel
theorem dX11_edge_89 : decode cX11_edge 89 = .ok (.iload 4, 2) := by decide +kernel
theorem dX11_edge_91 : decode cX11_edge 91 = .ok (.iconst 2, 1) := by decide +kernel
theorem dX11_edge_92 : decode cX11_edge 92 = .ok (.iadd, 1) := by decide +kernel
theorem dX11_edge_93 : decode cX11_edge 93 = .ok (.iload_n 3, 1) := by decide +kernel
theorem dX11_edge_94 : decode cX11_edge 94 = .ok (.iastore, 1) := by decide +kernel
theorem dX11_edge_95 : decode cX11_edge 95 = .ok (.aload_n 0, 1) := by decide +kernel
theorem dX11_edge_96 : decode cX11_edge 96 = .ok (.getfield 9, 3) := by decide +kernel
theorem dX11_edge_99 : decode cX11_edge 99 = .ok (.sipush 170, 3) := by decide +kernel
theorem dX11_edge_102 : decode cX11_edge 102 = .ok (.dup2, 1) := by decide +kernel
theorem dX11_edge_103 : decode cX11_edge 103 = .ok (.iaload, 1) := by decide +kernel
theorem dX11_edge_104 : decode cX11_edge 104 = .ok (.iconst 1, 1) := by decide +kernel
theorem dX11_edge_105 : decode cX11_edge 105 = .ok (.iadd, 1) := by decide +kernel
theorem dX11_edge_106 : decode cX11_edge 106 = .ok (.iastore, 1) := by decide +kernel
theorem dX11_edge_107 : decode cX11_edge 107 = .ok (.aload_n 0, 1) := by decide +kernel
theorem dX11_edge_108 : decode cX11_edge 108 = .ok (.getfield 9, 3) := by decide +kernel
theorem dX11_edge_111 : decode cX11_edge 111 = .ok (.sipush 170, 3) := by decide +kernel
theorem dX11_edge_114 : decode cX11_edge 114 = .ok (.iaload, 1) := by decide +kernel
theorem dX11_edge_115 : decode cX11_edge 115 = .ok (.iconst 1, 1) := by decide +kernel
theorem dX11_edge_116 : decode cX11_edge 116 = .ok (.isub, 1) := by decide +kernel
theorem dX11_edge_117 : decode cX11_edge 117 = .ok (.ireturn, 1) := by decide +kernel
set_option maxRecDepth 20000 in
theorem ggX11_tell_X11_isEdge : GoodIn wsX11_tell wsX11_isEdge := goodIn_r _ [7, 2, 8, 9, 6, 10, 11, 12, 13, 14, 15, 16, 17, 18, 19, 20, 21, 22, 23, 24, 25, 26, 27, 28, 29, 30, 31, 32, 33, 34, 35, 36, 37, 38, 39, 40, 41, 42, 43] (by decide +kernel) (by decide +kernel)
set_option maxRecDepth 20000 in
theorem gX11_tell_X11_isEdge : GoodIn wsX11_tell (wsV RX11 293 RX11 yX11_isEdge wsX11_isEdge) := goodIn_app (goodIn_of _ (by decide +kernel)) ggX11_tell_X11_isEdge
set_option maxRecDepth 20000 in
theorem ggX11_tell_X11_in : GoodIn wsX11_tell wsX11_in := goodIn_r _ [10] (by decide +kernel) (by decide +kernel)
set_option maxRecDepth 20000 in
theorem gX11_tell_X11_in : GoodIn wsX11_tell (va_wsS RX11 86 yX11_in wsX11_in) := goodIn_app (goodIn_of _ (by decide +kernel)) ggX11_tell_X11_in
theorem dX11_tell_0 : decode cX11_tell 0 = .ok (.aload_n 0, 1) := by decide +kernel
theorem dX11_tell_1 : decode cX11_tell 1 = .ok (.iload_n 1, 1) := by decide +kernel
theorem dX11_tell_2 : decode cX11_tell 2 = .ok (.invokevirtual 293, 3) := by decide +kernel
theorem dX11_tell_5 : decode cX11_tell 5 = .ok (.ifCond .eq 15, 3) := by decide +kernel
theorem dX11_tell_8 : decode cX11_tell 8 = .ok (.iload_n 2, 1) := by decide +kernel
theorem dX11_tell_9 : decode cX11_tell 9 = .ok (.i2l, 1) := by decide +kernel
theorem dX11_tell_10 : decode cX11_tell 10 = .ok (.lconst 0, 1) := by decide +kernel
theorem dX11_tell_11 : decode cX11_tell 11 = .ok (.ldc2_w 108, 3) := by decide +kernel
theorem dX11_tell_14 : decode cX11_tell 14 = .ok (.invokestatic 86, 3) := by decide +kernel
theorem dX11_tell_17 : decode cX11_tell 17 = .ok (.ifCond .ne 5, 3) := by decide +kernel
theorem dX11_tell_20 : decode cX11_tell 20 = .ok (.iconst (-1), 1) := by decide +kernel
theorem dX11_tell_21 : decode cX11_tell 21 = .ok (.ireturn, 1) := by decide +kernel
theorem dX11_tell_22 : decode cX11_tell 22 = .ok (.aload_n 0, 1) := by decide +kernel
theorem dX11_tell_23 : decode cX11_tell 23 = .ok (.getfield 9, 3) := by decide +kernel
theorem dX11_tell_26 : decode cX11_tell 26 = .ok (.sipush 171, 3) := by decide +kernel
theorem dX11_tell_29 : decode cX11_tell 29 = .ok (.iconst 3, 1) := by decide +kernel
theorem dX11_tell_30 : decode cX11_tell 30 = .ok (.iload_n 1, 1) := by decide +kernel
theorem dX11_tell_31 : decode cX11_tell 31 = .ok (.imul, 1) := by decide +kernel
theorem dX11_tell_32 : decode cX11_tell 32 = .ok (.iadd, 1) := by decide +kernel
theorem dX11_tell_33 : decode cX11_tell 33 = .ok (.iconst 2, 1) := by decide +kernel
theorem dX11_tell_34 : decode cX11_tell 34 = .ok (.iadd, 1) := by decide +kernel
theorem dX11_tell_35 : decode cX11_tell 35 = .ok (.iaload, 1) := by decide +kernel
theorem dX11_tell_36 : decode cX11_tell 36 = .ok (.istore_n 3, 1) := by decide +kernel
theorem dX11_tell_37 : decode cX11_tell 37 = .ok (.aload_n 0, 1) := by decide +kernel
theorem dX11_tell_38 : decode cX11_tell 38 = .ok (.getfield 9, 3) := by decide +kernel
theorem dX11_tell_41 : decode cX11_tell 41 = .ok (.sipush 171, 3) := by decide +kernel
theorem dX11_tell_44 : decode cX11_tell 44 = .ok (.iconst 3, 1) := by decide +kernel
theorem dX11_tell_45 : decode cX11_tell 45 = .ok (.iload_n 1, 1) := by decide +kernel
theorem dX11_tell_46 : decode cX11_tell 46 = .ok (.imul, 1) := by decide +kernel
theorem dX11_tell_47 : decode cX11_tell 47 = .ok (.iadd, 1) := by decide +kernel
theorem dX11_tell_48 : decode cX11_tell 48 = .ok (.iconst 2, 1) := by decide +kernel
theorem dX11_tell_49 : decode cX11_tell 49 = .ok (.iadd, 1) := by decide +kernel
theorem dX11_tell_50 : decode cX11_tell 50 = .ok (.iload_n 2, 1) := by decide +kernel
theorem dX11_tell_51 : decode cX11_tell 51 = .ok (.iastore, 1) := by decide +kernel
theorem dX11_tell_52 : decode cX11_tell 52 = .ok (.iload_n 3, 1) := by decide +kernel
theorem dX11_tell_53 : decode cX11_tell 53 = .ok (.ireturn, 1) := by decide +kernel
theorem dX11_comesTo_0 : decode cX11_comesTo 0 = .ok (.iconst 1, 1) := by decide +kernel
theorem dX11_comesTo_1 : decode cX11_comesTo 1 = .ok (.iload_n 1, 1) := by decide +kernel
theorem dX11_comesTo_2 : decode cX11_comesTo 2 = .ok (.ishl, 1) := by decide +kernel
theorem dX11_comesTo_3 : decode cX11_comesTo 3 = .ok (.istore_n 3, 1) := by decide +kernel
theorem dX11_comesTo_4 : decode cX11_comesTo 4 = .ok (.iconst 0, 1) := by decide +kernel
theorem dX11_comesTo_5 : decode cX11_comesTo 5 = .ok (.istore 4, 2) := by decide +kernel
theorem dX11_comesTo_7 : decode cX11_comesTo 7 = .ok (.iload 4, 2) := by decide +kernel
theorem dX11_comesTo_9 : decode cX11_comesTo 9 = .ok (.bipush 6, 2) := by decide +kernel
theorem dX11_comesTo_11 : decode cX11_comesTo 11 = .ok (.if_icmp .ge 92, 3) := by decide +kernel
theorem dX11_comesTo_14 : decode cX11_comesTo 14 = .ok (.iconst 0, 1) := by decide +kernel
theorem dX11_comesTo_15 : decode cX11_comesTo 15 = .ok (.istore 5, 2) := by decide +kernel
theorem dX11_comesTo_17 : decode cX11_comesTo 17 = .ok (.iload 5, 2) := by decide +kernel
theorem dX11_comesTo_19 : decode cX11_comesTo 19 = .ok (.aload_n 0, 1) := by decide +kernel
theorem dX11_comesTo_20 : decode cX11_comesTo 20 = .ok (.getfield 9, 3) := by decide +kernel
theorem dX11_comesTo_23 : decode cX11_comesTo 23 = .ok (.sipush 170, 3) := by decide +kernel
theorem dX11_comesTo_26 : decode cX11_comesTo 26 = .ok (.iaload, 1) := by decide +kernel
theorem dX11_comesTo_27 : decode cX11_comesTo 27 = .ok (.if_icmp .ge 70, 3) := by decide +kernel
theorem dX11_comesTo_30 : decode cX11_comesTo 30 = .ok (.iconst 1, 1) := by decide +kernel
theorem dX11_comesTo_31 : decode cX11_comesTo 31 = .ok (.aload_n 0, 1) := by decide +kernel
theorem dX11_comesTo_32 : decode cX11_comesTo 32 = .ok (.getfield 9, 3) := by decide +kernel
theorem dX11_comesTo_35 : decode cX11_comesTo 35 = .ok (.sipush 171, 3) := by decide +kernel
theorem dX11_comesTo_38 : decode cX11_comesTo 38 = .ok (.iconst 3, 1) := by decide +kernel
theorem dX11_comesTo_39 : decode cX11_comesTo 39 = .ok (.iload 5, 2) := by decide +kernel
theorem dX11_comesTo_41 : decode cX11_comesTo 41 = .ok (.imul, 1) := by decide +kernel
theorem dX11_comesTo_42 : decode cX11_comesTo 42 = .ok (.iadd, 1) := by decide +kernel
theorem dX11_comesTo_43 : decode cX11_comesTo 43 = .ok (.iaload, 1) := by decide +kernel
theorem dX11_comesTo_44 : decode cX11_comesTo 44 = .ok (.ishl, 1) := by decide +kernel
theorem dX11_comesTo_45 : decode cX11_comesTo 45 = .ok (.iconst 1, 1) := by decide +kernel
theorem dX11_comesTo_46 : decode cX11_comesTo 46 = .ok (.aload_n 0, 1) := by decide +kernel
theorem dX11_comesTo_47 : decode cX11_comesTo 47 = .ok (.getfield 9, 3) := by decide +kernel
theorem dX11_comesTo_50 : decode cX11_comesTo 50 = .ok (.sipush 171, 3) := by decide +kernel
theorem dX11_comesTo_53 : decode cX11_comesTo 53 = .ok (.iconst 3, 1) := by decide +kernel
theorem dX11_comesTo_54 : decode cX11_comesTo 54 = .ok (.iload 5, 2) := by decide +kernel
theorem dX11_comesTo_56 : decode cX11_comesTo 56 = .ok (.imul, 1) := by decide +kernel
theorem dX11_comesTo_57 : decode cX11_comesTo 57 = .ok (.iadd, 1) := by decide +kernel
theorem dX11_comesTo_58 : decode cX11_comesTo 58 = .ok (.iconst 1, 1) := by decide +kernel
theorem dX11_comesTo_59 : decode cX11_comesTo 59 = .ok (.iadd, 1) := by decide +kernel
theorem dX11_comesTo_60 : decode cX11_comesTo 60 = .ok (.iaload, 1) := by decide +kernel
theorem dX11_comesTo_61 : decode cX11_comesTo 61 = .ok (.ishl, 1) := by decide +kernel
theorem dX11_comesTo_62 : decode cX11_comesTo 62 = .ok (.ior, 1) := by decide +kernel
theorem dX11_comesTo_63 : decode cX11_comesTo 63 = .ok (.istore 6, 2) := by decide +kernel
theorem dX11_comesTo_65 : decode cX11_comesTo 65 = .ok (.iload_n 3, 1) := by decide +kernel
theorem dX11_comesTo_66 : decode cX11_comesTo 66 = .ok (.iload_n 2, 1) := by decide +kernel
theorem dX11_comesTo_67 : decode cX11_comesTo 67 = .ok (.iload 5, 2) := by decide +kernel
theorem dX11_comesTo_69 : decode cX11_comesTo 69 = .ok (.ishr, 1) := by decide +kernel
theorem dX11_comesTo_70 : decode cX11_comesTo 70 = .ok (.iconst 1, 1) := by decide +kernel
theorem dX11_comesTo_71 : decode cX11_comesTo 71 = .ok (.iand, 1) := by decide +kernel
theorem dX11_comesTo_72 : decode cX11_comesTo 72 = .ok (.iconst 1, 1) := by decide +kernel
theorem dX11_comesTo_73 : decode cX11_comesTo 73 = .ok (.if_icmp .ne 15, 3) := by decide +kernel
theorem dX11_comesTo_76 : decode cX11_comesTo 76 = .ok (.iload_n 3, 1) := by decide +kernel
theorem dX11_comesTo_77 : decode cX11_comesTo 77 = .ok (.iload 6, 2) := by decide +kernel
theorem dX11_comesTo_79 : decode cX11_comesTo 79 = .ok (.iand, 1) := by decide +kernel
theorem dX11_comesTo_80 : decode cX11_comesTo 80 = .ok (.ifCond .eq 8, 3) := by decide +kernel
theorem dX11_comesTo_83 : decode cX11_comesTo 83 = .ok (.iload 6, 2) := by decide +kernel
theorem dX11_comesTo_85 : decode cX11_comesTo 85 = .ok (.goto 4, 3) := by decide +kernel
theorem dX11_comesTo_88 : decode cX11_comesTo 88 = .ok (.iconst 0, 1) := by decide +kernel
theorem dX11_comesTo_89 : decode cX11_comesTo 89 = .ok (.ior, 1) := by decide +kernel
theorem dX11_comesTo_90 : decode cX11_comesTo 90 = .ok (.istore_n 3, 1) := by decide +kernel
theorem dX11_comesTo_91 : decode cX11_comesTo 91 = .ok (.iinc 5 1, 3) := by decide +kernel
theorem dX11_comesTo_94 : decode cX11_comesTo 94 = .ok (.goto (-77), 3) := by decide +kernel
theorem dX11_comesTo_97 : decode cX11_comesTo 97 = .ok (.iinc 4 1, 3) := by decide +kernel
theorem dX11_comesTo_100 : decode cX11_comesTo 100 = .ok (.goto (-93), 3) := by decide +kernel
theorem dX11_comesTo_103 : decode cX11_comesTo 103 = .ok (.iload_n 3, 1) := by decide +kernel
theorem dX11_comesTo_104 : decode cX11_comesTo 104 = .ok (.ireturn, 1) := by decide +kernel
theorem dX11_live_0 : decode cX11_live 0 = .ok (.iconst 0, 1) := by decide +kernel
theorem dX11_live_1 : decode cX11_live 1 = .ok (.istore_n 1, 1) := by decide +kernel
theorem dX11_live_2 : decode cX11_live 2 = .ok (.iconst 0, 1) := by decide +kernel
theorem dX11_live_3 : decode cX11_live 3 = .ok (.istore_n 2, 1) := by decide +kernel
theorem dX11_live_4 : decode cX11_live 4 = .ok (.iload_n 2, 1) := by decide +kernel
theorem dX11_live_5 : decode cX11_live 5 = .ok (.aload_n 0, 1) := by decide +kernel
theorem dX11_live_6 : decode cX11_live 6 = .ok (.getfield 9, 3) := by decide +kernel
theorem dX11_live_9 : decode cX11_live 9 = .ok (.sipush 170, 3) := by decide +kernel
theorem dX11_live_12 : decode cX11_live 12 = .ok (.iaload, 1) := by decide +kernel
theorem dX11_live_13 : decode cX11_live 13 = .ok (.if_icmp .ge 36, 3) := by decide +kernel
theorem dX11_live_16 : decode cX11_live 16 = .ok (.iload_n 1, 1) := by decide +kernel
theorem dX11_live_17 : decode cX11_live 17 = .ok (.aload_n 0, 1) := by decide +kernel
theorem dX11_live_18 : decode cX11_live 18 = .ok (.getfield 9, 3) := by decide +kernel
theorem dX11_live_21 : decode cX11_live 21 = .ok (.sipush 171, 3) := by decide +kernel
theorem dX11_live_24 : decode cX11_live 24 = .ok (.iconst 3, 1) := by decide +kernel
theorem dX11_live_25 : decode cX11_live 25 = .ok (.iload_n 2, 1) := by decide +kernel
theorem dX11_live_26 : decode cX11_live 26 = .ok (.imul, 1) := by decide +kernel
theorem dX11_live_27 : decode cX11_live 27 = .ok (.iadd, 1) := by decide +kernel
theorem dX11_live_28 : decode cX11_live 28 = .ok (.iconst 2, 1) := by decide +kernel
theorem dX11_live_29 : decode cX11_live 29 = .ok (.iadd, 1) := by decide +kernel
theorem dX11_live_30 : decode cX11_live 30 = .ok (.iaload, 1) := by decide +kernel
theorem dX11_live_31 : decode cX11_live 31 = .ok (.ifCond .le 9, 3) := by decide +kernel
theorem dX11_live_34 : decode cX11_live 34 = .ok (.iconst 1, 1) := by decide +kernel
theorem dX11_live_35 : decode cX11_live 35 = .ok (.iload_n 2, 1) := by decide +kernel
theorem dX11_live_36 : decode cX11_live 36 = .ok (.ishl, 1) := by decide +kernel
theorem dX11_live_37 : decode cX11_live 37 = .ok (.goto 4, 3) := by decide +kernel
theorem dX11_live_40 : decode cX11_live 40 = .ok (.iconst 0, 1) := by decide +kernel
theorem dX11_live_41 : decode cX11_live 41 = .ok (.ior, 1) := by decide +kernel
theorem dX11_live_42 : decode cX11_live 42 = .ok (.istore_n 1, 1) := by decide +kernel
theorem dX11_live_43 : decode cX11_live 43 = .ok (.iinc 2 1, 3) := by decide +kernel
theorem dX11_live_46 : decode cX11_live 46 = .ok (.goto (-42), 3) := by decide +kernel
theorem dX11_live_49 : decode cX11_live 49 = .ok (.iload_n 1, 1) := by decide +kernel
theorem dX11_live_50 : decode cX11_live 50 = .ok (.ireturn, 1) := by decide +kernel
theorem dX11_countOf_0 : decode cX11_countOf 0 = .ok (.iconst 0, 1) := by decide +kernel
theorem dX11_countOf_1 : decode cX11_countOf 1 = .ok (.istore_n 1, 1) := by decide +kernel
theorem dX11_countOf_2 : decode cX11_countOf 2 = .ok (.iconst 0, 1) := by decide +kernel
theorem dX11_countOf_3 : decode cX11_countOf 3 = .ok (.istore_n 2, 1) := by decide +kernel
theorem dX11_countOf_4 : decode cX11_countOf 4 = .ok (.iload_n 2, 1) := by decide +kernel
theorem dX11_countOf_5 : decode cX11_countOf 5 = .ok (.bipush 8, 2) := by decide +kernel
theorem dX11_countOf_7 : decode cX11_countOf 7 = .ok (.if_icmp .ge 17, 3) := by decide +kernel
theorem dX11_countOf_10 : decode cX11_countOf 10 = .ok (.iload_n 1, 1) := by decide +kernel
theorem dX11_countOf_11 : decode cX11_countOf 11 = .ok (.iload_n 0, 1) := by decide +kernel
theorem dX11_countOf_12 : decode cX11_countOf 12 = .ok (.iload_n 2, 1) := by decide +kernel
theorem dX11_countOf_13 : decode cX11_countOf 13 = .ok (.ishr, 1) := by decide +kernel
theorem dX11_countOf_14 : decode cX11_countOf 14 = .ok (.iconst 1, 1) := by decide +kernel
theorem dX11_countOf_15 : decode cX11_countOf 15 = .ok (.iand, 1) := by decide +kernel
theorem dX11_countOf_16 : decode cX11_countOf 16 = .ok (.iadd, 1) := by decide +kernel
theorem dX11_countOf_17 : decode cX11_countOf 17 = .ok (.istore_n 1, 1) := by decide +kernel
theorem dX11_countOf_18 : decode cX11_countOf 18 = .ok (.iinc 2 1, 3) := by decide +kernel
theorem dX11_countOf_21 : decode cX11_countOf 21 = .ok (.goto (-17), 3) := by decide +kernel
theorem dX11_countOf_24 : decode cX11_countOf 24 = .ok (.iload_n 1, 1) := by decide +kernel
theorem dX11_countOf_25 : decode cX11_countOf 25 = .ok (.ireturn, 1) := by decide +kernel
theorem dX11_othersOf_0 : decode cX11_othersOf 0 = .ok (.lconst 1, 1) := by decide +kernel
theorem dX11_othersOf_1 : decode cX11_othersOf 1 = .ok (.lstore_n 3, 1) := by decide +kernel
theorem dX11_othersOf_2 : decode cX11_othersOf 2 = .ok (.iconst 0, 1) := by decide +kernel
theorem dX11_othersOf_3 : decode cX11_othersOf 3 = .ok (.istore 5, 2) := by decide +kernel
theorem dX11_othersOf_5 : decode cX11_othersOf 5 = .ok (.iload 5, 2) := by decide +kernel
theorem dX11_othersOf_7 : decode cX11_othersOf 7 = .ok (.aload_n 0, 1) := by decide +kernel
theorem dX11_othersOf_8 : decode cX11_othersOf 8 = .ok (.getfield 9, 3) := by decide +kernel
theorem dX11_othersOf_11 : decode cX11_othersOf 11 = .ok (.sipush 170, 3) := by decide +kernel
theorem dX11_othersOf_14 : decode cX11_othersOf 14 = .ok (.iaload, 1) := by decide +kernel
theorem dX11_othersOf_15 : decode cX11_othersOf 15 = .ok (.if_icmp .ge 45, 3) := by decide +kernel
theorem dX11_othersOf_18 : decode cX11_othersOf 18 = .ok (.iload_n 1, 1) := by decide +kernel
theorem dX11_othersOf_19 : decode cX11_othersOf 19 = .ok (.iload_n 2, 1) := by decide +kernel
theorem dX11_othersOf_20 : decode cX11_othersOf 20 = .ok (.iconst (-1), 1) := by decide +kernel
theorem dX11_othersOf_21 : decode cX11_othersOf 21 = .ok (.ixor, 1) := by decide +kernel
theorem dX11_othersOf_22 : decode cX11_othersOf 22 = .ok (.iand, 1) := by decide +kernel
theorem dX11_othersOf_23 : decode cX11_othersOf 23 = .ok (.iload 5, 2) := by decide +kernel
theorem dX11_othersOf_25 : decode cX11_othersOf 25 = .ok (.ishr, 1) := by decide +kernel
theorem dX11_othersOf_26 : decode cX11_othersOf 26 = .ok (.iconst 1, 1) := by decide +kernel
theorem dX11_othersOf_27 : decode cX11_othersOf 27 = .ok (.iand, 1) := by decide +kernel
theorem dX11_othersOf_28 : decode cX11_othersOf 28 = .ok (.ifCond .ne 7, 3) := by decide +kernel
theorem dX11_othersOf_31 : decode cX11_othersOf 31 = .ok (.lload_n 3, 1) := by decide +kernel
theorem dX11_othersOf_32 : decode cX11_othersOf 32 = .ok (.goto 21, 3) := by decide +kernel
theorem dX11_othersOf_35 : decode cX11_othersOf 35 = .ok (.lload_n 3, 1) := by decide +kernel
theorem dX11_othersOf_36 : decode cX11_othersOf 36 = .ok (.aload_n 0, 1) := by decide +kernel
theorem dX11_othersOf_37 : decode cX11_othersOf 37 = .ok (.getfield 9, 3) := by decide +kernel
theorem dX11_othersOf_40 : decode cX11_othersOf 40 = .ok (.sipush 171, 3) := by decide +kernel
theorem dX11_othersOf_43 : decode cX11_othersOf 43 = .ok (.iconst 3, 1) := by decide +kernel
theorem dX11_othersOf_44 : decode cX11_othersOf 44 = .ok (.iload 5, 2) := by decide +kernel
theorem dX11_othersOf_46 : decode cX11_othersOf 46 = .ok (.imul, 1) := by decide +kernel
theorem dX11_othersOf_47 : decode cX11_othersOf 47 = .ok (.iadd, 1) := by decide +kernel
theorem dX11_othersOf_48 : decode cX11_othersOf 48 = .ok (.iconst 2, 1) := by decide +kernel
theorem dX11_othersOf_49 : decode cX11_othersOf 49 = .ok (.iadd, 1) := by decide +kernel
theorem dX11_othersOf_50 : decode cX11_othersOf 50 = .ok (.iaload, 1) := by decide +kernel
theorem dX11_othersOf_51 : decode cX11_othersOf 51 = .ok (.i2l, 1) := by decide +kernel
theorem dX11_othersOf_52 : decode cX11_othersOf 52 = .ok (.lmul, 1) := by decide +kernel
theorem dX11_othersOf_53 : decode cX11_othersOf 53 = .ok (.lstore_n 3, 1) := by decide +kernel
theorem dX11_othersOf_54 : decode cX11_othersOf 54 = .ok (.iinc 5 1, 3) := by decide +kernel
theorem dX11_othersOf_57 : decode cX11_othersOf 57 = .ok (.goto (-52), 3) := by decide +kernel
theorem dX11_othersOf_60 : decode cX11_othersOf 60 = .ok (.lload_n 3, 1) := by decide +kernel
theorem dX11_othersOf_61 : decode cX11_othersOf 61 = .ok (.lreturn, 1) := by decide +kernel
set_option maxRecDepth 20000 in
theorem ggX11_between0_X11_comesTo : GoodIn wsX11_between0 wsX11_comesTo := goodIn_r _ [8, 1, 25, 26, 27, 28, 29, 30, 31, 32, 33, 34, 35, 36, 37, 38, 39, 40, 41, 42, 43, 44, 45, 46, 47, 48, 49, 50, 51, 52, 53, 54, 55, 56, 57] (by decide +kernel) (by decide +kernel)
set_option maxRecDepth 20000 in
theorem gX11_between0_X11_comesTo : GoodIn wsX11_between0 (wsV RX11 296 RX11 yX11_comesTo wsX11_comesTo) := goodIn_app (goodIn_of _ (by decide +kernel)) ggX11_between0_X11_comesTo
set_option maxRecDepth 20000 in
theorem ggX11_between0_X11_becomes : GoodIn wsX11_between0 wsX11_becomes := goodIn_r _ [12, 2, 3, 13, 14, 15, 16, 7, 17, 25, 26, 27, 28, 29, 30, 31, 32, 33, 34, 35, 36, 37, 38, 39, 40, 41, 42, 43, 44, 45, 46, 47, 48, 49, 50, 51, 52, 53, 54, 55, 56, 57] (by decide +kernel) (by decide +kernel)
set_option maxRecDepth 20000 in
theorem gX11_between0_X11_becomes : GoodIn wsX11_between0 (wsV RX11 147 RX11 yX11_becomes wsX11_becomes) := goodIn_app (goodIn_of _ (by decide +kernel)) ggX11_between0_X11_becomes
set_option maxRecDepth 20000 in
theorem ggX11_between0_X11_countOf : GoodIn wsX11_between0 wsX11_countOf := goodIn_r _ [20] (by decide +kernel) (by decide +kernel)
set_option maxRecDepth 20000 in
theorem gX11_between0_X11_countOf : GoodIn wsX11_between0 (va_wsS RX11 299 yX11_countOf wsX11_countOf) := goodIn_app (goodIn_of _ (by decide +kernel)) ggX11_between0_X11_countOf
set_option maxRecDepth 20000 in
theorem ggX11_between0_X11_othersOf : GoodIn wsX11_between0 wsX11_othersOf := goodIn_r _ [24, 1, 25, 26, 27, 28, 29, 30, 31, 32, 33, 34, 35, 36, 37, 38, 39, 40, 41, 42, 43, 44, 45, 46, 47, 48, 49, 50, 51, 52, 53, 54, 55, 56, 57] (by decide +kernel) (by decide +kernel)
set_option maxRecDepth 20000 in
theorem gX11_between0_X11_othersOf : GoodIn wsX11_between0 (wsV RX11 302 RX11 yX11_othersOf wsX11_othersOf) := goodIn_app (goodIn_of _ (by decide +kernel)) ggX11_between0_X11_othersOf
set_option maxRecDepth 20000 in
theorem ggX11_between0_X11_divisor : GoodIn wsX11_between0 wsX11_divisor := goodIn_r _ [17] (by decide +kernel) (by decide +kernel)
set_option maxRecDepth 20000 in
theorem gX11_between0_X11_divisor : GoodIn wsX11_between0 (va_wsS RX11 132 yX11_divisor wsX11_divisor) := goodIn_app (goodIn_of _ (by decide +kernel)) ggX11_between0_X11_divisor
theorem dX11_between0_0 : decode cX11_between0 0 = .ok (.aload_n 0, 1) := by decide +kernel
theorem dX11_between0_1 : decode cX11_between0 1 = .ok (.iload_n 1, 1) := by decide +kernel
theorem dX11_between0_2 : decode cX11_between0 2 = .ok (.iload_n 3, 1) := by decide +kernel
theorem dX11_between0_3 : decode cX11_between0 3 = .ok (.invokevirtual 296, 3) := by decide +kernel
theorem dX11_between0_6 : decode cX11_between0 6 = .ok (.istore 4, 2) := by decide +kernel
theorem dX11_between0_8 : decode cX11_between0 8 = .ok (.iload_n 1, 1) := by decide +kernel
theorem dX11_between0_9 : decode cX11_between0 9 = .ok (.iload_n 2, 1) := by decide +kernel
theorem dX11_between0_10 : decode cX11_between0 10 = .ok (.if_icmp .eq 12, 3) := by decide +kernel
theorem dX11_between0_13 : decode cX11_between0 13 = .ok (.iload 4, 2) := by decide +kernel
theorem dX11_between0_15 : decode cX11_between0 15 = .ok (.iload_n 2, 1) := by decide +kernel
theorem dX11_between0_16 : decode cX11_between0 16 = .ok (.ishr, 1) := by decide +kernel
theorem dX11_between0_17 : decode cX11_between0 17 = .ok (.iconst 1, 1) := by decide +kernel
theorem dX11_between0_18 : decode cX11_between0 18 = .ok (.iand, 1) := by decide +kernel
theorem dX11_between0_19 : decode cX11_between0 19 = .ok (.ifCond .ne 28, 3) := by decide +kernel
theorem dX11_between0_22 : decode cX11_between0 22 = .ok (.aload_n 0, 1) := by decide +kernel
theorem dX11_between0_23 : decode cX11_between0 23 = .ok (.iload_n 1, 1) := by decide +kernel
theorem dX11_between0_24 : decode cX11_between0 24 = .ok (.iload_n 2, 1) := by decide +kernel
theorem dX11_between0_25 : decode cX11_between0 25 = .ok (.if_icmp .ne 7, 3) := by decide +kernel
theorem dX11_between0_28 : decode cX11_between0 28 = .ok (.lconst 0, 1) := by decide +kernel
theorem dX11_between0_29 : decode cX11_between0 29 = .ok (.goto 4, 3) := by decide +kernel
theorem dX11_between0_32 : decode cX11_between0 32 = .ok (.lconst 1, 1) := by decide +kernel
theorem dX11_between0_33 : decode cX11_between0 33 = .ok (.iload_n 1, 1) := by decide +kernel
theorem dX11_between0_34 : decode cX11_between0 34 = .ok (.iload_n 2, 1) := by decide +kernel
theorem dX11_between0_35 : decode cX11_between0 35 = .ok (.if_icmp .ne 7, 3) := by decide +kernel
theorem dX11_between0_38 : decode cX11_between0 38 = .ok (.lconst 1, 1) := by decide +kernel
theorem dX11_between0_39 : decode cX11_between0 39 = .ok (.goto 4, 3) := by decide +kernel
theorem dX11_between0_42 : decode cX11_between0 42 = .ok (.lconst 0, 1) := by decide +kernel
theorem dX11_between0_43 : decode cX11_between0 43 = .ok (.invokevirtual 147, 3) := by decide +kernel
theorem dX11_between0_46 : decode cX11_between0 46 = .ok (.return_, 1) := by decide +kernel
theorem dX11_between0_47 : decode cX11_between0 47 = .ok (.iconst 0, 1) := by decide +kernel
theorem dX11_between0_48 : decode cX11_between0 48 = .ok (.istore 5, 2) := by decide +kernel
theorem dX11_between0_50 : decode cX11_between0 50 = .ok (.iconst 0, 1) := by decide +kernel
theorem dX11_between0_51 : decode cX11_between0 51 = .ok (.istore 6, 2) := by decide +kernel
theorem dX11_between0_53 : decode cX11_between0 53 = .ok (.iload 6, 2) := by decide +kernel
theorem dX11_between0_55 : decode cX11_between0 55 = .ok (.aload_n 0, 1) := by decide +kernel
theorem dX11_between0_56 : decode cX11_between0 56 = .ok (.getfield 9, 3) := by decide +kernel
theorem dX11_between0_59 : decode cX11_between0 59 = .ok (.sipush 170, 3) := by decide +kernel
theorem dX11_between0_62 : decode cX11_between0 62 = .ok (.iaload, 1) := by decide +kernel
theorem dX11_between0_63 : decode cX11_between0 63 = .ok (.if_icmp .ge 54, 3) := by decide +kernel
theorem dX11_between0_66 : decode cX11_between0 66 = .ok (.iload 5, 2) := by decide +kernel
theorem dX11_between0_68 : decode cX11_between0 68 = .ok (.iload_n 3, 1) := by decide +kernel
theorem dX11_between0_69 : decode cX11_between0 69 = .ok (.iload 6, 2) := by decide +kernel
theorem dX11_between0_71 : decode cX11_between0 71 = .ok (.ishr, 1) := by decide +kernel
theorem dX11_between0_72 : decode cX11_between0 72 = .ok (.iconst 1, 1) := by decide +kernel
theorem dX11_between0_73 : decode cX11_between0 73 = .ok (.iand, 1) := by decide +kernel
theorem dX11_between0_74 : decode cX11_between0 74 = .ok (.iconst 1, 1) := by decide +kernel
theorem dX11_between0_75 : decode cX11_between0 75 = .ok (.if_icmp .ne 32, 3) := by decide +kernel
theorem dX11_between0_78 : decode cX11_between0 78 = .ok (.iload 4, 2) := by decide +kernel
theorem dX11_between0_80 : decode cX11_between0 80 = .ok (.aload_n 0, 1) := by decide +kernel
theorem dX11_between0_81 : decode cX11_between0 81 = .ok (.getfield 9, 3) := by decide +kernel
theorem dX11_between0_84 : decode cX11_between0 84 = .ok (.sipush 171, 3) := by decide +kernel
theorem dX11_between0_87 : decode cX11_between0 87 = .ok (.iconst 3, 1) := by decide +kernel
theorem dX11_between0_88 : decode cX11_between0 88 = .ok (.iload 6, 2) := by decide +kernel
theorem dX11_between0_90 : decode cX11_between0 90 = .ok (.imul, 1) := by decide +kernel
theorem dX11_between0_91 : decode cX11_between0 91 = .ok (.iadd, 1) := by decide +kernel
theorem dX11_between0_92 : decode cX11_between0 92 = .ok (.iaload, 1) := by decide +kernel
theorem dX11_between0_93 : decode cX11_between0 93 = .ok (.ishr, 1) := by decide +kernel
theorem dX11_between0_94 : decode cX11_between0 94 = .ok (.iconst 1, 1) := by decide +kernel
theorem dX11_between0_95 : decode cX11_between0 95 = .ok (.iand, 1) := by decide +kernel
theorem dX11_between0_96 : decode cX11_between0 96 = .ok (.iconst 1, 1) := by decide +kernel
theorem dX11_between0_97 : decode cX11_between0 97 = .ok (.if_icmp .ne 10, 3) := by decide +kernel
theorem dX11_between0_100 : decode cX11_between0 100 = .ok (.iconst 1, 1) := by decide +kernel
theorem dX11_between0_101 : decode cX11_between0 101 = .ok (.iload 6, 2) := by decide +kernel
theorem dX11_between0_103 : decode cX11_between0 103 = .ok (.ishl, 1) := by decide +kernel
theorem dX11_between0_104 : decode cX11_between0 104 = .ok (.goto 4, 3) := by decide +kernel
theorem dX11_between0_107 : decode cX11_between0 107 = .ok (.iconst 0, 1) := by decide +kernel
theorem dX11_between0_108 : decode cX11_between0 108 = .ok (.ior, 1) := by decide +kernel
theorem dX11_between0_109 : decode cX11_between0 109 = .ok (.istore 5, 2) := by decide +kernel
theorem dX11_between0_111 : decode cX11_between0 111 = .ok (.iinc 6 1, 3) := by decide +kernel
theorem dX11_between0_114 : decode cX11_between0 114 = .ok (.goto (-61), 3) := by decide +kernel
theorem dX11_between0_117 : decode cX11_between0 117 = .ok (.iload 4, 2) := by decide +kernel
theorem dX11_between0_119 : decode cX11_between0 119 = .ok (.invokestatic 299, 3) := by decide +kernel
theorem dX11_between0_122 : decode cX11_between0 122 = .ok (.istore 6, 2) := by decide +kernel
theorem dX11_between0_124 : decode cX11_between0 124 = .ok (.lconst 0, 1) := by decide +kernel
theorem dX11_between0_125 : decode cX11_between0 125 = .ok (.lstore 7, 2) := by decide +kernel
theorem dX11_between0_127 : decode cX11_between0 127 = .ok (.lconst 0, 1) := by decide +kernel
theorem dX11_between0_128 : decode cX11_between0 128 = .ok (.lstore 9, 2) := by decide +kernel
theorem dX11_between0_130 : decode cX11_between0 130 = .ok (.iconst 0, 1) := by decide +kernel
theorem dX11_between0_131 : decode cX11_between0 131 = .ok (.istore 11, 2) := by decide +kernel
theorem dX11_between0_133 : decode cX11_between0 133 = .ok (.iload 11, 2) := by decide +kernel
theorem dX11_between0_135 : decode cX11_between0 135 = .ok (.sipush 256, 3) := by decide +kernel
theorem dX11_between0_138 : decode cX11_between0 138 = .ok (.if_icmp .ge 152, 3) := by decide +kernel
theorem dX11_between0_141 : decode cX11_between0 141 = .ok (.iload 11, 2) := by decide +kernel
theorem dX11_between0_143 : decode cX11_between0 143 = .ok (.iload 5, 2) := by decide +kernel
theorem dX11_between0_145 : decode cX11_between0 145 = .ok (.iconst (-1), 1) := by decide +kernel
theorem dX11_between0_146 : decode cX11_between0 146 = .ok (.ixor, 1) := by decide +kernel
theorem dX11_between0_147 : decode cX11_between0 147 = .ok (.iand, 1) := by decide +kernel
theorem dX11_between0_148 : decode cX11_between0 148 = .ok (.ifCond .ne 136, 3) := by decide +kernel
theorem dX11_between0_151 : decode cX11_between0 151 = .ok (.iload 11, 2) := by decide +kernel
theorem dX11_between0_153 : decode cX11_between0 153 = .ok (.invokestatic 299, 3) := by decide +kernel
theorem dX11_between0_156 : decode cX11_between0 156 = .ok (.istore 12, 2) := by decide +kernel
theorem dX11_between0_158 : decode cX11_between0 158 = .ok (.iload 12, 2) := by decide +kernel
theorem dX11_between0_160 : decode cX11_between0 160 = .ok (.iload 6, 2) := by decide +kernel
theorem dX11_between0_162 : decode cX11_between0 162 = .ok (.iconst 1, 1) := by decide +kernel
theorem dX11_between0_163 : decode cX11_between0 163 = .ok (.isub, 1) := by decide +kernel
theorem dX11_between0_164 : decode cX11_between0 164 = .ok (.if_icmp .eq 12, 3) := by decide +kernel
theorem dX11_between0_167 : decode cX11_between0 167 = .ok (.iload 12, 2) := by decide +kernel
theorem dX11_between0_169 : decode cX11_between0 169 = .ok (.iload 6, 2) := by decide +kernel
theorem dX11_between0_171 : decode cX11_between0 171 = .ok (.iconst 2, 1) := by decide +kernel
theorem dX11_between0_172 : decode cX11_between0 172 = .ok (.isub, 1) := by decide +kernel
theorem dX11_between0_173 : decode cX11_between0 173 = .ok (.if_icmp .ne 13, 3) := by decide +kernel
theorem dX11_between0_176 : decode cX11_between0 176 = .ok (.aload_n 0, 1) := by decide +kernel
theorem dX11_between0_177 : decode cX11_between0 177 = .ok (.iload_n 1, 1) := by decide +kernel
theorem dX11_between0_178 : decode cX11_between0 178 = .ok (.iload 11, 2) := by decide +kernel
theorem dX11_between0_180 : decode cX11_between0 180 = .ok (.invokevirtual 296, 3) := by decide +kernel
theorem dX11_between0_183 : decode cX11_between0 183 = .ok (.goto 4, 3) := by decide +kernel
theorem dX11_between0_186 : decode cX11_between0 186 = .ok (.iconst 0, 1) := by decide +kernel
theorem dX11_between0_187 : decode cX11_between0 187 = .ok (.istore 13, 2) := by decide +kernel
theorem dX11_between0_189 : decode cX11_between0 189 = .ok (.lload 7, 2) := by decide +kernel
theorem dX11_between0_191 : decode cX11_between0 191 = .ok (.iload 12, 2) := by decide +kernel
theorem dX11_between0_193 : decode cX11_between0 193 = .ok (.iload 6, 2) := by decide +kernel
theorem dX11_between0_195 : decode cX11_between0 195 = .ok (.iconst 1, 1) := by decide +kernel
theorem dX11_between0_196 : decode cX11_between0 196 = .ok (.isub, 1) := by decide +kernel
theorem dX11_between0_197 : decode cX11_between0 197 = .ok (.if_icmp .ne 21, 3) := by decide +kernel
theorem dX11_between0_200 : decode cX11_between0 200 = .ok (.iload 13, 2) := by decide +kernel
theorem dX11_between0_202 : decode cX11_between0 202 = .ok (.iload 4, 2) := by decide +kernel
theorem dX11_between0_204 : decode cX11_between0 204 = .ok (.if_icmp .ne 14, 3) := by decide +kernel
theorem dX11_between0_207 : decode cX11_between0 207 = .ok (.aload_n 0, 1) := by decide +kernel
theorem dX11_between0_208 : decode cX11_between0 208 = .ok (.iload 5, 2) := by decide +kernel
theorem dX11_between0_210 : decode cX11_between0 210 = .ok (.iload 11, 2) := by decide +kernel
theorem dX11_between0_212 : decode cX11_between0 212 = .ok (.invokevirtual 302, 3) := by decide +kernel
theorem dX11_between0_215 : decode cX11_between0 215 = .ok (.goto 4, 3) := by decide +kernel
theorem dX11_between0_218 : decode cX11_between0 218 = .ok (.lconst 0, 1) := by decide +kernel
theorem dX11_between0_219 : decode cX11_between0 219 = .ok (.ladd, 1) := by decide +kernel
theorem dX11_between0_220 : decode cX11_between0 220 = .ok (.lstore 7, 2) := by decide +kernel
theorem dX11_between0_222 : decode cX11_between0 222 = .ok (.iload 12, 2) := by decide +kernel
theorem dX11_between0_224 : decode cX11_between0 224 = .ok (.iload 6, 2) := by decide +kernel
theorem dX11_between0_226 : decode cX11_between0 226 = .ok (.iconst 2, 1) := by decide +kernel
theorem dX11_between0_227 : decode cX11_between0 227 = .ok (.isub, 1) := by decide +kernel
theorem dX11_between0_228 : decode cX11_between0 228 = .ok (.if_icmp .ne 31, 3) := by decide +kernel
theorem dX11_between0_231 : decode cX11_between0 231 = .ok (.iload 13, 2) := by decide +kernel
theorem dX11_between0_233 : decode cX11_between0 233 = .ok (.iload_n 2, 1) := by decide +kernel
theorem dX11_between0_234 : decode cX11_between0 234 = .ok (.ishr, 1) := by decide +kernel
theorem dX11_between0_235 : decode cX11_between0 235 = .ok (.iconst 1, 1) := by decide +kernel
theorem dX11_between0_236 : decode cX11_between0 236 = .ok (.iand, 1) := by decide +kernel
theorem dX11_between0_237 : decode cX11_between0 237 = .ok (.ifCond .ne 22, 3) := by decide +kernel
theorem dX11_between0_240 : decode cX11_between0 240 = .ok (.iload 13, 2) := by decide +kernel
theorem dX11_between0_242 : decode cX11_between0 242 = .ok (.aload_n 0, 1) := by decide +kernel
theorem dX11_between0_243 : decode cX11_between0 243 = .ok (.iload_n 2, 1) := by decide +kernel
theorem dX11_between0_244 : decode cX11_between0 244 = .ok (.iload 11, 2) := by decide +kernel
theorem dX11_between0_246 : decode cX11_between0 246 = .ok (.invokevirtual 296, 3) := by decide +kernel
theorem dX11_between0_249 : decode cX11_between0 249 = .ok (.ior, 1) := by decide +kernel
theorem dX11_between0_250 : decode cX11_between0 250 = .ok (.iload 4, 2) := by decide +kernel
theorem dX11_between0_252 : decode cX11_between0 252 = .ok (.if_icmp .ne 7, 3) := by decide +kernel
theorem dX11_between0_255 : decode cX11_between0 255 = .ok (.iconst 1, 1) := by decide +kernel
theorem dX11_between0_256 : decode cX11_between0 256 = .ok (.goto 4, 3) := by decide +kernel
theorem dX11_between0_259 : decode cX11_between0 259 = .ok (.iconst 0, 1) := by decide +kernel
theorem dX11_between0_260 : decode cX11_between0 260 = .ok (.istore 14, 2) := by decide +kernel
theorem dX11_between0_262 : decode cX11_between0 262 = .ok (.lload 9, 2) := by decide +kernel
theorem dX11_between0_264 : decode cX11_between0 264 = .ok (.iload 14, 2) := by decide +kernel
theorem dX11_between0_266 : decode cX11_between0 266 = .ok (.ifCond .eq 14, 3) := by decide +kernel
theorem dX11_between0_269 : decode cX11_between0 269 = .ok (.aload_n 0, 1) := by decide +kernel
theorem dX11_between0_270 : decode cX11_between0 270 = .ok (.iload 5, 2) := by decide +kernel
theorem dX11_between0_272 : decode cX11_between0 272 = .ok (.iload 11, 2) := by decide +kernel
theorem dX11_between0_274 : decode cX11_between0 274 = .ok (.invokevirtual 302, 3) := by decide +kernel
theorem dX11_between0_277 : decode cX11_between0 277 = .ok (.goto 4, 3) := by decide +kernel
theorem dX11_between0_280 : decode cX11_between0 280 = .ok (.lconst 0, 1) := by decide +kernel
theorem dX11_between0_281 : decode cX11_between0 281 = .ok (.ladd, 1) := by decide +kernel
theorem dX11_between0_282 : decode cX11_between0 282 = .ok (.lstore 9, 2) := by decide +kernel
theorem dX11_between0_284 : decode cX11_between0 284 = .ok (.iinc 11 1, 3) := by decide +kernel
theorem dX11_between0_287 : decode cX11_between0 287 = .ok (.goto (-154), 3) := by decide +kernel
theorem dX11_between0_290 : decode cX11_between0 290 = .ok (.lload 9, 2) := by decide +kernel
theorem dX11_between0_292 : decode cX11_between0 292 = .ok (.lload 7, 2) := by decide +kernel
theorem dX11_between0_294 : decode cX11_between0 294 = .ok (.invokestatic 132, 3) := by decide +kernel
theorem dX11_between0_297 : decode cX11_between0 297 = .ok (.lstore 11, 2) := by decide +kernel
theorem dX11_between0_299 : decode cX11_between0 299 = .ok (.aload_n 0, 1) := by decide +kernel
theorem dX11_between0_300 : decode cX11_between0 300 = .ok (.lload 9, 2) := by decide +kernel
theorem dX11_between0_302 : decode cX11_between0 302 = .ok (.lload 11, 2) := by decide +kernel
theorem dX11_between0_304 : decode cX11_between0 304 = .ok (.ldiv, 1) := by decide +kernel
theorem dX11_between0_305 : decode cX11_between0 305 = .ok (.putfield 136, 3) := by decide +kernel
theorem dX11_between0_308 : decode cX11_between0 308 = .ok (.aload_n 0, 1) := by decide +kernel
theorem dX11_between0_309 : decode cX11_between0 309 = .ok (.lload 7, 2) := by decide +kernel
theorem dX11_between0_311 : decode cX11_between0 311 = .ok (.lload 11, 2) := by decide +kernel
theorem dX11_between0_313 : decode cX11_between0 313 = .ok (.ldiv, 1) := by decide +kernel
theorem dX11_between0_314 : decode cX11_between0 314 = .ok (.putfield 140, 3) := by decide +kernel
theorem dX11_between0_317 : decode cX11_between0 317 = .ok (.return_, 1) := by decide +kernel
set_option maxRecDepth 20000 in
theorem ggX11_between_X11_isPoint : GoodIn wsX11_between wsX11_isPoint := goodIn_r _ [8, 9, 10, 11, 7, 12, 41, 42, 43, 44, 45, 46, 47, 48, 49, 50, 51, 52, 53, 54, 55, 56, 57, 58, 59, 60, 61, 62, 63, 64, 65, 66, 67, 68, 69, 70, 71, 72, 73] (by decide +kernel) (by decide +kernel)
set_option maxRecDepth 20000 in
theorem gX11_between_X11_isPoint : GoodIn wsX11_between (wsV RX11 290 RX11 yX11_isPoint wsX11_isPoint) := goodIn_app (goodIn_of _ (by decide +kernel)) ggX11_between_X11_isPoint
set_option maxRecDepth 20000 in
theorem ggX11_between_X11_in : GoodIn wsX11_between wsX11_in := goodIn_r _ [12] (by decide +kernel) (by decide +kernel)
set_option maxRecDepth 20000 in
theorem gX11_between_X11_in : GoodIn wsX11_between (va_wsS RX11 86 yX11_in wsX11_in) := goodIn_app (goodIn_of _ (by decide +kernel)) ggX11_between_X11_in
set_option maxRecDepth 20000 in
theorem ggX11_between_X11_live : GoodIn wsX11_between wsX11_live := goodIn_r _ [16, 9, 41, 42, 43, 44, 45, 46, 47, 48, 49, 50, 51, 52, 53, 54, 55, 56, 57, 58, 59, 60, 61, 62, 63, 64, 65, 66, 67, 68, 69, 70, 71, 72, 73] (by decide +kernel) (by decide +kernel)
set_option maxRecDepth 20000 in
theorem gX11_between_X11_live : GoodIn wsX11_between (wsV RX11 306 RX11 yX11_live wsX11_live) := goodIn_app (goodIn_of _ (by decide +kernel)) ggX11_between_X11_live
set_option maxRecDepth 20000 in
theorem ggX11_between_X11_between0 : GoodIn wsX11_between wsX11_between0 := goodIn_r _ [20, 9, 2, 3, 21, 22, 23, 7, 24, 25, 26, 27, 28, 29, 30, 31, 32, 33, 34, 35, 36, 37, 38, 39, 40, 41, 42, 43, 44, 45, 46, 47, 48, 49, 50, 51, 52, 53, 54, 55, 56, 57, 58, 59, 60, 61, 62, 63, 64, 65, 66, 67, 68, 69, 70, 71, 72, 73] (by decide +kernel) (by decide +kernel)
set_option maxRecDepth 20000 in
theorem gX11_between_X11_between0 : GoodIn wsX11_between (wsV RX11 309 RX11 yX11_between0 wsX11_between0) := goodIn_app (goodIn_of _ (by decide +kernel)) ggX11_between_X11_between0
theorem dX11_between_0 : decode cX11_between 0 = .ok (.aload_n 0, 1) := by decide +kernel
theorem dX11_between_1 : decode cX11_between 1 = .ok (.iload_n 1, 1) := by decide +kernel
theorem dX11_between_2 : decode cX11_between 2 = .ok (.invokevirtual 290, 3) := by decide +kernel
theorem dX11_between_5 : decode cX11_between 5 = .ok (.ifCond .eq 21, 3) := by decide +kernel
theorem dX11_between_8 : decode cX11_between 8 = .ok (.aload_n 0, 1) := by decide +kernel
theorem dX11_between_9 : decode cX11_between 9 = .ok (.iload_n 2, 1) := by decide +kernel
theorem dX11_between_10 : decode cX11_between 10 = .ok (.invokevirtual 290, 3) := by decide +kernel
theorem dX11_between_13 : decode cX11_between 13 = .ok (.ifCond .eq 13, 3) := by decide +kernel
theorem dX11_between_16 : decode cX11_between 16 = .ok (.iload_n 3, 1) := by decide +kernel
theorem dX11_between_17 : decode cX11_between 17 = .ok (.i2l, 1) := by decide +kernel
theorem dX11_between_18 : decode cX11_between 18 = .ok (.lconst 0, 1) := by decide +kernel
theorem dX11_between_19 : decode cX11_between 19 = .ok (.lconst 1, 1) := by decide +kernel
theorem dX11_between_20 : decode cX11_between 20 = .ok (.invokestatic 86, 3) := by decide +kernel
theorem dX11_between_23 : decode cX11_between 23 = .ok (.ifCond .ne 7, 3) := by decide +kernel
theorem dX11_between_26 : decode cX11_between 26 = .ok (.ldc2_w 155, 3) := by decide +kernel
theorem dX11_between_29 : decode cX11_between 29 = .ok (.lreturn, 1) := by decide +kernel
theorem dX11_between_30 : decode cX11_between 30 = .ok (.aload_n 0, 1) := by decide +kernel
theorem dX11_between_31 : decode cX11_between 31 = .ok (.iload_n 1, 1) := by decide +kernel
theorem dX11_between_32 : decode cX11_between 32 = .ok (.iload_n 2, 1) := by decide +kernel
theorem dX11_between_33 : decode cX11_between 33 = .ok (.aload_n 0, 1) := by decide +kernel
theorem dX11_between_34 : decode cX11_between 34 = .ok (.invokevirtual 306, 3) := by decide +kernel
theorem dX11_between_37 : decode cX11_between 37 = .ok (.invokevirtual 309, 3) := by decide +kernel
theorem dX11_between_40 : decode cX11_between 40 = .ok (.iload_n 3, 1) := by decide +kernel
theorem dX11_between_41 : decode cX11_between 41 = .ok (.ifCond .ne 10, 3) := by decide +kernel
theorem dX11_between_44 : decode cX11_between 44 = .ok (.aload_n 0, 1) := by decide +kernel
theorem dX11_between_45 : decode cX11_between 45 = .ok (.getfield 136, 3) := by decide +kernel
theorem dX11_between_48 : decode cX11_between 48 = .ok (.goto 7, 3) := by decide +kernel
theorem dX11_between_51 : decode cX11_between 51 = .ok (.aload_n 0, 1) := by decide +kernel
theorem dX11_between_52 : decode cX11_between 52 = .ok (.getfield 140, 3) := by decide +kernel
theorem dX11_between_55 : decode cX11_between 55 = .ok (.lreturn, 1) := by decide +kernel
set_option maxRecDepth 20000 in
theorem ggX11_without_X11_isEdge : GoodIn wsX11_without wsX11_isEdge := goodIn_r _ [8, 9, 10, 11, 7, 12, 45, 46, 47, 48, 49, 50, 51, 52, 53, 54, 55, 56, 57, 58, 59, 60, 61, 62, 63, 64, 65, 66, 67, 68, 69, 70, 71, 72, 73, 74, 75, 76, 77] (by decide +kernel) (by decide +kernel)
set_option maxRecDepth 20000 in
theorem gX11_without_X11_isEdge : GoodIn wsX11_without (wsV RX11 293 RX11 yX11_isEdge wsX11_isEdge) := goodIn_app (goodIn_of _ (by decide +kernel)) ggX11_without_X11_isEdge
set_option maxRecDepth 20000 in
theorem ggX11_without_X11_isPoint : GoodIn wsX11_without wsX11_isPoint := goodIn_r _ [16, 9, 10, 11, 7, 12, 45, 46, 47, 48, 49, 50, 51, 52, 53, 54, 55, 56, 57, 58, 59, 60, 61, 62, 63, 64, 65, 66, 67, 68, 69, 70, 71, 72, 73, 74, 75, 76, 77] (by decide +kernel) (by decide +kernel)
set_option maxRecDepth 20000 in
theorem gX11_without_X11_isPoint : GoodIn wsX11_without (wsV RX11 290 RX11 yX11_isPoint wsX11_isPoint) := goodIn_app (goodIn_of _ (by decide +kernel)) ggX11_without_X11_isPoint
set_option maxRecDepth 20000 in
theorem ggX11_without_X11_in : GoodIn wsX11_without wsX11_in := goodIn_r _ [12] (by decide +kernel) (by decide +kernel)
set_option maxRecDepth 20000 in
theorem gX11_without_X11_in : GoodIn wsX11_without (va_wsS RX11 86 yX11_in wsX11_in) := goodIn_app (goodIn_of _ (by decide +kernel)) ggX11_without_X11_in
set_option maxRecDepth 20000 in
theorem ggX11_without_X11_live : GoodIn wsX11_without wsX11_live := goodIn_r _ [20, 9, 45, 46, 47, 48, 49, 50, 51, 52, 53, 54, 55, 56, 57, 58, 59, 60, 61, 62, 63, 64, 65, 66, 67, 68, 69, 70, 71, 72, 73, 74, 75, 76, 77] (by decide +kernel) (by decide +kernel)
set_option maxRecDepth 20000 in
theorem gX11_without_X11_live : GoodIn wsX11_without (wsV RX11 306 RX11 yX11_live wsX11_live) := goodIn_app (goodIn_of _ (by decide +kernel)) ggX11_without_X11_live
set_option maxRecDepth 20000 in
theorem ggX11_without_X11_between0 : GoodIn wsX11_without wsX11_between0 := goodIn_r _ [24, 9, 2, 3, 25, 26, 27, 7, 28, 29, 30, 31, 32, 33, 34, 35, 36, 37, 38, 39, 40, 41, 42, 43, 44, 45, 46, 47, 48, 49, 50, 51, 52, 53, 54, 55, 56, 57, 58, 59, 60, 61, 62, 63, 64, 65, 66, 67, 68, 69, 70, 71, 72, 73, 74, 75, 76, 77] (by decide +kernel) (by decide +kernel)
set_option maxRecDepth 20000 in
theorem gX11_without_X11_between0 : GoodIn wsX11_without (wsV RX11 309 RX11 yX11_between0 wsX11_between0) := goodIn_app (goodIn_of _ (by decide +kernel)) ggX11_without_X11_between0
theorem dX11_without_0 : decode cX11_without 0 = .ok (.aload_n 0, 1) := by decide +kernel
theorem dX11_without_1 : decode cX11_without 1 = .ok (.iload_n 1, 1) := by decide +kernel
theorem dX11_without_2 : decode cX11_without 2 = .ok (.invokevirtual 293, 3) := by decide +kernel
theorem dX11_without_5 : decode cX11_without 5 = .ok (.ifCond .eq 30, 3) := by decide +kernel
theorem dX11_without_8 : decode cX11_without 8 = .ok (.aload_n 0, 1) := by decide +kernel
theorem dX11_without_9 : decode cX11_without 9 = .ok (.iload_n 2, 1) := by decide +kernel
theorem dX11_without_10 : decode cX11_without 10 = .ok (.invokevirtual 290, 3) := by decide +kernel
theorem dX11_without_13 : decode cX11_without 13 = .ok (.ifCond .eq 22, 3) := by decide +kernel
theorem dX11_without_16 : decode cX11_without 16 = .ok (.aload_n 0, 1) := by decide +kernel
theorem dX11_without_17 : decode cX11_without 17 = .ok (.iload_n 3, 1) := by decide +kernel
theorem dX11_without_18 : decode cX11_without 18 = .ok (.invokevirtual 290, 3) := by decide +kernel
theorem dX11_without_21 : decode cX11_without 21 = .ok (.ifCond .eq 14, 3) := by decide +kernel
theorem dX11_without_24 : decode cX11_without 24 = .ok (.iload 4, 2) := by decide +kernel
theorem dX11_without_26 : decode cX11_without 26 = .ok (.i2l, 1) := by decide +kernel
theorem dX11_without_27 : decode cX11_without 27 = .ok (.lconst 0, 1) := by decide +kernel
theorem dX11_without_28 : decode cX11_without 28 = .ok (.lconst 1, 1) := by decide +kernel
theorem dX11_without_29 : decode cX11_without 29 = .ok (.invokestatic 86, 3) := by decide +kernel
theorem dX11_without_32 : decode cX11_without 32 = .ok (.ifCond .ne 7, 3) := by decide +kernel
theorem dX11_without_35 : decode cX11_without 35 = .ok (.ldc2_w 155, 3) := by decide +kernel
theorem dX11_without_38 : decode cX11_without 38 = .ok (.lreturn, 1) := by decide +kernel
theorem dX11_without_39 : decode cX11_without 39 = .ok (.aload_n 0, 1) := by decide +kernel
theorem dX11_without_40 : decode cX11_without 40 = .ok (.iload_n 2, 1) := by decide +kernel
theorem dX11_without_41 : decode cX11_without 41 = .ok (.iload_n 3, 1) := by decide +kernel
theorem dX11_without_42 : decode cX11_without 42 = .ok (.aload_n 0, 1) := by decide +kernel
theorem dX11_without_43 : decode cX11_without 43 = .ok (.invokevirtual 306, 3) := by decide +kernel
theorem dX11_without_46 : decode cX11_without 46 = .ok (.iconst 1, 1) := by decide +kernel
theorem dX11_without_47 : decode cX11_without 47 = .ok (.iload_n 1, 1) := by decide +kernel
theorem dX11_without_48 : decode cX11_without 48 = .ok (.ishl, 1) := by decide +kernel
theorem dX11_without_49 : decode cX11_without 49 = .ok (.iconst (-1), 1) := by decide +kernel
theorem dX11_without_50 : decode cX11_without 50 = .ok (.ixor, 1) := by decide +kernel
theorem dX11_without_51 : decode cX11_without 51 = .ok (.iand, 1) := by decide +kernel
theorem dX11_without_52 : decode cX11_without 52 = .ok (.invokevirtual 309, 3) := by decide +kernel
theorem dX11_without_55 : decode cX11_without 55 = .ok (.iload 4, 2) := by decide +kernel
theorem dX11_without_57 : decode cX11_without 57 = .ok (.ifCond .ne 10, 3) := by decide +kernel
theorem dX11_without_60 : decode cX11_without 60 = .ok (.aload_n 0, 1) := by decide +kernel
theorem dX11_without_61 : decode cX11_without 61 = .ok (.getfield 136, 3) := by decide +kernel
theorem dX11_without_64 : decode cX11_without 64 = .ok (.goto 7, 3) := by decide +kernel
theorem dX11_without_67 : decode cX11_without 67 = .ok (.aload_n 0, 1) := by decide +kernel
theorem dX11_without_68 : decode cX11_without 68 = .ok (.getfield 140, 3) := by decide +kernel
theorem dX11_without_71 : decode cX11_without 71 = .ok (.lreturn, 1) := by decide +kernel
set_option maxRecDepth 20000 in
theorem ggX11_dearest_X11_isPoint : GoodIn wsX11_dearest wsX11_isPoint := goodIn_r _ [8, 1, 9, 10, 7, 11, 43, 44, 45, 46, 47, 48, 49, 50, 51, 52, 53, 54, 55, 56, 57, 58, 59, 60, 61, 62, 63, 64, 65, 66, 67, 68, 69, 70, 71, 72, 73, 74, 75] (by decide +kernel) (by decide +kernel)
set_option maxRecDepth 20000 in
theorem gX11_dearest_X11_isPoint : GoodIn wsX11_dearest (wsV RX11 290 RX11 yX11_isPoint wsX11_isPoint) := goodIn_app (goodIn_of _ (by decide +kernel)) ggX11_dearest_X11_isPoint
set_option maxRecDepth 20000 in
theorem ggX11_dearest_X11_live : GoodIn wsX11_dearest wsX11_live := goodIn_r _ [15, 1, 43, 44, 45, 46, 47, 48, 49, 50, 51, 52, 53, 54, 55, 56, 57, 58, 59, 60, 61, 62, 63, 64, 65, 66, 67, 68, 69, 70, 71, 72, 73, 74, 75] (by decide +kernel) (by decide +kernel)
set_option maxRecDepth 20000 in
theorem gX11_dearest_X11_live : GoodIn wsX11_dearest (wsV RX11 306 RX11 yX11_live wsX11_live) := goodIn_app (goodIn_of _ (by decide +kernel)) ggX11_dearest_X11_live
set_option maxRecDepth 20000 in
theorem ggX11_dearest_X11_between0 : GoodIn wsX11_dearest wsX11_between0 := goodIn_r _ [19, 1, 2, 3, 20, 21, 22, 7, 23, 24, 25, 26, 27, 28, 29, 30, 31, 32, 33, 34, 35, 36, 37, 38, 39, 43, 44, 45, 46, 47, 48, 49, 50, 51, 52, 53, 54, 55, 56, 57, 58, 59, 60, 61, 62, 63, 64, 65, 66, 67, 68, 69, 70, 71, 72, 73, 74, 75] (by decide +kernel) (by decide +kernel)
set_option maxRecDepth 20000 in
theorem gX11_dearest_X11_between0 : GoodIn wsX11_dearest (wsV RX11 309 RX11 yX11_between0 wsX11_between0) := goodIn_app (goodIn_of _ (by decide +kernel)) ggX11_dearest_X11_between0
set_option maxRecDepth 20000 in
theorem ggX11_dearest_X11_isLess : GoodIn wsX11_dearest wsX11_isLess := goodIn_r _ [42] (by decide +kernel) (by decide +kernel)
set_option maxRecDepth 20000 in
theorem gX11_dearest_X11_isLess : GoodIn wsX11_dearest (va_wsS RX11 222 yX11_isLess wsX11_isLess) := goodIn_app (goodIn_of _ (by decide +kernel)) ggX11_dearest_X11_isLess
theorem dX11_dearest_0 : decode cX11_dearest 0 = .ok (.aload_n 0, 1) := by decide +kernel
theorem dX11_dearest_1 : decode cX11_dearest 1 = .ok (.iload_n 1, 1) := by decide +kernel
theorem dX11_dearest_2 : decode cX11_dearest 2 = .ok (.invokevirtual 290, 3) := by decide +kernel
theorem dX11_dearest_5 : decode cX11_dearest 5 = .ok (.ifCond .eq 11, 3) := by decide +kernel
theorem dX11_dearest_8 : decode cX11_dearest 8 = .ok (.aload_n 0, 1) := by decide +kernel
theorem dX11_dearest_9 : decode cX11_dearest 9 = .ok (.iload_n 2, 1) := by decide +kernel
theorem dX11_dearest_10 : decode cX11_dearest 10 = .ok (.invokevirtual 290, 3) := by decide +kernel
theorem dX11_dearest_13 : decode cX11_dearest 13 = .ok (.ifCond .ne 5, 3) := by decide +kernel
theorem dX11_dearest_16 : decode cX11_dearest 16 = .ok (.iconst (-1), 1) := by decide +kernel
theorem dX11_dearest_17 : decode cX11_dearest 17 = .ok (.ireturn, 1) := by decide +kernel
theorem dX11_dearest_18 : decode cX11_dearest 18 = .ok (.bipush (-2), 2) := by decide +kernel
theorem dX11_dearest_20 : decode cX11_dearest 20 = .ok (.istore_n 3, 1) := by decide +kernel
theorem dX11_dearest_21 : decode cX11_dearest 21 = .ok (.lconst 0, 1) := by decide +kernel
theorem dX11_dearest_22 : decode cX11_dearest 22 = .ok (.lstore 4, 2) := by decide +kernel
theorem dX11_dearest_24 : decode cX11_dearest 24 = .ok (.lconst 1, 1) := by decide +kernel
theorem dX11_dearest_25 : decode cX11_dearest 25 = .ok (.lstore 6, 2) := by decide +kernel
theorem dX11_dearest_27 : decode cX11_dearest 27 = .ok (.iconst 0, 1) := by decide +kernel
theorem dX11_dearest_28 : decode cX11_dearest 28 = .ok (.istore 8, 2) := by decide +kernel
theorem dX11_dearest_30 : decode cX11_dearest 30 = .ok (.iload 8, 2) := by decide +kernel
theorem dX11_dearest_32 : decode cX11_dearest 32 = .ok (.aload_n 0, 1) := by decide +kernel
theorem dX11_dearest_33 : decode cX11_dearest 33 = .ok (.getfield 9, 3) := by decide +kernel
theorem dX11_dearest_36 : decode cX11_dearest 36 = .ok (.sipush 170, 3) := by decide +kernel
theorem dX11_dearest_39 : decode cX11_dearest 39 = .ok (.iaload, 1) := by decide +kernel
theorem dX11_dearest_40 : decode cX11_dearest 40 = .ok (.if_icmp .ge 100, 3) := by decide +kernel
theorem dX11_dearest_43 : decode cX11_dearest 43 = .ok (.aload_n 0, 1) := by decide +kernel
theorem dX11_dearest_44 : decode cX11_dearest 44 = .ok (.iload_n 1, 1) := by decide +kernel
theorem dX11_dearest_45 : decode cX11_dearest 45 = .ok (.iload_n 2, 1) := by decide +kernel
theorem dX11_dearest_46 : decode cX11_dearest 46 = .ok (.aload_n 0, 1) := by decide +kernel
theorem dX11_dearest_47 : decode cX11_dearest 47 = .ok (.invokevirtual 306, 3) := by decide +kernel
theorem dX11_dearest_50 : decode cX11_dearest 50 = .ok (.iconst 1, 1) := by decide +kernel
theorem dX11_dearest_51 : decode cX11_dearest 51 = .ok (.iload 8, 2) := by decide +kernel
theorem dX11_dearest_53 : decode cX11_dearest 53 = .ok (.ishl, 1) := by decide +kernel
theorem dX11_dearest_54 : decode cX11_dearest 54 = .ok (.iconst (-1), 1) := by decide +kernel
theorem dX11_dearest_55 : decode cX11_dearest 55 = .ok (.ixor, 1) := by decide +kernel
theorem dX11_dearest_56 : decode cX11_dearest 56 = .ok (.iand, 1) := by decide +kernel
theorem dX11_dearest_57 : decode cX11_dearest 57 = .ok (.invokevirtual 309, 3) := by decide +kernel
theorem dX11_dearest_60 : decode cX11_dearest 60 = .ok (.iload 8, 2) := by decide +kernel
theorem dX11_dearest_62 : decode cX11_dearest 62 = .ok (.ifCond .eq 21, 3) := by decide +kernel
theorem dX11_dearest_65 : decode cX11_dearest 65 = .ok (.lload 4, 2) := by decide +kernel
theorem dX11_dearest_67 : decode cX11_dearest 67 = .ok (.lload 6, 2) := by decide +kernel
theorem dX11_dearest_69 : decode cX11_dearest 69 = .ok (.aload_n 0, 1) := by decide +kernel
theorem dX11_dearest_70 : decode cX11_dearest 70 = .ok (.getfield 136, 3) := by decide +kernel
theorem dX11_dearest_73 : decode cX11_dearest 73 = .ok (.aload_n 0, 1) := by decide +kernel
theorem dX11_dearest_74 : decode cX11_dearest 74 = .ok (.getfield 140, 3) := by decide +kernel
theorem dX11_dearest_77 : decode cX11_dearest 77 = .ok (.invokestatic 222, 3) := by decide +kernel
theorem dX11_dearest_80 : decode cX11_dearest 80 = .ok (.ifCond .eq 7, 3) := by decide +kernel
theorem dX11_dearest_83 : decode cX11_dearest 83 = .ok (.iconst 1, 1) := by decide +kernel
theorem dX11_dearest_84 : decode cX11_dearest 84 = .ok (.goto 4, 3) := by decide +kernel
theorem dX11_dearest_87 : decode cX11_dearest 87 = .ok (.iconst 0, 1) := by decide +kernel
theorem dX11_dearest_88 : decode cX11_dearest 88 = .ok (.istore 9, 2) := by decide +kernel
theorem dX11_dearest_90 : decode cX11_dearest 90 = .ok (.iload 9, 2) := by decide +kernel
theorem dX11_dearest_92 : decode cX11_dearest 92 = .ok (.ifCond .eq 8, 3) := by decide +kernel
theorem dX11_dearest_95 : decode cX11_dearest 95 = .ok (.iload 8, 2) := by decide +kernel
theorem dX11_dearest_97 : decode cX11_dearest 97 = .ok (.goto 4, 3) := by decide +kernel
theorem dX11_dearest_100 : decode cX11_dearest 100 = .ok (.iload_n 3, 1) := by decide +kernel
theorem dX11_dearest_101 : decode cX11_dearest 101 = .ok (.istore_n 3, 1) := by decide +kernel
theorem dX11_dearest_102 : decode cX11_dearest 102 = .ok (.iload 9, 2) := by decide +kernel
theorem dX11_dearest_104 : decode cX11_dearest 104 = .ok (.ifCond .eq 10, 3) := by decide +kernel
theorem dX11_dearest_107 : decode cX11_dearest 107 = .ok (.aload_n 0, 1) := by decide +kernel
theorem dX11_dearest_108 : decode cX11_dearest 108 = .ok (.getfield 136, 3) := by decide +kernel
theorem dX11_dearest_111 : decode cX11_dearest 111 = .ok (.goto 5, 3) := by decide +kernel
theorem dX11_dearest_114 : decode cX11_dearest 114 = .ok (.lload 4, 2) := by decide +kernel
theorem dX11_dearest_116 : decode cX11_dearest 116 = .ok (.lstore 4, 2) := by decide +kernel
theorem dX11_dearest_118 : decode cX11_dearest 118 = .ok (.iload 9, 2) := by decide +kernel
theorem dX11_dearest_120 : decode cX11_dearest 120 = .ok (.ifCond .eq 10, 3) := by decide +kernel
theorem dX11_dearest_123 : decode cX11_dearest 123 = .ok (.aload_n 0, 1) := by decide +kernel
theorem dX11_dearest_124 : decode cX11_dearest 124 = .ok (.getfield 140, 3) := by decide +kernel
theorem dX11_dearest_127 : decode cX11_dearest 127 = .ok (.goto 5, 3) := by decide +kernel
theorem dX11_dearest_130 : decode cX11_dearest 130 = .ok (.lload 6, 2) := by decide +kernel
theorem dX11_dearest_132 : decode cX11_dearest 132 = .ok (.lstore 6, 2) := by decide +kernel
theorem dX11_dearest_134 : decode cX11_dearest 134 = .ok (.iinc 8 1, 3) := by decide +kernel
theorem dX11_dearest_137 : decode cX11_dearest 137 = .ok (.goto (-107), 3) := by decide +kernel
theorem dX11_dearest_140 : decode cX11_dearest 140 = .ok (.iload_n 3, 1) := by decide +kernel
theorem dX11_dearest_141 : decode cX11_dearest 141 = .ok (.ireturn, 1) := by decide +kernel
set_option maxRecDepth 20000 in
theorem ggX11_bridges_X11_isPoint : GoodIn wsX11_bridges wsX11_isPoint := goodIn_r _ [6, 1, 7, 8, 5, 9, 18, 19, 20, 21, 22, 23, 24, 25, 26, 27, 28, 29, 30, 31, 32, 33, 34, 35, 36, 37, 38, 39, 40, 41, 42, 43, 44, 45, 46, 47, 48, 49, 50] (by decide +kernel) (by decide +kernel)
set_option maxRecDepth 20000 in
theorem gX11_bridges_X11_isPoint : GoodIn wsX11_bridges (wsV RX11 290 RX11 yX11_isPoint wsX11_isPoint) := goodIn_app (goodIn_of _ (by decide +kernel)) ggX11_bridges_X11_isPoint
set_option maxRecDepth 20000 in
theorem ggX11_bridges_X11_live : GoodIn wsX11_bridges wsX11_live := goodIn_r _ [13, 1, 18, 19, 20, 21, 22, 23, 24, 25, 26, 27, 28, 29, 30, 31, 32, 33, 34, 35, 36, 37, 38, 39, 40, 41, 42, 43, 44, 45, 46, 47, 48, 49, 50] (by decide +kernel) (by decide +kernel)
set_option maxRecDepth 20000 in
theorem gX11_bridges_X11_live : GoodIn wsX11_bridges (wsV RX11 306 RX11 yX11_live wsX11_live) := goodIn_app (goodIn_of _ (by decide +kernel)) ggX11_bridges_X11_live
set_option maxRecDepth 20000 in
theorem ggX11_bridges_X11_comesTo : GoodIn wsX11_bridges wsX11_comesTo := goodIn_r _ [17, 1, 18, 19, 20, 21, 22, 23, 24, 25, 26, 27, 28, 29, 30, 31, 32, 33, 34, 35, 36, 37, 38, 39, 40, 41, 42, 43, 44, 45, 46, 47, 48, 49, 50] (by decide +kernel) (by decide +kernel)
set_option maxRecDepth 20000 in
theorem gX11_bridges_X11_comesTo : GoodIn wsX11_bridges (wsV RX11 296 RX11 yX11_comesTo wsX11_comesTo) := goodIn_app (goodIn_of _ (by decide +kernel)) ggX11_bridges_X11_comesTo
theorem dX11_bridges_0 : decode cX11_bridges 0 = .ok (.aload_n 0, 1) := by decide +kernel
theorem dX11_bridges_1 : decode cX11_bridges 1 = .ok (.iload_n 1, 1) := by decide +kernel
theorem dX11_bridges_2 : decode cX11_bridges 2 = .ok (.invokevirtual 290, 3) := by decide +kernel
theorem dX11_bridges_5 : decode cX11_bridges 5 = .ok (.ifCond .eq 11, 3) := by decide +kernel
theorem dX11_bridges_8 : decode cX11_bridges 8 = .ok (.aload_n 0, 1) := by decide +kernel
theorem dX11_bridges_9 : decode cX11_bridges 9 = .ok (.iload_n 2, 1) := by decide +kernel
theorem dX11_bridges_10 : decode cX11_bridges 10 = .ok (.invokevirtual 290, 3) := by decide +kernel
theorem dX11_bridges_13 : decode cX11_bridges 13 = .ok (.ifCond .ne 5, 3) := by decide +kernel
theorem dX11_bridges_16 : decode cX11_bridges 16 = .ok (.iconst (-1), 1) := by decide +kernel
theorem dX11_bridges_17 : decode cX11_bridges 17 = .ok (.ireturn, 1) := by decide +kernel
theorem dX11_bridges_18 : decode cX11_bridges 18 = .ok (.aload_n 0, 1) := by decide +kernel
theorem dX11_bridges_19 : decode cX11_bridges 19 = .ok (.iload_n 1, 1) := by decide +kernel
theorem dX11_bridges_20 : decode cX11_bridges 20 = .ok (.aload_n 0, 1) := by decide +kernel
theorem dX11_bridges_21 : decode cX11_bridges 21 = .ok (.invokevirtual 306, 3) := by decide +kernel
theorem dX11_bridges_24 : decode cX11_bridges 24 = .ok (.invokevirtual 296, 3) := by decide +kernel
theorem dX11_bridges_27 : decode cX11_bridges 27 = .ok (.iload_n 2, 1) := by decide +kernel
theorem dX11_bridges_28 : decode cX11_bridges 28 = .ok (.ishr, 1) := by decide +kernel
theorem dX11_bridges_29 : decode cX11_bridges 29 = .ok (.iconst 1, 1) := by decide +kernel
theorem dX11_bridges_30 : decode cX11_bridges 30 = .ok (.iand, 1) := by decide +kernel
theorem dX11_bridges_31 : decode cX11_bridges 31 = .ok (.ifCond .ne 6, 3) := by decide +kernel
theorem dX11_bridges_34 : decode cX11_bridges 34 = .ok (.bipush (-5), 2) := by decide +kernel
theorem dX11_bridges_36 : decode cX11_bridges 36 = .ok (.ireturn, 1) := by decide +kernel
theorem dX11_bridges_37 : decode cX11_bridges 37 = .ok (.iconst 0, 1) := by decide +kernel
theorem dX11_bridges_38 : decode cX11_bridges 38 = .ok (.istore_n 3, 1) := by decide +kernel
theorem dX11_bridges_39 : decode cX11_bridges 39 = .ok (.iconst 0, 1) := by decide +kernel
theorem dX11_bridges_40 : decode cX11_bridges 40 = .ok (.istore 4, 2) := by decide +kernel
theorem dX11_bridges_42 : decode cX11_bridges 42 = .ok (.iload 4, 2) := by decide +kernel
theorem dX11_bridges_44 : decode cX11_bridges 44 = .ok (.aload_n 0, 1) := by decide +kernel
theorem dX11_bridges_45 : decode cX11_bridges 45 = .ok (.getfield 9, 3) := by decide +kernel
theorem dX11_bridges_48 : decode cX11_bridges 48 = .ok (.sipush 170, 3) := by decide +kernel
theorem dX11_bridges_51 : decode cX11_bridges 51 = .ok (.iaload, 1) := by decide +kernel
theorem dX11_bridges_52 : decode cX11_bridges 52 = .ok (.if_icmp .ge 43, 3) := by decide +kernel
theorem dX11_bridges_55 : decode cX11_bridges 55 = .ok (.iload_n 3, 1) := by decide +kernel
theorem dX11_bridges_56 : decode cX11_bridges 56 = .ok (.aload_n 0, 1) := by decide +kernel
theorem dX11_bridges_57 : decode cX11_bridges 57 = .ok (.iload_n 1, 1) := by decide +kernel
theorem dX11_bridges_58 : decode cX11_bridges 58 = .ok (.aload_n 0, 1) := by decide +kernel
theorem dX11_bridges_59 : decode cX11_bridges 59 = .ok (.invokevirtual 306, 3) := by decide +kernel
theorem dX11_bridges_62 : decode cX11_bridges 62 = .ok (.iconst 1, 1) := by decide +kernel
theorem dX11_bridges_63 : decode cX11_bridges 63 = .ok (.iload 4, 2) := by decide +kernel
theorem dX11_bridges_65 : decode cX11_bridges 65 = .ok (.ishl, 1) := by decide +kernel
theorem dX11_bridges_66 : decode cX11_bridges 66 = .ok (.iconst (-1), 1) := by decide +kernel
theorem dX11_bridges_67 : decode cX11_bridges 67 = .ok (.ixor, 1) := by decide +kernel
theorem dX11_bridges_68 : decode cX11_bridges 68 = .ok (.iand, 1) := by decide +kernel
theorem dX11_bridges_69 : decode cX11_bridges 69 = .ok (.invokevirtual 296, 3) := by decide +kernel
theorem dX11_bridges_72 : decode cX11_bridges 72 = .ok (.iload_n 2, 1) := by decide +kernel
theorem dX11_bridges_73 : decode cX11_bridges 73 = .ok (.ishr, 1) := by decide +kernel
theorem dX11_bridges_74 : decode cX11_bridges 74 = .ok (.iconst 1, 1) := by decide +kernel
theorem dX11_bridges_75 : decode cX11_bridges 75 = .ok (.iand, 1) := by decide +kernel
theorem dX11_bridges_76 : decode cX11_bridges 76 = .ok (.ifCond .ne 10, 3) := by decide +kernel
theorem dX11_bridges_79 : decode cX11_bridges 79 = .ok (.iconst 1, 1) := by decide +kernel
theorem dX11_bridges_80 : decode cX11_bridges 80 = .ok (.iload 4, 2) := by decide +kernel
theorem dX11_bridges_82 : decode cX11_bridges 82 = .ok (.ishl, 1) := by decide +kernel
theorem dX11_bridges_83 : decode cX11_bridges 83 = .ok (.goto 4, 3) := by decide +kernel
theorem dX11_bridges_86 : decode cX11_bridges 86 = .ok (.iconst 0, 1) := by decide +kernel
theorem dX11_bridges_87 : decode cX11_bridges 87 = .ok (.ior, 1) := by decide +kernel
theorem dX11_bridges_88 : decode cX11_bridges 88 = .ok (.istore_n 3, 1) := by decide +kernel
theorem dX11_bridges_89 : decode cX11_bridges 89 = .ok (.iinc 4 1, 3) := by decide +kernel
theorem dX11_bridges_92 : decode cX11_bridges 92 = .ok (.goto (-50), 3) := by decide +kernel
theorem dX11_bridges_95 : decode cX11_bridges 95 = .ok (.iload_n 3, 1) := by decide +kernel
theorem dX11_bridges_96 : decode cX11_bridges 96 = .ok (.ireturn, 1) := by decide +kernel
set_option maxRecDepth 20000 in
theorem ggX11_ways_X11_isPoint : GoodIn wsX11_ways wsX11_isPoint := goodIn_r _ [5, 6, 7, 8, 4, 9, 18, 19, 20, 21, 22, 23, 24, 25, 26, 27, 28, 29, 30, 31, 32, 33, 34, 35, 36, 37, 38, 39, 40, 41, 42, 43, 44, 45, 46, 47, 48, 49, 50] (by decide +kernel) (by decide +kernel)
set_option maxRecDepth 20000 in
theorem gX11_ways_X11_isPoint : GoodIn wsX11_ways (wsV RX11 290 RX11 yX11_isPoint wsX11_isPoint) := goodIn_app (goodIn_of _ (by decide +kernel)) ggX11_ways_X11_isPoint
set_option maxRecDepth 20000 in
theorem ggX11_ways_X11_live : GoodIn wsX11_ways wsX11_live := goodIn_r _ [13, 6, 18, 19, 20, 21, 22, 23, 24, 25, 26, 27, 28, 29, 30, 31, 32, 33, 34, 35, 36, 37, 38, 39, 40, 41, 42, 43, 44, 45, 46, 47, 48, 49, 50] (by decide +kernel) (by decide +kernel)
set_option maxRecDepth 20000 in
theorem gX11_ways_X11_live : GoodIn wsX11_ways (wsV RX11 306 RX11 yX11_live wsX11_live) := goodIn_app (goodIn_of _ (by decide +kernel)) ggX11_ways_X11_live
set_option maxRecDepth 20000 in
theorem ggX11_ways_X11_comesTo : GoodIn wsX11_ways wsX11_comesTo := goodIn_r _ [17, 6, 18, 19, 20, 21, 22, 23, 24, 25, 26, 27, 28, 29, 30, 31, 32, 33, 34, 35, 36, 37, 38, 39, 40, 41, 42, 43, 44, 45, 46, 47, 48, 49, 50] (by decide +kernel) (by decide +kernel)
set_option maxRecDepth 20000 in
theorem gX11_ways_X11_comesTo : GoodIn wsX11_ways (wsV RX11 296 RX11 yX11_comesTo wsX11_comesTo) := goodIn_app (goodIn_of _ (by decide +kernel)) ggX11_ways_X11_comesTo
theorem dX11_ways_0 : decode cX11_ways 0 = .ok (.aload_n 0, 1) := by decide +kernel
theorem dX11_ways_1 : decode cX11_ways 1 = .ok (.iload_n 1, 1) := by decide +kernel
theorem dX11_ways_2 : decode cX11_ways 2 = .ok (.invokevirtual 290, 3) := by decide +kernel
theorem dX11_ways_5 : decode cX11_ways 5 = .ok (.ifCond .eq 15, 3) := by decide +kernel
theorem dX11_ways_8 : decode cX11_ways 8 = .ok (.aload_n 0, 1) := by decide +kernel
theorem dX11_ways_9 : decode cX11_ways 9 = .ok (.iload_n 1, 1) := by decide +kernel
theorem dX11_ways_10 : decode cX11_ways 10 = .ok (.aload_n 0, 1) := by decide +kernel
theorem dX11_ways_11 : decode cX11_ways 11 = .ok (.invokevirtual 306, 3) := by decide +kernel
theorem dX11_ways_14 : decode cX11_ways 14 = .ok (.invokevirtual 296, 3) := by decide +kernel
theorem dX11_ways_17 : decode cX11_ways 17 = .ok (.goto 4, 3) := by decide +kernel
theorem dX11_ways_20 : decode cX11_ways 20 = .ok (.iconst (-1), 1) := by decide +kernel
theorem dX11_ways_21 : decode cX11_ways 21 = .ok (.ireturn, 1) := by decide +kernel
set_option maxRecDepth 20000 in
theorem ggX11_isTray_X11_in : GoodIn wsX11_isTray wsX11_in := goodIn_r _ [5] (by decide +kernel) (by decide +kernel)
set_option maxRecDepth 20000 in
theorem gX11_isTray_X11_in : GoodIn wsX11_isTray (va_wsS RX11 86 yX11_in wsX11_in) := goodIn_app (goodIn_of _ (by decide +kernel)) ggX11_isTray_X11_in
theorem dX11_isTray_0 : decode cX11_isTray 0 = .ok (.iload_n 0, 1) := by decide +kernel
theorem dX11_isTray_1 : decode cX11_isTray 1 = .ok (.i2l, 1) := by decide +kernel
theorem dX11_isTray_2 : decode cX11_isTray 2 = .ok (.lconst 0, 1) := by decide +kernel
theorem dX11_isTray_3 : decode cX11_isTray 3 = .ok (.ldc2_w 112, 3) := by decide +kernel
theorem dX11_isTray_6 : decode cX11_isTray 6 = .ok (.invokestatic 86, 3) := by decide +kernel
theorem dX11_isTray_9 : decode cX11_isTray 9 = .ok (.ireturn, 1) := by decide +kernel
theorem dX11_sizeOf_0 : decode cX11_sizeOf 0 = .ok (.aload_n 0, 1) := by decide +kernel
theorem dX11_sizeOf_1 : decode cX11_sizeOf 1 = .ok (.getfield 9, 3) := by decide +kernel
theorem dX11_sizeOf_4 : decode cX11_sizeOf 4 = .ok (.sipush 195, 3) := by decide +kernel
theorem dX11_sizeOf_7 : decode cX11_sizeOf 7 = .ok (.iconst 2, 1) := by decide +kernel
theorem dX11_sizeOf_8 : decode cX11_sizeOf 8 = .ok (.iload_n 1, 1) := by decide +kernel
theorem dX11_sizeOf_9 : decode cX11_sizeOf 9 = .ok (.imul, 1) := by decide +kernel
theorem dX11_sizeOf_10 : decode cX11_sizeOf 10 = .ok (.iadd, 1) := by decide +kernel
theorem dX11_sizeOf_11 : decode cX11_sizeOf 11 = .ok (.iaload, 1) := by decide +kernel
theorem dX11_sizeOf_12 : decode cX11_sizeOf 12 = .ok (.ireturn, 1) := by decide +kernel
set_option maxRecDepth 20000 in
theorem ggX11_tray_X11_isTray : GoodIn wsX11_tray wsX11_isTray := goodIn_r _ [7, 2, 8, 9, 6, 10] (by decide +kernel) (by decide +kernel)
set_option maxRecDepth 20000 in
theorem gX11_tray_X11_isTray : GoodIn wsX11_tray (va_wsS RX11 312 yX11_isTray wsX11_isTray) := goodIn_app (goodIn_of _ (by decide +kernel)) ggX11_tray_X11_isTray
set_option maxRecDepth 20000 in
theorem ggX11_tray_X11_in : GoodIn wsX11_tray wsX11_in := goodIn_r _ [10] (by decide +kernel) (by decide +kernel)
set_option maxRecDepth 20000 in
theorem gX11_tray_X11_in : GoodIn wsX11_tray (va_wsS RX11 86 yX11_in wsX11_in) := goodIn_app (goodIn_of _ (by decide +kernel)) ggX11_tray_X11_in
theorem dX11_tray_0 : decode cX11_tray 0 = .ok (.iload_n 1, 1) := by decide +kernel
theorem dX11_tray_1 : decode cX11_tray 1 = .ok (.invokestatic 312, 3) := by decide +kernel
theorem dX11_tray_4 : decode cX11_tray 4 = .ok (.ifCond .eq 27, 3) := by decide +kernel
theorem dX11_tray_7 : decode cX11_tray 7 = .ok (.iload_n 2, 1) := by decide +kernel
theorem dX11_tray_8 : decode cX11_tray 8 = .ok (.i2l, 1) := by decide +kernel
theorem dX11_tray_9 : decode cX11_tray 9 = .ok (.ldc2_w 315, 3) := by decide +kernel
theorem dX11_tray_12 : decode cX11_tray 12 = .ok (.ldc2_w 112, 3) := by decide +kernel
theorem dX11_tray_15 : decode cX11_tray 15 = .ok (.invokestatic 86, 3) := by decide +kernel
theorem dX11_tray_18 : decode cX11_tray 18 = .ok (.ifCond .eq 13, 3) := by decide +kernel
theorem dX11_tray_21 : decode cX11_tray 21 = .ok (.iload_n 2, 1) := by decide +kernel
theorem dX11_tray_22 : decode cX11_tray 22 = .ok (.ifCond .lt 11, 3) := by decide +kernel
theorem dX11_tray_25 : decode cX11_tray 25 = .ok (.iload_n 3, 1) := by decide +kernel
theorem dX11_tray_26 : decode cX11_tray 26 = .ok (.bipush 20, 2) := by decide +kernel
theorem dX11_tray_28 : decode cX11_tray 28 = .ok (.if_icmp .le 5, 3) := by decide +kernel
theorem dX11_tray_31 : decode cX11_tray 31 = .ok (.iconst (-1), 1) := by decide +kernel
theorem dX11_tray_32 : decode cX11_tray 32 = .ok (.ireturn, 1) := by decide +kernel
theorem dX11_tray_33 : decode cX11_tray 33 = .ok (.iload_n 2, 1) := by decide +kernel
theorem dX11_tray_34 : decode cX11_tray 34 = .ok (.ifCond .lt 10, 3) := by decide +kernel
theorem dX11_tray_37 : decode cX11_tray 37 = .ok (.iload_n 3, 1) := by decide +kernel
theorem dX11_tray_38 : decode cX11_tray 38 = .ok (.ifCond .ge 6, 3) := by decide +kernel
theorem dX11_tray_41 : decode cX11_tray 41 = .ok (.bipush (-14), 2) := by decide +kernel
theorem dX11_tray_43 : decode cX11_tray 43 = .ok (.ireturn, 1) := by decide +kernel
theorem dX11_tray_44 : decode cX11_tray 44 = .ok (.aload_n 0, 1) := by decide +kernel
theorem dX11_tray_45 : decode cX11_tray 45 = .ok (.getfield 9, 3) := by decide +kernel
theorem dX11_tray_48 : decode cX11_tray 48 = .ok (.sipush 195, 3) := by decide +kernel
theorem dX11_tray_51 : decode cX11_tray 51 = .ok (.iconst 2, 1) := by decide +kernel
theorem dX11_tray_52 : decode cX11_tray 52 = .ok (.iload_n 1, 1) := by decide +kernel
theorem dX11_tray_53 : decode cX11_tray 53 = .ok (.imul, 1) := by decide +kernel
theorem dX11_tray_54 : decode cX11_tray 54 = .ok (.iadd, 1) := by decide +kernel
theorem dX11_tray_55 : decode cX11_tray 55 = .ok (.iload_n 2, 1) := by decide +kernel
theorem dX11_tray_56 : decode cX11_tray 56 = .ok (.ifCond .ge 7, 3) := by decide +kernel
theorem dX11_tray_59 : decode cX11_tray 59 = .ok (.iconst (-1), 1) := by decide +kernel
theorem dX11_tray_60 : decode cX11_tray 60 = .ok (.goto 4, 3) := by decide +kernel
theorem dX11_tray_63 : decode cX11_tray 63 = .ok (.iload_n 3, 1) := by decide +kernel
theorem dX11_tray_64 : decode cX11_tray 64 = .ok (.iastore, 1) := by decide +kernel
theorem dX11_tray_65 : decode cX11_tray 65 = .ok (.aload_n 0, 1) := by decide +kernel
theorem dX11_tray_66 : decode cX11_tray 66 = .ok (.getfield 9, 3) := by decide +kernel
theorem dX11_tray_69 : decode cX11_tray 69 = .ok (.sipush 195, 3) := by decide +kernel
theorem dX11_tray_72 : decode cX11_tray 72 = .ok (.iconst 2, 1) := by decide +kernel
theorem dX11_tray_73 : decode cX11_tray 73 = .ok (.iload_n 1, 1) := by decide +kernel
theorem dX11_tray_74 : decode cX11_tray 74 = .ok (.imul, 1) := by decide +kernel
theorem dX11_tray_75 : decode cX11_tray 75 = .ok (.iadd, 1) := by decide +kernel
theorem dX11_tray_76 : decode cX11_tray 76 = .ok (.iconst 1, 1) := by decide +kernel
theorem dX11_tray_77 : decode cX11_tray 77 = .ok (.iadd, 1) := by decide +kernel
theorem dX11_tray_78 : decode cX11_tray 78 = .ok (.iload_n 2, 1) := by decide +kernel
theorem dX11_tray_79 : decode cX11_tray 79 = .ok (.iastore, 1) := by decide +kernel
theorem dX11_tray_80 : decode cX11_tray 80 = .ok (.iconst 0, 1) := by decide +kernel
theorem dX11_tray_81 : decode cX11_tray 81 = .ok (.istore 4, 2) := by decide +kernel
theorem dX11_tray_83 : decode cX11_tray 83 = .ok (.iload 4, 2) := by decide +kernel
theorem dX11_tray_85 : decode cX11_tray 85 = .ok (.bipush 20, 2) := by decide +kernel
theorem dX11_tray_87 : decode cX11_tray 87 = .ok (.if_icmp .ge 26, 3) := by decide +kernel
theorem dX11_tray_90 : decode cX11_tray 90 = .ok (.aload_n 0, 1) := by decide +kernel
theorem dX11_tray_91 : decode cX11_tray 91 = .ok (.getfield 9, 3) := by decide +kernel
theorem dX11_tray_94 : decode cX11_tray 94 = .ok (.sipush 201, 3) := by decide +kernel
theorem dX11_tray_97 : decode cX11_tray 97 = .ok (.bipush 20, 2) := by decide +kernel
theorem dX11_tray_99 : decode cX11_tray 99 = .ok (.iload_n 1, 1) := by decide +kernel
theorem dX11_tray_100 : decode cX11_tray 100 = .ok (.imul, 1) := by decide +kernel
theorem dX11_tray_101 : decode cX11_tray 101 = .ok (.iadd, 1) := by decide +kernel
theorem dX11_tray_102 : decode cX11_tray 102 = .ok (.iload 4, 2) := by decide +kernel
theorem dX11_tray_104 : decode cX11_tray 104 = .ok (.iadd, 1) := by decide +kernel
theorem dX11_tray_105 : decode cX11_tray 105 = .ok (.iconst 0, 1) := by decide +kernel
theorem dX11_tray_106 : decode cX11_tray 106 = .ok (.iastore, 1) := by decide +kernel
theorem dX11_tray_107 : decode cX11_tray 107 = .ok (.iinc 4 1, 3) := by decide +kernel
theorem dX11_tray_110 : decode cX11_tray 110 = .ok (.goto (-27), 3) := by decide +kernel
theorem dX11_tray_113 : decode cX11_tray 113 = .ok (.iconst 1, 1) := by decide +kernel
theorem dX11_tray_114 : decode cX11_tray 114 = .ok (.ireturn, 1) := by decide +kernel
set_option maxRecDepth 20000 in
theorem ggX11_mayLie_X11_kindOf : GoodIn wsX11_mayLie wsX11_kindOf := goodIn_r _ [6, 1, 7, 8, 9, 10, 11, 12, 13, 14, 15, 16, 17, 18, 19, 20, 21, 22, 23, 24, 25, 26, 27, 28, 29, 30, 31, 32, 33, 34, 35, 36, 37, 38, 39] (by decide +kernel) (by decide +kernel)
set_option maxRecDepth 20000 in
theorem gX11_mayLie_X11_kindOf : GoodIn wsX11_mayLie (wsV RX11 90 RX11 yX11_kindOf wsX11_kindOf) := goodIn_app (goodIn_of _ (by decide +kernel)) ggX11_mayLie_X11_kindOf
theorem dX11_mayLie_0 : decode cX11_mayLie 0 = .ok (.aload_n 0, 1) := by decide +kernel
theorem dX11_mayLie_1 : decode cX11_mayLie 1 = .ok (.getfield 9, 3) := by decide +kernel
theorem dX11_mayLie_4 : decode cX11_mayLie 4 = .ok (.sipush 195, 3) := by decide +kernel
theorem dX11_mayLie_7 : decode cX11_mayLie 7 = .ok (.iconst 2, 1) := by decide +kernel
theorem dX11_mayLie_8 : decode cX11_mayLie 8 = .ok (.iload_n 1, 1) := by decide +kernel
theorem dX11_mayLie_9 : decode cX11_mayLie 9 = .ok (.imul, 1) := by decide +kernel
theorem dX11_mayLie_10 : decode cX11_mayLie 10 = .ok (.iadd, 1) := by decide +kernel
theorem dX11_mayLie_11 : decode cX11_mayLie 11 = .ok (.iconst 1, 1) := by decide +kernel
theorem dX11_mayLie_12 : decode cX11_mayLie 12 = .ok (.iadd, 1) := by decide +kernel
theorem dX11_mayLie_13 : decode cX11_mayLie 13 = .ok (.iaload, 1) := by decide +kernel
theorem dX11_mayLie_14 : decode cX11_mayLie 14 = .ok (.istore_n 3, 1) := by decide +kernel
theorem dX11_mayLie_15 : decode cX11_mayLie 15 = .ok (.iload_n 2, 1) := by decide +kernel
theorem dX11_mayLie_16 : decode cX11_mayLie 16 = .ok (.ifCond .eq 35, 3) := by decide +kernel
theorem dX11_mayLie_19 : decode cX11_mayLie 19 = .ok (.iload_n 3, 1) := by decide +kernel
theorem dX11_mayLie_20 : decode cX11_mayLie 20 = .ok (.ifCond .eq 31, 3) := by decide +kernel
theorem dX11_mayLie_23 : decode cX11_mayLie 23 = .ok (.iload_n 3, 1) := by decide +kernel
theorem dX11_mayLie_24 : decode cX11_mayLie 24 = .ok (.iconst 1, 1) := by decide +kernel
theorem dX11_mayLie_25 : decode cX11_mayLie 25 = .ok (.if_icmp .ne 7, 3) := by decide +kernel
theorem dX11_mayLie_28 : decode cX11_mayLie 28 = .ok (.iconst 1, 1) := by decide +kernel
theorem dX11_mayLie_29 : decode cX11_mayLie 29 = .ok (.goto 4, 3) := by decide +kernel
theorem dX11_mayLie_32 : decode cX11_mayLie 32 = .ok (.iconst 0, 1) := by decide +kernel
theorem dX11_mayLie_33 : decode cX11_mayLie 33 = .ok (.aload_n 0, 1) := by decide +kernel
theorem dX11_mayLie_34 : decode cX11_mayLie 34 = .ok (.iload_n 2, 1) := by decide +kernel
theorem dX11_mayLie_35 : decode cX11_mayLie 35 = .ok (.iconst 1, 1) := by decide +kernel
theorem dX11_mayLie_36 : decode cX11_mayLie 36 = .ok (.isub, 1) := by decide +kernel
theorem dX11_mayLie_37 : decode cX11_mayLie 37 = .ok (.invokevirtual 90, 3) := by decide +kernel
theorem dX11_mayLie_40 : decode cX11_mayLie 40 = .ok (.ifCond .ne 7, 3) := by decide +kernel
theorem dX11_mayLie_43 : decode cX11_mayLie 43 = .ok (.iconst 1, 1) := by decide +kernel
theorem dX11_mayLie_44 : decode cX11_mayLie 44 = .ok (.goto 4, 3) := by decide +kernel
theorem dX11_mayLie_47 : decode cX11_mayLie 47 = .ok (.iconst 0, 1) := by decide +kernel
theorem dX11_mayLie_48 : decode cX11_mayLie 48 = .ok (.if_icmp .ne 7, 3) := by decide +kernel
theorem dX11_mayLie_51 : decode cX11_mayLie 51 = .ok (.iconst 1, 1) := by decide +kernel
theorem dX11_mayLie_52 : decode cX11_mayLie 52 = .ok (.goto 4, 3) := by decide +kernel
theorem dX11_mayLie_55 : decode cX11_mayLie 55 = .ok (.iconst 0, 1) := by decide +kernel
theorem dX11_mayLie_56 : decode cX11_mayLie 56 = .ok (.ireturn, 1) := by decide +kernel
set_option maxRecDepth 20000 in
theorem ggX11_lay_X11_isTray : GoodIn wsX11_lay wsX11_isTray := goodIn_r _ [5, 6, 7, 8, 4, 9] (by decide +kernel) (by decide +kernel)
set_option maxRecDepth 20000 in
theorem gX11_lay_X11_isTray : GoodIn wsX11_lay (va_wsS RX11 312 yX11_isTray wsX11_isTray) := goodIn_app (goodIn_of _ (by decide +kernel)) ggX11_lay_X11_isTray
set_option maxRecDepth 20000 in
theorem ggX11_lay_X11_isNet : GoodIn wsX11_lay wsX11_isNet := goodIn_r _ [13, 1, 7, 8, 4, 9, 26, 27, 28, 29, 30, 31, 32, 33, 34, 35, 36, 37, 38, 39, 40, 41, 42, 43, 44, 45, 46, 47, 48, 49, 50, 51, 52, 53, 54, 55, 56, 57, 58] (by decide +kernel) (by decide +kernel)
set_option maxRecDepth 20000 in
theorem gX11_lay_X11_isNet : GoodIn wsX11_lay (wsV RX11 121 RX11 yX11_isNet wsX11_isNet) := goodIn_app (goodIn_of _ (by decide +kernel)) ggX11_lay_X11_isNet
set_option maxRecDepth 20000 in
theorem ggX11_lay_X11_sizeOf : GoodIn wsX11_lay wsX11_sizeOf := goodIn_r _ [17, 1, 26, 27, 28, 29, 30, 31, 32, 33, 34, 35, 36, 37, 38, 39, 40, 41, 42, 43, 44, 45, 46, 47, 48, 49, 50, 51, 52, 53, 54, 55, 56, 57, 58] (by decide +kernel) (by decide +kernel)
set_option maxRecDepth 20000 in
theorem gX11_lay_X11_sizeOf : GoodIn wsX11_lay (wsV RX11 317 RX11 yX11_sizeOf wsX11_sizeOf) := goodIn_app (goodIn_of _ (by decide +kernel)) ggX11_lay_X11_sizeOf
set_option maxRecDepth 20000 in
theorem ggX11_lay_X11_in : GoodIn wsX11_lay wsX11_in := goodIn_r _ [9] (by decide +kernel) (by decide +kernel)
set_option maxRecDepth 20000 in
theorem gX11_lay_X11_in : GoodIn wsX11_lay (va_wsS RX11 86 yX11_in wsX11_in) := goodIn_app (goodIn_of _ (by decide +kernel)) ggX11_lay_X11_in
set_option maxRecDepth 20000 in
theorem ggX11_lay_X11_mayLie : GoodIn wsX11_lay wsX11_mayLie := goodIn_r _ [21, 1, 22, 23, 24, 4, 25, 26, 27, 28, 29, 30, 31, 32, 33, 34, 35, 36, 37, 38, 39, 40, 41, 42, 43, 44, 45, 46, 47, 48, 49, 50, 51, 52, 53, 54, 55, 56, 57, 58] (by decide +kernel) (by decide +kernel)
set_option maxRecDepth 20000 in
theorem gX11_lay_X11_mayLie : GoodIn wsX11_lay (wsV RX11 320 RX11 yX11_mayLie wsX11_mayLie) := goodIn_app (goodIn_of _ (by decide +kernel)) ggX11_lay_X11_mayLie
theorem dX11_lay_0 : decode cX11_lay 0 = .ok (.iload_n 1, 1) := by decide +kernel
theorem dX11_lay_1 : decode cX11_lay 1 = .ok (.invokestatic 312, 3) := by decide +kernel
theorem dX11_lay_4 : decode cX11_lay 4 = .ok (.ifCond .eq 16, 3) := by decide +kernel
theorem dX11_lay_7 : decode cX11_lay 7 = .ok (.iload_n 3, 1) := by decide +kernel
theorem dX11_lay_8 : decode cX11_lay 8 = .ok (.iconst (-1), 1) := by decide +kernel
theorem dX11_lay_9 : decode cX11_lay 9 = .ok (.if_icmp .eq 13, 3) := by decide +kernel
theorem dX11_lay_12 : decode cX11_lay 12 = .ok (.aload_n 0, 1) := by decide +kernel
theorem dX11_lay_13 : decode cX11_lay 13 = .ok (.iload_n 3, 1) := by decide +kernel
theorem dX11_lay_14 : decode cX11_lay 14 = .ok (.invokevirtual 121, 3) := by decide +kernel
theorem dX11_lay_17 : decode cX11_lay 17 = .ok (.ifCond .ne 5, 3) := by decide +kernel
theorem dX11_lay_20 : decode cX11_lay 20 = .ok (.iconst (-1), 1) := by decide +kernel
theorem dX11_lay_21 : decode cX11_lay 21 = .ok (.ireturn, 1) := by decide +kernel
theorem dX11_lay_22 : decode cX11_lay 22 = .ok (.aload_n 0, 1) := by decide +kernel
theorem dX11_lay_23 : decode cX11_lay 23 = .ok (.iload_n 1, 1) := by decide +kernel
theorem dX11_lay_24 : decode cX11_lay 24 = .ok (.invokevirtual 317, 3) := by decide +kernel
theorem dX11_lay_27 : decode cX11_lay 27 = .ok (.ifCond .ge 6, 3) := by decide +kernel
theorem dX11_lay_30 : decode cX11_lay 30 = .ok (.bipush (-11), 2) := by decide +kernel
theorem dX11_lay_32 : decode cX11_lay 32 = .ok (.ireturn, 1) := by decide +kernel
theorem dX11_lay_33 : decode cX11_lay 33 = .ok (.iload_n 2, 1) := by decide +kernel
theorem dX11_lay_34 : decode cX11_lay 34 = .ok (.i2l, 1) := by decide +kernel
theorem dX11_lay_35 : decode cX11_lay 35 = .ok (.lconst 0, 1) := by decide +kernel
theorem dX11_lay_36 : decode cX11_lay 36 = .ok (.aload_n 0, 1) := by decide +kernel
theorem dX11_lay_37 : decode cX11_lay 37 = .ok (.iload_n 1, 1) := by decide +kernel
theorem dX11_lay_38 : decode cX11_lay 38 = .ok (.invokevirtual 317, 3) := by decide +kernel
theorem dX11_lay_41 : decode cX11_lay 41 = .ok (.iconst 1, 1) := by decide +kernel
theorem dX11_lay_42 : decode cX11_lay 42 = .ok (.isub, 1) := by decide +kernel
theorem dX11_lay_43 : decode cX11_lay 43 = .ok (.i2l, 1) := by decide +kernel
theorem dX11_lay_44 : decode cX11_lay 44 = .ok (.invokestatic 86, 3) := by decide +kernel
theorem dX11_lay_47 : decode cX11_lay 47 = .ok (.ifCond .ne 6, 3) := by decide +kernel
theorem dX11_lay_50 : decode cX11_lay 50 = .ok (.bipush (-13), 2) := by decide +kernel
theorem dX11_lay_52 : decode cX11_lay 52 = .ok (.ireturn, 1) := by decide +kernel
theorem dX11_lay_53 : decode cX11_lay 53 = .ok (.aload_n 0, 1) := by decide +kernel
theorem dX11_lay_54 : decode cX11_lay 54 = .ok (.iload_n 1, 1) := by decide +kernel
theorem dX11_lay_55 : decode cX11_lay 55 = .ok (.iload_n 3, 1) := by decide +kernel
theorem dX11_lay_56 : decode cX11_lay 56 = .ok (.iconst 1, 1) := by decide +kernel
theorem dX11_lay_57 : decode cX11_lay 57 = .ok (.iadd, 1) := by decide +kernel
theorem dX11_lay_58 : decode cX11_lay 58 = .ok (.invokevirtual 320, 3) := by decide +kernel
theorem dX11_lay_61 : decode cX11_lay 61 = .ok (.ifCond .ne 6, 3) := by decide +kernel
theorem dX11_lay_64 : decode cX11_lay 64 = .ok (.bipush (-12), 2) := by decide +kernel
theorem dX11_lay_66 : decode cX11_lay 66 = .ok (.ireturn, 1) := by decide +kernel
theorem dX11_lay_67 : decode cX11_lay 67 = .ok (.aload_n 0, 1) := by decide +kernel
theorem dX11_lay_68 : decode cX11_lay 68 = .ok (.getfield 9, 3) := by decide +kernel
theorem dX11_lay_71 : decode cX11_lay 71 = .ok (.sipush 201, 3) := by decide +kernel
theorem dX11_lay_74 : decode cX11_lay 74 = .ok (.bipush 20, 2) := by decide +kernel
theorem dX11_lay_76 : decode cX11_lay 76 = .ok (.iload_n 1, 1) := by decide +kernel
theorem dX11_lay_77 : decode cX11_lay 77 = .ok (.imul, 1) := by decide +kernel
theorem dX11_lay_78 : decode cX11_lay 78 = .ok (.iadd, 1) := by decide +kernel
theorem dX11_lay_79 : decode cX11_lay 79 = .ok (.iload_n 2, 1) := by decide +kernel
theorem dX11_lay_80 : decode cX11_lay 80 = .ok (.iadd, 1) := by decide +kernel
theorem dX11_lay_81 : decode cX11_lay 81 = .ok (.iload_n 3, 1) := by decide +kernel
theorem dX11_lay_82 : decode cX11_lay 82 = .ok (.iconst 1, 1) := by decide +kernel
theorem dX11_lay_83 : decode cX11_lay 83 = .ok (.iadd, 1) := by decide +kernel
theorem dX11_lay_84 : decode cX11_lay 84 = .ok (.iastore, 1) := by decide +kernel
theorem dX11_lay_85 : decode cX11_lay 85 = .ok (.iconst 1, 1) := by decide +kernel
theorem dX11_lay_86 : decode cX11_lay 86 = .ok (.ireturn, 1) := by decide +kernel
set_option maxRecDepth 20000 in
theorem ggX11_at_X11_isTray : GoodIn wsX11_at wsX11_isTray := goodIn_r _ [5, 6, 7, 8, 4, 9] (by decide +kernel) (by decide +kernel)
set_option maxRecDepth 20000 in
theorem gX11_at_X11_isTray : GoodIn wsX11_at (va_wsS RX11 312 yX11_isTray wsX11_isTray) := goodIn_app (goodIn_of _ (by decide +kernel)) ggX11_at_X11_isTray
set_option maxRecDepth 20000 in
theorem ggX11_at_X11_sizeOf : GoodIn wsX11_at wsX11_sizeOf := goodIn_r _ [13, 1, 14, 15, 16, 17, 18, 19, 20, 21, 22, 23, 24, 25, 26, 27, 28, 29, 30, 31, 32, 33, 34, 35, 36, 37, 38, 39, 40, 41, 42, 43, 44, 45, 46] (by decide +kernel) (by decide +kernel)
set_option maxRecDepth 20000 in
theorem gX11_at_X11_sizeOf : GoodIn wsX11_at (wsV RX11 317 RX11 yX11_sizeOf wsX11_sizeOf) := goodIn_app (goodIn_of _ (by decide +kernel)) ggX11_at_X11_sizeOf
set_option maxRecDepth 20000 in
theorem ggX11_at_X11_in : GoodIn wsX11_at wsX11_in := goodIn_r _ [9] (by decide +kernel) (by decide +kernel)
set_option maxRecDepth 20000 in
theorem gX11_at_X11_in : GoodIn wsX11_at (va_wsS RX11 86 yX11_in wsX11_in) := goodIn_app (goodIn_of _ (by decide +kernel)) ggX11_at_X11_in
theorem dX11_at_0 : decode cX11_at 0 = .ok (.iload_n 1, 1) := by decide +kernel
theorem dX11_at_1 : decode cX11_at 1 = .ok (.invokestatic 312, 3) := by decide +kernel
theorem dX11_at_4 : decode cX11_at 4 = .ok (.ifCond .ne 5, 3) := by decide +kernel
theorem dX11_at_7 : decode cX11_at 7 = .ok (.iconst (-1), 1) := by decide +kernel
theorem dX11_at_8 : decode cX11_at 8 = .ok (.ireturn, 1) := by decide +kernel
theorem dX11_at_9 : decode cX11_at 9 = .ok (.aload_n 0, 1) := by decide +kernel
theorem dX11_at_10 : decode cX11_at 10 = .ok (.iload_n 1, 1) := by decide +kernel
theorem dX11_at_11 : decode cX11_at 11 = .ok (.invokevirtual 317, 3) := by decide +kernel
theorem dX11_at_14 : decode cX11_at 14 = .ok (.ifCond .ge 6, 3) := by decide +kernel
theorem dX11_at_17 : decode cX11_at 17 = .ok (.bipush (-11), 2) := by decide +kernel
theorem dX11_at_19 : decode cX11_at 19 = .ok (.ireturn, 1) := by decide +kernel
theorem dX11_at_20 : decode cX11_at 20 = .ok (.iload_n 2, 1) := by decide +kernel
theorem dX11_at_21 : decode cX11_at 21 = .ok (.i2l, 1) := by decide +kernel
theorem dX11_at_22 : decode cX11_at 22 = .ok (.lconst 0, 1) := by decide +kernel
theorem dX11_at_23 : decode cX11_at 23 = .ok (.aload_n 0, 1) := by decide +kernel
theorem dX11_at_24 : decode cX11_at 24 = .ok (.iload_n 1, 1) := by decide +kernel
theorem dX11_at_25 : decode cX11_at 25 = .ok (.invokevirtual 317, 3) := by decide +kernel
theorem dX11_at_28 : decode cX11_at 28 = .ok (.iconst 1, 1) := by decide +kernel
theorem dX11_at_29 : decode cX11_at 29 = .ok (.isub, 1) := by decide +kernel
theorem dX11_at_30 : decode cX11_at 30 = .ok (.i2l, 1) := by decide +kernel
theorem dX11_at_31 : decode cX11_at 31 = .ok (.invokestatic 86, 3) := by decide +kernel
theorem dX11_at_34 : decode cX11_at 34 = .ok (.ifCond .ne 6, 3) := by decide +kernel
theorem dX11_at_37 : decode cX11_at 37 = .ok (.bipush (-13), 2) := by decide +kernel
theorem dX11_at_39 : decode cX11_at 39 = .ok (.ireturn, 1) := by decide +kernel
theorem dX11_at_40 : decode cX11_at 40 = .ok (.aload_n 0, 1) := by decide +kernel
theorem dX11_at_41 : decode cX11_at 41 = .ok (.getfield 9, 3) := by decide +kernel
theorem dX11_at_44 : decode cX11_at 44 = .ok (.sipush 201, 3) := by decide +kernel
theorem dX11_at_47 : decode cX11_at 47 = .ok (.bipush 20, 2) := by decide +kernel
theorem dX11_at_49 : decode cX11_at 49 = .ok (.iload_n 1, 1) := by decide +kernel
theorem dX11_at_50 : decode cX11_at 50 = .ok (.imul, 1) := by decide +kernel
theorem dX11_at_51 : decode cX11_at 51 = .ok (.iadd, 1) := by decide +kernel
theorem dX11_at_52 : decode cX11_at 52 = .ok (.iload_n 2, 1) := by decide +kernel
theorem dX11_at_53 : decode cX11_at 53 = .ok (.iadd, 1) := by decide +kernel
theorem dX11_at_54 : decode cX11_at 54 = .ok (.iaload, 1) := by decide +kernel
theorem dX11_at_55 : decode cX11_at 55 = .ok (.istore_n 3, 1) := by decide +kernel
theorem dX11_at_56 : decode cX11_at 56 = .ok (.iload_n 3, 1) := by decide +kernel
theorem dX11_at_57 : decode cX11_at 57 = .ok (.ifCond .ne 8, 3) := by decide +kernel
theorem dX11_at_60 : decode cX11_at 60 = .ok (.bipush (-2), 2) := by decide +kernel
theorem dX11_at_62 : decode cX11_at 62 = .ok (.goto 6, 3) := by decide +kernel
theorem dX11_at_65 : decode cX11_at 65 = .ok (.iload_n 3, 1) := by decide +kernel
theorem dX11_at_66 : decode cX11_at 66 = .ok (.iconst 1, 1) := by decide +kernel
theorem dX11_at_67 : decode cX11_at 67 = .ok (.isub, 1) := by decide +kernel
theorem dX11_at_68 : decode cX11_at 68 = .ok (.ireturn, 1) := by decide +kernel
set_option maxRecDepth 20000 in
theorem ggX11_shift_X11_isTray : GoodIn wsX11_shift wsX11_isTray := goodIn_r _ [6, 7, 8, 9, 5, 10] (by decide +kernel) (by decide +kernel)
set_option maxRecDepth 20000 in
theorem gX11_shift_X11_isTray : GoodIn wsX11_shift (va_wsS RX11 312 yX11_isTray wsX11_isTray) := goodIn_app (goodIn_of _ (by decide +kernel)) ggX11_shift_X11_isTray
set_option maxRecDepth 20000 in
theorem ggX11_shift_X11_sizeOf : GoodIn wsX11_shift wsX11_sizeOf := goodIn_r _ [14, 2, 23, 24, 25, 26, 27, 28, 29, 30, 31, 32, 33, 34, 35, 36, 37, 38, 39, 40, 41, 42, 43, 44, 45, 46, 47, 48, 49, 50, 51, 52, 53, 54, 55] (by decide +kernel) (by decide +kernel)
set_option maxRecDepth 20000 in
theorem gX11_shift_X11_sizeOf : GoodIn wsX11_shift (wsV RX11 317 RX11 yX11_sizeOf wsX11_sizeOf) := goodIn_app (goodIn_of _ (by decide +kernel)) ggX11_shift_X11_sizeOf
set_option maxRecDepth 20000 in
theorem ggX11_shift_X11_mayLie : GoodIn wsX11_shift wsX11_mayLie := goodIn_r _ [18, 2, 19, 20, 21, 5, 22, 23, 24, 25, 26, 27, 28, 29, 30, 31, 32, 33, 34, 35, 36, 37, 38, 39, 40, 41, 42, 43, 44, 45, 46, 47, 48, 49, 50, 51, 52, 53, 54, 55] (by decide +kernel) (by decide +kernel)
set_option maxRecDepth 20000 in
theorem gX11_shift_X11_mayLie : GoodIn wsX11_shift (wsV RX11 320 RX11 yX11_mayLie wsX11_mayLie) := goodIn_app (goodIn_of _ (by decide +kernel)) ggX11_shift_X11_mayLie
theorem dX11_shift_0 : decode cX11_shift 0 = .ok (.iload_n 1, 1) := by decide +kernel
theorem dX11_shift_1 : decode cX11_shift 1 = .ok (.invokestatic 312, 3) := by decide +kernel
theorem dX11_shift_4 : decode cX11_shift 4 = .ok (.ifCond .eq 10, 3) := by decide +kernel
theorem dX11_shift_7 : decode cX11_shift 7 = .ok (.iload_n 3, 1) := by decide +kernel
theorem dX11_shift_8 : decode cX11_shift 8 = .ok (.invokestatic 312, 3) := by decide +kernel
theorem dX11_shift_11 : decode cX11_shift 11 = .ok (.ifCond .ne 5, 3) := by decide +kernel
theorem dX11_shift_14 : decode cX11_shift 14 = .ok (.iconst (-1), 1) := by decide +kernel
theorem dX11_shift_15 : decode cX11_shift 15 = .ok (.ireturn, 1) := by decide +kernel
theorem dX11_shift_16 : decode cX11_shift 16 = .ok (.aload_n 0, 1) := by decide +kernel
theorem dX11_shift_17 : decode cX11_shift 17 = .ok (.iload_n 1, 1) := by decide +kernel
theorem dX11_shift_18 : decode cX11_shift 18 = .ok (.invokevirtual 317, 3) := by decide +kernel
theorem dX11_shift_21 : decode cX11_shift 21 = .ok (.ifCond .lt 11, 3) := by decide +kernel
theorem dX11_shift_24 : decode cX11_shift 24 = .ok (.aload_n 0, 1) := by decide +kernel
theorem dX11_shift_25 : decode cX11_shift 25 = .ok (.iload_n 3, 1) := by decide +kernel
theorem dX11_shift_26 : decode cX11_shift 26 = .ok (.invokevirtual 317, 3) := by decide +kernel
theorem dX11_shift_29 : decode cX11_shift 29 = .ok (.ifCond .ge 6, 3) := by decide +kernel
theorem dX11_shift_32 : decode cX11_shift 32 = .ok (.bipush (-11), 2) := by decide +kernel
theorem dX11_shift_34 : decode cX11_shift 34 = .ok (.ireturn, 1) := by decide +kernel
theorem dX11_shift_35 : decode cX11_shift 35 = .ok (.iload 5, 2) := by decide +kernel
theorem dX11_shift_37 : decode cX11_shift 37 = .ok (.ifCond .lt 45, 3) := by decide +kernel
theorem dX11_shift_40 : decode cX11_shift 40 = .ok (.iload_n 2, 1) := by decide +kernel
theorem dX11_shift_41 : decode cX11_shift 41 = .ok (.ifCond .lt 41, 3) := by decide +kernel
theorem dX11_shift_44 : decode cX11_shift 44 = .ok (.iload 4, 2) := by decide +kernel
theorem dX11_shift_46 : decode cX11_shift 46 = .ok (.ifCond .lt 36, 3) := by decide +kernel
theorem dX11_shift_49 : decode cX11_shift 49 = .ok (.iload_n 2, 1) := by decide +kernel
theorem dX11_shift_50 : decode cX11_shift 50 = .ok (.i2l, 1) := by decide +kernel
theorem dX11_shift_51 : decode cX11_shift 51 = .ok (.iload 5, 2) := by decide +kernel
theorem dX11_shift_53 : decode cX11_shift 53 = .ok (.i2l, 1) := by decide +kernel
theorem dX11_shift_54 : decode cX11_shift 54 = .ok (.ladd, 1) := by decide +kernel
theorem dX11_shift_55 : decode cX11_shift 55 = .ok (.aload_n 0, 1) := by decide +kernel
theorem dX11_shift_56 : decode cX11_shift 56 = .ok (.iload_n 1, 1) := by decide +kernel
theorem dX11_shift_57 : decode cX11_shift 57 = .ok (.invokevirtual 317, 3) := by decide +kernel
theorem dX11_shift_60 : decode cX11_shift 60 = .ok (.i2l, 1) := by decide +kernel
