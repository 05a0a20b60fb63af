theorem dX0_init_0 : decode cX0_init 0 = .ok (.aload_n 0, 1) := by decide +kernel
theorem dX0_init_1 : decode cX0_init 1 = .ok (.invokespecial 3, 3) := by decide +kernel
theorem dX0_init_4 : decode cX0_init 4 = .ok (.aload_n 0, 1) := by decide +kernel
theorem dX0_init_5 : decode cX0_init 5 = .ok (.iconst 4, 1) := by decide +kernel
theorem dX0_init_6 : decode cX0_init 6 = .ok (.newarray .int, 2) := by decide +kernel
theorem dX0_init_8 : decode cX0_init 8 = .ok (.putfield 9, 3) := by decide +kernel
theorem dX0_init_11 : decode cX0_init 11 = .ok (.aload_n 0, 1) := by decide +kernel
theorem dX0_init_12 : decode cX0_init 12 = .ok (.iconst 4, 1) := by decide +kernel
theorem dX0_init_13 : decode cX0_init 13 = .ok (.newarray .int, 2) := by decide +kernel
theorem dX0_init_15 : decode cX0_init 15 = .ok (.putfield 15, 3) := by decide +kernel
theorem dX0_init_18 : decode cX0_init 18 = .ok (.return_, 1) := by decide +kernel
set_option maxRecDepth 20000 in
theorem ggX0_has_X10_isSort : GoodIn wsX0_has wsX10_isSort := goodIn_r _ [4] (by decide +kernel) (by decide +kernel)
set_option maxRecDepth 20000 in
theorem gX0_has_X10_isSort_n18 : GoodIn wsX0_has (wsX10_isSort) := ggX0_has_X10_isSort
theorem dX0_has_0 : decode cX0_has 0 = .ok (.iload_n 1, 1) := by decide +kernel
theorem dX0_has_1 : decode cX0_has 1 = .ok (.invokestatic 18, 3) := by decide +kernel
theorem dX0_has_4 : decode cX0_has 4 = .ok (.ifCond .eq 16, 3) := by decide +kernel
theorem dX0_has_7 : decode cX0_has 7 = .ok (.aload_n 0, 1) := by decide +kernel
theorem dX0_has_8 : decode cX0_has 8 = .ok (.getfield 9, 3) := by decide +kernel
theorem dX0_has_11 : decode cX0_has 11 = .ok (.iload_n 1, 1) := by decide +kernel
theorem dX0_has_12 : decode cX0_has 12 = .ok (.iaload, 1) := by decide +kernel
theorem dX0_has_13 : decode cX0_has 13 = .ok (.ifCond .eq 7, 3) := by decide +kernel
theorem dX0_has_16 : decode cX0_has 16 = .ok (.iconst 1, 1) := by decide +kernel
theorem dX0_has_17 : decode cX0_has 17 = .ok (.goto 4, 3) := by decide +kernel
theorem dX0_has_20 : decode cX0_has 20 = .ok (.iconst 0, 1) := by decide +kernel
theorem dX0_has_21 : decode cX0_has 21 = .ok (.ireturn, 1) := by decide +kernel
theorem dX0_sortsThere_0 : decode cX0_sortsThere 0 = .ok (.iconst 0, 1) := by decide +kernel
theorem dX0_sortsThere_1 : decode cX0_sortsThere 1 = .ok (.istore_n 1, 1) := by decide +kernel
theorem dX0_sortsThere_2 : decode cX0_sortsThere 2 = .ok (.iconst 0, 1) := by decide +kernel
theorem dX0_sortsThere_3 : decode cX0_sortsThere 3 = .ok (.istore_n 2, 1) := by decide +kernel
theorem dX0_sortsThere_4 : decode cX0_sortsThere 4 = .ok (.iload_n 2, 1) := by decide +kernel
theorem dX0_sortsThere_5 : decode cX0_sortsThere 5 = .ok (.iconst 4, 1) := by decide +kernel
theorem dX0_sortsThere_6 : decode cX0_sortsThere 6 = .ok (.if_icmp .ge 21, 3) := by decide +kernel
theorem dX0_sortsThere_9 : decode cX0_sortsThere 9 = .ok (.aload_n 0, 1) := by decide +kernel
theorem dX0_sortsThere_10 : decode cX0_sortsThere 10 = .ok (.getfield 9, 3) := by decide +kernel
theorem dX0_sortsThere_13 : decode cX0_sortsThere 13 = .ok (.iload_n 2, 1) := by decide +kernel
theorem dX0_sortsThere_14 : decode cX0_sortsThere 14 = .ok (.iaload, 1) := by decide +kernel
theorem dX0_sortsThere_15 : decode cX0_sortsThere 15 = .ok (.ifCond .eq 6, 3) := by decide +kernel
theorem dX0_sortsThere_18 : decode cX0_sortsThere 18 = .ok (.iinc 1 1, 3) := by decide +kernel
theorem dX0_sortsThere_21 : decode cX0_sortsThere 21 = .ok (.iinc 2 1, 3) := by decide +kernel
theorem dX0_sortsThere_24 : decode cX0_sortsThere 24 = .ok (.goto (-20), 3) := by decide +kernel
theorem dX0_sortsThere_27 : decode cX0_sortsThere 27 = .ok (.iload_n 1, 1) := by decide +kernel
theorem dX0_sortsThere_28 : decode cX0_sortsThere 28 = .ok (.ireturn, 1) := by decide +kernel
theorem dX0_copy_0 : decode cX0_copy 0 = .ok (.aload_n 1, 1) := by decide +kernel
theorem dX0_copy_1 : decode cX0_copy 1 = .ok (.getfield 9, 3) := by decide +kernel
theorem dX0_copy_4 : decode cX0_copy 4 = .ok (.iconst 0, 1) := by decide +kernel
theorem dX0_copy_5 : decode cX0_copy 5 = .ok (.aload_n 0, 1) := by decide +kernel
theorem dX0_copy_6 : decode cX0_copy 6 = .ok (.getfield 9, 3) := by decide +kernel
theorem dX0_copy_9 : decode cX0_copy 9 = .ok (.iconst 0, 1) := by decide +kernel
theorem dX0_copy_10 : decode cX0_copy 10 = .ok (.iconst 4, 1) := by decide +kernel
theorem dX0_copy_11 : decode cX0_copy 11 = .ok (.invokestatic 22, 3) := by decide +kernel
theorem dX0_copy_14 : decode cX0_copy 14 = .ok (.aload_n 1, 1) := by decide +kernel
theorem dX0_copy_15 : decode cX0_copy 15 = .ok (.getfield 15, 3) := by decide +kernel
theorem dX0_copy_18 : decode cX0_copy 18 = .ok (.iconst 0, 1) := by decide +kernel
theorem dX0_copy_19 : decode cX0_copy 19 = .ok (.aload_n 0, 1) := by decide +kernel
theorem dX0_copy_20 : decode cX0_copy 20 = .ok (.getfield 15, 3) := by decide +kernel
theorem dX0_copy_23 : decode cX0_copy 23 = .ok (.iconst 0, 1) := by decide +kernel
theorem dX0_copy_24 : decode cX0_copy 24 = .ok (.iconst 4, 1) := by decide +kernel
theorem dX0_copy_25 : decode cX0_copy 25 = .ok (.invokestatic 22, 3) := by decide +kernel
theorem dX0_copy_28 : decode cX0_copy 28 = .ok (.return_, 1) := by decide +kernel
theorem dX1_init_0 : decode cX1_init 0 = .ok (.aload_n 0, 1) := by decide +kernel
theorem dX1_init_1 : decode cX1_init 1 = .ok (.invokespecial 3, 3) := by decide +kernel
theorem dX1_init_4 : decode cX1_init 4 = .ok (.aload_n 0, 1) := by decide +kernel
theorem dX1_init_5 : decode cX1_init 5 = .ok (.lconst 1, 1) := by decide +kernel
theorem dX1_init_6 : decode cX1_init 6 = .ok (.putfield 9, 3) := by decide +kernel
theorem dX1_init_9 : decode cX1_init 9 = .ok (.return_, 1) := by decide +kernel
set_option maxRecDepth 20000 in
theorem ggX1_become_X10_greatestDivisor : GoodIn wsX1_become wsX10_greatestDivisor := goodIn_r _ [5] (by decide +kernel) (by decide +kernel)
set_option maxRecDepth 20000 in
theorem gX1_become_X10_greatestDivisor_n15 : GoodIn wsX1_become (wsX10_greatestDivisor) := ggX1_become_X10_greatestDivisor
theorem dX1_become_0 : decode cX1_become 0 = .ok (.lload_n 1, 1) := by decide +kernel
theorem dX1_become_1 : decode cX1_become 1 = .ok (.lload_n 3, 1) := by decide +kernel
theorem dX1_become_2 : decode cX1_become 2 = .ok (.invokestatic 15, 3) := by decide +kernel
theorem dX1_become_5 : decode cX1_become 5 = .ok (.lstore 5, 2) := by decide +kernel
theorem dX1_become_7 : decode cX1_become 7 = .ok (.lload 5, 2) := by decide +kernel
theorem dX1_become_9 : decode cX1_become 9 = .ok (.lconst 0, 1) := by decide +kernel
theorem dX1_become_10 : decode cX1_become 10 = .ok (.lcmp, 1) := by decide +kernel
theorem dX1_become_11 : decode cX1_become 11 = .ok (.ifCond .ne 6, 3) := by decide +kernel
theorem dX1_become_14 : decode cX1_become 14 = .ok (.lconst 1, 1) := by decide +kernel
theorem dX1_become_15 : decode cX1_become 15 = .ok (.lstore 5, 2) := by decide +kernel
theorem dX1_become_17 : decode cX1_become 17 = .ok (.aload_n 0, 1) := by decide +kernel
theorem dX1_become_18 : decode cX1_become 18 = .ok (.lload_n 1, 1) := by decide +kernel
theorem dX1_become_19 : decode cX1_become 19 = .ok (.lload 5, 2) := by decide +kernel
theorem dX1_become_21 : decode cX1_become 21 = .ok (.ldiv, 1) := by decide +kernel
theorem dX1_become_22 : decode cX1_become 22 = .ok (.putfield 19, 3) := by decide +kernel
theorem dX1_become_25 : decode cX1_become 25 = .ok (.aload_n 0, 1) := by decide +kernel
theorem dX1_become_26 : decode cX1_become 26 = .ok (.lload_n 3, 1) := by decide +kernel
theorem dX1_become_27 : decode cX1_become 27 = .ok (.lload 5, 2) := by decide +kernel
theorem dX1_become_29 : decode cX1_become 29 = .ok (.ldiv, 1) := by decide +kernel
theorem dX1_become_30 : decode cX1_become 30 = .ok (.putfield 9, 3) := by decide +kernel
theorem dX1_become_33 : decode cX1_become 33 = .ok (.return_, 1) := by decide +kernel
theorem dX1_copy_0 : decode cX1_copy 0 = .ok (.aload_n 0, 1) := by decide +kernel
theorem dX1_copy_1 : decode cX1_copy 1 = .ok (.aload_n 1, 1) := by decide +kernel
theorem dX1_copy_2 : decode cX1_copy 2 = .ok (.getfield 19, 3) := by decide +kernel
theorem dX1_copy_5 : decode cX1_copy 5 = .ok (.putfield 19, 3) := by decide +kernel
theorem dX1_copy_8 : decode cX1_copy 8 = .ok (.aload_n 0, 1) := by decide +kernel
theorem dX1_copy_9 : decode cX1_copy 9 = .ok (.aload_n 1, 1) := by decide +kernel
theorem dX1_copy_10 : decode cX1_copy 10 = .ok (.getfield 9, 3) := by decide +kernel
theorem dX1_copy_13 : decode cX1_copy 13 = .ok (.putfield 9, 3) := by decide +kernel
theorem dX1_copy_16 : decode cX1_copy 16 = .ok (.return_, 1) := by decide +kernel
theorem dX1_side_0 : decode cX1_side 0 = .ok (.iload_n 1, 1) := by decide +kernel
theorem dX1_side_1 : decode cX1_side 1 = .ok (.ifCond .ne 10, 3) := by decide +kernel
theorem dX1_side_4 : decode cX1_side 4 = .ok (.aload_n 0, 1) := by decide +kernel
theorem dX1_side_5 : decode cX1_side 5 = .ok (.getfield 19, 3) := by decide +kernel
theorem dX1_side_8 : decode cX1_side 8 = .ok (.goto 7, 3) := by decide +kernel
theorem dX1_side_11 : decode cX1_side 11 = .ok (.aload_n 0, 1) := by decide +kernel
theorem dX1_side_12 : decode cX1_side 12 = .ok (.getfield 9, 3) := by decide +kernel
theorem dX1_side_15 : decode cX1_side 15 = .ok (.lreturn, 1) := by decide +kernel
theorem dX1_isLong_0 : decode cX1_isLong 0 = .ok (.aload_n 0, 1) := by decide +kernel
theorem dX1_isLong_1 : decode cX1_isLong 1 = .ok (.getfield 19, 3) := by decide +kernel
theorem dX1_isLong_4 : decode cX1_isLong 4 = .ok (.ldc2_w 22, 3) := by decide +kernel
theorem dX1_isLong_7 : decode cX1_isLong 7 = .ok (.lcmp, 1) := by decide +kernel
theorem dX1_isLong_8 : decode cX1_isLong 8 = .ok (.ifCond .gt 14, 3) := by decide +kernel
theorem dX1_isLong_11 : decode cX1_isLong 11 = .ok (.aload_n 0, 1) := by decide +kernel
theorem dX1_isLong_12 : decode cX1_isLong 12 = .ok (.getfield 9, 3) := by decide +kernel
theorem dX1_isLong_15 : decode cX1_isLong 15 = .ok (.ldc2_w 22, 3) := by decide +kernel
theorem dX1_isLong_18 : decode cX1_isLong 18 = .ok (.lcmp, 1) := by decide +kernel
theorem dX1_isLong_19 : decode cX1_isLong 19 = .ok (.ifCond .le 7, 3) := by decide +kernel
theorem dX1_isLong_22 : decode cX1_isLong 22 = .ok (.iconst 1, 1) := by decide +kernel
theorem dX1_isLong_23 : decode cX1_isLong 23 = .ok (.goto 4, 3) := by decide +kernel
theorem dX1_isLong_26 : decode cX1_isLong 26 = .ok (.iconst 0, 1) := by decide +kernel
theorem dX1_isLong_27 : decode cX1_isLong 27 = .ok (.ireturn, 1) := by decide +kernel
set_option maxRecDepth 20000 in
theorem ggX1_addInSeries_X1_become : GoodIn wsX1_addInSeries wsX1_become := goodIn_r _ [7, 2, 1, 8, 9, 10, 11, 12] (by decide +kernel) (by decide +kernel)
set_option maxRecDepth 20000 in
theorem gX1_addInSeries_X1_become : GoodIn wsX1_addInSeries (wsV RX1 24 RX1 yX1_become wsX1_become) := goodIn_app (goodIn_of _ (by decide +kernel)) ggX1_addInSeries_X1_become
theorem dX1_addInSeries_0 : decode cX1_addInSeries 0 = .ok (.aload_n 0, 1) := by decide +kernel
theorem dX1_addInSeries_1 : decode cX1_addInSeries 1 = .ok (.getfield 9, 3) := by decide +kernel
theorem dX1_addInSeries_4 : decode cX1_addInSeries 4 = .ok (.lconst 0, 1) := by decide +kernel
theorem dX1_addInSeries_5 : decode cX1_addInSeries 5 = .ok (.lcmp, 1) := by decide +kernel
theorem dX1_addInSeries_6 : decode cX1_addInSeries 6 = .ok (.ifCond .eq 12, 3) := by decide +kernel
theorem dX1_addInSeries_9 : decode cX1_addInSeries 9 = .ok (.aload_n 1, 1) := by decide +kernel
theorem dX1_addInSeries_10 : decode cX1_addInSeries 10 = .ok (.getfield 9, 3) := by decide +kernel
theorem dX1_addInSeries_13 : decode cX1_addInSeries 13 = .ok (.lconst 0, 1) := by decide +kernel
theorem dX1_addInSeries_14 : decode cX1_addInSeries 14 = .ok (.lcmp, 1) := by decide +kernel
theorem dX1_addInSeries_15 : decode cX1_addInSeries 15 = .ok (.ifCond .ne 12, 3) := by decide +kernel
theorem dX1_addInSeries_18 : decode cX1_addInSeries 18 = .ok (.aload_n 0, 1) := by decide +kernel
theorem dX1_addInSeries_19 : decode cX1_addInSeries 19 = .ok (.lconst 1, 1) := by decide +kernel
theorem dX1_addInSeries_20 : decode cX1_addInSeries 20 = .ok (.lconst 0, 1) := by decide +kernel
theorem dX1_addInSeries_21 : decode cX1_addInSeries 21 = .ok (.invokevirtual 24, 3) := by decide +kernel
theorem dX1_addInSeries_24 : decode cX1_addInSeries 24 = .ok (.goto 35, 3) := by decide +kernel
theorem dX1_addInSeries_27 : decode cX1_addInSeries 27 = .ok (.aload_n 0, 1) := by decide +kernel
theorem dX1_addInSeries_28 : decode cX1_addInSeries 28 = .ok (.aload_n 0, 1) := by decide +kernel
theorem dX1_addInSeries_29 : decode cX1_addInSeries 29 = .ok (.getfield 19, 3) := by decide +kernel
theorem dX1_addInSeries_32 : decode cX1_addInSeries 32 = .ok (.aload_n 1, 1) := by decide +kernel
theorem dX1_addInSeries_33 : decode cX1_addInSeries 33 = .ok (.getfield 9, 3) := by decide +kernel
theorem dX1_addInSeries_36 : decode cX1_addInSeries 36 = .ok (.lmul, 1) := by decide +kernel
theorem dX1_addInSeries_37 : decode cX1_addInSeries 37 = .ok (.aload_n 1, 1) := by decide +kernel
theorem dX1_addInSeries_38 : decode cX1_addInSeries 38 = .ok (.getfield 19, 3) := by decide +kernel
theorem dX1_addInSeries_41 : decode cX1_addInSeries 41 = .ok (.aload_n 0, 1) := by decide +kernel
theorem dX1_addInSeries_42 : decode cX1_addInSeries 42 = .ok (.getfield 9, 3) := by decide +kernel
theorem dX1_addInSeries_45 : decode cX1_addInSeries 45 = .ok (.lmul, 1) := by decide +kernel
theorem dX1_addInSeries_46 : decode cX1_addInSeries 46 = .ok (.ladd, 1) := by decide +kernel
theorem dX1_addInSeries_47 : decode cX1_addInSeries 47 = .ok (.aload_n 0, 1) := by decide +kernel
theorem dX1_addInSeries_48 : decode cX1_addInSeries 48 = .ok (.getfield 9, 3) := by decide +kernel
theorem dX1_addInSeries_51 : decode cX1_addInSeries 51 = .ok (.aload_n 1, 1) := by decide +kernel
theorem dX1_addInSeries_52 : decode cX1_addInSeries 52 = .ok (.getfield 9, 3) := by decide +kernel
theorem dX1_addInSeries_55 : decode cX1_addInSeries 55 = .ok (.lmul, 1) := by decide +kernel
theorem dX1_addInSeries_56 : decode cX1_addInSeries 56 = .ok (.invokevirtual 24, 3) := by decide +kernel
theorem dX1_addInSeries_59 : decode cX1_addInSeries 59 = .ok (.return_, 1) := by decide +kernel
set_option maxRecDepth 20000 in
theorem ggX1_addBeside_X1_become : GoodIn wsX1_addBeside wsX1_become := goodIn_r _ [7, 1, 2, 8, 9, 10, 15, 16] (by decide +kernel) (by decide +kernel)
set_option maxRecDepth 20000 in
theorem gX1_addBeside_X1_become : GoodIn wsX1_addBeside (wsV RX1 24 RX1 yX1_become wsX1_become) := goodIn_app (goodIn_of _ (by decide +kernel)) ggX1_addBeside_X1_become
set_option maxRecDepth 20000 in
theorem ggX1_addBeside_X1_copy : GoodIn wsX1_addBeside wsX1_copy := goodIn_r _ [14, 1, 2, 15, 16] (by decide +kernel) (by decide +kernel)
set_option maxRecDepth 20000 in
theorem gX1_addBeside_X1_copy : GoodIn wsX1_addBeside (wsV RX1 28 RX1 yX1_copy wsX1_copy) := goodIn_app (goodIn_of _ (by decide +kernel)) ggX1_addBeside_X1_copy
theorem dX1_addBeside_0 : decode cX1_addBeside 0 = .ok (.aload_n 0, 1) := by decide +kernel
theorem dX1_addBeside_1 : decode cX1_addBeside 1 = .ok (.getfield 19, 3) := by decide +kernel
theorem dX1_addBeside_4 : decode cX1_addBeside 4 = .ok (.lconst 0, 1) := by decide +kernel
theorem dX1_addBeside_5 : decode cX1_addBeside 5 = .ok (.lcmp, 1) := by decide +kernel
theorem dX1_addBeside_6 : decode cX1_addBeside 6 = .ok (.ifCond .eq 12, 3) := by decide +kernel
theorem dX1_addBeside_9 : decode cX1_addBeside 9 = .ok (.aload_n 1, 1) := by decide +kernel
theorem dX1_addBeside_10 : decode cX1_addBeside 10 = .ok (.getfield 19, 3) := by decide +kernel
theorem dX1_addBeside_13 : decode cX1_addBeside 13 = .ok (.lconst 0, 1) := by decide +kernel
theorem dX1_addBeside_14 : decode cX1_addBeside 14 = .ok (.lcmp, 1) := by decide +kernel
theorem dX1_addBeside_15 : decode cX1_addBeside 15 = .ok (.ifCond .ne 12, 3) := by decide +kernel
theorem dX1_addBeside_18 : decode cX1_addBeside 18 = .ok (.aload_n 0, 1) := by decide +kernel
theorem dX1_addBeside_19 : decode cX1_addBeside 19 = .ok (.lconst 0, 1) := by decide +kernel
theorem dX1_addBeside_20 : decode cX1_addBeside 20 = .ok (.lconst 1, 1) := by decide +kernel
theorem dX1_addBeside_21 : decode cX1_addBeside 21 = .ok (.invokevirtual 24, 3) := by decide +kernel
theorem dX1_addBeside_24 : decode cX1_addBeside 24 = .ok (.goto 61, 3) := by decide +kernel
theorem dX1_addBeside_27 : decode cX1_addBeside 27 = .ok (.aload_n 0, 1) := by decide +kernel
theorem dX1_addBeside_28 : decode cX1_addBeside 28 = .ok (.getfield 9, 3) := by decide +kernel
theorem dX1_addBeside_31 : decode cX1_addBeside 31 = .ok (.lconst 0, 1) := by decide +kernel
theorem dX1_addBeside_32 : decode cX1_addBeside 32 = .ok (.lcmp, 1) := by decide +kernel
theorem dX1_addBeside_33 : decode cX1_addBeside 33 = .ok (.ifCond .ne 11, 3) := by decide +kernel
theorem dX1_addBeside_36 : decode cX1_addBeside 36 = .ok (.aload_n 0, 1) := by decide +kernel
theorem dX1_addBeside_37 : decode cX1_addBeside 37 = .ok (.aload_n 1, 1) := by decide +kernel
theorem dX1_addBeside_38 : decode cX1_addBeside 38 = .ok (.invokevirtual 28, 3) := by decide +kernel
theorem dX1_addBeside_41 : decode cX1_addBeside 41 = .ok (.goto 44, 3) := by decide +kernel
theorem dX1_addBeside_44 : decode cX1_addBeside 44 = .ok (.aload_n 1, 1) := by decide +kernel
theorem dX1_addBeside_45 : decode cX1_addBeside 45 = .ok (.getfield 9, 3) := by decide +kernel
theorem dX1_addBeside_48 : decode cX1_addBeside 48 = .ok (.lconst 0, 1) := by decide +kernel
theorem dX1_addBeside_49 : decode cX1_addBeside 49 = .ok (.lcmp, 1) := by decide +kernel
theorem dX1_addBeside_50 : decode cX1_addBeside 50 = .ok (.ifCond .eq 35, 3) := by decide +kernel
theorem dX1_addBeside_53 : decode cX1_addBeside 53 = .ok (.aload_n 0, 1) := by decide +kernel
theorem dX1_addBeside_54 : decode cX1_addBeside 54 = .ok (.aload_n 0, 1) := by decide +kernel
theorem dX1_addBeside_55 : decode cX1_addBeside 55 = .ok (.getfield 19, 3) := by decide +kernel
theorem dX1_addBeside_58 : decode cX1_addBeside 58 = .ok (.aload_n 1, 1) := by decide +kernel
theorem dX1_addBeside_59 : decode cX1_addBeside 59 = .ok (.getfield 19, 3) := by decide +kernel
theorem dX1_addBeside_62 : decode cX1_addBeside 62 = .ok (.lmul, 1) := by decide +kernel
theorem dX1_addBeside_63 : decode cX1_addBeside 63 = .ok (.aload_n 0, 1) := by decide +kernel
theorem dX1_addBeside_64 : decode cX1_addBeside 64 = .ok (.getfield 19, 3) := by decide +kernel
theorem dX1_addBeside_67 : decode cX1_addBeside 67 = .ok (.aload_n 1, 1) := by decide +kernel
theorem dX1_addBeside_68 : decode cX1_addBeside 68 = .ok (.getfield 9, 3) := by decide +kernel
theorem dX1_addBeside_71 : decode cX1_addBeside 71 = .ok (.lmul, 1) := by decide +kernel
theorem dX1_addBeside_72 : decode cX1_addBeside 72 = .ok (.aload_n 1, 1) := by decide +kernel
theorem dX1_addBeside_73 : decode cX1_addBeside 73 = .ok (.getfield 19, 3) := by decide +kernel
theorem dX1_addBeside_76 : decode cX1_addBeside 76 = .ok (.aload_n 0, 1) := by decide +kernel
theorem dX1_addBeside_77 : decode cX1_addBeside 77 = .ok (.getfield 9, 3) := by decide +kernel
theorem dX1_addBeside_80 : decode cX1_addBeside 80 = .ok (.lmul, 1) := by decide +kernel
theorem dX1_addBeside_81 : decode cX1_addBeside 81 = .ok (.ladd, 1) := by decide +kernel
theorem dX1_addBeside_82 : decode cX1_addBeside 82 = .ok (.invokevirtual 24, 3) := by decide +kernel
theorem dX1_addBeside_85 : decode cX1_addBeside 85 = .ok (.return_, 1) := by decide +kernel
theorem dX1_against_0 : decode cX1_against 0 = .ok (.aload_n 0, 1) := by decide +kernel
theorem dX1_against_1 : decode cX1_against 1 = .ok (.getfield 9, 3) := by decide +kernel
theorem dX1_against_4 : decode cX1_against 4 = .ok (.lconst 0, 1) := by decide +kernel
theorem dX1_against_5 : decode cX1_against 5 = .ok (.lcmp, 1) := by decide +kernel
theorem dX1_against_6 : decode cX1_against 6 = .ok (.ifCond .eq 12, 3) := by decide +kernel
theorem dX1_against_9 : decode cX1_against 9 = .ok (.aload_n 1, 1) := by decide +kernel
theorem dX1_against_10 : decode cX1_against 10 = .ok (.getfield 9, 3) := by decide +kernel
theorem dX1_against_13 : decode cX1_against 13 = .ok (.lconst 0, 1) := by decide +kernel
theorem dX1_against_14 : decode cX1_against 14 = .ok (.lcmp, 1) := by decide +kernel
theorem dX1_against_15 : decode cX1_against 15 = .ok (.ifCond .ne 33, 3) := by decide +kernel
theorem dX1_against_18 : decode cX1_against 18 = .ok (.aload_n 0, 1) := by decide +kernel
theorem dX1_against_19 : decode cX1_against 19 = .ok (.getfield 9, 3) := by decide +kernel
theorem dX1_against_22 : decode cX1_against 22 = .ok (.lconst 0, 1) := by decide +kernel
theorem dX1_against_23 : decode cX1_against 23 = .ok (.lcmp, 1) := by decide +kernel
theorem dX1_against_24 : decode cX1_against 24 = .ok (.ifCond .ne 7, 3) := by decide +kernel
theorem dX1_against_27 : decode cX1_against 27 = .ok (.iconst 1, 1) := by decide +kernel
theorem dX1_against_28 : decode cX1_against 28 = .ok (.goto 4, 3) := by decide +kernel
theorem dX1_against_31 : decode cX1_against 31 = .ok (.iconst 0, 1) := by decide +kernel
theorem dX1_against_32 : decode cX1_against 32 = .ok (.aload_n 1, 1) := by decide +kernel
theorem dX1_against_33 : decode cX1_against 33 = .ok (.getfield 9, 3) := by decide +kernel
theorem dX1_against_36 : decode cX1_against 36 = .ok (.lconst 0, 1) := by decide +kernel
theorem dX1_against_37 : decode cX1_against 37 = .ok (.lcmp, 1) := by decide +kernel
theorem dX1_against_38 : decode cX1_against 38 = .ok (.ifCond .ne 7, 3) := by decide +kernel
theorem dX1_against_41 : decode cX1_against 41 = .ok (.iconst 1, 1) := by decide +kernel
theorem dX1_against_42 : decode cX1_against 42 = .ok (.goto 4, 3) := by decide +kernel
theorem dX1_against_45 : decode cX1_against 45 = .ok (.iconst 0, 1) := by decide +kernel
theorem dX1_against_46 : decode cX1_against 46 = .ok (.isub, 1) := by decide +kernel
theorem dX1_against_47 : decode cX1_against 47 = .ok (.ireturn, 1) := by decide +kernel
theorem dX1_against_48 : decode cX1_against 48 = .ok (.aload_n 0, 1) := by decide +kernel
theorem dX1_against_49 : decode cX1_against 49 = .ok (.getfield 19, 3) := by decide +kernel
theorem dX1_against_52 : decode cX1_against 52 = .ok (.lstore_n 2, 1) := by decide +kernel
theorem dX1_against_53 : decode cX1_against 53 = .ok (.aload_n 0, 1) := by decide +kernel
theorem dX1_against_54 : decode cX1_against 54 = .ok (.getfield 9, 3) := by decide +kernel
theorem dX1_against_57 : decode cX1_against 57 = .ok (.lstore 4, 2) := by decide +kernel
theorem dX1_against_59 : decode cX1_against 59 = .ok (.aload_n 1, 1) := by decide +kernel
theorem dX1_against_60 : decode cX1_against 60 = .ok (.getfield 19, 3) := by decide +kernel
theorem dX1_against_63 : decode cX1_against 63 = .ok (.lstore 6, 2) := by decide +kernel
theorem dX1_against_65 : decode cX1_against 65 = .ok (.aload_n 1, 1) := by decide +kernel
theorem dX1_against_66 : decode cX1_against 66 = .ok (.getfield 9, 3) := by decide +kernel
theorem dX1_against_69 : decode cX1_against 69 = .ok (.lstore 8, 2) := by decide +kernel
theorem dX1_against_71 : decode cX1_against 71 = .ok (.iconst 1, 1) := by decide +kernel
theorem dX1_against_72 : decode cX1_against 72 = .ok (.istore 10, 2) := by decide +kernel
theorem dX1_against_74 : decode cX1_against 74 = .ok (.iconst 0, 1) := by decide +kernel
theorem dX1_against_75 : decode cX1_against 75 = .ok (.istore 11, 2) := by decide +kernel
theorem dX1_against_77 : decode cX1_against 77 = .ok (.iload 11, 2) := by decide +kernel
theorem dX1_against_79 : decode cX1_against 79 = .ok (.sipush 200, 3) := by decide +kernel
theorem dX1_against_82 : decode cX1_against 82 = .ok (.if_icmp .ge 94, 3) := by decide +kernel
theorem dX1_against_85 : decode cX1_against 85 = .ok (.lload 4, 2) := by decide +kernel
theorem dX1_against_87 : decode cX1_against 87 = .ok (.lconst 0, 1) := by decide +kernel
theorem dX1_against_88 : decode cX1_against 88 = .ok (.lcmp, 1) := by decide +kernel
theorem dX1_against_89 : decode cX1_against 89 = .ok (.ifCond .eq 87, 3) := by decide +kernel
theorem dX1_against_92 : decode cX1_against 92 = .ok (.lload 8, 2) := by decide +kernel
theorem dX1_against_94 : decode cX1_against 94 = .ok (.lconst 0, 1) := by decide +kernel
theorem dX1_against_95 : decode cX1_against 95 = .ok (.lcmp, 1) := by decide +kernel
theorem dX1_against_96 : decode cX1_against 96 = .ok (.ifCond .eq 80, 3) := by decide +kernel
theorem dX1_against_99 : decode cX1_against 99 = .ok (.lload_n 2, 1) := by decide +kernel
theorem dX1_against_100 : decode cX1_against 100 = .ok (.lload 4, 2) := by decide +kernel
theorem dX1_against_102 : decode cX1_against 102 = .ok (.ldiv, 1) := by decide +kernel
theorem dX1_against_103 : decode cX1_against 103 = .ok (.lstore 12, 2) := by decide +kernel
theorem dX1_against_105 : decode cX1_against 105 = .ok (.lload 6, 2) := by decide +kernel
theorem dX1_against_107 : decode cX1_against 107 = .ok (.lload 8, 2) := by decide +kernel
theorem dX1_against_109 : decode cX1_against 109 = .ok (.ldiv, 1) := by decide +kernel
theorem dX1_against_110 : decode cX1_against 110 = .ok (.lstore 14, 2) := by decide +kernel
theorem dX1_against_112 : decode cX1_against 112 = .ok (.lload 12, 2) := by decide +kernel
theorem dX1_against_114 : decode cX1_against 114 = .ok (.lload 14, 2) := by decide +kernel
theorem dX1_against_116 : decode cX1_against 116 = .ok (.lcmp, 1) := by decide +kernel
theorem dX1_against_117 : decode cX1_against 117 = .ok (.ifCond .eq 20, 3) := by decide +kernel
theorem dX1_against_120 : decode cX1_against 120 = .ok (.lload 12, 2) := by decide +kernel
theorem dX1_against_122 : decode cX1_against 122 = .ok (.lload 14, 2) := by decide +kernel
theorem dX1_against_124 : decode cX1_against 124 = .ok (.lcmp, 1) := by decide +kernel
theorem dX1_against_125 : decode cX1_against 125 = .ok (.ifCond .ge 9, 3) := by decide +kernel
theorem dX1_against_128 : decode cX1_against 128 = .ok (.iload 10, 2) := by decide +kernel
theorem dX1_against_130 : decode cX1_against 130 = .ok (.ineg, 1) := by decide +kernel
theorem dX1_against_131 : decode cX1_against 131 = .ok (.goto 5, 3) := by decide +kernel
theorem dX1_against_134 : decode cX1_against 134 = .ok (.iload 10, 2) := by decide +kernel
theorem dX1_against_136 : decode cX1_against 136 = .ok (.ireturn, 1) := by decide +kernel
theorem dX1_against_137 : decode cX1_against 137 = .ok (.lload_n 2, 1) := by decide +kernel
theorem dX1_against_138 : decode cX1_against 138 = .ok (.lload 4, 2) := by decide +kernel
theorem dX1_against_140 : decode cX1_against 140 = .ok (.lrem, 1) := by decide +kernel
theorem dX1_against_141 : decode cX1_against 141 = .ok (.lstore 16, 2) := by decide +kernel
theorem dX1_against_143 : decode cX1_against 143 = .ok (.lload 6, 2) := by decide +kernel
theorem dX1_against_145 : decode cX1_against 145 = .ok (.lload 8, 2) := by decide +kernel
theorem dX1_against_147 : decode cX1_against 147 = .ok (.lrem, 1) := by decide +kernel
theorem dX1_against_148 : decode cX1_against 148 = .ok (.lstore 18, 2) := by decide +kernel
theorem dX1_against_150 : decode cX1_against 150 = .ok (.lload 4, 2) := by decide +kernel
theorem dX1_against_152 : decode cX1_against 152 = .ok (.lstore_n 2, 1) := by decide +kernel
theorem dX1_against_153 : decode cX1_against 153 = .ok (.lload 16, 2) := by decide +kernel
theorem dX1_against_155 : decode cX1_against 155 = .ok (.lstore 4, 2) := by decide +kernel
theorem dX1_against_157 : decode cX1_against 157 = .ok (.lload 8, 2) := by decide +kernel
theorem dX1_against_159 : decode cX1_against 159 = .ok (.lstore 6, 2) := by decide +kernel
theorem dX1_against_161 : decode cX1_against 161 = .ok (.lload 18, 2) := by decide +kernel
theorem dX1_against_163 : decode cX1_against 163 = .ok (.lstore 8, 2) := by decide +kernel
theorem dX1_against_165 : decode cX1_against 165 = .ok (.iload 10, 2) := by decide +kernel
theorem dX1_against_167 : decode cX1_against 167 = .ok (.ineg, 1) := by decide +kernel
theorem dX1_against_168 : decode cX1_against 168 = .ok (.istore 10, 2) := by decide +kernel
theorem dX1_against_170 : decode cX1_against 170 = .ok (.iinc 11 1, 3) := by decide +kernel
theorem dX1_against_173 : decode cX1_against 173 = .ok (.goto (-96), 3) := by decide +kernel
theorem dX1_against_176 : decode cX1_against 176 = .ok (.lload 4, 2) := by decide +kernel
theorem dX1_against_178 : decode cX1_against 178 = .ok (.lload 8, 2) := by decide +kernel
theorem dX1_against_180 : decode cX1_against 180 = .ok (.lcmp, 1) := by decide +kernel
theorem dX1_against_181 : decode cX1_against 181 = .ok (.ifCond .ne 5, 3) := by decide +kernel
theorem dX1_against_184 : decode cX1_against 184 = .ok (.iconst 0, 1) := by decide +kernel
theorem dX1_against_185 : decode cX1_against 185 = .ok (.ireturn, 1) := by decide +kernel
theorem dX1_against_186 : decode cX1_against 186 = .ok (.lload 4, 2) := by decide +kernel
theorem dX1_against_188 : decode cX1_against 188 = .ok (.lconst 0, 1) := by decide +kernel
theorem dX1_against_189 : decode cX1_against 189 = .ok (.lcmp, 1) := by decide +kernel
theorem dX1_against_190 : decode cX1_against 190 = .ok (.ifCond .ne 8, 3) := by decide +kernel
theorem dX1_against_193 : decode cX1_against 193 = .ok (.iload 10, 2) := by decide +kernel
theorem dX1_against_195 : decode cX1_against 195 = .ok (.goto 6, 3) := by decide +kernel
theorem dX1_against_198 : decode cX1_against 198 = .ok (.iload 10, 2) := by decide +kernel
theorem dX1_against_200 : decode cX1_against 200 = .ok (.ineg, 1) := by decide +kernel
theorem dX1_against_201 : decode cX1_against 201 = .ok (.ireturn, 1) := by decide +kernel
set_option maxRecDepth 20000 in
theorem ggX2_init_X0_init : GoodIn wsX2_init wsX0_init := goodIn_r _ [21, 22, 2, 3, 23, 24, 25, 59, 60] (by decide +kernel) (by decide +kernel)
set_option maxRecDepth 20000 in
theorem gX2_init_X0_init_n11 : GoodIn wsX2_init (wsX0_init) := ggX2_init_X0_init
set_option maxRecDepth 20000 in
theorem ggX2_init_X5_init : GoodIn wsX2_init wsX5_init := goodIn_r _ [27, 28, 2, 3, 23, 29, 30, 31, 32, 33, 34, 35, 36, 66, 67, 68, 69, 70, 71, 72, 73, 74] (by decide +kernel) (by decide +kernel)
set_option maxRecDepth 20000 in
theorem gX2_init_X5_init_n20 : GoodIn wsX2_init (wsX5_init) := ggX2_init_X5_init
set_option maxRecDepth 20000 in
theorem ggX2_init_X3_init : GoodIn wsX2_init wsX3_init := goodIn_r _ [38, 39, 2, 3, 40, 23, 41, 42, 43, 44, 45, 46, 47, 48, 49, 50, 51, 52, 53, 75, 76, 77, 78, 79, 80, 81, 82, 86, 87] (by decide +kernel) (by decide +kernel)
set_option maxRecDepth 20000 in
theorem gX2_init_X3_init_n27 : GoodIn wsX2_init (wsX3_init) := ggX2_init_X3_init
set_option maxRecDepth 20000 in
theorem ggX2_init_X9_init : GoodIn wsX2_init wsX9_init := goodIn_r _ [55, 56, 2, 3, 57, 23, 58, 83, 84, 85] (by decide +kernel) (by decide +kernel)
set_option maxRecDepth 20000 in
theorem gX2_init_X9_init_n38 : GoodIn wsX2_init (wsX9_init) := ggX2_init_X9_init
theorem dX2_init_0 : decode cX2_init 0 = .ok (.aload_n 0, 1) := by decide +kernel
theorem dX2_init_1 : decode cX2_init 1 = .ok (.invokespecial 3, 3) := by decide +kernel
theorem dX2_init_4 : decode cX2_init 4 = .ok (.aload_n 0, 1) := by decide +kernel
theorem dX2_init_5 : decode cX2_init 5 = .ok (.new 9, 3) := by decide +kernel
theorem dX2_init_8 : decode cX2_init 8 = .ok (.dup, 1) := by decide +kernel
theorem dX2_init_9 : decode cX2_init 9 = .ok (.invokespecial 11, 3) := by decide +kernel
theorem dX2_init_12 : decode cX2_init 12 = .ok (.putfield 12, 3) := by decide +kernel
theorem dX2_init_15 : decode cX2_init 15 = .ok (.aload_n 0, 1) := by decide +kernel
theorem dX2_init_16 : decode cX2_init 16 = .ok (.new 18, 3) := by decide +kernel
theorem dX2_init_19 : decode cX2_init 19 = .ok (.dup, 1) := by decide +kernel
theorem dX2_init_20 : decode cX2_init 20 = .ok (.invokespecial 20, 3) := by decide +kernel
theorem dX2_init_23 : decode cX2_init 23 = .ok (.putfield 21, 3) := by decide +kernel
theorem dX2_init_26 : decode cX2_init 26 = .ok (.aload_n 0, 1) := by decide +kernel
theorem dX2_init_27 : decode cX2_init 27 = .ok (.new 25, 3) := by decide +kernel
theorem dX2_init_30 : decode cX2_init 30 = .ok (.dup, 1) := by decide +kernel
theorem dX2_init_31 : decode cX2_init 31 = .ok (.invokespecial 27, 3) := by decide +kernel
theorem dX2_init_34 : decode cX2_init 34 = .ok (.putfield 28, 3) := by decide +kernel
theorem dX2_init_37 : decode cX2_init 37 = .ok (.aload_n 0, 1) := by decide +kernel
theorem dX2_init_38 : decode cX2_init 38 = .ok (.iconst 3, 1) := by decide +kernel
theorem dX2_init_39 : decode cX2_init 39 = .ok (.anewarray 32, 3) := by decide +kernel
theorem dX2_init_42 : decode cX2_init 42 = .ok (.putfield 34, 3) := by decide +kernel
theorem dX2_init_45 : decode cX2_init 45 = .ok (.iconst 0, 1) := by decide +kernel
theorem dX2_init_46 : decode cX2_init 46 = .ok (.istore_n 1, 1) := by decide +kernel
theorem dX2_init_47 : decode cX2_init 47 = .ok (.iload_n 1, 1) := by decide +kernel
theorem dX2_init_48 : decode cX2_init 48 = .ok (.iconst 3, 1) := by decide +kernel
theorem dX2_init_49 : decode cX2_init 49 = .ok (.if_icmp .ge 22, 3) := by decide +kernel
theorem dX2_init_52 : decode cX2_init 52 = .ok (.aload_n 0, 1) := by decide +kernel
theorem dX2_init_53 : decode cX2_init 53 = .ok (.getfield 34, 3) := by decide +kernel
theorem dX2_init_56 : decode cX2_init 56 = .ok (.iload_n 1, 1) := by decide +kernel
theorem dX2_init_57 : decode cX2_init 57 = .ok (.new 32, 3) := by decide +kernel
theorem dX2_init_60 : decode cX2_init 60 = .ok (.dup, 1) := by decide +kernel
theorem dX2_init_61 : decode cX2_init 61 = .ok (.invokespecial 38, 3) := by decide +kernel
theorem dX2_init_64 : decode cX2_init 64 = .ok (.aastore, 1) := by decide +kernel
theorem dX2_init_65 : decode cX2_init 65 = .ok (.iinc 1 1, 3) := by decide +kernel
theorem dX2_init_68 : decode cX2_init 68 = .ok (.goto (-21), 3) := by decide +kernel
theorem dX2_init_71 : decode cX2_init 71 = .ok (.return_, 1) := by decide +kernel
set_option maxRecDepth 20000 in
theorem ggX2_take_X0_copy : GoodIn wsX2_take wsX0_copy := goodIn_r _ [10, 11, 12, 13, 14, 15, 16, 53, 54] (by decide +kernel) (by decide +kernel)
set_option maxRecDepth 20000 in
theorem gX2_take_X0_copy : GoodIn wsX2_take (wsV RX2 39 RX0 yX0_copy wsX0_copy) := goodIn_app (goodIn_of _ (by decide +kernel)) ggX2_take_X0_copy
set_option maxRecDepth 20000 in
theorem ggX2_take_X5_copy : GoodIn wsX2_take wsX5_copy := goodIn_r _ [21, 22, 23, 13, 14, 15, 24, 25, 26, 27, 55, 56, 57, 58, 59, 60, 61, 62, 63] (by decide +kernel) (by decide +kernel)
set_option maxRecDepth 20000 in
theorem gX2_take_X5_copy : GoodIn wsX2_take (wsV RX2 43 RX5 yX5_copy wsX5_copy) := goodIn_app (goodIn_of _ (by decide +kernel)) ggX2_take_X5_copy
set_option maxRecDepth 20000 in
theorem ggX2_take_X3_copy : GoodIn wsX2_take wsX3_copy := goodIn_r _ [32, 33, 34, 35, 36, 13, 14, 15, 37, 38, 64, 65, 66, 67, 68, 69, 70, 71] (by decide +kernel) (by decide +kernel)
set_option maxRecDepth 20000 in
theorem gX2_take_X3_copy : GoodIn wsX2_take (wsV RX2 46 RX3 yX3_copy wsX3_copy) := goodIn_app (goodIn_of _ (by decide +kernel)) ggX2_take_X3_copy
set_option maxRecDepth 20000 in
theorem ggX2_take_X9_copy : GoodIn wsX2_take wsX9_copy := goodIn_r _ [43, 44, 45, 46, 47, 13, 14, 15, 72, 73, 74] (by decide +kernel) (by decide +kernel)
set_option maxRecDepth 20000 in
theorem gX2_take_X9_copy : GoodIn wsX2_take (wsV RX2 49 RX9 yX9_copy wsX9_copy) := goodIn_app (goodIn_of _ (by decide +kernel)) ggX2_take_X9_copy
theorem dX2_take_0 : decode cX2_take 0 = .ok (.aload_n 0, 1) := by decide +kernel
theorem dX2_take_1 : decode cX2_take 1 = .ok (.getfield 12, 3) := by decide +kernel
theorem dX2_take_4 : decode cX2_take 4 = .ok (.aload_n 1, 1) := by decide +kernel
theorem dX2_take_5 : decode cX2_take 5 = .ok (.invokevirtual 39, 3) := by decide +kernel
theorem dX2_take_8 : decode cX2_take 8 = .ok (.aload_n 0, 1) := by decide +kernel
theorem dX2_take_9 : decode cX2_take 9 = .ok (.getfield 21, 3) := by decide +kernel
theorem dX2_take_12 : decode cX2_take 12 = .ok (.aload_n 2, 1) := by decide +kernel
theorem dX2_take_13 : decode cX2_take 13 = .ok (.invokevirtual 43, 3) := by decide +kernel
theorem dX2_take_16 : decode cX2_take 16 = .ok (.aload_n 0, 1) := by decide +kernel
theorem dX2_take_17 : decode cX2_take 17 = .ok (.getfield 28, 3) := by decide +kernel
theorem dX2_take_20 : decode cX2_take 20 = .ok (.aload_n 3, 1) := by decide +kernel
theorem dX2_take_21 : decode cX2_take 21 = .ok (.invokevirtual 46, 3) := by decide +kernel
theorem dX2_take_24 : decode cX2_take 24 = .ok (.iconst 0, 1) := by decide +kernel
theorem dX2_take_25 : decode cX2_take 25 = .ok (.istore 5, 2) := by decide +kernel
theorem dX2_take_27 : decode cX2_take 27 = .ok (.iload 5, 2) := by decide +kernel
theorem dX2_take_29 : decode cX2_take 29 = .ok (.iconst 3, 1) := by decide +kernel
theorem dX2_take_30 : decode cX2_take 30 = .ok (.if_icmp .ge 32, 3) := by decide +kernel
theorem dX2_take_33 : decode cX2_take 33 = .ok (.iload 5, 2) := by decide +kernel
theorem dX2_take_35 : decode cX2_take 35 = .ok (.aload 4, 2) := by decide +kernel
theorem dX2_take_37 : decode cX2_take 37 = .ok (.arraylength, 1) := by decide +kernel
theorem dX2_take_38 : decode cX2_take 38 = .ok (.if_icmp .ge 24, 3) := by decide +kernel
theorem dX2_take_41 : decode cX2_take 41 = .ok (.aload_n 0, 1) := by decide +kernel
theorem dX2_take_42 : decode cX2_take 42 = .ok (.getfield 34, 3) := by decide +kernel
theorem dX2_take_45 : decode cX2_take 45 = .ok (.iload 5, 2) := by decide +kernel
theorem dX2_take_47 : decode cX2_take 47 = .ok (.aaload, 1) := by decide +kernel
theorem dX2_take_48 : decode cX2_take 48 = .ok (.aload 4, 2) := by decide +kernel
theorem dX2_take_50 : decode cX2_take 50 = .ok (.iload 5, 2) := by decide +kernel
theorem dX2_take_52 : decode cX2_take 52 = .ok (.aaload, 1) := by decide +kernel
theorem dX2_take_53 : decode cX2_take 53 = .ok (.invokevirtual 49, 3) := by decide +kernel
theorem dX2_take_56 : decode cX2_take 56 = .ok (.iinc 5 1, 3) := by decide +kernel
theorem dX2_take_59 : decode cX2_take 59 = .ok (.goto (-32), 3) := by decide +kernel
theorem dX2_take_62 : decode cX2_take 62 = .ok (.aload_n 0, 1) := by decide +kernel
theorem dX2_take_63 : decode cX2_take 63 = .ok (.iconst 1, 1) := by decide +kernel
theorem dX2_take_64 : decode cX2_take 64 = .ok (.putfield 52, 3) := by decide +kernel
theorem dX2_take_67 : decode cX2_take 67 = .ok (.return_, 1) := by decide +kernel
set_option maxRecDepth 20000 in
theorem ggX2_give_X0_copy : GoodIn wsX2_give wsX0_copy := goodIn_r _ [9, 10, 11, 12, 13, 14, 15, 52, 53] (by decide +kernel) (by decide +kernel)
set_option maxRecDepth 20000 in
theorem gX2_give_X0_copy : GoodIn wsX2_give (wsV RX2 39 RX0 yX0_copy wsX0_copy) := goodIn_app (goodIn_of _ (by decide +kernel)) ggX2_give_X0_copy
set_option maxRecDepth 20000 in
theorem ggX2_give_X5_copy : GoodIn wsX2_give wsX5_copy := goodIn_r _ [20, 21, 22, 12, 13, 14, 23, 24, 25, 26, 54, 55, 56, 57, 58, 59, 60, 61, 62] (by decide +kernel) (by decide +kernel)
set_option maxRecDepth 20000 in
theorem gX2_give_X5_copy : GoodIn wsX2_give (wsV RX2 43 RX5 yX5_copy wsX5_copy) := goodIn_app (goodIn_of _ (by decide +kernel)) ggX2_give_X5_copy
set_option maxRecDepth 20000 in
theorem ggX2_give_X3_copy : GoodIn wsX2_give wsX3_copy := goodIn_r _ [31, 32, 33, 34, 35, 12, 13, 14, 36, 37, 63, 64, 65, 66, 67, 68, 69, 70] (by decide +kernel) (by decide +kernel)
set_option maxRecDepth 20000 in
theorem gX2_give_X3_copy : GoodIn wsX2_give (wsV RX2 46 RX3 yX3_copy wsX3_copy) := goodIn_app (goodIn_of _ (by decide +kernel)) ggX2_give_X3_copy
set_option maxRecDepth 20000 in
theorem ggX2_give_X9_copy : GoodIn wsX2_give wsX9_copy := goodIn_r _ [42, 43, 44, 45, 46, 12, 13, 14, 71, 72, 73] (by decide +kernel) (by decide +kernel)
set_option maxRecDepth 20000 in
theorem gX2_give_X9_copy : GoodIn wsX2_give (wsV RX2 49 RX9 yX9_copy wsX9_copy) := goodIn_app (goodIn_of _ (by decide +kernel)) ggX2_give_X9_copy
theorem dX2_give_0 : decode cX2_give 0 = .ok (.aload_n 1, 1) := by decide +kernel
theorem dX2_give_1 : decode cX2_give 1 = .ok (.aload_n 0, 1) := by decide +kernel
theorem dX2_give_2 : decode cX2_give 2 = .ok (.getfield 12, 3) := by decide +kernel
theorem dX2_give_5 : decode cX2_give 5 = .ok (.invokevirtual 39, 3) := by decide +kernel
theorem dX2_give_8 : decode cX2_give 8 = .ok (.aload_n 2, 1) := by decide +kernel
theorem dX2_give_9 : decode cX2_give 9 = .ok (.aload_n 0, 1) := by decide +kernel
theorem dX2_give_10 : decode cX2_give 10 = .ok (.getfield 21, 3) := by decide +kernel
theorem dX2_give_13 : decode cX2_give 13 = .ok (.invokevirtual 43, 3) := by decide +kernel
theorem dX2_give_16 : decode cX2_give 16 = .ok (.aload_n 3, 1) := by decide +kernel
theorem dX2_give_17 : decode cX2_give 17 = .ok (.aload_n 0, 1) := by decide +kernel
theorem dX2_give_18 : decode cX2_give 18 = .ok (.getfield 28, 3) := by decide +kernel
theorem dX2_give_21 : decode cX2_give 21 = .ok (.invokevirtual 46, 3) := by decide +kernel
theorem dX2_give_24 : decode cX2_give 24 = .ok (.iconst 0, 1) := by decide +kernel
theorem dX2_give_25 : decode cX2_give 25 = .ok (.istore 5, 2) := by decide +kernel
theorem dX2_give_27 : decode cX2_give 27 = .ok (.iload 5, 2) := by decide +kernel
theorem dX2_give_29 : decode cX2_give 29 = .ok (.iconst 3, 1) := by decide +kernel
theorem dX2_give_30 : decode cX2_give 30 = .ok (.if_icmp .ge 32, 3) := by decide +kernel
theorem dX2_give_33 : decode cX2_give 33 = .ok (.iload 5, 2) := by decide +kernel
theorem dX2_give_35 : decode cX2_give 35 = .ok (.aload 4, 2) := by decide +kernel
theorem dX2_give_37 : decode cX2_give 37 = .ok (.arraylength, 1) := by decide +kernel
theorem dX2_give_38 : decode cX2_give 38 = .ok (.if_icmp .ge 24, 3) := by decide +kernel
theorem dX2_give_41 : decode cX2_give 41 = .ok (.aload 4, 2) := by decide +kernel
theorem dX2_give_43 : decode cX2_give 43 = .ok (.iload 5, 2) := by decide +kernel
theorem dX2_give_45 : decode cX2_give 45 = .ok (.aaload, 1) := by decide +kernel
theorem dX2_give_46 : decode cX2_give 46 = .ok (.aload_n 0, 1) := by decide +kernel
theorem dX2_give_47 : decode cX2_give 47 = .ok (.getfield 34, 3) := by decide +kernel
theorem dX2_give_50 : decode cX2_give 50 = .ok (.iload 5, 2) := by decide +kernel
theorem dX2_give_52 : decode cX2_give 52 = .ok (.aaload, 1) := by decide +kernel
theorem dX2_give_53 : decode cX2_give 53 = .ok (.invokevirtual 49, 3) := by decide +kernel
theorem dX2_give_56 : decode cX2_give 56 = .ok (.iinc 5 1, 3) := by decide +kernel
theorem dX2_give_59 : decode cX2_give 59 = .ok (.goto (-32), 3) := by decide +kernel
theorem dX2_give_62 : decode cX2_give 62 = .ok (.return_, 1) := by decide +kernel
set_option maxRecDepth 20000 in
theorem ggX3_init_X1_init : GoodIn wsX3_init wsX1_init := goodIn_r _ [16, 17, 2, 3, 18, 27, 28] (by decide +kernel) (by decide +kernel)
set_option maxRecDepth 20000 in
theorem gX3_init_X1_init_n30 : GoodIn wsX3_init (wsX1_init) := ggX3_init_X1_init
theorem dX3_init_0 : decode cX3_init 0 = .ok (.aload_n 0, 1) := by decide +kernel
theorem dX3_init_1 : decode cX3_init 1 = .ok (.invokespecial 3, 3) := by decide +kernel
theorem dX3_init_4 : decode cX3_init 4 = .ok (.aload_n 0, 1) := by decide +kernel
theorem dX3_init_5 : decode cX3_init 5 = .ok (.iconst 4, 1) := by decide +kernel
theorem dX3_init_6 : decode cX3_init 6 = .ok (.putfield 9, 3) := by decide +kernel
theorem dX3_init_9 : decode cX3_init 9 = .ok (.aload_n 0, 1) := by decide +kernel
theorem dX3_init_10 : decode cX3_init 10 = .ok (.bipush 8, 2) := by decide +kernel
theorem dX3_init_12 : decode cX3_init 12 = .ok (.newarray .int, 2) := by decide +kernel
theorem dX3_init_14 : decode cX3_init 14 = .ok (.putfield 15, 3) := by decide +kernel
theorem dX3_init_17 : decode cX3_init 17 = .ok (.aload_n 0, 1) := by decide +kernel
theorem dX3_init_18 : decode cX3_init 18 = .ok (.bipush 8, 2) := by decide +kernel
theorem dX3_init_20 : decode cX3_init 20 = .ok (.newarray .int, 2) := by decide +kernel
theorem dX3_init_22 : decode cX3_init 22 = .ok (.putfield 19, 3) := by decide +kernel
theorem dX3_init_25 : decode cX3_init 25 = .ok (.aload_n 0, 1) := by decide +kernel
theorem dX3_init_26 : decode cX3_init 26 = .ok (.bipush 8, 2) := by decide +kernel
theorem dX3_init_28 : decode cX3_init 28 = .ok (.newarray .int, 2) := by decide +kernel
theorem dX3_init_30 : decode cX3_init 30 = .ok (.putfield 22, 3) := by decide +kernel
theorem dX3_init_33 : decode cX3_init 33 = .ok (.aload_n 0, 1) := by decide +kernel
theorem dX3_init_34 : decode cX3_init 34 = .ok (.bipush 6, 2) := by decide +kernel
theorem dX3_init_36 : decode cX3_init 36 = .ok (.newarray .int, 2) := by decide +kernel
theorem dX3_init_38 : decode cX3_init 38 = .ok (.putfield 25, 3) := by decide +kernel
theorem dX3_init_41 : decode cX3_init 41 = .ok (.aload_n 0, 1) := by decide +kernel
theorem dX3_init_42 : decode cX3_init 42 = .ok (.new 28, 3) := by decide +kernel
theorem dX3_init_45 : decode cX3_init 45 = .ok (.dup, 1) := by decide +kernel
theorem dX3_init_46 : decode cX3_init 46 = .ok (.invokespecial 30, 3) := by decide +kernel
theorem dX3_init_49 : decode cX3_init 49 = .ok (.putfield 31, 3) := by decide +kernel
theorem dX3_init_52 : decode cX3_init 52 = .ok (.aload_n 0, 1) := by decide +kernel
theorem dX3_init_53 : decode cX3_init 53 = .ok (.new 28, 3) := by decide +kernel
theorem dX3_init_56 : decode cX3_init 56 = .ok (.dup, 1) := by decide +kernel
theorem dX3_init_57 : decode cX3_init 57 = .ok (.invokespecial 30, 3) := by decide +kernel
theorem dX3_init_60 : decode cX3_init 60 = .ok (.putfield 35, 3) := by decide +kernel
theorem dX3_init_63 : decode cX3_init 63 = .ok (.return_, 1) := by decide +kernel
theorem dX3_has_0 : decode cX3_has 0 = .ok (.iload_n 1, 1) := by decide +kernel
theorem dX3_has_1 : decode cX3_has 1 = .ok (.ifCond .lt 21, 3) := by decide +kernel
theorem dX3_has_4 : decode cX3_has 4 = .ok (.iload_n 1, 1) := by decide +kernel
theorem dX3_has_5 : decode cX3_has 5 = .ok (.aload_n 0, 1) := by decide +kernel
theorem dX3_has_6 : decode cX3_has 6 = .ok (.getfield 9, 3) := by decide +kernel
theorem dX3_has_9 : decode cX3_has 9 = .ok (.if_icmp .ge 13, 3) := by decide +kernel
theorem dX3_has_12 : decode cX3_has 12 = .ok (.iload_n 1, 1) := by decide +kernel
theorem dX3_has_13 : decode cX3_has 13 = .ok (.bipush 6, 2) := by decide +kernel
theorem dX3_has_15 : decode cX3_has 15 = .ok (.if_icmp .ge 7, 3) := by decide +kernel
theorem dX3_has_18 : decode cX3_has 18 = .ok (.iconst 1, 1) := by decide +kernel
theorem dX3_has_19 : decode cX3_has 19 = .ok (.goto 4, 3) := by decide +kernel
theorem dX3_has_22 : decode cX3_has 22 = .ok (.iconst 0, 1) := by decide +kernel
theorem dX3_has_23 : decode cX3_has 23 = .ok (.ireturn, 1) := by decide +kernel
theorem dX3_hasEdge_0 : decode cX3_hasEdge 0 = .ok (.iload_n 1, 1) := by decide +kernel
theorem dX3_hasEdge_1 : decode cX3_hasEdge 1 = .ok (.ifCond .lt 21, 3) := by decide +kernel
theorem dX3_hasEdge_4 : decode cX3_hasEdge 4 = .ok (.iload_n 1, 1) := by decide +kernel
theorem dX3_hasEdge_5 : decode cX3_hasEdge 5 = .ok (.aload_n 0, 1) := by decide +kernel
theorem dX3_hasEdge_6 : decode cX3_hasEdge 6 = .ok (.getfield 38, 3) := by decide +kernel
theorem dX3_hasEdge_9 : decode cX3_hasEdge 9 = .ok (.if_icmp .ge 13, 3) := by decide +kernel
theorem dX3_hasEdge_12 : decode cX3_hasEdge 12 = .ok (.iload_n 1, 1) := by decide +kernel
theorem dX3_hasEdge_13 : decode cX3_hasEdge 13 = .ok (.bipush 8, 2) := by decide +kernel
theorem dX3_hasEdge_15 : decode cX3_hasEdge 15 = .ok (.if_icmp .ge 7, 3) := by decide +kernel
theorem dX3_hasEdge_18 : decode cX3_hasEdge 18 = .ok (.iconst 1, 1) := by decide +kernel
theorem dX3_hasEdge_19 : decode cX3_hasEdge 19 = .ok (.goto 4, 3) := by decide +kernel
theorem dX3_hasEdge_22 : decode cX3_hasEdge 22 = .ok (.iconst 0, 1) := by decide +kernel
theorem dX3_hasEdge_23 : decode cX3_hasEdge 23 = .ok (.ireturn, 1) := by decide +kernel
theorem dX3_put_0 : decode cX3_put 0 = .ok (.aload_n 0, 1) := by decide +kernel
theorem dX3_put_1 : decode cX3_put 1 = .ok (.getfield 38, 3) := by decide +kernel
theorem dX3_put_4 : decode cX3_put 4 = .ok (.bipush 8, 2) := by decide +kernel
theorem dX3_put_6 : decode cX3_put 6 = .ok (.if_icmp .lt 6, 3) := by decide +kernel
theorem dX3_put_9 : decode cX3_put 9 = .ok (.bipush (-3), 2) := by decide +kernel
theorem dX3_put_11 : decode cX3_put 11 = .ok (.ireturn, 1) := by decide +kernel
theorem dX3_put_12 : decode cX3_put 12 = .ok (.aload_n 0, 1) := by decide +kernel
theorem dX3_put_13 : decode cX3_put 13 = .ok (.getfield 15, 3) := by decide +kernel
theorem dX3_put_16 : decode cX3_put 16 = .ok (.aload_n 0, 1) := by decide +kernel
theorem dX3_put_17 : decode cX3_put 17 = .ok (.getfield 38, 3) := by decide +kernel
theorem dX3_put_20 : decode cX3_put 20 = .ok (.iload_n 1, 1) := by decide +kernel
theorem dX3_put_21 : decode cX3_put 21 = .ok (.iastore, 1) := by decide +kernel
theorem dX3_put_22 : decode cX3_put 22 = .ok (.aload_n 0, 1) := by decide +kernel
theorem dX3_put_23 : decode cX3_put 23 = .ok (.getfield 19, 3) := by decide +kernel
theorem dX3_put_26 : decode cX3_put 26 = .ok (.aload_n 0, 1) := by decide +kernel
theorem dX3_put_27 : decode cX3_put 27 = .ok (.getfield 38, 3) := by decide +kernel
theorem dX3_put_30 : decode cX3_put 30 = .ok (.iload_n 2, 1) := by decide +kernel
theorem dX3_put_31 : decode cX3_put 31 = .ok (.iastore, 1) := by decide +kernel
theorem dX3_put_32 : decode cX3_put 32 = .ok (.aload_n 0, 1) := by decide +kernel
theorem dX3_put_33 : decode cX3_put 33 = .ok (.getfield 22, 3) := by decide +kernel
theorem dX3_put_36 : decode cX3_put 36 = .ok (.aload_n 0, 1) := by decide +kernel
theorem dX3_put_37 : decode cX3_put 37 = .ok (.getfield 38, 3) := by decide +kernel
theorem dX3_put_40 : decode cX3_put 40 = .ok (.iload_n 3, 1) := by decide +kernel
theorem dX3_put_41 : decode cX3_put 41 = .ok (.iastore, 1) := by decide +kernel
theorem dX3_put_42 : decode cX3_put 42 = .ok (.aload_n 0, 1) := by decide +kernel
theorem dX3_put_43 : decode cX3_put 43 = .ok (.dup, 1) := by decide +kernel
theorem dX3_put_44 : decode cX3_put 44 = .ok (.getfield 38, 3) := by decide +kernel
theorem dX3_put_47 : decode cX3_put 47 = .ok (.iconst 1, 1) := by decide +kernel
theorem dX3_put_48 : decode cX3_put 48 = .ok (.iadd, 1) := by decide +kernel
theorem dX3_put_49 : decode cX3_put 49 = .ok (.putfield 38, 3) := by decide +kernel
theorem dX3_put_52 : decode cX3_put 52 = .ok (.aload_n 0, 1) := by decide +kernel
theorem dX3_put_53 : decode cX3_put 53 = .ok (.getfield 38, 3) := by decide +kernel
theorem dX3_put_56 : decode cX3_put 56 = .ok (.iconst 1, 1) := by decide +kernel
theorem dX3_put_57 : decode cX3_put 57 = .ok (.isub, 1) := by decide +kernel
theorem dX3_put_58 : decode cX3_put 58 = .ok (.ireturn, 1) := by decide +kernel
theorem dX3_closedEdges_0 : decode cX3_closedEdges 0 = .ok (.iconst 0, 1) := by decide +kernel
theorem dX3_closedEdges_1 : decode cX3_closedEdges 1 = .ok (.istore_n 2, 1) := by decide +kernel
theorem dX3_closedEdges_2 : decode cX3_closedEdges 2 = .ok (.iconst 0, 1) := by decide +kernel
theorem dX3_closedEdges_3 : decode cX3_closedEdges 3 = .ok (.istore_n 3, 1) := by decide +kernel
theorem dX3_closedEdges_4 : decode cX3_closedEdges 4 = .ok (.iload_n 3, 1) := by decide +kernel
theorem dX3_closedEdges_5 : decode cX3_closedEdges 5 = .ok (.aload_n 0, 1) := by decide +kernel
theorem dX3_closedEdges_6 : decode cX3_closedEdges 6 = .ok (.getfield 38, 3) := by decide +kernel
theorem dX3_closedEdges_9 : decode cX3_closedEdges 9 = .ok (.if_icmp .ge 29, 3) := by decide +kernel
theorem dX3_closedEdges_12 : decode cX3_closedEdges 12 = .ok (.aload_n 0, 1) := by decide +kernel
theorem dX3_closedEdges_13 : decode cX3_closedEdges 13 = .ok (.getfield 22, 3) := by decide +kernel
theorem dX3_closedEdges_16 : decode cX3_closedEdges 16 = .ok (.iload_n 3, 1) := by decide +kernel
theorem dX3_closedEdges_17 : decode cX3_closedEdges 17 = .ok (.iaload, 1) := by decide +kernel
theorem dX3_closedEdges_18 : decode cX3_closedEdges 18 = .ok (.ifCond .eq 14, 3) := by decide +kernel
theorem dX3_closedEdges_21 : decode cX3_closedEdges 21 = .ok (.iload_n 3, 1) := by decide +kernel
theorem dX3_closedEdges_22 : decode cX3_closedEdges 22 = .ok (.iload_n 1, 1) := by decide +kernel
theorem dX3_closedEdges_23 : decode cX3_closedEdges 23 = .ok (.if_icmp .eq 9, 3) := by decide +kernel
theorem dX3_closedEdges_26 : decode cX3_closedEdges 26 = .ok (.iload_n 2, 1) := by decide +kernel
theorem dX3_closedEdges_27 : decode cX3_closedEdges 27 = .ok (.iconst 1, 1) := by decide +kernel
theorem dX3_closedEdges_28 : decode cX3_closedEdges 28 = .ok (.iload_n 3, 1) := by decide +kernel
theorem dX3_closedEdges_29 : decode cX3_closedEdges 29 = .ok (.ishl, 1) := by decide +kernel
theorem dX3_closedEdges_30 : decode cX3_closedEdges 30 = .ok (.ior, 1) := by decide +kernel
theorem dX3_closedEdges_31 : decode cX3_closedEdges 31 = .ok (.istore_n 2, 1) := by decide +kernel
theorem dX3_closedEdges_32 : decode cX3_closedEdges 32 = .ok (.iinc 3 1, 3) := by decide +kernel
theorem dX3_closedEdges_35 : decode cX3_closedEdges 35 = .ok (.goto (-31), 3) := by decide +kernel
theorem dX3_closedEdges_38 : decode cX3_closedEdges 38 = .ok (.iload_n 2, 1) := by decide +kernel
theorem dX3_closedEdges_39 : decode cX3_closedEdges 39 = .ok (.ireturn, 1) := by decide +kernel
theorem dX3_pointsFrom_0 : decode cX3_pointsFrom 0 = .ok (.iconst 1, 1) := by decide +kernel
theorem dX3_pointsFrom_1 : decode cX3_pointsFrom 1 = .ok (.iload_n 1, 1) := by decide +kernel
theorem dX3_pointsFrom_2 : decode cX3_pointsFrom 2 = .ok (.ishl, 1) := by decide +kernel
theorem dX3_pointsFrom_3 : decode cX3_pointsFrom 3 = .ok (.istore_n 3, 1) := by decide +kernel
theorem dX3_pointsFrom_4 : decode cX3_pointsFrom 4 = .ok (.iconst 1, 1) := by decide +kernel
theorem dX3_pointsFrom_5 : decode cX3_pointsFrom 5 = .ok (.istore 4, 2) := by decide +kernel
theorem dX3_pointsFrom_7 : decode cX3_pointsFrom 7 = .ok (.iload 4, 2) := by decide +kernel
theorem dX3_pointsFrom_9 : decode cX3_pointsFrom 9 = .ok (.aload_n 0, 1) := by decide +kernel
theorem dX3_pointsFrom_10 : decode cX3_pointsFrom 10 = .ok (.getfield 9, 3) := by decide +kernel
theorem dX3_pointsFrom_13 : decode cX3_pointsFrom 13 = .ok (.if_icmp .ge 69, 3) := by decide +kernel
theorem dX3_pointsFrom_16 : decode cX3_pointsFrom 16 = .ok (.iconst 0, 1) := by decide +kernel
theorem dX3_pointsFrom_17 : decode cX3_pointsFrom 17 = .ok (.istore 5, 2) := by decide +kernel
theorem dX3_pointsFrom_19 : decode cX3_pointsFrom 19 = .ok (.iload 5, 2) := by decide +kernel
theorem dX3_pointsFrom_21 : decode cX3_pointsFrom 21 = .ok (.aload_n 0, 1) := by decide +kernel
theorem dX3_pointsFrom_22 : decode cX3_pointsFrom 22 = .ok (.getfield 38, 3) := by decide +kernel
theorem dX3_pointsFrom_25 : decode cX3_pointsFrom 25 = .ok (.if_icmp .ge 51, 3) := by decide +kernel
theorem dX3_pointsFrom_28 : decode cX3_pointsFrom 28 = .ok (.iconst 1, 1) := by decide +kernel
theorem dX3_pointsFrom_29 : decode cX3_pointsFrom 29 = .ok (.aload_n 0, 1) := by decide +kernel
theorem dX3_pointsFrom_30 : decode cX3_pointsFrom 30 = .ok (.getfield 15, 3) := by decide +kernel
theorem dX3_pointsFrom_33 : decode cX3_pointsFrom 33 = .ok (.iload 5, 2) := by decide +kernel
theorem dX3_pointsFrom_35 : decode cX3_pointsFrom 35 = .ok (.iaload, 1) := by decide +kernel
theorem dX3_pointsFrom_36 : decode cX3_pointsFrom 36 = .ok (.ishl, 1) := by decide +kernel
theorem dX3_pointsFrom_37 : decode cX3_pointsFrom 37 = .ok (.iconst 1, 1) := by decide +kernel
theorem dX3_pointsFrom_38 : decode cX3_pointsFrom 38 = .ok (.aload_n 0, 1) := by decide +kernel
theorem dX3_pointsFrom_39 : decode cX3_pointsFrom 39 = .ok (.getfield 19, 3) := by decide +kernel
theorem dX3_pointsFrom_42 : decode cX3_pointsFrom 42 = .ok (.iload 5, 2) := by decide +kernel
theorem dX3_pointsFrom_44 : decode cX3_pointsFrom 44 = .ok (.iaload, 1) := by decide +kernel
theorem dX3_pointsFrom_45 : decode cX3_pointsFrom 45 = .ok (.ishl, 1) := by decide +kernel
theorem dX3_pointsFrom_46 : decode cX3_pointsFrom 46 = .ok (.ior, 1) := by decide +kernel
theorem dX3_pointsFrom_47 : decode cX3_pointsFrom 47 = .ok (.istore 6, 2) := by decide +kernel
theorem dX3_pointsFrom_49 : decode cX3_pointsFrom 49 = .ok (.iload_n 2, 1) := by decide +kernel
theorem dX3_pointsFrom_50 : decode cX3_pointsFrom 50 = .ok (.iload 5, 2) := by decide +kernel
theorem dX3_pointsFrom_52 : decode cX3_pointsFrom 52 = .ok (.ishr, 1) := by decide +kernel
theorem dX3_pointsFrom_53 : decode cX3_pointsFrom 53 = .ok (.iconst 1, 1) := by decide +kernel
theorem dX3_pointsFrom_54 : decode cX3_pointsFrom 54 = .ok (.iand, 1) := by decide +kernel
theorem dX3_pointsFrom_55 : decode cX3_pointsFrom 55 = .ok (.ifCond .eq 15, 3) := by decide +kernel
theorem dX3_pointsFrom_58 : decode cX3_pointsFrom 58 = .ok (.iload_n 3, 1) := by decide +kernel
theorem dX3_pointsFrom_59 : decode cX3_pointsFrom 59 = .ok (.iload 6, 2) := by decide +kernel
theorem dX3_pointsFrom_61 : decode cX3_pointsFrom 61 = .ok (.iand, 1) := by decide +kernel
theorem dX3_pointsFrom_62 : decode cX3_pointsFrom 62 = .ok (.ifCond .eq 8, 3) := by decide +kernel
theorem dX3_pointsFrom_65 : decode cX3_pointsFrom 65 = .ok (.iload_n 3, 1) := by decide +kernel
theorem dX3_pointsFrom_66 : decode cX3_pointsFrom 66 = .ok (.iload 6, 2) := by decide +kernel
theorem dX3_pointsFrom_68 : decode cX3_pointsFrom 68 = .ok (.ior, 1) := by decide +kernel
theorem dX3_pointsFrom_69 : decode cX3_pointsFrom 69 = .ok (.istore_n 3, 1) := by decide +kernel
theorem dX3_pointsFrom_70 : decode cX3_pointsFrom 70 = .ok (.iinc 5 1, 3) := by decide +kernel
theorem dX3_pointsFrom_73 : decode cX3_pointsFrom 73 = .ok (.goto (-54), 3) := by decide +kernel
theorem dX3_pointsFrom_76 : decode cX3_pointsFrom 76 = .ok (.iinc 4 1, 3) := by decide +kernel
theorem dX3_pointsFrom_79 : decode cX3_pointsFrom 79 = .ok (.goto (-72), 3) := by decide +kernel
theorem dX3_pointsFrom_82 : decode cX3_pointsFrom 82 = .ok (.iload_n 3, 1) := by decide +kernel
theorem dX3_pointsFrom_83 : decode cX3_pointsFrom 83 = .ok (.ireturn, 1) := by decide +kernel
set_option maxRecDepth 20000 in
theorem ggX3_isWay_X3_closedEdges : GoodIn wsX3_isWay wsX3_closedEdges := goodIn_r _ [5, 6, 7, 15, 16, 17, 18, 19, 20, 21, 22] (by decide +kernel) (by decide +kernel)
set_option maxRecDepth 20000 in
theorem gX3_isWay_X3_closedEdges : GoodIn wsX3_isWay (wsV RX3 41 RX3 yX3_closedEdges wsX3_closedEdges) := goodIn_app (goodIn_of _ (by decide +kernel)) ggX3_isWay_X3_closedEdges
set_option maxRecDepth 20000 in
theorem ggX3_isWay_X3_pointsFrom : GoodIn wsX3_isWay wsX3_pointsFrom := goodIn_r _ [11, 12, 6, 13, 14, 15, 16, 17, 18, 19, 20, 21, 22] (by decide +kernel) (by decide +kernel)
set_option maxRecDepth 20000 in
theorem gX3_isWay_X3_pointsFrom : GoodIn wsX3_isWay (wsV RX3 45 RX3 yX3_pointsFrom wsX3_pointsFrom) := goodIn_app (goodIn_of _ (by decide +kernel)) ggX3_isWay_X3_pointsFrom
theorem dX3_isWay_0 : decode cX3_isWay 0 = .ok (.aload_n 0, 1) := by decide +kernel
theorem dX3_isWay_1 : decode cX3_isWay 1 = .ok (.iload_n 1, 1) := by decide +kernel
theorem dX3_isWay_2 : decode cX3_isWay 2 = .ok (.aload_n 0, 1) := by decide +kernel
theorem dX3_isWay_3 : decode cX3_isWay 3 = .ok (.iload_n 3, 1) := by decide +kernel
theorem dX3_isWay_4 : decode cX3_isWay 4 = .ok (.invokevirtual 41, 3) := by decide +kernel
theorem dX3_isWay_7 : decode cX3_isWay 7 = .ok (.invokevirtual 45, 3) := by decide +kernel
theorem dX3_isWay_10 : decode cX3_isWay 10 = .ok (.iload_n 2, 1) := by decide +kernel
theorem dX3_isWay_11 : decode cX3_isWay 11 = .ok (.ishr, 1) := by decide +kernel
theorem dX3_isWay_12 : decode cX3_isWay 12 = .ok (.iconst 1, 1) := by decide +kernel
theorem dX3_isWay_13 : decode cX3_isWay 13 = .ok (.iand, 1) := by decide +kernel
theorem dX3_isWay_14 : decode cX3_isWay 14 = .ok (.ifCond .eq 7, 3) := by decide +kernel
theorem dX3_isWay_17 : decode cX3_isWay 17 = .ok (.iconst 1, 1) := by decide +kernel
theorem dX3_isWay_18 : decode cX3_isWay 18 = .ok (.goto 4, 3) := by decide +kernel
theorem dX3_isWay_21 : decode cX3_isWay 21 = .ok (.iconst 0, 1) := by decide +kernel
theorem dX3_isWay_22 : decode cX3_isWay 22 = .ok (.ireturn, 1) := by decide +kernel
set_option maxRecDepth 20000 in
theorem ggX3_measure_X1_become : GoodIn wsX3_measure wsX1_become := goodIn_r _ [6, 7, 8, 9, 10, 11, 66, 67] (by decide +kernel) (by decide +kernel)
set_option maxRecDepth 20000 in
theorem gX3_measure_X1_become : GoodIn wsX3_measure (wsV RX3 49 RX1 yX1_become wsX1_become) := goodIn_app (goodIn_of _ (by decide +kernel)) ggX3_measure_X1_become
set_option maxRecDepth 20000 in
theorem ggX3_measure_X3_isWay : GoodIn wsX3_measure wsX3_isWay := goodIn_r _ [16, 17, 18, 19, 15, 20, 21, 22, 23, 24, 25, 26, 27, 28, 29, 58, 59, 60, 61, 62, 63, 64, 65] (by decide +kernel) (by decide +kernel)
set_option maxRecDepth 20000 in
theorem gX3_measure_X3_isWay : GoodIn wsX3_measure (wsV RX3 53 RX3 yX3_isWay wsX3_isWay) := goodIn_app (goodIn_of _ (by decide +kernel)) ggX3_measure_X3_isWay
set_option maxRecDepth 20000 in
theorem ggX3_measure_X3_closedEdges : GoodIn wsX3_measure wsX3_closedEdges := goodIn_r _ [20, 21, 22, 58, 59, 60, 61, 62, 63, 64, 65] (by decide +kernel) (by decide +kernel)
set_option maxRecDepth 20000 in
theorem gX3_measure_X3_closedEdges : GoodIn wsX3_measure (wsV RX3 41 RX3 yX3_closedEdges wsX3_closedEdges) := goodIn_app (goodIn_of _ (by decide +kernel)) ggX3_measure_X3_closedEdges
set_option maxRecDepth 20000 in
theorem ggX3_measure_X3_measureWay : GoodIn wsX3_measure wsX3_measureWay := goodIn_r _ [33, 34, 1, 23, 24, 25, 15, 26, 27, 21, 28, 29, 35, 36, 37, 38, 39, 40, 41, 42, 43, 44, 45, 46, 47, 48, 49, 50, 51, 52, 53, 54, 55, 56, 57, 22, 2, 3, 4, 5, 6, 7, 8, 9, 10, 11, 58, 59, 60, 61, 62, 63, 64, 65, 66, 67] (by decide +kernel) (by decide +kernel)
set_option maxRecDepth 20000 in
theorem gX3_measure_X3_measureWay : GoodIn wsX3_measure (wsV RX3 57 RX3 yX3_measureWay wsX3_measureWay) := goodIn_app (goodIn_of _ (by decide +kernel)) ggX3_measure_X3_measureWay
theorem dX3_measure_0 : decode cX3_measure 0 = .ok (.iload_n 1, 1) := by decide +kernel
theorem dX3_measure_1 : decode cX3_measure 1 = .ok (.iload_n 2, 1) := by decide +kernel
theorem dX3_measure_2 : decode cX3_measure 2 = .ok (.if_icmp .ne 15, 3) := by decide +kernel
theorem dX3_measure_5 : decode cX3_measure 5 = .ok (.aload_n 0, 1) := by decide +kernel
theorem dX3_measure_6 : decode cX3_measure 6 = .ok (.getfield 31, 3) := by decide +kernel
theorem dX3_measure_9 : decode cX3_measure 9 = .ok (.lconst 0, 1) := by decide +kernel
theorem dX3_measure_10 : decode cX3_measure 10 = .ok (.lconst 1, 1) := by decide +kernel
theorem dX3_measure_11 : decode cX3_measure 11 = .ok (.invokevirtual 49, 3) := by decide +kernel
theorem dX3_measure_14 : decode cX3_measure 14 = .ok (.goto 36, 3) := by decide +kernel
theorem dX3_measure_17 : decode cX3_measure 17 = .ok (.aload_n 0, 1) := by decide +kernel
theorem dX3_measure_18 : decode cX3_measure 18 = .ok (.iload_n 1, 1) := by decide +kernel
theorem dX3_measure_19 : decode cX3_measure 19 = .ok (.iload_n 2, 1) := by decide +kernel
theorem dX3_measure_20 : decode cX3_measure 20 = .ok (.iload_n 3, 1) := by decide +kernel
theorem dX3_measure_21 : decode cX3_measure 21 = .ok (.invokevirtual 53, 3) := by decide +kernel
theorem dX3_measure_24 : decode cX3_measure 24 = .ok (.ifCond .ne 15, 3) := by decide +kernel
theorem dX3_measure_27 : decode cX3_measure 27 = .ok (.aload_n 0, 1) := by decide +kernel
theorem dX3_measure_28 : decode cX3_measure 28 = .ok (.getfield 31, 3) := by decide +kernel
theorem dX3_measure_31 : decode cX3_measure 31 = .ok (.lconst 1, 1) := by decide +kernel
theorem dX3_measure_32 : decode cX3_measure 32 = .ok (.lconst 0, 1) := by decide +kernel
theorem dX3_measure_33 : decode cX3_measure 33 = .ok (.invokevirtual 49, 3) := by decide +kernel
theorem dX3_measure_36 : decode cX3_measure 36 = .ok (.goto 14, 3) := by decide +kernel
theorem dX3_measure_39 : decode cX3_measure 39 = .ok (.aload_n 0, 1) := by decide +kernel
theorem dX3_measure_40 : decode cX3_measure 40 = .ok (.iload_n 1, 1) := by decide +kernel
theorem dX3_measure_41 : decode cX3_measure 41 = .ok (.iload_n 2, 1) := by decide +kernel
theorem dX3_measure_42 : decode cX3_measure 42 = .ok (.aload_n 0, 1) := by decide +kernel
theorem dX3_measure_43 : decode cX3_measure 43 = .ok (.iload_n 3, 1) := by decide +kernel
theorem dX3_measure_44 : decode cX3_measure 44 = .ok (.invokevirtual 41, 3) := by decide +kernel
theorem dX3_measure_47 : decode cX3_measure 47 = .ok (.invokevirtual 57, 3) := by decide +kernel
theorem dX3_measure_50 : decode cX3_measure 50 = .ok (.return_, 1) := by decide +kernel
set_option maxRecDepth 20000 in
theorem ggX3_measureWay_X3_pointsFrom : GoodIn wsX3_measureWay wsX3_pointsFrom := goodIn_r _ [7, 8, 9, 10, 11, 46, 47, 48, 49, 50, 51, 52, 53] (by decide +kernel) (by decide +kernel)
set_option maxRecDepth 20000 in
theorem gX3_measureWay_X3_pointsFrom : GoodIn wsX3_measureWay (wsV RX3 45 RX3 yX3_pointsFrom wsX3_pointsFrom) := goodIn_app (goodIn_of _ (by decide +kernel)) ggX3_measureWay_X3_pointsFrom
set_option maxRecDepth 20000 in
theorem ggX3_measureWay_X3_edgesOn : GoodIn wsX3_measureWay wsX3_edgesOn := goodIn_r _ [15, 9, 10, 46, 47, 48, 49, 50, 51, 52, 53] (by decide +kernel) (by decide +kernel)
set_option maxRecDepth 20000 in
theorem gX3_measureWay_X3_edgesOn : GoodIn wsX3_measureWay (wsV RX3 61 RX3 yX3_edgesOn wsX3_edgesOn) := goodIn_app (goodIn_of _ (by decide +kernel)) ggX3_measureWay_X3_edgesOn
set_option maxRecDepth 20000 in
theorem ggX3_measureWay_J6_bitCount_0f7a4 : GoodIn wsX3_measureWay wsJ6_bitCount_0f7a4 := goodIn_r _ [19, 20, 21, 22] (by decide +kernel) (by decide +kernel)
set_option maxRecDepth 20000 in
theorem gX3_measureWay_J6_bitCount_0f7a4 : GoodIn wsX3_measureWay (va_wsS RX3 64 yJ6_bitCount_0f7a4 wsJ6_bitCount_0f7a4) := goodIn_app (goodIn_of _ (by decide +kernel)) ggX3_measureWay_J6_bitCount_0f7a4
set_option maxRecDepth 20000 in
theorem ggX3_measureWay_X3_isForest : GoodIn wsX3_measureWay wsX3_isForest := goodIn_r _ [26, 1, 9, 10, 11, 27, 28, 29, 6, 30, 46, 47, 48, 49, 50, 51, 52, 53] (by decide +kernel) (by decide +kernel)
set_option maxRecDepth 20000 in
theorem gX3_measureWay_X3_isForest : GoodIn wsX3_measureWay (wsV RX3 69 RX3 yX3_isForest wsX3_isForest) := goodIn_app (goodIn_of _ (by decide +kernel)) ggX3_measureWay_X3_isForest
set_option maxRecDepth 20000 in
theorem ggX3_measureWay_X3_ohmsOf : GoodIn wsX3_measureWay wsX3_ohmsOf := goodIn_r _ [34, 9, 35, 46, 47, 48, 49, 50, 51, 52, 53] (by decide +kernel) (by decide +kernel)
set_option maxRecDepth 20000 in
theorem gX3_measureWay_X3_ohmsOf : GoodIn wsX3_measureWay (wsV RX3 73 RX3 yX3_ohmsOf wsX3_ohmsOf) := goodIn_app (goodIn_of _ (by decide +kernel)) ggX3_measureWay_X3_ohmsOf
set_option maxRecDepth 20000 in
theorem ggX3_measureWay_X1_become : GoodIn wsX3_measureWay wsX1_become := goodIn_r _ [40, 41, 42, 43, 44, 45, 54, 55] (by decide +kernel) (by decide +kernel)
set_option maxRecDepth 20000 in
theorem gX3_measureWay_X1_become : GoodIn wsX3_measureWay (wsV RX3 49 RX1 yX1_become wsX1_become) := goodIn_app (goodIn_of _ (by decide +kernel)) ggX3_measureWay_X1_become
theorem dX3_measureWay_0 : decode cX3_measureWay 0 = .ok (.aload_n 0, 1) := by decide +kernel
theorem dX3_measureWay_1 : decode cX3_measureWay 1 = .ok (.iload_n 1, 1) := by decide +kernel
theorem dX3_measureWay_2 : decode cX3_measureWay 2 = .ok (.iload_n 3, 1) := by decide +kernel
theorem dX3_measureWay_3 : decode cX3_measureWay 3 = .ok (.invokevirtual 45, 3) := by decide +kernel
theorem dX3_measureWay_6 : decode cX3_measureWay 6 = .ok (.istore 4, 2) := by decide +kernel
theorem dX3_measureWay_8 : decode cX3_measureWay 8 = .ok (.aload_n 0, 1) := by decide +kernel
theorem dX3_measureWay_9 : decode cX3_measureWay 9 = .ok (.iload 4, 2) := by decide +kernel
theorem dX3_measureWay_11 : decode cX3_measureWay 11 = .ok (.iload_n 3, 1) := by decide +kernel
theorem dX3_measureWay_12 : decode cX3_measureWay 12 = .ok (.invokevirtual 61, 3) := by decide +kernel
theorem dX3_measureWay_15 : decode cX3_measureWay 15 = .ok (.istore 5, 2) := by decide +kernel
theorem dX3_measureWay_17 : decode cX3_measureWay 17 = .ok (.iload 4, 2) := by decide +kernel
theorem dX3_measureWay_19 : decode cX3_measureWay 19 = .ok (.invokestatic 64, 3) := by decide +kernel
theorem dX3_measureWay_22 : decode cX3_measureWay 22 = .ok (.iconst 1, 1) := by decide +kernel
theorem dX3_measureWay_23 : decode cX3_measureWay 23 = .ok (.isub, 1) := by decide +kernel
theorem dX3_measureWay_24 : decode cX3_measureWay 24 = .ok (.istore 6, 2) := by decide +kernel
theorem dX3_measureWay_26 : decode cX3_measureWay 26 = .ok (.lconst 0, 1) := by decide +kernel
theorem dX3_measureWay_27 : decode cX3_measureWay 27 = .ok (.lstore 7, 2) := by decide +kernel
theorem dX3_measureWay_29 : decode cX3_measureWay 29 = .ok (.lconst 0, 1) := by decide +kernel
theorem dX3_measureWay_30 : decode cX3_measureWay 30 = .ok (.lstore 9, 2) := by decide +kernel
theorem dX3_measureWay_32 : decode cX3_measureWay 32 = .ok (.iconst 0, 1) := by decide +kernel
theorem dX3_measureWay_33 : decode cX3_measureWay 33 = .ok (.istore 11, 2) := by decide +kernel
theorem dX3_measureWay_35 : decode cX3_measureWay 35 = .ok (.iload 11, 2) := by decide +kernel
theorem dX3_measureWay_37 : decode cX3_measureWay 37 = .ok (.iload 5, 2) := by decide +kernel
theorem dX3_measureWay_39 : decode cX3_measureWay 39 = .ok (.if_icmp .gt 120, 3) := by decide +kernel
theorem dX3_measureWay_42 : decode cX3_measureWay 42 = .ok (.iload 11, 2) := by decide +kernel
theorem dX3_measureWay_44 : decode cX3_measureWay 44 = .ok (.invokestatic 64, 3) := by decide +kernel
theorem dX3_measureWay_47 : decode cX3_measureWay 47 = .ok (.istore 12, 2) := by decide +kernel
theorem dX3_measureWay_49 : decode cX3_measureWay 49 = .ok (.iload 11, 2) := by decide +kernel
theorem dX3_measureWay_51 : decode cX3_measureWay 51 = .ok (.iload 5, 2) := by decide +kernel
theorem dX3_measureWay_53 : decode cX3_measureWay 53 = .ok (.iconst (-1), 1) := by decide +kernel
theorem dX3_measureWay_54 : decode cX3_measureWay 54 = .ok (.ixor, 1) := by decide +kernel
theorem dX3_measureWay_55 : decode cX3_measureWay 55 = .ok (.iand, 1) := by decide +kernel
theorem dX3_measureWay_56 : decode cX3_measureWay 56 = .ok (.ifCond .ne 23, 3) := by decide +kernel
theorem dX3_measureWay_59 : decode cX3_measureWay 59 = .ok (.iload 12, 2) := by decide +kernel
theorem dX3_measureWay_61 : decode cX3_measureWay 61 = .ok (.iload 6, 2) := by decide +kernel
theorem dX3_measureWay_63 : decode cX3_measureWay 63 = .ok (.if_icmp .eq 12, 3) := by decide +kernel
theorem dX3_measureWay_66 : decode cX3_measureWay 66 = .ok (.iload 12, 2) := by decide +kernel
theorem dX3_measureWay_68 : decode cX3_measureWay 68 = .ok (.iload 6, 2) := by decide +kernel
theorem dX3_measureWay_70 : decode cX3_measureWay 70 = .ok (.iconst 1, 1) := by decide +kernel
theorem dX3_measureWay_71 : decode cX3_measureWay 71 = .ok (.isub, 1) := by decide +kernel
theorem dX3_measureWay_72 : decode cX3_measureWay 72 = .ok (.if_icmp .ne 7, 3) := by decide +kernel
theorem dX3_measureWay_75 : decode cX3_measureWay 75 = .ok (.iconst 1, 1) := by decide +kernel
theorem dX3_measureWay_76 : decode cX3_measureWay 76 = .ok (.goto 4, 3) := by decide +kernel
theorem dX3_measureWay_79 : decode cX3_measureWay 79 = .ok (.iconst 0, 1) := by decide +kernel
theorem dX3_measureWay_80 : decode cX3_measureWay 80 = .ok (.istore 13, 2) := by decide +kernel
theorem dX3_measureWay_82 : decode cX3_measureWay 82 = .ok (.iload 13, 2) := by decide +kernel
theorem dX3_measureWay_84 : decode cX3_measureWay 84 = .ok (.ifCond .eq 69, 3) := by decide +kernel
theorem dX3_measureWay_87 : decode cX3_measureWay 87 = .ok (.aload_n 0, 1) := by decide +kernel
theorem dX3_measureWay_88 : decode cX3_measureWay 88 = .ok (.iload 11, 2) := by decide +kernel
theorem dX3_measureWay_90 : decode cX3_measureWay 90 = .ok (.invokevirtual 69, 3) := by decide +kernel
theorem dX3_measureWay_93 : decode cX3_measureWay 93 = .ok (.ifCond .eq 60, 3) := by decide +kernel
theorem dX3_measureWay_96 : decode cX3_measureWay 96 = .ok (.iload 12, 2) := by decide +kernel
theorem dX3_measureWay_98 : decode cX3_measureWay 98 = .ok (.iload 6, 2) := by decide +kernel
theorem dX3_measureWay_100 : decode cX3_measureWay 100 = .ok (.if_icmp .ne 22, 3) := by decide +kernel
theorem dX3_measureWay_103 : decode cX3_measureWay 103 = .ok (.lload 9, 2) := by decide +kernel
theorem dX3_measureWay_105 : decode cX3_measureWay 105 = .ok (.aload_n 0, 1) := by decide +kernel
theorem dX3_measureWay_106 : decode cX3_measureWay 106 = .ok (.iload 5, 2) := by decide +kernel
theorem dX3_measureWay_108 : decode cX3_measureWay 108 = .ok (.iload 11, 2) := by decide +kernel
theorem dX3_measureWay_110 : decode cX3_measureWay 110 = .ok (.iconst (-1), 1) := by decide +kernel
theorem dX3_measureWay_111 : decode cX3_measureWay 111 = .ok (.ixor, 1) := by decide +kernel
theorem dX3_measureWay_112 : decode cX3_measureWay 112 = .ok (.iand, 1) := by decide +kernel
theorem dX3_measureWay_113 : decode cX3_measureWay 113 = .ok (.invokevirtual 73, 3) := by decide +kernel
theorem dX3_measureWay_116 : decode cX3_measureWay 116 = .ok (.ladd, 1) := by decide +kernel
theorem dX3_measureWay_117 : decode cX3_measureWay 117 = .ok (.lstore 9, 2) := by decide +kernel
theorem dX3_measureWay_119 : decode cX3_measureWay 119 = .ok (.goto 34, 3) := by decide +kernel
theorem dX3_measureWay_122 : decode cX3_measureWay 122 = .ok (.aload_n 0, 1) := by decide +kernel
theorem dX3_measureWay_123 : decode cX3_measureWay 123 = .ok (.getfield 25, 3) := by decide +kernel
theorem dX3_measureWay_126 : decode cX3_measureWay 126 = .ok (.iload_n 1, 1) := by decide +kernel
theorem dX3_measureWay_127 : decode cX3_measureWay 127 = .ok (.iaload, 1) := by decide +kernel
theorem dX3_measureWay_128 : decode cX3_measureWay 128 = .ok (.aload_n 0, 1) := by decide +kernel
theorem dX3_measureWay_129 : decode cX3_measureWay 129 = .ok (.getfield 25, 3) := by decide +kernel
theorem dX3_measureWay_132 : decode cX3_measureWay 132 = .ok (.iload_n 2, 1) := by decide +kernel
theorem dX3_measureWay_133 : decode cX3_measureWay 133 = .ok (.iaload, 1) := by decide +kernel
theorem dX3_measureWay_134 : decode cX3_measureWay 134 = .ok (.if_icmp .eq 19, 3) := by decide +kernel
theorem dX3_measureWay_137 : decode cX3_measureWay 137 = .ok (.lload 7, 2) := by decide +kernel
theorem dX3_measureWay_139 : decode cX3_measureWay 139 = .ok (.aload_n 0, 1) := by decide +kernel
theorem dX3_measureWay_140 : decode cX3_measureWay 140 = .ok (.iload 5, 2) := by decide +kernel
theorem dX3_measureWay_142 : decode cX3_measureWay 142 = .ok (.iload 11, 2) := by decide +kernel
theorem dX3_measureWay_144 : decode cX3_measureWay 144 = .ok (.iconst (-1), 1) := by decide +kernel
theorem dX3_measureWay_145 : decode cX3_measureWay 145 = .ok (.ixor, 1) := by decide +kernel
theorem dX3_measureWay_146 : decode cX3_measureWay 146 = .ok (.iand, 1) := by decide +kernel
theorem dX3_measureWay_147 : decode cX3_measureWay 147 = .ok (.invokevirtual 73, 3) := by decide +kernel
theorem dX3_measureWay_150 : decode cX3_measureWay 150 = .ok (.ladd, 1) := by decide +kernel
theorem dX3_measureWay_151 : decode cX3_measureWay 151 = .ok (.lstore 7, 2) := by decide +kernel
theorem dX3_measureWay_153 : decode cX3_measureWay 153 = .ok (.iinc 11 1, 3) := by decide +kernel
theorem dX3_measureWay_156 : decode cX3_measureWay 156 = .ok (.goto (-121), 3) := by decide +kernel
theorem dX3_measureWay_159 : decode cX3_measureWay 159 = .ok (.aload_n 0, 1) := by decide +kernel
theorem dX3_measureWay_160 : decode cX3_measureWay 160 = .ok (.getfield 31, 3) := by decide +kernel
theorem dX3_measureWay_163 : decode cX3_measureWay 163 = .ok (.lload 7, 2) := by decide +kernel
theorem dX3_measureWay_165 : decode cX3_measureWay 165 = .ok (.lload 9, 2) := by decide +kernel
theorem dX3_measureWay_167 : decode cX3_measureWay 167 = .ok (.invokevirtual 49, 3) := by decide +kernel
theorem dX3_measureWay_170 : decode cX3_measureWay 170 = .ok (.return_, 1) := by decide +kernel
theorem dX3_edgesOn_0 : decode cX3_edgesOn 0 = .ok (.iconst 0, 1) := by decide +kernel
theorem dX3_edgesOn_1 : decode cX3_edgesOn 1 = .ok (.istore_n 3, 1) := by decide +kernel
theorem dX3_edgesOn_2 : decode cX3_edgesOn 2 = .ok (.iconst 0, 1) := by decide +kernel
theorem dX3_edgesOn_3 : decode cX3_edgesOn 3 = .ok (.istore 4, 2) := by decide +kernel
theorem dX3_edgesOn_5 : decode cX3_edgesOn 5 = .ok (.iload 4, 2) := by decide +kernel
theorem dX3_edgesOn_7 : decode cX3_edgesOn 7 = .ok (.aload_n 0, 1) := by decide +kernel
theorem dX3_edgesOn_8 : decode cX3_edgesOn 8 = .ok (.getfield 38, 3) := by decide +kernel
theorem dX3_edgesOn_11 : decode cX3_edgesOn 11 = .ok (.if_icmp .ge 39, 3) := by decide +kernel
theorem dX3_edgesOn_14 : decode cX3_edgesOn 14 = .ok (.iload_n 2, 1) := by decide +kernel
theorem dX3_edgesOn_15 : decode cX3_edgesOn 15 = .ok (.iload 4, 2) := by decide +kernel
theorem dX3_edgesOn_17 : decode cX3_edgesOn 17 = .ok (.ishr, 1) := by decide +kernel
theorem dX3_edgesOn_18 : decode cX3_edgesOn 18 = .ok (.iconst 1, 1) := by decide +kernel
theorem dX3_edgesOn_19 : decode cX3_edgesOn 19 = .ok (.iand, 1) := by decide +kernel
theorem dX3_edgesOn_20 : decode cX3_edgesOn 20 = .ok (.ifCond .eq 24, 3) := by decide +kernel
theorem dX3_edgesOn_23 : decode cX3_edgesOn 23 = .ok (.iload_n 1, 1) := by decide +kernel
theorem dX3_edgesOn_24 : decode cX3_edgesOn 24 = .ok (.aload_n 0, 1) := by decide +kernel
theorem dX3_edgesOn_25 : decode cX3_edgesOn 25 = .ok (.getfield 15, 3) := by decide +kernel
theorem dX3_edgesOn_28 : decode cX3_edgesOn 28 = .ok (.iload 4, 2) := by decide +kernel
theorem dX3_edgesOn_30 : decode cX3_edgesOn 30 = .ok (.iaload, 1) := by decide +kernel
theorem dX3_edgesOn_31 : decode cX3_edgesOn 31 = .ok (.ishr, 1) := by decide +kernel
theorem dX3_edgesOn_32 : decode cX3_edgesOn 32 = .ok (.iconst 1, 1) := by decide +kernel
theorem dX3_edgesOn_33 : decode cX3_edgesOn 33 = .ok (.iand, 1) := by decide +kernel
theorem dX3_edgesOn_34 : decode cX3_edgesOn 34 = .ok (.ifCond .eq 10, 3) := by decide +kernel
theorem dX3_edgesOn_37 : decode cX3_edgesOn 37 = .ok (.iload_n 3, 1) := by decide +kernel
theorem dX3_edgesOn_38 : decode cX3_edgesOn 38 = .ok (.iconst 1, 1) := by decide +kernel
theorem dX3_edgesOn_39 : decode cX3_edgesOn 39 = .ok (.iload 4, 2) := by decide +kernel
theorem dX3_edgesOn_41 : decode cX3_edgesOn 41 = .ok (.ishl, 1) := by decide +kernel
theorem dX3_edgesOn_42 : decode cX3_edgesOn 42 = .ok (.ior, 1) := by decide +kernel
theorem dX3_edgesOn_43 : decode cX3_edgesOn 43 = .ok (.istore_n 3, 1) := by decide +kernel
theorem dX3_edgesOn_44 : decode cX3_edgesOn 44 = .ok (.iinc 4 1, 3) := by decide +kernel
theorem dX3_edgesOn_47 : decode cX3_edgesOn 47 = .ok (.goto (-42), 3) := by decide +kernel
theorem dX3_edgesOn_50 : decode cX3_edgesOn 50 = .ok (.iload_n 3, 1) := by decide +kernel
theorem dX3_edgesOn_51 : decode cX3_edgesOn 51 = .ok (.ireturn, 1) := by decide +kernel
set_option maxRecDepth 20000 in
theorem ggX3_isForest_X3_hang : GoodIn wsX3_isForest wsX3_hang := goodIn_r _ [9, 1, 10, 11, 12, 13, 14, 15, 16, 17] (by decide +kernel) (by decide +kernel)
set_option maxRecDepth 20000 in
theorem gX3_isForest_X3_hang : GoodIn wsX3_isForest (wsV RX3 77 RX3 yX3_hang wsX3_hang) := goodIn_app (goodIn_of _ (by decide +kernel)) ggX3_isForest_X3_hang
theorem dX3_isForest_0 : decode cX3_isForest 0 = .ok (.iconst 0, 1) := by decide +kernel
theorem dX3_isForest_1 : decode cX3_isForest 1 = .ok (.istore_n 2, 1) := by decide +kernel
theorem dX3_isForest_2 : decode cX3_isForest 2 = .ok (.iload_n 2, 1) := by decide +kernel
theorem dX3_isForest_3 : decode cX3_isForest 3 = .ok (.bipush 6, 2) := by decide +kernel
theorem dX3_isForest_5 : decode cX3_isForest 5 = .ok (.if_icmp .ge 16, 3) := by decide +kernel
theorem dX3_isForest_8 : decode cX3_isForest 8 = .ok (.aload_n 0, 1) := by decide +kernel
theorem dX3_isForest_9 : decode cX3_isForest 9 = .ok (.getfield 25, 3) := by decide +kernel
theorem dX3_isForest_12 : decode cX3_isForest 12 = .ok (.iload_n 2, 1) := by decide +kernel
theorem dX3_isForest_13 : decode cX3_isForest 13 = .ok (.iload_n 2, 1) := by decide +kernel
theorem dX3_isForest_14 : decode cX3_isForest 14 = .ok (.iastore, 1) := by decide +kernel
theorem dX3_isForest_15 : decode cX3_isForest 15 = .ok (.iinc 2 1, 3) := by decide +kernel
theorem dX3_isForest_18 : decode cX3_isForest 18 = .ok (.goto (-16), 3) := by decide +kernel
theorem dX3_isForest_21 : decode cX3_isForest 21 = .ok (.iconst 0, 1) := by decide +kernel
theorem dX3_isForest_22 : decode cX3_isForest 22 = .ok (.istore_n 2, 1) := by decide +kernel
theorem dX3_isForest_23 : decode cX3_isForest 23 = .ok (.iload_n 2, 1) := by decide +kernel
theorem dX3_isForest_24 : decode cX3_isForest 24 = .ok (.aload_n 0, 1) := by decide +kernel
theorem dX3_isForest_25 : decode cX3_isForest 25 = .ok (.getfield 38, 3) := by decide +kernel
theorem dX3_isForest_28 : decode cX3_isForest 28 = .ok (.if_icmp .ge 57, 3) := by decide +kernel
theorem dX3_isForest_31 : decode cX3_isForest 31 = .ok (.iload_n 1, 1) := by decide +kernel
theorem dX3_isForest_32 : decode cX3_isForest 32 = .ok (.iload_n 2, 1) := by decide +kernel
theorem dX3_isForest_33 : decode cX3_isForest 33 = .ok (.ishr, 1) := by decide +kernel
theorem dX3_isForest_34 : decode cX3_isForest 34 = .ok (.iconst 1, 1) := by decide +kernel
theorem dX3_isForest_35 : decode cX3_isForest 35 = .ok (.iand, 1) := by decide +kernel
theorem dX3_isForest_36 : decode cX3_isForest 36 = .ok (.ifCond .eq 43, 3) := by decide +kernel
theorem dX3_isForest_39 : decode cX3_isForest 39 = .ok (.aload_n 0, 1) := by decide +kernel
theorem dX3_isForest_40 : decode cX3_isForest 40 = .ok (.getfield 25, 3) := by decide +kernel
theorem dX3_isForest_43 : decode cX3_isForest 43 = .ok (.aload_n 0, 1) := by decide +kernel
theorem dX3_isForest_44 : decode cX3_isForest 44 = .ok (.getfield 15, 3) := by decide +kernel
theorem dX3_isForest_47 : decode cX3_isForest 47 = .ok (.iload_n 2, 1) := by decide +kernel
theorem dX3_isForest_48 : decode cX3_isForest 48 = .ok (.iaload, 1) := by decide +kernel
theorem dX3_isForest_49 : decode cX3_isForest 49 = .ok (.iaload, 1) := by decide +kernel
theorem dX3_isForest_50 : decode cX3_isForest 50 = .ok (.istore_n 3, 1) := by decide +kernel
theorem dX3_isForest_51 : decode cX3_isForest 51 = .ok (.aload_n 0, 1) := by decide +kernel
theorem dX3_isForest_52 : decode cX3_isForest 52 = .ok (.getfield 25, 3) := by decide +kernel
theorem dX3_isForest_55 : decode cX3_isForest 55 = .ok (.aload_n 0, 1) := by decide +kernel
theorem dX3_isForest_56 : decode cX3_isForest 56 = .ok (.getfield 19, 3) := by decide +kernel
theorem dX3_isForest_59 : decode cX3_isForest 59 = .ok (.iload_n 2, 1) := by decide +kernel
theorem dX3_isForest_60 : decode cX3_isForest 60 = .ok (.iaload, 1) := by decide +kernel
theorem dX3_isForest_61 : decode cX3_isForest 61 = .ok (.iaload, 1) := by decide +kernel
theorem dX3_isForest_62 : decode cX3_isForest 62 = .ok (.istore 4, 2) := by decide +kernel
theorem dX3_isForest_64 : decode cX3_isForest 64 = .ok (.iload_n 3, 1) := by decide +kernel
theorem dX3_isForest_65 : decode cX3_isForest 65 = .ok (.iload 4, 2) := by decide +kernel
theorem dX3_isForest_67 : decode cX3_isForest 67 = .ok (.if_icmp .ne 5, 3) := by decide +kernel
theorem dX3_isForest_70 : decode cX3_isForest 70 = .ok (.iconst 0, 1) := by decide +kernel
theorem dX3_isForest_71 : decode cX3_isForest 71 = .ok (.ireturn, 1) := by decide +kernel
theorem dX3_isForest_72 : decode cX3_isForest 72 = .ok (.aload_n 0, 1) := by decide +kernel
theorem dX3_isForest_73 : decode cX3_isForest 73 = .ok (.iload 4, 2) := by decide +kernel
theorem dX3_isForest_75 : decode cX3_isForest 75 = .ok (.iload_n 3, 1) := by decide +kernel
theorem dX3_isForest_76 : decode cX3_isForest 76 = .ok (.invokevirtual 77, 3) := by decide +kernel
theorem dX3_isForest_79 : decode cX3_isForest 79 = .ok (.iinc 2 1, 3) := by decide +kernel
theorem dX3_isForest_82 : decode cX3_isForest 82 = .ok (.goto (-59), 3) := by decide +kernel
theorem dX3_isForest_85 : decode cX3_isForest 85 = .ok (.iconst 1, 1) := by decide +kernel
theorem dX3_isForest_86 : decode cX3_isForest 86 = .ok (.ireturn, 1) := by decide +kernel
theorem dX3_hang_0 : decode cX3_hang 0 = .ok (.iconst 0, 1) := by decide +kernel
theorem dX3_hang_1 : decode cX3_hang 1 = .ok (.istore_n 3, 1) := by decide +kernel
theorem dX3_hang_2 : decode cX3_hang 2 = .ok (.iload_n 3, 1) := by decide +kernel
theorem dX3_hang_3 : decode cX3_hang 3 = .ok (.bipush 6, 2) := by decide +kernel
theorem dX3_hang_5 : decode cX3_hang 5 = .ok (.if_icmp .ge 26, 3) := by decide +kernel
theorem dX3_hang_8 : decode cX3_hang 8 = .ok (.aload_n 0, 1) := by decide +kernel
theorem dX3_hang_9 : decode cX3_hang 9 = .ok (.getfield 25, 3) := by decide +kernel
theorem dX3_hang_12 : decode cX3_hang 12 = .ok (.iload_n 3, 1) := by decide +kernel
theorem dX3_hang_13 : decode cX3_hang 13 = .ok (.iaload, 1) := by decide +kernel
theorem dX3_hang_14 : decode cX3_hang 14 = .ok (.iload_n 1, 1) := by decide +kernel
theorem dX3_hang_15 : decode cX3_hang 15 = .ok (.if_icmp .ne 10, 3) := by decide +kernel
theorem dX3_hang_18 : decode cX3_hang 18 = .ok (.aload_n 0, 1) := by decide +kernel
theorem dX3_hang_19 : decode cX3_hang 19 = .ok (.getfield 25, 3) := by decide +kernel
theorem dX3_hang_22 : decode cX3_hang 22 = .ok (.iload_n 3, 1) := by decide +kernel
theorem dX3_hang_23 : decode cX3_hang 23 = .ok (.iload_n 2, 1) := by decide +kernel
theorem dX3_hang_24 : decode cX3_hang 24 = .ok (.iastore, 1) := by decide +kernel
theorem dX3_hang_25 : decode cX3_hang 25 = .ok (.iinc 3 1, 3) := by decide +kernel
theorem dX3_hang_28 : decode cX3_hang 28 = .ok (.goto (-26), 3) := by decide +kernel
theorem dX3_hang_31 : decode cX3_hang 31 = .ok (.return_, 1) := by decide +kernel
theorem dX3_ohmsOf_0 : decode cX3_ohmsOf 0 = .ok (.lconst 1, 1) := by decide +kernel
theorem dX3_ohmsOf_1 : decode cX3_ohmsOf 1 = .ok (.lstore_n 2, 1) := by decide +kernel
theorem dX3_ohmsOf_2 : decode cX3_ohmsOf 2 = .ok (.iconst 0, 1) := by decide +kernel
theorem dX3_ohmsOf_3 : decode cX3_ohmsOf 3 = .ok (.istore 4, 2) := by decide +kernel
theorem dX3_ohmsOf_5 : decode cX3_ohmsOf 5 = .ok (.iload 4, 2) := by decide +kernel
theorem dX3_ohmsOf_7 : decode cX3_ohmsOf 7 = .ok (.aload_n 0, 1) := by decide +kernel
theorem dX3_ohmsOf_8 : decode cX3_ohmsOf 8 = .ok (.getfield 38, 3) := by decide +kernel
theorem dX3_ohmsOf_11 : decode cX3_ohmsOf 11 = .ok (.if_icmp .ge 29, 3) := by decide +kernel
theorem dX3_ohmsOf_14 : decode cX3_ohmsOf 14 = .ok (.iload_n 1, 1) := by decide +kernel
theorem dX3_ohmsOf_15 : decode cX3_ohmsOf 15 = .ok (.iload 4, 2) := by decide +kernel
theorem dX3_ohmsOf_17 : decode cX3_ohmsOf 17 = .ok (.ishr, 1) := by decide +kernel
theorem dX3_ohmsOf_18 : decode cX3_ohmsOf 18 = .ok (.iconst 1, 1) := by decide +kernel
theorem dX3_ohmsOf_19 : decode cX3_ohmsOf 19 = .ok (.iand, 1) := by decide +kernel
theorem dX3_ohmsOf_20 : decode cX3_ohmsOf 20 = .ok (.ifCond .eq 14, 3) := by decide +kernel
theorem dX3_ohmsOf_23 : decode cX3_ohmsOf 23 = .ok (.lload_n 2, 1) := by decide +kernel
theorem dX3_ohmsOf_24 : decode cX3_ohmsOf 24 = .ok (.aload_n 0, 1) := by decide +kernel
theorem dX3_ohmsOf_25 : decode cX3_ohmsOf 25 = .ok (.getfield 22, 3) := by decide +kernel
theorem dX3_ohmsOf_28 : decode cX3_ohmsOf 28 = .ok (.iload 4, 2) := by decide +kernel
theorem dX3_ohmsOf_30 : decode cX3_ohmsOf 30 = .ok (.iaload, 1) := by decide +kernel
theorem dX3_ohmsOf_31 : decode cX3_ohmsOf 31 = .ok (.i2l, 1) := by decide +kernel
theorem dX3_ohmsOf_32 : decode cX3_ohmsOf 32 = .ok (.lmul, 1) := by decide +kernel
theorem dX3_ohmsOf_33 : decode cX3_ohmsOf 33 = .ok (.lstore_n 2, 1) := by decide +kernel
theorem dX3_ohmsOf_34 : decode cX3_ohmsOf 34 = .ok (.iinc 4 1, 3) := by decide +kernel
theorem dX3_ohmsOf_37 : decode cX3_ohmsOf 37 = .ok (.goto (-32), 3) := by decide +kernel
theorem dX3_ohmsOf_40 : decode cX3_ohmsOf 40 = .ok (.lload_n 2, 1) := by decide +kernel
theorem dX3_ohmsOf_41 : decode cX3_ohmsOf 41 = .ok (.lreturn, 1) := by decide +kernel
set_option maxRecDepth 20000 in
theorem ggX3_dearestEdge_X3_measure : GoodIn wsX3_dearestEdge wsX3_measure := goodIn_r _ [8, 2, 9, 10, 11, 12, 13, 14, 15, 16, 17, 18, 19, 20, 21, 7, 22, 23, 24, 25, 26, 1, 27, 28, 29, 30, 31, 32, 33, 34, 35, 36, 37, 38, 39, 40, 41, 42, 43, 44, 45, 46, 47, 48, 49, 50, 51, 52, 53, 54, 55, 56, 57, 58, 59, 60, 61, 62, 71, 72, 73, 74, 75, 76, 77, 78, 79, 80] (by decide +kernel) (by decide +kernel)
set_option maxRecDepth 20000 in
theorem gX3_dearestEdge_X3_measure : GoodIn wsX3_dearestEdge (wsV RX3 81 RX3 yX3_measure wsX3_measure) := goodIn_app (goodIn_of _ (by decide +kernel)) ggX3_dearestEdge_X3_measure
set_option maxRecDepth 20000 in
theorem ggX3_dearestEdge_X1_against : GoodIn wsX3_dearestEdge wsX1_against := goodIn_r _ [66, 15, 14, 79, 80] (by decide +kernel) (by decide +kernel)
set_option maxRecDepth 20000 in
theorem gX3_dearestEdge_X1_against : GoodIn wsX3_dearestEdge (wsV RX3 84 RX1 yX1_against wsX1_against) := goodIn_app (goodIn_of _ (by decide +kernel)) ggX3_dearestEdge_X1_against
set_option maxRecDepth 20000 in
theorem ggX3_dearestEdge_X1_copy : GoodIn wsX3_dearestEdge wsX1_copy := goodIn_r _ [70, 14, 15, 79, 80] (by decide +kernel) (by decide +kernel)
set_option maxRecDepth 20000 in
theorem gX3_dearestEdge_X1_copy : GoodIn wsX3_dearestEdge (wsV RX3 88 RX1 yX1_copy wsX1_copy) := goodIn_app (goodIn_of _ (by decide +kernel)) ggX3_dearestEdge_X1_copy
theorem dX3_dearestEdge_0 : decode cX3_dearestEdge 0 = .ok (.iconst 0, 1) := by decide +kernel
theorem dX3_dearestEdge_1 : decode cX3_dearestEdge 1 = .ok (.istore_n 3, 1) := by decide +kernel
theorem dX3_dearestEdge_2 : decode cX3_dearestEdge 2 = .ok (.iconst 0, 1) := by decide +kernel
theorem dX3_dearestEdge_3 : decode cX3_dearestEdge 3 = .ok (.istore 4, 2) := by decide +kernel
theorem dX3_dearestEdge_5 : decode cX3_dearestEdge 5 = .ok (.iload 4, 2) := by decide +kernel
theorem dX3_dearestEdge_7 : decode cX3_dearestEdge 7 = .ok (.aload_n 0, 1) := by decide +kernel
theorem dX3_dearestEdge_8 : decode cX3_dearestEdge 8 = .ok (.getfield 38, 3) := by decide +kernel
theorem dX3_dearestEdge_11 : decode cX3_dearestEdge 11 = .ok (.if_icmp .ge 50, 3) := by decide +kernel
theorem dX3_dearestEdge_14 : decode cX3_dearestEdge 14 = .ok (.aload_n 0, 1) := by decide +kernel
theorem dX3_dearestEdge_15 : decode cX3_dearestEdge 15 = .ok (.iload_n 1, 1) := by decide +kernel
theorem dX3_dearestEdge_16 : decode cX3_dearestEdge 16 = .ok (.iload_n 2, 1) := by decide +kernel
theorem dX3_dearestEdge_17 : decode cX3_dearestEdge 17 = .ok (.iload 4, 2) := by decide +kernel
theorem dX3_dearestEdge_19 : decode cX3_dearestEdge 19 = .ok (.invokevirtual 81, 3) := by decide +kernel
theorem dX3_dearestEdge_22 : decode cX3_dearestEdge 22 = .ok (.iload 4, 2) := by decide +kernel
theorem dX3_dearestEdge_24 : decode cX3_dearestEdge 24 = .ok (.ifCond .eq 17, 3) := by decide +kernel
theorem dX3_dearestEdge_27 : decode cX3_dearestEdge 27 = .ok (.aload_n 0, 1) := by decide +kernel
theorem dX3_dearestEdge_28 : decode cX3_dearestEdge 28 = .ok (.getfield 31, 3) := by decide +kernel
theorem dX3_dearestEdge_31 : decode cX3_dearestEdge 31 = .ok (.aload_n 0, 1) := by decide +kernel
theorem dX3_dearestEdge_32 : decode cX3_dearestEdge 32 = .ok (.getfield 35, 3) := by decide +kernel
theorem dX3_dearestEdge_35 : decode cX3_dearestEdge 35 = .ok (.invokevirtual 84, 3) := by decide +kernel
theorem dX3_dearestEdge_38 : decode cX3_dearestEdge 38 = .ok (.ifCond .le 17, 3) := by decide +kernel
theorem dX3_dearestEdge_41 : decode cX3_dearestEdge 41 = .ok (.iload 4, 2) := by decide +kernel
theorem dX3_dearestEdge_43 : decode cX3_dearestEdge 43 = .ok (.istore_n 3, 1) := by decide +kernel
theorem dX3_dearestEdge_44 : decode cX3_dearestEdge 44 = .ok (.aload_n 0, 1) := by decide +kernel
theorem dX3_dearestEdge_45 : decode cX3_dearestEdge 45 = .ok (.getfield 35, 3) := by decide +kernel
theorem dX3_dearestEdge_48 : decode cX3_dearestEdge 48 = .ok (.aload_n 0, 1) := by decide +kernel
theorem dX3_dearestEdge_49 : decode cX3_dearestEdge 49 = .ok (.getfield 31, 3) := by decide +kernel
theorem dX3_dearestEdge_52 : decode cX3_dearestEdge 52 = .ok (.invokevirtual 88, 3) := by decide +kernel
theorem dX3_dearestEdge_55 : decode cX3_dearestEdge 55 = .ok (.iinc 4 1, 3) := by decide +kernel
theorem dX3_dearestEdge_58 : decode cX3_dearestEdge 58 = .ok (.goto (-53), 3) := by decide +kernel
theorem dX3_dearestEdge_61 : decode cX3_dearestEdge 61 = .ok (.iload_n 3, 1) := by decide +kernel
theorem dX3_dearestEdge_62 : decode cX3_dearestEdge 62 = .ok (.ireturn, 1) := by decide +kernel
set_option maxRecDepth 20000 in
theorem ggX3_bridgesOf_X3_isWay : GoodIn wsX3_bridgesOf wsX3_isWay := goodIn_r _ [6, 7, 8, 9, 5, 10, 1, 11, 12, 13, 14, 15, 16, 17, 18, 19, 20, 21, 22, 23, 24, 25, 26] (by decide +kernel) (by decide +kernel)
set_option maxRecDepth 20000 in
theorem gX3_bridgesOf_X3_isWay : GoodIn wsX3_bridgesOf (wsV RX3 53 RX3 yX3_isWay wsX3_isWay) := goodIn_app (goodIn_of _ (by decide +kernel)) ggX3_bridgesOf_X3_isWay
theorem dX3_bridgesOf_0 : decode cX3_bridgesOf 0 = .ok (.iconst 0, 1) := by decide +kernel
theorem dX3_bridgesOf_1 : decode cX3_bridgesOf 1 = .ok (.istore_n 3, 1) := by decide +kernel
theorem dX3_bridgesOf_2 : decode cX3_bridgesOf 2 = .ok (.iconst 0, 1) := by decide +kernel
theorem dX3_bridgesOf_3 : decode cX3_bridgesOf 3 = .ok (.istore 4, 2) := by decide +kernel
theorem dX3_bridgesOf_5 : decode cX3_bridgesOf 5 = .ok (.iload 4, 2) := by decide +kernel
theorem dX3_bridgesOf_7 : decode cX3_bridgesOf 7 = .ok (.aload_n 0, 1) := by decide +kernel
theorem dX3_bridgesOf_8 : decode cX3_bridgesOf 8 = .ok (.getfield 38, 3) := by decide +kernel
theorem dX3_bridgesOf_11 : decode cX3_bridgesOf 11 = .ok (.if_icmp .ge 27, 3) := by decide +kernel
theorem dX3_bridgesOf_14 : decode cX3_bridgesOf 14 = .ok (.aload_n 0, 1) := by decide +kernel
theorem dX3_bridgesOf_15 : decode cX3_bridgesOf 15 = .ok (.iload_n 1, 1) := by decide +kernel
theorem dX3_bridgesOf_16 : decode cX3_bridgesOf 16 = .ok (.iload_n 2, 1) := by decide +kernel
theorem dX3_bridgesOf_17 : decode cX3_bridgesOf 17 = .ok (.iload 4, 2) := by decide +kernel
theorem dX3_bridgesOf_19 : decode cX3_bridgesOf 19 = .ok (.invokevirtual 53, 3) := by decide +kernel
theorem dX3_bridgesOf_22 : decode cX3_bridgesOf 22 = .ok (.ifCond .ne 10, 3) := by decide +kernel
theorem dX3_bridgesOf_25 : decode cX3_bridgesOf 25 = .ok (.iload_n 3, 1) := by decide +kernel
theorem dX3_bridgesOf_26 : decode cX3_bridgesOf 26 = .ok (.iconst 1, 1) := by decide +kernel
theorem dX3_bridgesOf_27 : decode cX3_bridgesOf 27 = .ok (.iload 4, 2) := by decide +kernel
theorem dX3_bridgesOf_29 : decode cX3_bridgesOf 29 = .ok (.ishl, 1) := by decide +kernel
theorem dX3_bridgesOf_30 : decode cX3_bridgesOf 30 = .ok (.ior, 1) := by decide +kernel
theorem dX3_bridgesOf_31 : decode cX3_bridgesOf 31 = .ok (.istore_n 3, 1) := by decide +kernel
theorem dX3_bridgesOf_32 : decode cX3_bridgesOf 32 = .ok (.iinc 4 1, 3) := by decide +kernel
theorem dX3_bridgesOf_35 : decode cX3_bridgesOf 35 = .ok (.goto (-30), 3) := by decide +kernel
theorem dX3_bridgesOf_38 : decode cX3_bridgesOf 38 = .ok (.iload_n 3, 1) := by decide +kernel
theorem dX3_bridgesOf_39 : decode cX3_bridgesOf 39 = .ok (.ireturn, 1) := by decide +kernel
theorem dX3_copy_0 : decode cX3_copy 0 = .ok (.aload_n 0, 1) := by decide +kernel
theorem dX3_copy_1 : decode cX3_copy 1 = .ok (.aload_n 1, 1) := by decide +kernel
theorem dX3_copy_2 : decode cX3_copy 2 = .ok (.getfield 9, 3) := by decide +kernel
theorem dX3_copy_5 : decode cX3_copy 5 = .ok (.putfield 9, 3) := by decide +kernel
theorem dX3_copy_8 : decode cX3_copy 8 = .ok (.aload_n 0, 1) := by decide +kernel
theorem dX3_copy_9 : decode cX3_copy 9 = .ok (.aload_n 1, 1) := by decide +kernel
theorem dX3_copy_10 : decode cX3_copy 10 = .ok (.getfield 38, 3) := by decide +kernel
theorem dX3_copy_13 : decode cX3_copy 13 = .ok (.putfield 38, 3) := by decide +kernel
theorem dX3_copy_16 : decode cX3_copy 16 = .ok (.aload_n 1, 1) := by decide +kernel
theorem dX3_copy_17 : decode cX3_copy 17 = .ok (.getfield 15, 3) := by decide +kernel
theorem dX3_copy_20 : decode cX3_copy 20 = .ok (.iconst 0, 1) := by decide +kernel
theorem dX3_copy_21 : decode cX3_copy 21 = .ok (.aload_n 0, 1) := by decide +kernel
theorem dX3_copy_22 : decode cX3_copy 22 = .ok (.getfield 15, 3) := by decide +kernel
theorem dX3_copy_25 : decode cX3_copy 25 = .ok (.iconst 0, 1) := by decide +kernel
theorem dX3_copy_26 : decode cX3_copy 26 = .ok (.bipush 8, 2) := by decide +kernel
theorem dX3_copy_28 : decode cX3_copy 28 = .ok (.invokestatic 92, 3) := by decide +kernel
theorem dX3_copy_31 : decode cX3_copy 31 = .ok (.aload_n 1, 1) := by decide +kernel
theorem dX3_copy_32 : decode cX3_copy 32 = .ok (.getfield 19, 3) := by decide +kernel
theorem dX3_copy_35 : decode cX3_copy 35 = .ok (.iconst 0, 1) := by decide +kernel
theorem dX3_copy_36 : decode cX3_copy 36 = .ok (.aload_n 0, 1) := by decide +kernel
theorem dX3_copy_37 : decode cX3_copy 37 = .ok (.getfield 19, 3) := by decide +kernel
theorem dX3_copy_40 : decode cX3_copy 40 = .ok (.iconst 0, 1) := by decide +kernel
theorem dX3_copy_41 : decode cX3_copy 41 = .ok (.bipush 8, 2) := by decide +kernel
theorem dX3_copy_43 : decode cX3_copy 43 = .ok (.invokestatic 92, 3) := by decide +kernel
theorem dX3_copy_46 : decode cX3_copy 46 = .ok (.aload_n 1, 1) := by decide +kernel
theorem dX3_copy_47 : decode cX3_copy 47 = .ok (.getfield 22, 3) := by decide +kernel
theorem dX3_copy_50 : decode cX3_copy 50 = .ok (.iconst 0, 1) := by decide +kernel
theorem dX3_copy_51 : decode cX3_copy 51 = .ok (.aload_n 0, 1) := by decide +kernel
theorem dX3_copy_52 : decode cX3_copy 52 = .ok (.getfield 22, 3) := by decide +kernel
theorem dX3_copy_55 : decode cX3_copy 55 = .ok (.iconst 0, 1) := by decide +kernel
theorem dX3_copy_56 : decode cX3_copy 56 = .ok (.bipush 8, 2) := by decide +kernel
theorem dX3_copy_58 : decode cX3_copy 58 = .ok (.invokestatic 92, 3) := by decide +kernel
theorem dX3_copy_61 : decode cX3_copy 61 = .ok (.return_, 1) := by decide +kernel
set_option maxRecDepth 20000 in
theorem ggX4_init_X6_init : GoodIn wsX4_init wsX6_init := goodIn_r _ [21, 22, 2, 3, 23, 24, 25, 26, 31, 32, 33, 34] (by decide +kernel) (by decide +kernel)
set_option maxRecDepth 20000 in
theorem gX4_init_X6_init_n11 : GoodIn wsX4_init (wsX6_init) := ggX4_init_X6_init
set_option maxRecDepth 20000 in
theorem ggX4_init_X1_init : GoodIn wsX4_init wsX1_init := goodIn_r _ [28, 29, 2, 3, 30, 44, 45] (by decide +kernel) (by decide +kernel)
set_option maxRecDepth 20000 in
theorem gX4_init_X1_init_n32 : GoodIn wsX4_init (wsX1_init) := ggX4_init_X1_init
theorem dX4_init_0 : decode cX4_init 0 = .ok (.aload_n 0, 1) := by decide +kernel
theorem dX4_init_1 : decode cX4_init 1 = .ok (.invokespecial 3, 3) := by decide +kernel
theorem dX4_init_4 : decode cX4_init 4 = .ok (.aload_n 0, 1) := by decide +kernel
theorem dX4_init_5 : decode cX4_init 5 = .ok (.new 9, 3) := by decide +kernel
theorem dX4_init_8 : decode cX4_init 8 = .ok (.dup, 1) := by decide +kernel
theorem dX4_init_9 : decode cX4_init 9 = .ok (.invokespecial 11, 3) := by decide +kernel
theorem dX4_init_12 : decode cX4_init 12 = .ok (.putfield 12, 3) := by decide +kernel
theorem dX4_init_15 : decode cX4_init 15 = .ok (.aload_n 0, 1) := by decide +kernel
theorem dX4_init_16 : decode cX4_init 16 = .ok (.bipush 12, 2) := by decide +kernel
theorem dX4_init_18 : decode cX4_init 18 = .ok (.anewarray 18, 3) := by decide +kernel
theorem dX4_init_21 : decode cX4_init 21 = .ok (.putfield 20, 3) := by decide +kernel
theorem dX4_init_24 : decode cX4_init 24 = .ok (.aload_n 0, 1) := by decide +kernel
theorem dX4_init_25 : decode cX4_init 25 = .ok (.bipush 12, 2) := by decide +kernel
theorem dX4_init_27 : decode cX4_init 27 = .ok (.newarray .double, 2) := by decide +kernel
theorem dX4_init_29 : decode cX4_init 29 = .ok (.putfield 24, 3) := by decide +kernel
theorem dX4_init_32 : decode cX4_init 32 = .ok (.aload_n 0, 1) := by decide +kernel
theorem dX4_init_33 : decode cX4_init 33 = .ok (.bipush 12, 2) := by decide +kernel
theorem dX4_init_35 : decode cX4_init 35 = .ok (.newarray .float, 2) := by decide +kernel
theorem dX4_init_37 : decode cX4_init 37 = .ok (.putfield 28, 3) := by decide +kernel
theorem dX4_init_40 : decode cX4_init 40 = .ok (.aload_n 0, 1) := by decide +kernel
theorem dX4_init_41 : decode cX4_init 41 = .ok (.new 18, 3) := by decide +kernel
theorem dX4_init_44 : decode cX4_init 44 = .ok (.dup, 1) := by decide +kernel
theorem dX4_init_45 : decode cX4_init 45 = .ok (.invokespecial 32, 3) := by decide +kernel
theorem dX4_init_48 : decode cX4_init 48 = .ok (.putfield 33, 3) := by decide +kernel
theorem dX4_init_51 : decode cX4_init 51 = .ok (.aload_n 0, 1) := by decide +kernel
theorem dX4_init_52 : decode cX4_init 52 = .ok (.new 18, 3) := by decide +kernel
theorem dX4_init_55 : decode cX4_init 55 = .ok (.dup, 1) := by decide +kernel
theorem dX4_init_56 : decode cX4_init 56 = .ok (.invokespecial 32, 3) := by decide +kernel
theorem dX4_init_59 : decode cX4_init 59 = .ok (.putfield 37, 3) := by decide +kernel
theorem dX4_init_62 : decode cX4_init 62 = .ok (.aload_n 0, 1) := by decide +kernel
theorem dX4_init_63 : decode cX4_init 63 = .ok (.aload_n 1, 1) := by decide +kernel
theorem dX4_init_64 : decode cX4_init 64 = .ok (.putfield 40, 3) := by decide +kernel
theorem dX4_init_67 : decode cX4_init 67 = .ok (.aload_n 0, 1) := by decide +kernel
theorem dX4_init_68 : decode cX4_init 68 = .ok (.aload_n 2, 1) := by decide +kernel
theorem dX4_init_69 : decode cX4_init 69 = .ok (.putfield 44, 3) := by decide +kernel
theorem dX4_init_72 : decode cX4_init 72 = .ok (.iconst 0, 1) := by decide +kernel
theorem dX4_init_73 : decode cX4_init 73 = .ok (.istore_n 3, 1) := by decide +kernel
theorem dX4_init_74 : decode cX4_init 74 = .ok (.iload_n 3, 1) := by decide +kernel
theorem dX4_init_75 : decode cX4_init 75 = .ok (.bipush 12, 2) := by decide +kernel
theorem dX4_init_77 : decode cX4_init 77 = .ok (.if_icmp .ge 22, 3) := by decide +kernel
theorem dX4_init_80 : decode cX4_init 80 = .ok (.aload_n 0, 1) := by decide +kernel
theorem dX4_init_81 : decode cX4_init 81 = .ok (.getfield 20, 3) := by decide +kernel
theorem dX4_init_84 : decode cX4_init 84 = .ok (.iload_n 3, 1) := by decide +kernel
theorem dX4_init_85 : decode cX4_init 85 = .ok (.new 18, 3) := by decide +kernel
theorem dX4_init_88 : decode cX4_init 88 = .ok (.dup, 1) := by decide +kernel
theorem dX4_init_89 : decode cX4_init 89 = .ok (.invokespecial 32, 3) := by decide +kernel
theorem dX4_init_92 : decode cX4_init 92 = .ok (.aastore, 1) := by decide +kernel
theorem dX4_init_93 : decode cX4_init 93 = .ok (.iinc 3 1, 3) := by decide +kernel
theorem dX4_init_96 : decode cX4_init 96 = .ok (.goto (-22), 3) := by decide +kernel
theorem dX4_init_99 : decode cX4_init 99 = .ok (.return_, 1) := by decide +kernel
set_option maxRecDepth 20000 in
theorem ggX4_walk_X6_fill : GoodIn wsX4_walk wsX6_fill := goodIn_r _ [11, 12, 13, 14, 15, 34, 35, 36, 37] (by decide +kernel) (by decide +kernel)
set_option maxRecDepth 20000 in
theorem gX4_walk_X6_fill : GoodIn wsX4_walk (wsV RX4 63 RX6 yX6_fill wsX6_fill) := goodIn_app (goodIn_of _ (by decide +kernel)) ggX4_walk_X6_fill
theorem dX4_walk_0 : decode cX4_walk 0 = .ok (.aload_n 0, 1) := by decide +kernel
theorem dX4_walk_1 : decode cX4_walk 1 = .ok (.getfield 12, 3) := by decide +kernel
theorem dX4_walk_4 : decode cX4_walk 4 = .ok (.iload_n 1, 1) := by decide +kernel
theorem dX4_walk_5 : decode cX4_walk 5 = .ok (.aload_n 0, 1) := by decide +kernel
theorem dX4_walk_6 : decode cX4_walk 6 = .ok (.getfield 44, 3) := by decide +kernel
theorem dX4_walk_9 : decode cX4_walk 9 = .ok (.getfield 48, 3) := by decide +kernel
theorem dX4_walk_12 : decode cX4_walk 12 = .ok (.iload_n 1, 1) := by decide +kernel
theorem dX4_walk_13 : decode cX4_walk 13 = .ok (.iaload, 1) := by decide +kernel
theorem dX4_walk_14 : decode cX4_walk 14 = .ok (.aload_n 0, 1) := by decide +kernel
theorem dX4_walk_15 : decode cX4_walk 15 = .ok (.getfield 44, 3) := by decide +kernel
theorem dX4_walk_18 : decode cX4_walk 18 = .ok (.getfield 54, 3) := by decide +kernel
theorem dX4_walk_21 : decode cX4_walk 21 = .ok (.aload_n 0, 1) := by decide +kernel
theorem dX4_walk_22 : decode cX4_walk 22 = .ok (.getfield 44, 3) := by decide +kernel
theorem dX4_walk_25 : decode cX4_walk 25 = .ok (.getfield 57, 3) := by decide +kernel
theorem dX4_walk_28 : decode cX4_walk 28 = .ok (.aload_n 0, 1) := by decide +kernel
theorem dX4_walk_29 : decode cX4_walk 29 = .ok (.getfield 44, 3) := by decide +kernel
theorem dX4_walk_32 : decode cX4_walk 32 = .ok (.getfield 60, 3) := by decide +kernel
theorem dX4_walk_35 : decode cX4_walk 35 = .ok (.invokevirtual 63, 3) := by decide +kernel
theorem dX4_walk_38 : decode cX4_walk 38 = .ok (.return_, 1) := by decide +kernel
set_option maxRecDepth 20000 in
theorem ggX4_measure_X4_walk : GoodIn wsX4_measure wsX4_walk := goodIn_r _ [5, 6, 7, 8, 9, 10, 11, 12, 13, 14, 15, 16, 17, 18, 19, 20, 65, 66, 67, 68, 69, 70, 71, 72, 73, 74, 75, 76, 77, 78, 79, 80, 81, 82, 83, 84, 85, 86] (by decide +kernel) (by decide +kernel)
set_option maxRecDepth 20000 in
theorem gX4_measure_X4_walk : GoodIn wsX4_measure (wsV RX4 67 RX4 yX4_walk wsX4_walk) := goodIn_app (goodIn_of _ (by decide +kernel)) ggX4_measure_X4_walk
set_option maxRecDepth 20000 in
theorem ggX4_measure_X4_measureWalk : GoodIn wsX4_measure wsX4_measureWalk := goodIn_r _ [24, 6, 25, 26, 27, 28, 29, 30, 31, 32, 4, 33, 34, 35, 36, 37, 38, 39, 40, 41, 42, 43, 44, 45, 46, 47, 48, 49, 50, 51, 52, 53, 54, 55, 56, 57, 58, 59, 60, 61, 62, 63, 64, 65, 66, 67, 68, 69, 70, 71, 72, 73, 83, 84, 85, 86, 87, 88, 89, 90] (by decide +kernel) (by decide +kernel)
set_option maxRecDepth 20000 in
theorem gX4_measure_X4_measureWalk : GoodIn wsX4_measure (wsV RX4 71 RX4 yX4_measureWalk wsX4_measureWalk) := goodIn_app (goodIn_of _ (by decide +kernel)) ggX4_measure_X4_measureWalk
theorem dX4_measure_0 : decode cX4_measure 0 = .ok (.aload_n 0, 1) := by decide +kernel
theorem dX4_measure_1 : decode cX4_measure 1 = .ok (.iload_n 1, 1) := by decide +kernel
theorem dX4_measure_2 : decode cX4_measure 2 = .ok (.invokevirtual 67, 3) := by decide +kernel
theorem dX4_measure_5 : decode cX4_measure 5 = .ok (.aload_n 0, 1) := by decide +kernel
theorem dX4_measure_6 : decode cX4_measure 6 = .ok (.iload_n 2, 1) := by decide +kernel
theorem dX4_measure_7 : decode cX4_measure 7 = .ok (.iload_n 3, 1) := by decide +kernel
theorem dX4_measure_8 : decode cX4_measure 8 = .ok (.invokevirtual 71, 3) := by decide +kernel
theorem dX4_measure_11 : decode cX4_measure 11 = .ok (.ireturn, 1) := by decide +kernel
set_option maxRecDepth 20000 in
theorem ggX4_measureWalk_X4_putPart : GoodIn wsX4_measureWalk wsX4_putPart := goodIn_r _ [11, 12, 13, 14, 15, 16, 17, 18, 19, 20, 21, 22, 23, 43, 44, 45, 46, 47, 48, 49, 50, 51, 56, 57, 58, 59] (by decide +kernel) (by decide +kernel)
set_option maxRecDepth 20000 in
theorem gX4_measureWalk_X4_putPart : GoodIn wsX4_measureWalk (wsV RX4 83 RX4 yX4_putPart wsX4_putPart) := goodIn_app (goodIn_of _ (by decide +kernel)) ggX4_measureWalk_X4_putPart
set_option maxRecDepth 20000 in
theorem ggX4_measureWalk_X1_addInSeries : GoodIn wsX4_measureWalk wsX1_addInSeries := goodIn_r _ [27, 20, 19, 28, 15, 16, 17, 18, 21, 22, 23, 58, 59] (by decide +kernel) (by decide +kernel)
set_option maxRecDepth 20000 in
theorem gX4_measureWalk_X1_addInSeries : GoodIn wsX4_measureWalk (wsV RX4 87 RX1 yX1_addInSeries wsX1_addInSeries) := goodIn_app (goodIn_of _ (by decide +kernel)) ggX4_measureWalk_X1_addInSeries
set_option maxRecDepth 20000 in
theorem ggX4_measureWalk_X1_addBeside : GoodIn wsX4_measureWalk wsX1_addBeside := goodIn_r _ [32, 19, 20, 28, 15, 16, 17, 18, 21, 22, 23, 33, 34, 35, 36, 58, 59] (by decide +kernel) (by decide +kernel)
set_option maxRecDepth 20000 in
theorem gX4_measureWalk_X1_addBeside : GoodIn wsX4_measureWalk (wsV RX4 91 RX1 yX1_addBeside wsX1_addBeside) := goodIn_app (goodIn_of _ (by decide +kernel)) ggX4_measureWalk_X1_addBeside
set_option maxRecDepth 20000 in
theorem ggX4_measureWalk_X1_isLong : GoodIn wsX4_measureWalk wsX1_isLong := goodIn_r _ [40, 19, 41, 20, 58, 59] (by decide +kernel) (by decide +kernel)
set_option maxRecDepth 20000 in
theorem gX4_measureWalk_X1_isLong : GoodIn wsX4_measureWalk (wsV RX4 94 RX1 yX1_isLong wsX1_isLong) := goodIn_app (goodIn_of _ (by decide +kernel)) ggX4_measureWalk_X1_isLong
set_option maxRecDepth 20000 in
theorem ggX4_measureWalk_X1_copy : GoodIn wsX4_measureWalk wsX1_copy := goodIn_r _ [36, 19, 20, 58, 59] (by decide +kernel) (by decide +kernel)
set_option maxRecDepth 20000 in
theorem gX4_measureWalk_X1_copy : GoodIn wsX4_measureWalk (wsV RX4 98 RX1 yX1_copy wsX1_copy) := goodIn_app (goodIn_of _ (by decide +kernel)) ggX4_measureWalk_X1_copy
theorem dX4_measureWalk_0 : decode cX4_measureWalk 0 = .ok (.iconst 0, 1) := by decide +kernel
theorem dX4_measureWalk_1 : decode cX4_measureWalk 1 = .ok (.istore_n 3, 1) := by decide +kernel
theorem dX4_measureWalk_2 : decode cX4_measureWalk 2 = .ok (.iconst 0, 1) := by decide +kernel
theorem dX4_measureWalk_3 : decode cX4_measureWalk 3 = .ok (.istore 4, 2) := by decide +kernel
theorem dX4_measureWalk_5 : decode cX4_measureWalk 5 = .ok (.iconst 0, 1) := by decide +kernel
theorem dX4_measureWalk_6 : decode cX4_measureWalk 6 = .ok (.istore 5, 2) := by decide +kernel
theorem dX4_measureWalk_8 : decode cX4_measureWalk 8 = .ok (.iload 5, 2) := by decide +kernel
theorem dX4_measureWalk_10 : decode cX4_measureWalk 10 = .ok (.aload_n 0, 1) := by decide +kernel
theorem dX4_measureWalk_11 : decode cX4_measureWalk 11 = .ok (.getfield 12, 3) := by decide +kernel
theorem dX4_measureWalk_14 : decode cX4_measureWalk 14 = .ok (.getfield 75, 3) := by decide +kernel
theorem dX4_measureWalk_17 : decode cX4_measureWalk 17 = .ok (.if_icmp .ge 132, 3) := by decide +kernel
theorem dX4_measureWalk_20 : decode cX4_measureWalk 20 = .ok (.aload_n 0, 1) := by decide +kernel
theorem dX4_measureWalk_21 : decode cX4_measureWalk 21 = .ok (.getfield 12, 3) := by decide +kernel
theorem dX4_measureWalk_24 : decode cX4_measureWalk 24 = .ok (.getfield 79, 3) := by decide +kernel
theorem dX4_measureWalk_27 : decode cX4_measureWalk 27 = .ok (.iload 5, 2) := by decide +kernel
theorem dX4_measureWalk_29 : decode cX4_measureWalk 29 = .ok (.iaload, 1) := by decide +kernel
theorem dX4_measureWalk_30 : decode cX4_measureWalk 30 = .ok (.istore 6, 2) := by decide +kernel
theorem dX4_measureWalk_32 : decode cX4_measureWalk 32 = .ok (.iload 6, 2) := by decide +kernel
theorem dX4_measureWalk_34 : decode cX4_measureWalk 34 = .ok (.ifCond .ne 50, 3) := by decide +kernel
theorem dX4_measureWalk_37 : decode cX4_measureWalk 37 = .ok (.iload_n 3, 1) := by decide +kernel
theorem dX4_measureWalk_38 : decode cX4_measureWalk 38 = .ok (.bipush 12, 2) := by decide +kernel
theorem dX4_measureWalk_40 : decode cX4_measureWalk 40 = .ok (.if_icmp .ge 44, 3) := by decide +kernel
theorem dX4_measureWalk_43 : decode cX4_measureWalk 43 = .ok (.aload_n 0, 1) := by decide +kernel
theorem dX4_measureWalk_44 : decode cX4_measureWalk 44 = .ok (.aload_n 0, 1) := by decide +kernel
theorem dX4_measureWalk_45 : decode cX4_measureWalk 45 = .ok (.getfield 20, 3) := by decide +kernel
theorem dX4_measureWalk_48 : decode cX4_measureWalk 48 = .ok (.iload_n 3, 1) := by decide +kernel
theorem dX4_measureWalk_49 : decode cX4_measureWalk 49 = .ok (.aaload, 1) := by decide +kernel
theorem dX4_measureWalk_50 : decode cX4_measureWalk 50 = .ok (.aload_n 0, 1) := by decide +kernel
theorem dX4_measureWalk_51 : decode cX4_measureWalk 51 = .ok (.getfield 12, 3) := by decide +kernel
theorem dX4_measureWalk_54 : decode cX4_measureWalk 54 = .ok (.getfield 80, 3) := by decide +kernel
theorem dX4_measureWalk_57 : decode cX4_measureWalk 57 = .ok (.iload 5, 2) := by decide +kernel
theorem dX4_measureWalk_59 : decode cX4_measureWalk 59 = .ok (.iaload, 1) := by decide +kernel
theorem dX4_measureWalk_60 : decode cX4_measureWalk 60 = .ok (.iload 4, 2) := by decide +kernel
theorem dX4_measureWalk_62 : decode cX4_measureWalk 62 = .ok (.iload_n 1, 1) := by decide +kernel
theorem dX4_measureWalk_63 : decode cX4_measureWalk 63 = .ok (.if_icmp .ne 7, 3) := by decide +kernel
theorem dX4_measureWalk_66 : decode cX4_measureWalk 66 = .ok (.iconst 1, 1) := by decide +kernel
theorem dX4_measureWalk_67 : decode cX4_measureWalk 67 = .ok (.goto 4, 3) := by decide +kernel
theorem dX4_measureWalk_70 : decode cX4_measureWalk 70 = .ok (.iconst 0, 1) := by decide +kernel
theorem dX4_measureWalk_71 : decode cX4_measureWalk 71 = .ok (.iload_n 2, 1) := by decide +kernel
theorem dX4_measureWalk_72 : decode cX4_measureWalk 72 = .ok (.invokevirtual 83, 3) := by decide +kernel
theorem dX4_measureWalk_75 : decode cX4_measureWalk 75 = .ok (.iinc 3 1, 3) := by decide +kernel
theorem dX4_measureWalk_78 : decode cX4_measureWalk 78 = .ok (.iinc 4 1, 3) := by decide +kernel
theorem dX4_measureWalk_81 : decode cX4_measureWalk 81 = .ok (.goto 62, 3) := by decide +kernel
theorem dX4_measureWalk_84 : decode cX4_measureWalk 84 = .ok (.iload_n 3, 1) := by decide +kernel
theorem dX4_measureWalk_85 : decode cX4_measureWalk 85 = .ok (.iconst 2, 1) := by decide +kernel
theorem dX4_measureWalk_86 : decode cX4_measureWalk 86 = .ok (.if_icmp .lt 57, 3) := by decide +kernel
theorem dX4_measureWalk_89 : decode cX4_measureWalk 89 = .ok (.iinc 3 (-1), 3) := by decide +kernel
theorem dX4_measureWalk_92 : decode cX4_measureWalk 92 = .ok (.aload_n 0, 1) := by decide +kernel
theorem dX4_measureWalk_93 : decode cX4_measureWalk 93 = .ok (.getfield 20, 3) := by decide +kernel
theorem dX4_measureWalk_96 : decode cX4_measureWalk 96 = .ok (.iload_n 3, 1) := by decide +kernel
theorem dX4_measureWalk_97 : decode cX4_measureWalk 97 = .ok (.iconst 1, 1) := by decide +kernel
theorem dX4_measureWalk_98 : decode cX4_measureWalk 98 = .ok (.isub, 1) := by decide +kernel
theorem dX4_measureWalk_99 : decode cX4_measureWalk 99 = .ok (.aaload, 1) := by decide +kernel
theorem dX4_measureWalk_100 : decode cX4_measureWalk 100 = .ok (.astore 7, 2) := by decide +kernel
theorem dX4_measureWalk_102 : decode cX4_measureWalk 102 = .ok (.iload 6, 2) := by decide +kernel
theorem dX4_measureWalk_104 : decode cX4_measureWalk 104 = .ok (.iconst 1, 1) := by decide +kernel
theorem dX4_measureWalk_105 : decode cX4_measureWalk 105 = .ok (.if_icmp .ne 17, 3) := by decide +kernel
theorem dX4_measureWalk_108 : decode cX4_measureWalk 108 = .ok (.aload 7, 2) := by decide +kernel
theorem dX4_measureWalk_110 : decode cX4_measureWalk 110 = .ok (.aload_n 0, 1) := by decide +kernel
theorem dX4_measureWalk_111 : decode cX4_measureWalk 111 = .ok (.getfield 20, 3) := by decide +kernel
theorem dX4_measureWalk_114 : decode cX4_measureWalk 114 = .ok (.iload_n 3, 1) := by decide +kernel
theorem dX4_measureWalk_115 : decode cX4_measureWalk 115 = .ok (.aaload, 1) := by decide +kernel
theorem dX4_measureWalk_116 : decode cX4_measureWalk 116 = .ok (.invokevirtual 87, 3) := by decide +kernel
theorem dX4_measureWalk_119 : decode cX4_measureWalk 119 = .ok (.goto 14, 3) := by decide +kernel
theorem dX4_measureWalk_122 : decode cX4_measureWalk 122 = .ok (.aload 7, 2) := by decide +kernel
theorem dX4_measureWalk_124 : decode cX4_measureWalk 124 = .ok (.aload_n 0, 1) := by decide +kernel
theorem dX4_measureWalk_125 : decode cX4_measureWalk 125 = .ok (.getfield 20, 3) := by decide +kernel
theorem dX4_measureWalk_128 : decode cX4_measureWalk 128 = .ok (.iload_n 3, 1) := by decide +kernel
theorem dX4_measureWalk_129 : decode cX4_measureWalk 129 = .ok (.aaload, 1) := by decide +kernel
theorem dX4_measureWalk_130 : decode cX4_measureWalk 130 = .ok (.invokevirtual 91, 3) := by decide +kernel
theorem dX4_measureWalk_133 : decode cX4_measureWalk 133 = .ok (.aload 7, 2) := by decide +kernel
theorem dX4_measureWalk_135 : decode cX4_measureWalk 135 = .ok (.invokevirtual 94, 3) := by decide +kernel
theorem dX4_measureWalk_138 : decode cX4_measureWalk 138 = .ok (.ifCond .eq 5, 3) := by decide +kernel
theorem dX4_measureWalk_141 : decode cX4_measureWalk 141 = .ok (.iconst 0, 1) := by decide +kernel
theorem dX4_measureWalk_142 : decode cX4_measureWalk 142 = .ok (.ireturn, 1) := by decide +kernel
theorem dX4_measureWalk_143 : decode cX4_measureWalk 143 = .ok (.iinc 5 1, 3) := by decide +kernel
theorem dX4_measureWalk_146 : decode cX4_measureWalk 146 = .ok (.goto (-138), 3) := by decide +kernel
theorem dX4_measureWalk_149 : decode cX4_measureWalk 149 = .ok (.aload_n 0, 1) := by decide +kernel
theorem dX4_measureWalk_150 : decode cX4_measureWalk 150 = .ok (.getfield 33, 3) := by decide +kernel
theorem dX4_measureWalk_153 : decode cX4_measureWalk 153 = .ok (.aload_n 0, 1) := by decide +kernel
theorem dX4_measureWalk_154 : decode cX4_measureWalk 154 = .ok (.getfield 20, 3) := by decide +kernel
theorem dX4_measureWalk_157 : decode cX4_measureWalk 157 = .ok (.iconst 0, 1) := by decide +kernel
theorem dX4_measureWalk_158 : decode cX4_measureWalk 158 = .ok (.aaload, 1) := by decide +kernel
theorem dX4_measureWalk_159 : decode cX4_measureWalk 159 = .ok (.invokevirtual 98, 3) := by decide +kernel
theorem dX4_measureWalk_162 : decode cX4_measureWalk 162 = .ok (.iconst 1, 1) := by decide +kernel
theorem dX4_measureWalk_163 : decode cX4_measureWalk 163 = .ok (.ireturn, 1) := by decide +kernel
set_option maxRecDepth 20000 in
theorem ggX4_putPart_X1_become : GoodIn wsX4_putPart wsX1_become := goodIn_r _ [7, 8, 9, 10, 11, 12, 24, 25] (by decide +kernel) (by decide +kernel)
set_option maxRecDepth 20000 in
theorem gX4_putPart_X1_become : GoodIn wsX4_putPart (wsV RX4 106 RX1 yX1_become wsX1_become) := goodIn_app (goodIn_of _ (by decide +kernel)) ggX4_putPart_X1_become
theorem dX4_putPart_0 : decode cX4_putPart 0 = .ok (.iload_n 3, 1) := by decide +kernel
theorem dX4_putPart_1 : decode cX4_putPart 1 = .ok (.ifCond .ne 21, 3) := by decide +kernel
theorem dX4_putPart_4 : decode cX4_putPart 4 = .ok (.aload_n 1, 1) := by decide +kernel
theorem dX4_putPart_5 : decode cX4_putPart 5 = .ok (.aload_n 0, 1) := by decide +kernel
theorem dX4_putPart_6 : decode cX4_putPart 6 = .ok (.getfield 40, 3) := by decide +kernel
theorem dX4_putPart_9 : decode cX4_putPart 9 = .ok (.getfield 101, 3) := by decide +kernel
theorem dX4_putPart_12 : decode cX4_putPart 12 = .ok (.iload_n 2, 1) := by decide +kernel
theorem dX4_putPart_13 : decode cX4_putPart 13 = .ok (.iaload, 1) := by decide +kernel
theorem dX4_putPart_14 : decode cX4_putPart 14 = .ok (.i2l, 1) := by decide +kernel
theorem dX4_putPart_15 : decode cX4_putPart 15 = .ok (.lconst 1, 1) := by decide +kernel
theorem dX4_putPart_16 : decode cX4_putPart 16 = .ok (.invokevirtual 106, 3) := by decide +kernel
theorem dX4_putPart_19 : decode cX4_putPart 19 = .ok (.goto 24, 3) := by decide +kernel
theorem dX4_putPart_22 : decode cX4_putPart 22 = .ok (.iload 4, 2) := by decide +kernel
theorem dX4_putPart_24 : decode cX4_putPart 24 = .ok (.iconst 1, 1) := by decide +kernel
theorem dX4_putPart_25 : decode cX4_putPart 25 = .ok (.if_icmp .ne 12, 3) := by decide +kernel
theorem dX4_putPart_28 : decode cX4_putPart 28 = .ok (.aload_n 1, 1) := by decide +kernel
theorem dX4_putPart_29 : decode cX4_putPart 29 = .ok (.lconst 0, 1) := by decide +kernel
theorem dX4_putPart_30 : decode cX4_putPart 30 = .ok (.lconst 1, 1) := by decide +kernel
theorem dX4_putPart_31 : decode cX4_putPart 31 = .ok (.invokevirtual 106, 3) := by decide +kernel
theorem dX4_putPart_34 : decode cX4_putPart 34 = .ok (.goto 9, 3) := by decide +kernel
theorem dX4_putPart_37 : decode cX4_putPart 37 = .ok (.aload_n 1, 1) := by decide +kernel
theorem dX4_putPart_38 : decode cX4_putPart 38 = .ok (.lconst 1, 1) := by decide +kernel
theorem dX4_putPart_39 : decode cX4_putPart 39 = .ok (.lconst 0, 1) := by decide +kernel
theorem dX4_putPart_40 : decode cX4_putPart 40 = .ok (.invokevirtual 106, 3) := by decide +kernel
theorem dX4_putPart_43 : decode cX4_putPart 43 = .ok (.return_, 1) := by decide +kernel
set_option maxRecDepth 20000 in
theorem ggX4_worstPlace_X4_walk : GoodIn wsX4_worstPlace wsX4_walk := goodIn_r _ [9, 10, 1, 2, 11, 12, 13, 14, 15, 16, 17, 18, 19, 20, 21, 22, 70, 71, 72, 73, 74, 75, 76, 77, 78, 79, 80, 81, 82, 83, 84, 85, 86, 87, 88, 89, 90, 91] (by decide +kernel) (by decide +kernel)
set_option maxRecDepth 20000 in
theorem gX4_worstPlace_X4_walk : GoodIn wsX4_worstPlace (wsV RX4 67 RX4 yX4_walk wsX4_walk) := goodIn_app (goodIn_of _ (by decide +kernel)) ggX4_worstPlace_X4_walk
set_option maxRecDepth 20000 in
theorem ggX4_worstPlace_X4_measureWalk : GoodIn wsX4_worstPlace wsX4_measureWalk := goodIn_r _ [26, 10, 27, 28, 29, 30, 3, 31, 32, 33, 8, 34, 35, 36, 37, 38, 39, 40, 41, 42, 43, 44, 45, 46, 47, 48, 49, 50, 51, 52, 53, 54, 55, 56, 57, 58, 59, 60, 61, 62, 63, 64, 65, 70, 71, 72, 73, 74, 75, 76, 77, 78, 88, 89, 90, 91, 92, 93, 94, 95] (by decide +kernel) (by decide +kernel)
set_option maxRecDepth 20000 in
theorem gX4_worstPlace_X4_measureWalk : GoodIn wsX4_worstPlace (wsV RX4 71 RX4 yX4_measureWalk wsX4_measureWalk) := goodIn_app (goodIn_of _ (by decide +kernel)) ggX4_worstPlace_X4_measureWalk
set_option maxRecDepth 20000 in
theorem ggX4_worstPlace_X1_against : GoodIn wsX4_worstPlace wsX1_against := goodIn_r _ [69, 43, 42, 94, 95] (by decide +kernel) (by decide +kernel)
set_option maxRecDepth 20000 in
theorem gX4_worstPlace_X1_against : GoodIn wsX4_worstPlace (wsV RX4 110 RX1 yX1_against wsX1_against) := goodIn_app (goodIn_of _ (by decide +kernel)) ggX4_worstPlace_X1_against
set_option maxRecDepth 20000 in
theorem ggX4_worstPlace_X1_copy : GoodIn wsX4_worstPlace wsX1_copy := goodIn_r _ [59, 42, 43, 94, 95] (by decide +kernel) (by decide +kernel)
set_option maxRecDepth 20000 in
theorem gX4_worstPlace_X1_copy : GoodIn wsX4_worstPlace (wsV RX4 98 RX1 yX1_copy wsX1_copy) := goodIn_app (goodIn_of _ (by decide +kernel)) ggX4_worstPlace_X1_copy
theorem dX4_worstPlace_0 : decode cX4_worstPlace 0 = .ok (.aload_n 0, 1) := by decide +kernel
theorem dX4_worstPlace_1 : decode cX4_worstPlace 1 = .ok (.iload_n 1, 1) := by decide +kernel
theorem dX4_worstPlace_2 : decode cX4_worstPlace 2 = .ok (.invokevirtual 67, 3) := by decide +kernel
theorem dX4_worstPlace_5 : decode cX4_worstPlace 5 = .ok (.iconst 0, 1) := by decide +kernel
theorem dX4_worstPlace_6 : decode cX4_worstPlace 6 = .ok (.istore_n 3, 1) := by decide +kernel
theorem dX4_worstPlace_7 : decode cX4_worstPlace 7 = .ok (.iconst 0, 1) := by decide +kernel
theorem dX4_worstPlace_8 : decode cX4_worstPlace 8 = .ok (.istore 4, 2) := by decide +kernel
theorem dX4_worstPlace_10 : decode cX4_worstPlace 10 = .ok (.iload 4, 2) := by decide +kernel
theorem dX4_worstPlace_12 : decode cX4_worstPlace 12 = .ok (.aload_n 0, 1) := by decide +kernel
theorem dX4_worstPlace_13 : decode cX4_worstPlace 13 = .ok (.getfield 44, 3) := by decide +kernel
theorem dX4_worstPlace_16 : decode cX4_worstPlace 16 = .ok (.getfield 48, 3) := by decide +kernel
theorem dX4_worstPlace_19 : decode cX4_worstPlace 19 = .ok (.iload_n 1, 1) := by decide +kernel
theorem dX4_worstPlace_20 : decode cX4_worstPlace 20 = .ok (.iaload, 1) := by decide +kernel
theorem dX4_worstPlace_21 : decode cX4_worstPlace 21 = .ok (.if_icmp .ge 71, 3) := by decide +kernel
theorem dX4_worstPlace_24 : decode cX4_worstPlace 24 = .ok (.aload_n 0, 1) := by decide +kernel
theorem dX4_worstPlace_25 : decode cX4_worstPlace 25 = .ok (.iload 4, 2) := by decide +kernel
theorem dX4_worstPlace_27 : decode cX4_worstPlace 27 = .ok (.iload_n 2, 1) := by decide +kernel
theorem dX4_worstPlace_28 : decode cX4_worstPlace 28 = .ok (.invokevirtual 71, 3) := by decide +kernel
theorem dX4_worstPlace_31 : decode cX4_worstPlace 31 = .ok (.ifCond .ne 6, 3) := by decide +kernel
theorem dX4_worstPlace_34 : decode cX4_worstPlace 34 = .ok (.bipush (-7), 2) := by decide +kernel
theorem dX4_worstPlace_36 : decode cX4_worstPlace 36 = .ok (.ireturn, 1) := by decide +kernel
theorem dX4_worstPlace_37 : decode cX4_worstPlace 37 = .ok (.aload_n 0, 1) := by decide +kernel
theorem dX4_worstPlace_38 : decode cX4_worstPlace 38 = .ok (.getfield 33, 3) := by decide +kernel
theorem dX4_worstPlace_41 : decode cX4_worstPlace 41 = .ok (.aload_n 0, 1) := by decide +kernel
theorem dX4_worstPlace_42 : decode cX4_worstPlace 42 = .ok (.getfield 37, 3) := by decide +kernel
theorem dX4_worstPlace_45 : decode cX4_worstPlace 45 = .ok (.invokevirtual 110, 3) := by decide +kernel
theorem dX4_worstPlace_48 : decode cX4_worstPlace 48 = .ok (.istore 5, 2) := by decide +kernel
theorem dX4_worstPlace_50 : decode cX4_worstPlace 50 = .ok (.iload 4, 2) := by decide +kernel
theorem dX4_worstPlace_52 : decode cX4_worstPlace 52 = .ok (.ifCond .eq 20, 3) := by decide +kernel
theorem dX4_worstPlace_55 : decode cX4_worstPlace 55 = .ok (.iload_n 2, 1) := by decide +kernel
theorem dX4_worstPlace_56 : decode cX4_worstPlace 56 = .ok (.ifCond .ne 11, 3) := by decide +kernel
theorem dX4_worstPlace_59 : decode cX4_worstPlace 59 = .ok (.iload 5, 2) := by decide +kernel
theorem dX4_worstPlace_61 : decode cX4_worstPlace 61 = .ok (.ifCond .le 25, 3) := by decide +kernel
theorem dX4_worstPlace_64 : decode cX4_worstPlace 64 = .ok (.goto 8, 3) := by decide +kernel
theorem dX4_worstPlace_67 : decode cX4_worstPlace 67 = .ok (.iload 5, 2) := by decide +kernel
theorem dX4_worstPlace_69 : decode cX4_worstPlace 69 = .ok (.ifCond .ge 17, 3) := by decide +kernel
theorem dX4_worstPlace_72 : decode cX4_worstPlace 72 = .ok (.iload 4, 2) := by decide +kernel
theorem dX4_worstPlace_74 : decode cX4_worstPlace 74 = .ok (.istore_n 3, 1) := by decide +kernel
theorem dX4_worstPlace_75 : decode cX4_worstPlace 75 = .ok (.aload_n 0, 1) := by decide +kernel
theorem dX4_worstPlace_76 : decode cX4_worstPlace 76 = .ok (.getfield 37, 3) := by decide +kernel
theorem dX4_worstPlace_79 : decode cX4_worstPlace 79 = .ok (.aload_n 0, 1) := by decide +kernel
theorem dX4_worstPlace_80 : decode cX4_worstPlace 80 = .ok (.getfield 33, 3) := by decide +kernel
theorem dX4_worstPlace_83 : decode cX4_worstPlace 83 = .ok (.invokevirtual 98, 3) := by decide +kernel
theorem dX4_worstPlace_86 : decode cX4_worstPlace 86 = .ok (.iinc 4 1, 3) := by decide +kernel
theorem dX4_worstPlace_89 : decode cX4_worstPlace 89 = .ok (.goto (-79), 3) := by decide +kernel
theorem dX4_worstPlace_92 : decode cX4_worstPlace 92 = .ok (.iload_n 3, 1) := by decide +kernel
theorem dX4_worstPlace_93 : decode cX4_worstPlace 93 = .ok (.ireturn, 1) := by decide +kernel
set_option maxRecDepth 20000 in
theorem ggX4_endOf_X4_walk : GoodIn wsX4_endOf wsX4_walk := goodIn_r _ [10, 1, 11, 12, 13, 14, 15, 16, 17, 18, 19, 20, 21, 22, 23, 24, 33, 34, 35, 36, 37, 38, 39, 40, 41, 46, 47, 48, 49, 50, 51, 52, 53, 54, 42, 43, 44, 45] (by decide +kernel) (by decide +kernel)
set_option maxRecDepth 20000 in
theorem gX4_endOf_X4_walk : GoodIn wsX4_endOf (wsV RX4 67 RX4 yX4_walk wsX4_walk) := goodIn_app (goodIn_of _ (by decide +kernel)) ggX4_endOf_X4_walk
set_option maxRecDepth 20000 in
theorem ggX4_endOf_X4_endOfPart : GoodIn wsX4_endOf wsX4_endOfPart := goodIn_r _ [28, 29, 30, 31, 32, 33, 34, 35, 36, 37, 38, 39, 40, 41, 55, 56] (by decide +kernel) (by decide +kernel)
set_option maxRecDepth 20000 in
theorem gX4_endOf_X4_endOfPart : GoodIn wsX4_endOf (wsV RX4 114 RX4 yX4_endOfPart wsX4_endOfPart) := goodIn_app (goodIn_of _ (by decide +kernel)) ggX4_endOf_X4_endOfPart
theorem dX4_endOf_0 : decode cX4_endOf 0 = .ok (.aload_n 0, 1) := by decide +kernel
theorem dX4_endOf_1 : decode cX4_endOf 1 = .ok (.iload_n 1, 1) := by decide +kernel
theorem dX4_endOf_2 : decode cX4_endOf 2 = .ok (.invokevirtual 67, 3) := by decide +kernel
theorem dX4_endOf_5 : decode cX4_endOf 5 = .ok (.iconst 0, 1) := by decide +kernel
theorem dX4_endOf_6 : decode cX4_endOf 6 = .ok (.istore_n 3, 1) := by decide +kernel
theorem dX4_endOf_7 : decode cX4_endOf 7 = .ok (.iconst 0, 1) := by decide +kernel
theorem dX4_endOf_8 : decode cX4_endOf 8 = .ok (.istore 4, 2) := by decide +kernel
theorem dX4_endOf_10 : decode cX4_endOf 10 = .ok (.iload 4, 2) := by decide +kernel
theorem dX4_endOf_12 : decode cX4_endOf 12 = .ok (.aload_n 0, 1) := by decide +kernel
theorem dX4_endOf_13 : decode cX4_endOf 13 = .ok (.getfield 12, 3) := by decide +kernel
theorem dX4_endOf_16 : decode cX4_endOf 16 = .ok (.getfield 75, 3) := by decide +kernel
theorem dX4_endOf_19 : decode cX4_endOf 19 = .ok (.if_icmp .ge 118, 3) := by decide +kernel
theorem dX4_endOf_22 : decode cX4_endOf 22 = .ok (.aload_n 0, 1) := by decide +kernel
theorem dX4_endOf_23 : decode cX4_endOf 23 = .ok (.getfield 12, 3) := by decide +kernel
theorem dX4_endOf_26 : decode cX4_endOf 26 = .ok (.getfield 79, 3) := by decide +kernel
theorem dX4_endOf_29 : decode cX4_endOf 29 = .ok (.iload 4, 2) := by decide +kernel
theorem dX4_endOf_31 : decode cX4_endOf 31 = .ok (.iaload, 1) := by decide +kernel
theorem dX4_endOf_32 : decode cX4_endOf 32 = .ok (.istore 5, 2) := by decide +kernel
theorem dX4_endOf_34 : decode cX4_endOf 34 = .ok (.iload 5, 2) := by decide +kernel
theorem dX4_endOf_36 : decode cX4_endOf 36 = .ok (.ifCond .ne 36, 3) := by decide +kernel
theorem dX4_endOf_39 : decode cX4_endOf 39 = .ok (.iload_n 3, 1) := by decide +kernel
theorem dX4_endOf_40 : decode cX4_endOf 40 = .ok (.bipush 12, 2) := by decide +kernel
theorem dX4_endOf_42 : decode cX4_endOf 42 = .ok (.if_icmp .ge 30, 3) := by decide +kernel
theorem dX4_endOf_45 : decode cX4_endOf 45 = .ok (.aload_n 0, 1) := by decide +kernel
theorem dX4_endOf_46 : decode cX4_endOf 46 = .ok (.getfield 24, 3) := by decide +kernel
theorem dX4_endOf_49 : decode cX4_endOf 49 = .ok (.iload_n 3, 1) := by decide +kernel
theorem dX4_endOf_50 : decode cX4_endOf 50 = .ok (.aload_n 0, 1) := by decide +kernel
theorem dX4_endOf_51 : decode cX4_endOf 51 = .ok (.aload_n 0, 1) := by decide +kernel
theorem dX4_endOf_52 : decode cX4_endOf 52 = .ok (.getfield 12, 3) := by decide +kernel
theorem dX4_endOf_55 : decode cX4_endOf 55 = .ok (.getfield 80, 3) := by decide +kernel
theorem dX4_endOf_58 : decode cX4_endOf 58 = .ok (.iload 4, 2) := by decide +kernel
theorem dX4_endOf_60 : decode cX4_endOf 60 = .ok (.iaload, 1) := by decide +kernel
theorem dX4_endOf_61 : decode cX4_endOf 61 = .ok (.iload_n 2, 1) := by decide +kernel
theorem dX4_endOf_62 : decode cX4_endOf 62 = .ok (.invokevirtual 114, 3) := by decide +kernel
theorem dX4_endOf_65 : decode cX4_endOf 65 = .ok (.dastore, 1) := by decide +kernel
theorem dX4_endOf_66 : decode cX4_endOf 66 = .ok (.iinc 3 1, 3) := by decide +kernel
theorem dX4_endOf_69 : decode cX4_endOf 69 = .ok (.goto 62, 3) := by decide +kernel
theorem dX4_endOf_72 : decode cX4_endOf 72 = .ok (.iload_n 3, 1) := by decide +kernel
theorem dX4_endOf_73 : decode cX4_endOf 73 = .ok (.iconst 2, 1) := by decide +kernel
theorem dX4_endOf_74 : decode cX4_endOf 74 = .ok (.if_icmp .lt 57, 3) := by decide +kernel
theorem dX4_endOf_77 : decode cX4_endOf 77 = .ok (.iinc 3 (-1), 3) := by decide +kernel
theorem dX4_endOf_80 : decode cX4_endOf 80 = .ok (.aload_n 0, 1) := by decide +kernel
theorem dX4_endOf_81 : decode cX4_endOf 81 = .ok (.getfield 24, 3) := by decide +kernel
theorem dX4_endOf_84 : decode cX4_endOf 84 = .ok (.iload_n 3, 1) := by decide +kernel
theorem dX4_endOf_85 : decode cX4_endOf 85 = .ok (.iconst 1, 1) := by decide +kernel
theorem dX4_endOf_86 : decode cX4_endOf 86 = .ok (.isub, 1) := by decide +kernel
theorem dX4_endOf_87 : decode cX4_endOf 87 = .ok (.daload, 1) := by decide +kernel
theorem dX4_endOf_88 : decode cX4_endOf 88 = .ok (.dstore 6, 2) := by decide +kernel
theorem dX4_endOf_90 : decode cX4_endOf 90 = .ok (.aload_n 0, 1) := by decide +kernel
theorem dX4_endOf_91 : decode cX4_endOf 91 = .ok (.getfield 24, 3) := by decide +kernel
theorem dX4_endOf_94 : decode cX4_endOf 94 = .ok (.iload_n 3, 1) := by decide +kernel
theorem dX4_endOf_95 : decode cX4_endOf 95 = .ok (.daload, 1) := by decide +kernel
theorem dX4_endOf_96 : decode cX4_endOf 96 = .ok (.dstore 8, 2) := by decide +kernel
theorem dX4_endOf_98 : decode cX4_endOf 98 = .ok (.aload_n 0, 1) := by decide +kernel
theorem dX4_endOf_99 : decode cX4_endOf 99 = .ok (.getfield 24, 3) := by decide +kernel
theorem dX4_endOf_102 : decode cX4_endOf 102 = .ok (.iload_n 3, 1) := by decide +kernel
theorem dX4_endOf_103 : decode cX4_endOf 103 = .ok (.iconst 1, 1) := by decide +kernel
theorem dX4_endOf_104 : decode cX4_endOf 104 = .ok (.isub, 1) := by decide +kernel
theorem dX4_endOf_105 : decode cX4_endOf 105 = .ok (.iload 5, 2) := by decide +kernel
theorem dX4_endOf_107 : decode cX4_endOf 107 = .ok (.iconst 1, 1) := by decide +kernel
theorem dX4_endOf_108 : decode cX4_endOf 108 = .ok (.if_icmp .ne 11, 3) := by decide +kernel
theorem dX4_endOf_111 : decode cX4_endOf 111 = .ok (.dload 6, 2) := by decide +kernel
theorem dX4_endOf_113 : decode cX4_endOf 113 = .ok (.dload 8, 2) := by decide +kernel
theorem dX4_endOf_115 : decode cX4_endOf 115 = .ok (.dadd, 1) := by decide +kernel
theorem dX4_endOf_116 : decode cX4_endOf 116 = .ok (.goto 14, 3) := by decide +kernel
theorem dX4_endOf_119 : decode cX4_endOf 119 = .ok (.dload 6, 2) := by decide +kernel
theorem dX4_endOf_121 : decode cX4_endOf 121 = .ok (.dload 8, 2) := by decide +kernel
theorem dX4_endOf_123 : decode cX4_endOf 123 = .ok (.dmul, 1) := by decide +kernel
theorem dX4_endOf_124 : decode cX4_endOf 124 = .ok (.dload 6, 2) := by decide +kernel
theorem dX4_endOf_126 : decode cX4_endOf 126 = .ok (.dload 8, 2) := by decide +kernel
theorem dX4_endOf_128 : decode cX4_endOf 128 = .ok (.dadd, 1) := by decide +kernel
theorem dX4_endOf_129 : decode cX4_endOf 129 = .ok (.ddiv, 1) := by decide +kernel
theorem dX4_endOf_130 : decode cX4_endOf 130 = .ok (.dastore, 1) := by decide +kernel
theorem dX4_endOf_131 : decode cX4_endOf 131 = .ok (.iinc 4 1, 3) := by decide +kernel
theorem dX4_endOf_134 : decode cX4_endOf 134 = .ok (.goto (-124), 3) := by decide +kernel
theorem dX4_endOf_137 : decode cX4_endOf 137 = .ok (.aload_n 0, 1) := by decide +kernel
theorem dX4_endOf_138 : decode cX4_endOf 138 = .ok (.getfield 24, 3) := by decide +kernel
theorem dX4_endOf_141 : decode cX4_endOf 141 = .ok (.iconst 0, 1) := by decide +kernel
theorem dX4_endOf_142 : decode cX4_endOf 142 = .ok (.daload, 1) := by decide +kernel
theorem dX4_endOf_143 : decode cX4_endOf 143 = .ok (.dreturn, 1) := by decide +kernel
theorem dX4_endOfPart_0 : decode cX4_endOfPart 0 = .ok (.aload_n 0, 1) := by decide +kernel
theorem dX4_endOfPart_1 : decode cX4_endOfPart 1 = .ok (.getfield 40, 3) := by decide +kernel
theorem dX4_endOfPart_4 : decode cX4_endOfPart 4 = .ok (.getfield 101, 3) := by decide +kernel
theorem dX4_endOfPart_7 : decode cX4_endOfPart 7 = .ok (.iload_n 1, 1) := by decide +kernel
theorem dX4_endOfPart_8 : decode cX4_endOfPart 8 = .ok (.iaload, 1) := by decide +kernel
theorem dX4_endOfPart_9 : decode cX4_endOfPart 9 = .ok (.istore_n 3, 1) := by decide +kernel
theorem dX4_endOfPart_10 : decode cX4_endOfPart 10 = .ok (.iload_n 2, 1) := by decide +kernel
theorem dX4_endOfPart_11 : decode cX4_endOfPart 11 = .ok (.ifCond .ne 23, 3) := by decide +kernel
theorem dX4_endOfPart_14 : decode cX4_endOfPart 14 = .ok (.iload_n 3, 1) := by decide +kernel
theorem dX4_endOfPart_15 : decode cX4_endOfPart 15 = .ok (.bipush 100, 2) := by decide +kernel
theorem dX4_endOfPart_17 : decode cX4_endOfPart 17 = .ok (.aload_n 0, 1) := by decide +kernel
theorem dX4_endOfPart_18 : decode cX4_endOfPart 18 = .ok (.getfield 40, 3) := by decide +kernel
theorem dX4_endOfPart_21 : decode cX4_endOfPart 21 = .ok (.getfield 118, 3) := by decide +kernel
theorem dX4_endOfPart_24 : decode cX4_endOfPart 24 = .ok (.iload_n 1, 1) := by decide +kernel
theorem dX4_endOfPart_25 : decode cX4_endOfPart 25 = .ok (.iaload, 1) := by decide +kernel
theorem dX4_endOfPart_26 : decode cX4_endOfPart 26 = .ok (.isub, 1) := by decide +kernel
theorem dX4_endOfPart_27 : decode cX4_endOfPart 27 = .ok (.imul, 1) := by decide +kernel
theorem dX4_endOfPart_28 : decode cX4_endOfPart 28 = .ok (.i2d, 1) := by decide +kernel
theorem dX4_endOfPart_29 : decode cX4_endOfPart 29 = .ok (.ldc2_w 121, 3) := by decide +kernel
theorem dX4_endOfPart_32 : decode cX4_endOfPart 32 = .ok (.ddiv, 1) := by decide +kernel
theorem dX4_endOfPart_33 : decode cX4_endOfPart 33 = .ok (.dreturn, 1) := by decide +kernel
theorem dX4_endOfPart_34 : decode cX4_endOfPart 34 = .ok (.iload_n 2, 1) := by decide +kernel
theorem dX4_endOfPart_35 : decode cX4_endOfPart 35 = .ok (.iconst 1, 1) := by decide +kernel
theorem dX4_endOfPart_36 : decode cX4_endOfPart 36 = .ok (.if_icmp .ne 25, 3) := by decide +kernel
theorem dX4_endOfPart_39 : decode cX4_endOfPart 39 = .ok (.iload_n 3, 1) := by decide +kernel
theorem dX4_endOfPart_40 : decode cX4_endOfPart 40 = .ok (.bipush 100, 2) := by decide +kernel
theorem dX4_endOfPart_42 : decode cX4_endOfPart 42 = .ok (.aload_n 0, 1) := by decide +kernel
theorem dX4_endOfPart_43 : decode cX4_endOfPart 43 = .ok (.getfield 40, 3) := by decide +kernel
theorem dX4_endOfPart_46 : decode cX4_endOfPart 46 = .ok (.getfield 118, 3) := by decide +kernel
theorem dX4_endOfPart_49 : decode cX4_endOfPart 49 = .ok (.iload_n 1, 1) := by decide +kernel
theorem dX4_endOfPart_50 : decode cX4_endOfPart 50 = .ok (.iaload, 1) := by decide +kernel
theorem dX4_endOfPart_51 : decode cX4_endOfPart 51 = .ok (.iadd, 1) := by decide +kernel
theorem dX4_endOfPart_52 : decode cX4_endOfPart 52 = .ok (.imul, 1) := by decide +kernel
theorem dX4_endOfPart_53 : decode cX4_endOfPart 53 = .ok (.i2d, 1) := by decide +kernel
theorem dX4_endOfPart_54 : decode cX4_endOfPart 54 = .ok (.ldc2_w 121, 3) := by decide +kernel
theorem dX4_endOfPart_57 : decode cX4_endOfPart 57 = .ok (.ddiv, 1) := by decide +kernel
theorem dX4_endOfPart_58 : decode cX4_endOfPart 58 = .ok (.goto 5, 3) := by decide +kernel
theorem dX4_endOfPart_61 : decode cX4_endOfPart 61 = .ok (.iload_n 3, 1) := by decide +kernel
theorem dX4_endOfPart_62 : decode cX4_endOfPart 62 = .ok (.i2d, 1) := by decide +kernel
theorem dX4_endOfPart_63 : decode cX4_endOfPart 63 = .ok (.dreturn, 1) := by decide +kernel
set_option maxRecDepth 20000 in
theorem ggX4_floatOf_X4_walk : GoodIn wsX4_floatOf wsX4_walk := goodIn_r _ [12, 1, 13, 14, 15, 16, 17, 18, 19, 20, 21, 22, 23, 24, 25, 26, 35, 36, 37, 38, 39, 40, 41, 42, 43, 50, 51, 52, 53, 54, 55, 56, 57, 58, 44, 45, 46, 47] (by decide +kernel) (by decide +kernel)
set_option maxRecDepth 20000 in
theorem gX4_floatOf_X4_walk : GoodIn wsX4_floatOf (wsV RX4 67 RX4 yX4_walk wsX4_walk) := goodIn_app (goodIn_of _ (by decide +kernel)) ggX4_floatOf_X4_walk
set_option maxRecDepth 20000 in
theorem ggX4_floatOf_X4_drawPart : GoodIn wsX4_floatOf wsX4_drawPart := goodIn_r _ [30, 31, 32, 6, 7, 33, 34, 35, 36, 37, 38, 39, 40, 41, 42, 43, 48, 49] (by decide +kernel) (by decide +kernel)
set_option maxRecDepth 20000 in
theorem gX4_floatOf_X4_drawPart : GoodIn wsX4_floatOf (wsV RX4 123 RX4 yX4_drawPart wsX4_drawPart) := goodIn_app (goodIn_of _ (by decide +kernel)) ggX4_floatOf_X4_drawPart
theorem dX4_floatOf_0 : decode cX4_floatOf 0 = .ok (.aload_n 0, 1) := by decide +kernel
theorem dX4_floatOf_1 : decode cX4_floatOf 1 = .ok (.iload_n 1, 1) := by decide +kernel
theorem dX4_floatOf_2 : decode cX4_floatOf 2 = .ok (.invokevirtual 67, 3) := by decide +kernel
theorem dX4_floatOf_5 : decode cX4_floatOf 5 = .ok (.iconst 0, 1) := by decide +kernel
theorem dX4_floatOf_6 : decode cX4_floatOf 6 = .ok (.istore_n 3, 1) := by decide +kernel
theorem dX4_floatOf_7 : decode cX4_floatOf 7 = .ok (.iconst 0, 1) := by decide +kernel
theorem dX4_floatOf_8 : decode cX4_floatOf 8 = .ok (.istore 4, 2) := by decide +kernel
theorem dX4_floatOf_10 : decode cX4_floatOf 10 = .ok (.iload 4, 2) := by decide +kernel
theorem dX4_floatOf_12 : decode cX4_floatOf 12 = .ok (.aload_n 0, 1) := by decide +kernel
theorem dX4_floatOf_13 : decode cX4_floatOf 13 = .ok (.getfield 12, 3) := by decide +kernel
theorem dX4_floatOf_16 : decode cX4_floatOf 16 = .ok (.getfield 75, 3) := by decide +kernel
theorem dX4_floatOf_19 : decode cX4_floatOf 19 = .ok (.if_icmp .ge 139, 3) := by decide +kernel
theorem dX4_floatOf_22 : decode cX4_floatOf 22 = .ok (.aload_n 0, 1) := by decide +kernel
theorem dX4_floatOf_23 : decode cX4_floatOf 23 = .ok (.getfield 12, 3) := by decide +kernel
theorem dX4_floatOf_26 : decode cX4_floatOf 26 = .ok (.getfield 79, 3) := by decide +kernel
theorem dX4_floatOf_29 : decode cX4_floatOf 29 = .ok (.iload 4, 2) := by decide +kernel
theorem dX4_floatOf_31 : decode cX4_floatOf 31 = .ok (.iaload, 1) := by decide +kernel
theorem dX4_floatOf_32 : decode cX4_floatOf 32 = .ok (.istore 5, 2) := by decide +kernel
theorem dX4_floatOf_34 : decode cX4_floatOf 34 = .ok (.iload 5, 2) := by decide +kernel
theorem dX4_floatOf_36 : decode cX4_floatOf 36 = .ok (.ifCond .ne 57, 3) := by decide +kernel
theorem dX4_floatOf_39 : decode cX4_floatOf 39 = .ok (.iload_n 3, 1) := by decide +kernel
theorem dX4_floatOf_40 : decode cX4_floatOf 40 = .ok (.bipush 12, 2) := by decide +kernel
theorem dX4_floatOf_42 : decode cX4_floatOf 42 = .ok (.if_icmp .ge 51, 3) := by decide +kernel
theorem dX4_floatOf_45 : decode cX4_floatOf 45 = .ok (.aload_n 0, 1) := by decide +kernel
theorem dX4_floatOf_46 : decode cX4_floatOf 46 = .ok (.getfield 12, 3) := by decide +kernel
theorem dX4_floatOf_49 : decode cX4_floatOf 49 = .ok (.getfield 80, 3) := by decide +kernel
theorem dX4_floatOf_52 : decode cX4_floatOf 52 = .ok (.iload 4, 2) := by decide +kernel
theorem dX4_floatOf_54 : decode cX4_floatOf 54 = .ok (.iaload, 1) := by decide +kernel
theorem dX4_floatOf_55 : decode cX4_floatOf 55 = .ok (.istore 6, 2) := by decide +kernel
theorem dX4_floatOf_57 : decode cX4_floatOf 57 = .ok (.aload_n 0, 1) := by decide +kernel
theorem dX4_floatOf_58 : decode cX4_floatOf 58 = .ok (.getfield 28, 3) := by decide +kernel
theorem dX4_floatOf_61 : decode cX4_floatOf 61 = .ok (.iload_n 3, 1) := by decide +kernel
theorem dX4_floatOf_62 : decode cX4_floatOf 62 = .ok (.iload_n 2, 1) := by decide +kernel
theorem dX4_floatOf_63 : decode cX4_floatOf 63 = .ok (.ifCond .eq 12, 3) := by decide +kernel
theorem dX4_floatOf_66 : decode cX4_floatOf 66 = .ok (.aload_n 0, 1) := by decide +kernel
theorem dX4_floatOf_67 : decode cX4_floatOf 67 = .ok (.iload 6, 2) := by decide +kernel
theorem dX4_floatOf_69 : decode cX4_floatOf 69 = .ok (.invokevirtual 123, 3) := by decide +kernel
theorem dX4_floatOf_72 : decode cX4_floatOf 72 = .ok (.goto 14, 3) := by decide +kernel
theorem dX4_floatOf_75 : decode cX4_floatOf 75 = .ok (.aload_n 0, 1) := by decide +kernel
theorem dX4_floatOf_76 : decode cX4_floatOf 76 = .ok (.getfield 40, 3) := by decide +kernel
theorem dX4_floatOf_79 : decode cX4_floatOf 79 = .ok (.getfield 101, 3) := by decide +kernel
theorem dX4_floatOf_82 : decode cX4_floatOf 82 = .ok (.iload 6, 2) := by decide +kernel
theorem dX4_floatOf_84 : decode cX4_floatOf 84 = .ok (.iaload, 1) := by decide +kernel
theorem dX4_floatOf_85 : decode cX4_floatOf 85 = .ok (.i2f, 1) := by decide +kernel
theorem dX4_floatOf_86 : decode cX4_floatOf 86 = .ok (.fastore, 1) := by decide +kernel
theorem dX4_floatOf_87 : decode cX4_floatOf 87 = .ok (.iinc 3 1, 3) := by decide +kernel
theorem dX4_floatOf_90 : decode cX4_floatOf 90 = .ok (.goto 62, 3) := by decide +kernel
theorem dX4_floatOf_93 : decode cX4_floatOf 93 = .ok (.iload_n 3, 1) := by decide +kernel
theorem dX4_floatOf_94 : decode cX4_floatOf 94 = .ok (.iconst 2, 1) := by decide +kernel
theorem dX4_floatOf_95 : decode cX4_floatOf 95 = .ok (.if_icmp .lt 57, 3) := by decide +kernel
theorem dX4_floatOf_98 : decode cX4_floatOf 98 = .ok (.iinc 3 (-1), 3) := by decide +kernel
theorem dX4_floatOf_101 : decode cX4_floatOf 101 = .ok (.aload_n 0, 1) := by decide +kernel
theorem dX4_floatOf_102 : decode cX4_floatOf 102 = .ok (.getfield 28, 3) := by decide +kernel
theorem dX4_floatOf_105 : decode cX4_floatOf 105 = .ok (.iload_n 3, 1) := by decide +kernel
theorem dX4_floatOf_106 : decode cX4_floatOf 106 = .ok (.iconst 1, 1) := by decide +kernel
theorem dX4_floatOf_107 : decode cX4_floatOf 107 = .ok (.isub, 1) := by decide +kernel
theorem dX4_floatOf_108 : decode cX4_floatOf 108 = .ok (.faload, 1) := by decide +kernel
theorem dX4_floatOf_109 : decode cX4_floatOf 109 = .ok (.fstore 6, 2) := by decide +kernel
theorem dX4_floatOf_111 : decode cX4_floatOf 111 = .ok (.aload_n 0, 1) := by decide +kernel
theorem dX4_floatOf_112 : decode cX4_floatOf 112 = .ok (.getfield 28, 3) := by decide +kernel
theorem dX4_floatOf_115 : decode cX4_floatOf 115 = .ok (.iload_n 3, 1) := by decide +kernel
theorem dX4_floatOf_116 : decode cX4_floatOf 116 = .ok (.faload, 1) := by decide +kernel
theorem dX4_floatOf_117 : decode cX4_floatOf 117 = .ok (.fstore 7, 2) := by decide +kernel
theorem dX4_floatOf_119 : decode cX4_floatOf 119 = .ok (.aload_n 0, 1) := by decide +kernel
theorem dX4_floatOf_120 : decode cX4_floatOf 120 = .ok (.getfield 28, 3) := by decide +kernel
theorem dX4_floatOf_123 : decode cX4_floatOf 123 = .ok (.iload_n 3, 1) := by decide +kernel
theorem dX4_floatOf_124 : decode cX4_floatOf 124 = .ok (.iconst 1, 1) := by decide +kernel
theorem dX4_floatOf_125 : decode cX4_floatOf 125 = .ok (.isub, 1) := by decide +kernel
theorem dX4_floatOf_126 : decode cX4_floatOf 126 = .ok (.iload 5, 2) := by decide +kernel
theorem dX4_floatOf_128 : decode cX4_floatOf 128 = .ok (.iconst 1, 1) := by decide +kernel
theorem dX4_floatOf_129 : decode cX4_floatOf 129 = .ok (.if_icmp .ne 11, 3) := by decide +kernel
theorem dX4_floatOf_132 : decode cX4_floatOf 132 = .ok (.fload 6, 2) := by decide +kernel
theorem dX4_floatOf_134 : decode cX4_floatOf 134 = .ok (.fload 7, 2) := by decide +kernel
theorem dX4_floatOf_136 : decode cX4_floatOf 136 = .ok (.fadd, 1) := by decide +kernel
theorem dX4_floatOf_137 : decode cX4_floatOf 137 = .ok (.goto 14, 3) := by decide +kernel
theorem dX4_floatOf_140 : decode cX4_floatOf 140 = .ok (.fconst 1, 1) := by decide +kernel
theorem dX4_floatOf_141 : decode cX4_floatOf 141 = .ok (.fconst 1, 1) := by decide +kernel
theorem dX4_floatOf_142 : decode cX4_floatOf 142 = .ok (.fload 6, 2) := by decide +kernel
theorem dX4_floatOf_144 : decode cX4_floatOf 144 = .ok (.fdiv, 1) := by decide +kernel
theorem dX4_floatOf_145 : decode cX4_floatOf 145 = .ok (.fconst 1, 1) := by decide +kernel
theorem dX4_floatOf_146 : decode cX4_floatOf 146 = .ok (.fload 7, 2) := by decide +kernel
theorem dX4_floatOf_148 : decode cX4_floatOf 148 = .ok (.fdiv, 1) := by decide +kernel
theorem dX4_floatOf_149 : decode cX4_floatOf 149 = .ok (.fadd, 1) := by decide +kernel
theorem dX4_floatOf_150 : decode cX4_floatOf 150 = .ok (.fdiv, 1) := by decide +kernel
theorem dX4_floatOf_151 : decode cX4_floatOf 151 = .ok (.fastore, 1) := by decide +kernel
theorem dX4_floatOf_152 : decode cX4_floatOf 152 = .ok (.iinc 4 1, 3) := by decide +kernel
theorem dX4_floatOf_155 : decode cX4_floatOf 155 = .ok (.goto (-145), 3) := by decide +kernel
theorem dX4_floatOf_158 : decode cX4_floatOf 158 = .ok (.aload_n 0, 1) := by decide +kernel
theorem dX4_floatOf_159 : decode cX4_floatOf 159 = .ok (.getfield 28, 3) := by decide +kernel
theorem dX4_floatOf_162 : decode cX4_floatOf 162 = .ok (.iconst 0, 1) := by decide +kernel
theorem dX4_floatOf_163 : decode cX4_floatOf 163 = .ok (.faload, 1) := by decide +kernel
theorem dX4_floatOf_164 : decode cX4_floatOf 164 = .ok (.freturn, 1) := by decide +kernel
theorem dX4_drawPart_0 : decode cX4_drawPart 0 = .ok (.aload_n 0, 1) := by decide +kernel
theorem dX4_drawPart_1 : decode cX4_drawPart 1 = .ok (.aload_n 0, 1) := by decide +kernel
theorem dX4_drawPart_2 : decode cX4_drawPart 2 = .ok (.getfield 127, 3) := by decide +kernel
theorem dX4_drawPart_5 : decode cX4_drawPart 5 = .ok (.ldc 130, 2) := by decide +kernel
theorem dX4_drawPart_7 : decode cX4_drawPart 7 = .ok (.imul, 1) := by decide +kernel
theorem dX4_drawPart_8 : decode cX4_drawPart 8 = .ok (.sipush 12345, 3) := by decide +kernel
theorem dX4_drawPart_11 : decode cX4_drawPart 11 = .ok (.iadd, 1) := by decide +kernel
theorem dX4_drawPart_12 : decode cX4_drawPart 12 = .ok (.putfield 127, 3) := by decide +kernel
theorem dX4_drawPart_15 : decode cX4_drawPart 15 = .ok (.aload_n 0, 1) := by decide +kernel
theorem dX4_drawPart_16 : decode cX4_drawPart 16 = .ok (.getfield 127, 3) := by decide +kernel
theorem dX4_drawPart_19 : decode cX4_drawPart 19 = .ok (.bipush 16, 2) := by decide +kernel
theorem dX4_drawPart_21 : decode cX4_drawPart 21 = .ok (.iushr, 1) := by decide +kernel
theorem dX4_drawPart_22 : decode cX4_drawPart 22 = .ok (.sipush 201, 3) := by decide +kernel
theorem dX4_drawPart_25 : decode cX4_drawPart 25 = .ok (.irem, 1) := by decide +kernel
theorem dX4_drawPart_26 : decode cX4_drawPart 26 = .ok (.bipush 100, 2) := by decide +kernel
theorem dX4_drawPart_28 : decode cX4_drawPart 28 = .ok (.isub, 1) := by decide +kernel
theorem dX4_drawPart_29 : decode cX4_drawPart 29 = .ok (.istore_n 2, 1) := by decide +kernel
theorem dX4_drawPart_30 : decode cX4_drawPart 30 = .ok (.aload_n 0, 1) := by decide +kernel
theorem dX4_drawPart_31 : decode cX4_drawPart 31 = .ok (.getfield 40, 3) := by decide +kernel
theorem dX4_drawPart_34 : decode cX4_drawPart 34 = .ok (.getfield 101, 3) := by decide +kernel
theorem dX4_drawPart_37 : decode cX4_drawPart 37 = .ok (.iload_n 1, 1) := by decide +kernel
theorem dX4_drawPart_38 : decode cX4_drawPart 38 = .ok (.iaload, 1) := by decide +kernel
theorem dX4_drawPart_39 : decode cX4_drawPart 39 = .ok (.i2f, 1) := by decide +kernel
theorem dX4_drawPart_40 : decode cX4_drawPart 40 = .ok (.fstore_n 3, 1) := by decide +kernel
theorem dX4_drawPart_41 : decode cX4_drawPart 41 = .ok (.fload_n 3, 1) := by decide +kernel
theorem dX4_drawPart_42 : decode cX4_drawPart 42 = .ok (.fload_n 3, 1) := by decide +kernel
theorem dX4_drawPart_43 : decode cX4_drawPart 43 = .ok (.aload_n 0, 1) := by decide +kernel
theorem dX4_drawPart_44 : decode cX4_drawPart 44 = .ok (.getfield 40, 3) := by decide +kernel
theorem dX4_drawPart_47 : decode cX4_drawPart 47 = .ok (.getfield 118, 3) := by decide +kernel
theorem dX4_drawPart_50 : decode cX4_drawPart 50 = .ok (.iload_n 1, 1) := by decide +kernel
theorem dX4_drawPart_51 : decode cX4_drawPart 51 = .ok (.iaload, 1) := by decide +kernel
theorem dX4_drawPart_52 : decode cX4_drawPart 52 = .ok (.iload_n 2, 1) := by decide +kernel
theorem dX4_drawPart_53 : decode cX4_drawPart 53 = .ok (.imul, 1) := by decide +kernel
theorem dX4_drawPart_54 : decode cX4_drawPart 54 = .ok (.i2f, 1) := by decide +kernel
theorem dX4_drawPart_55 : decode cX4_drawPart 55 = .ok (.fmul, 1) := by decide +kernel
theorem dX4_drawPart_56 : decode cX4_drawPart 56 = .ok (.ldc 131, 2) := by decide +kernel
theorem dX4_drawPart_58 : decode cX4_drawPart 58 = .ok (.fdiv, 1) := by decide +kernel
theorem dX4_drawPart_59 : decode cX4_drawPart 59 = .ok (.fadd, 1) := by decide +kernel
theorem dX4_drawPart_60 : decode cX4_drawPart 60 = .ok (.freturn, 1) := by decide +kernel
theorem dX5_init_0 : decode cX5_init 0 = .ok (.aload_n 0, 1) := by decide +kernel
theorem dX5_init_1 : decode cX5_init 1 = .ok (.invokespecial 3, 3) := by decide +kernel
theorem dX5_init_4 : decode cX5_init 4 = .ok (.aload_n 0, 1) := by decide +kernel
theorem dX5_init_5 : decode cX5_init 5 = .ok (.bipush 40, 2) := by decide +kernel
theorem dX5_init_7 : decode cX5_init 7 = .ok (.newarray .int, 2) := by decide +kernel
theorem dX5_init_9 : decode cX5_init 9 = .ok (.putfield 9, 3) := by decide +kernel
theorem dX5_init_12 : decode cX5_init 12 = .ok (.aload_n 0, 1) := by decide +kernel
theorem dX5_init_13 : decode cX5_init 13 = .ok (.bipush 40, 2) := by decide +kernel
theorem dX5_init_15 : decode cX5_init 15 = .ok (.newarray .int, 2) := by decide +kernel
theorem dX5_init_17 : decode cX5_init 17 = .ok (.putfield 15, 3) := by decide +kernel
theorem dX5_init_20 : decode cX5_init 20 = .ok (.aload_n 0, 1) := by decide +kernel
theorem dX5_init_21 : decode cX5_init 21 = .ok (.bipush 40, 2) := by decide +kernel
theorem dX5_init_23 : decode cX5_init 23 = .ok (.newarray .int, 2) := by decide +kernel
theorem dX5_init_25 : decode cX5_init 25 = .ok (.putfield 18, 3) := by decide +kernel
theorem dX5_init_28 : decode cX5_init 28 = .ok (.aload_n 0, 1) := by decide +kernel
theorem dX5_init_29 : decode cX5_init 29 = .ok (.bipush 40, 2) := by decide +kernel
theorem dX5_init_31 : decode cX5_init 31 = .ok (.newarray .int, 2) := by decide +kernel
theorem dX5_init_33 : decode cX5_init 33 = .ok (.putfield 21, 3) := by decide +kernel
theorem dX5_init_36 : decode cX5_init 36 = .ok (.aload_n 0, 1) := by decide +kernel
theorem dX5_init_37 : decode cX5_init 37 = .ok (.bipush 40, 2) := by decide +kernel
theorem dX5_init_39 : decode cX5_init 39 = .ok (.newarray .int, 2) := by decide +kernel
theorem dX5_init_41 : decode cX5_init 41 = .ok (.putfield 24, 3) := by decide +kernel
theorem dX5_init_44 : decode cX5_init 44 = .ok (.aload_n 0, 1) := by decide +kernel
theorem dX5_init_45 : decode cX5_init 45 = .ok (.bipush 45, 2) := by decide +kernel
theorem dX5_init_47 : decode cX5_init 47 = .ok (.newarray .int, 2) := by decide +kernel
theorem dX5_init_49 : decode cX5_init 49 = .ok (.putfield 27, 3) := by decide +kernel
theorem dX5_init_52 : decode cX5_init 52 = .ok (.aload_n 0, 1) := by decide +kernel
theorem dX5_init_53 : decode cX5_init 53 = .ok (.bipush 60, 2) := by decide +kernel
theorem dX5_init_55 : decode cX5_init 55 = .ok (.newarray .int, 2) := by decide +kernel
theorem dX5_init_57 : decode cX5_init 57 = .ok (.putfield 30, 3) := by decide +kernel
theorem dX5_init_60 : decode cX5_init 60 = .ok (.aload_n 0, 1) := by decide +kernel
theorem dX5_init_61 : decode cX5_init 61 = .ok (.bipush 12, 2) := by decide +kernel
theorem dX5_init_63 : decode cX5_init 63 = .ok (.newarray .int, 2) := by decide +kernel
theorem dX5_init_65 : decode cX5_init 65 = .ok (.putfield 33, 3) := by decide +kernel
theorem dX5_init_68 : decode cX5_init 68 = .ok (.return_, 1) := by decide +kernel
theorem dX5_has_0 : decode cX5_has 0 = .ok (.iload_n 1, 1) := by decide +kernel
theorem dX5_has_1 : decode cX5_has 1 = .ok (.ifCond .lt 21, 3) := by decide +kernel
theorem dX5_has_4 : decode cX5_has 4 = .ok (.iload_n 1, 1) := by decide +kernel
theorem dX5_has_5 : decode cX5_has 5 = .ok (.aload_n 0, 1) := by decide +kernel
theorem dX5_has_6 : decode cX5_has 6 = .ok (.getfield 36, 3) := by decide +kernel
theorem dX5_has_9 : decode cX5_has 9 = .ok (.if_icmp .ge 13, 3) := by decide +kernel
theorem dX5_has_12 : decode cX5_has 12 = .ok (.iload_n 1, 1) := by decide +kernel
theorem dX5_has_13 : decode cX5_has 13 = .ok (.bipush 40, 2) := by decide +kernel
theorem dX5_has_15 : decode cX5_has 15 = .ok (.if_icmp .ge 7, 3) := by decide +kernel
theorem dX5_has_18 : decode cX5_has 18 = .ok (.iconst 1, 1) := by decide +kernel
theorem dX5_has_19 : decode cX5_has 19 = .ok (.goto 4, 3) := by decide +kernel
theorem dX5_has_22 : decode cX5_has 22 = .ok (.iconst 0, 1) := by decide +kernel
theorem dX5_has_23 : decode cX5_has 23 = .ok (.ireturn, 1) := by decide +kernel
theorem dX5_find_0 : decode cX5_find 0 = .ok (.iconst 0, 1) := by decide +kernel
theorem dX5_find_1 : decode cX5_find 1 = .ok (.istore 4, 2) := by decide +kernel
theorem dX5_find_3 : decode cX5_find 3 = .ok (.iload 4, 2) := by decide +kernel
theorem dX5_find_5 : decode cX5_find 5 = .ok (.aload_n 0, 1) := by decide +kernel
theorem dX5_find_6 : decode cX5_find 6 = .ok (.getfield 36, 3) := by decide +kernel
theorem dX5_find_9 : decode cX5_find 9 = .ok (.if_icmp .ge 45, 3) := by decide +kernel
theorem dX5_find_12 : decode cX5_find 12 = .ok (.aload_n 0, 1) := by decide +kernel
theorem dX5_find_13 : decode cX5_find 13 = .ok (.getfield 9, 3) := by decide +kernel
theorem dX5_find_16 : decode cX5_find 16 = .ok (.iload 4, 2) := by decide +kernel
theorem dX5_find_18 : decode cX5_find 18 = .ok (.iaload, 1) := by decide +kernel
theorem dX5_find_19 : decode cX5_find 19 = .ok (.iload_n 1, 1) := by decide +kernel
theorem dX5_find_20 : decode cX5_find 20 = .ok (.if_icmp .ne 28, 3) := by decide +kernel
theorem dX5_find_23 : decode cX5_find 23 = .ok (.aload_n 0, 1) := by decide +kernel
theorem dX5_find_24 : decode cX5_find 24 = .ok (.getfield 15, 3) := by decide +kernel
theorem dX5_find_27 : decode cX5_find 27 = .ok (.iload 4, 2) := by decide +kernel
theorem dX5_find_29 : decode cX5_find 29 = .ok (.iaload, 1) := by decide +kernel
theorem dX5_find_30 : decode cX5_find 30 = .ok (.iload_n 2, 1) := by decide +kernel
theorem dX5_find_31 : decode cX5_find 31 = .ok (.if_icmp .ne 17, 3) := by decide +kernel
theorem dX5_find_34 : decode cX5_find 34 = .ok (.aload_n 0, 1) := by decide +kernel
theorem dX5_find_35 : decode cX5_find 35 = .ok (.getfield 18, 3) := by decide +kernel
theorem dX5_find_38 : decode cX5_find 38 = .ok (.iload 4, 2) := by decide +kernel
theorem dX5_find_40 : decode cX5_find 40 = .ok (.iaload, 1) := by decide +kernel
theorem dX5_find_41 : decode cX5_find 41 = .ok (.iload_n 3, 1) := by decide +kernel
theorem dX5_find_42 : decode cX5_find 42 = .ok (.if_icmp .ne 6, 3) := by decide +kernel
theorem dX5_find_45 : decode cX5_find 45 = .ok (.iload 4, 2) := by decide +kernel
theorem dX5_find_47 : decode cX5_find 47 = .ok (.ireturn, 1) := by decide +kernel
theorem dX5_find_48 : decode cX5_find 48 = .ok (.iinc 4 1, 3) := by decide +kernel
theorem dX5_find_51 : decode cX5_find 51 = .ok (.goto (-48), 3) := by decide +kernel
theorem dX5_find_54 : decode cX5_find 54 = .ok (.iconst (-1), 1) := by decide +kernel
theorem dX5_find_55 : decode cX5_find 55 = .ok (.ireturn, 1) := by decide +kernel
set_option maxRecDepth 20000 in
theorem ggX5_partOf_X5_find : GoodIn wsX5_partOf wsX5_find := goodIn_r _ [5, 6, 7, 8, 9, 10, 11, 12, 13, 14, 15, 16, 17, 18] (by decide +kernel) (by decide +kernel)
set_option maxRecDepth 20000 in
theorem gX5_partOf_X5_find : GoodIn wsX5_partOf (wsV RX5 40 RX5 yX5_find wsX5_find) := goodIn_app (goodIn_of _ (by decide +kernel)) ggX5_partOf_X5_find
theorem dX5_partOf_0 : decode cX5_partOf 0 = .ok (.aload_n 0, 1) := by decide +kernel
theorem dX5_partOf_1 : decode cX5_partOf 1 = .ok (.iconst 0, 1) := by decide +kernel
theorem dX5_partOf_2 : decode cX5_partOf 2 = .ok (.iload_n 1, 1) := by decide +kernel
theorem dX5_partOf_3 : decode cX5_partOf 3 = .ok (.iconst (-1), 1) := by decide +kernel
theorem dX5_partOf_4 : decode cX5_partOf 4 = .ok (.invokevirtual 40, 3) := by decide +kernel
theorem dX5_partOf_7 : decode cX5_partOf 7 = .ok (.ireturn, 1) := by decide +kernel
set_option maxRecDepth 20000 in
theorem ggX5_keepPart_X5_partOf : GoodIn wsX5_keepPart wsX5_partOf := goodIn_r _ [5, 6, 7, 8, 4, 9, 10, 11, 12, 13, 19, 20, 21, 22, 23, 24, 25, 26, 27] (by decide +kernel) (by decide +kernel)
set_option maxRecDepth 20000 in
theorem gX5_keepPart_X5_partOf : GoodIn wsX5_keepPart (wsV RX5 44 RX5 yX5_partOf wsX5_partOf) := goodIn_app (goodIn_of _ (by decide +kernel)) ggX5_keepPart_X5_partOf
set_option maxRecDepth 20000 in
theorem ggX5_keepPart_X5_add : GoodIn wsX5_keepPart wsX5_add := goodIn_r _ [17, 10, 11, 12, 13, 18, 19, 20, 21, 22, 23, 24, 25, 26, 27] (by decide +kernel) (by decide +kernel)
set_option maxRecDepth 20000 in
theorem gX5_keepPart_X5_add : GoodIn wsX5_keepPart (wsV RX5 48 RX5 yX5_add wsX5_add) := goodIn_app (goodIn_of _ (by decide +kernel)) ggX5_keepPart_X5_add
theorem dX5_keepPart_0 : decode cX5_keepPart 0 = .ok (.aload_n 0, 1) := by decide +kernel
theorem dX5_keepPart_1 : decode cX5_keepPart 1 = .ok (.iload_n 1, 1) := by decide +kernel
theorem dX5_keepPart_2 : decode cX5_keepPart 2 = .ok (.invokevirtual 44, 3) := by decide +kernel
theorem dX5_keepPart_5 : decode cX5_keepPart 5 = .ok (.istore_n 2, 1) := by decide +kernel
theorem dX5_keepPart_6 : decode cX5_keepPart 6 = .ok (.iload_n 2, 1) := by decide +kernel
theorem dX5_keepPart_7 : decode cX5_keepPart 7 = .ok (.iconst (-1), 1) := by decide +kernel
theorem dX5_keepPart_8 : decode cX5_keepPart 8 = .ok (.if_icmp .ne 14, 3) := by decide +kernel
theorem dX5_keepPart_11 : decode cX5_keepPart 11 = .ok (.aload_n 0, 1) := by decide +kernel
theorem dX5_keepPart_12 : decode cX5_keepPart 12 = .ok (.iconst 0, 1) := by decide +kernel
theorem dX5_keepPart_13 : decode cX5_keepPart 13 = .ok (.iload_n 1, 1) := by decide +kernel
theorem dX5_keepPart_14 : decode cX5_keepPart 14 = .ok (.iconst (-1), 1) := by decide +kernel
theorem dX5_keepPart_15 : decode cX5_keepPart 15 = .ok (.iconst 1, 1) := by decide +kernel
theorem dX5_keepPart_16 : decode cX5_keepPart 16 = .ok (.invokevirtual 48, 3) := by decide +kernel
theorem dX5_keepPart_19 : decode cX5_keepPart 19 = .ok (.goto 4, 3) := by decide +kernel
theorem dX5_keepPart_22 : decode cX5_keepPart 22 = .ok (.iload_n 2, 1) := by decide +kernel
theorem dX5_keepPart_23 : decode cX5_keepPart 23 = .ok (.ireturn, 1) := by decide +kernel
set_option maxRecDepth 20000 in
theorem ggX5_keepJoin_X5_find : GoodIn wsX5_keepJoin wsX5_find := goodIn_r _ [6, 7, 8, 9, 10, 15, 16, 17, 18, 19, 20, 21, 22, 23] (by decide +kernel) (by decide +kernel)
set_option maxRecDepth 20000 in
theorem gX5_keepJoin_X5_find : GoodIn wsX5_keepJoin (wsV RX5 40 RX5 yX5_find wsX5_find) := goodIn_app (goodIn_of _ (by decide +kernel)) ggX5_keepJoin_X5_find
set_option maxRecDepth 20000 in
theorem ggX5_keepJoin_X5_add : GoodIn wsX5_keepJoin wsX5_add := goodIn_r _ [14, 7, 8, 9, 10, 1, 15, 16, 17, 18, 19, 20, 21, 22, 23] (by decide +kernel) (by decide +kernel)
set_option maxRecDepth 20000 in
theorem gX5_keepJoin_X5_add : GoodIn wsX5_keepJoin (wsV RX5 48 RX5 yX5_add wsX5_add) := goodIn_app (goodIn_of _ (by decide +kernel)) ggX5_keepJoin_X5_add
theorem dX5_keepJoin_0 : decode cX5_keepJoin 0 = .ok (.aload_n 0, 1) := by decide +kernel
theorem dX5_keepJoin_1 : decode cX5_keepJoin 1 = .ok (.getfield 21, 3) := by decide +kernel
theorem dX5_keepJoin_4 : decode cX5_keepJoin 4 = .ok (.iload_n 2, 1) := by decide +kernel
theorem dX5_keepJoin_5 : decode cX5_keepJoin 5 = .ok (.iaload, 1) := by decide +kernel
theorem dX5_keepJoin_6 : decode cX5_keepJoin 6 = .ok (.aload_n 0, 1) := by decide +kernel
theorem dX5_keepJoin_7 : decode cX5_keepJoin 7 = .ok (.getfield 21, 3) := by decide +kernel
theorem dX5_keepJoin_10 : decode cX5_keepJoin 10 = .ok (.iload_n 3, 1) := by decide +kernel
theorem dX5_keepJoin_11 : decode cX5_keepJoin 11 = .ok (.iaload, 1) := by decide +kernel
theorem dX5_keepJoin_12 : decode cX5_keepJoin 12 = .ok (.iadd, 1) := by decide +kernel
theorem dX5_keepJoin_13 : decode cX5_keepJoin 13 = .ok (.istore 4, 2) := by decide +kernel
theorem dX5_keepJoin_15 : decode cX5_keepJoin 15 = .ok (.iload 4, 2) := by decide +kernel
theorem dX5_keepJoin_17 : decode cX5_keepJoin 17 = .ok (.bipush 12, 2) := by decide +kernel
theorem dX5_keepJoin_19 : decode cX5_keepJoin 19 = .ok (.if_icmp .le 6, 3) := by decide +kernel
theorem dX5_keepJoin_22 : decode cX5_keepJoin 22 = .ok (.bipush (-7), 2) := by decide +kernel
theorem dX5_keepJoin_24 : decode cX5_keepJoin 24 = .ok (.ireturn, 1) := by decide +kernel
theorem dX5_keepJoin_25 : decode cX5_keepJoin 25 = .ok (.aload_n 0, 1) := by decide +kernel
theorem dX5_keepJoin_26 : decode cX5_keepJoin 26 = .ok (.iload_n 1, 1) := by decide +kernel
theorem dX5_keepJoin_27 : decode cX5_keepJoin 27 = .ok (.iload_n 2, 1) := by decide +kernel
theorem dX5_keepJoin_28 : decode cX5_keepJoin 28 = .ok (.iload_n 3, 1) := by decide +kernel
theorem dX5_keepJoin_29 : decode cX5_keepJoin 29 = .ok (.invokevirtual 40, 3) := by decide +kernel
theorem dX5_keepJoin_32 : decode cX5_keepJoin 32 = .ok (.istore 5, 2) := by decide +kernel
theorem dX5_keepJoin_34 : decode cX5_keepJoin 34 = .ok (.iload 5, 2) := by decide +kernel
theorem dX5_keepJoin_36 : decode cX5_keepJoin 36 = .ok (.iconst (-1), 1) := by decide +kernel
theorem dX5_keepJoin_37 : decode cX5_keepJoin 37 = .ok (.if_icmp .ne 15, 3) := by decide +kernel
theorem dX5_keepJoin_40 : decode cX5_keepJoin 40 = .ok (.aload_n 0, 1) := by decide +kernel
theorem dX5_keepJoin_41 : decode cX5_keepJoin 41 = .ok (.iload_n 1, 1) := by decide +kernel
theorem dX5_keepJoin_42 : decode cX5_keepJoin 42 = .ok (.iload_n 2, 1) := by decide +kernel
theorem dX5_keepJoin_43 : decode cX5_keepJoin 43 = .ok (.iload_n 3, 1) := by decide +kernel
theorem dX5_keepJoin_44 : decode cX5_keepJoin 44 = .ok (.iload 4, 2) := by decide +kernel
theorem dX5_keepJoin_46 : decode cX5_keepJoin 46 = .ok (.invokevirtual 48, 3) := by decide +kernel
theorem dX5_keepJoin_49 : decode cX5_keepJoin 49 = .ok (.goto 5, 3) := by decide +kernel
theorem dX5_keepJoin_52 : decode cX5_keepJoin 52 = .ok (.iload 5, 2) := by decide +kernel
theorem dX5_keepJoin_54 : decode cX5_keepJoin 54 = .ok (.ireturn, 1) := by decide +kernel
theorem dX5_add_0 : decode cX5_add 0 = .ok (.aload_n 0, 1) := by decide +kernel
theorem dX5_add_1 : decode cX5_add 1 = .ok (.getfield 36, 3) := by decide +kernel
theorem dX5_add_4 : decode cX5_add 4 = .ok (.bipush 40, 2) := by decide +kernel
theorem dX5_add_6 : decode cX5_add 6 = .ok (.if_icmp .lt 6, 3) := by decide +kernel
theorem dX5_add_9 : decode cX5_add 9 = .ok (.bipush (-3), 2) := by decide +kernel
theorem dX5_add_11 : decode cX5_add 11 = .ok (.ireturn, 1) := by decide +kernel
theorem dX5_add_12 : decode cX5_add 12 = .ok (.aload_n 0, 1) := by decide +kernel
theorem dX5_add_13 : decode cX5_add 13 = .ok (.getfield 9, 3) := by decide +kernel
theorem dX5_add_16 : decode cX5_add 16 = .ok (.aload_n 0, 1) := by decide +kernel
theorem dX5_add_17 : decode cX5_add 17 = .ok (.getfield 36, 3) := by decide +kernel
theorem dX5_add_20 : decode cX5_add 20 = .ok (.iload_n 1, 1) := by decide +kernel
theorem dX5_add_21 : decode cX5_add 21 = .ok (.iastore, 1) := by decide +kernel
theorem dX5_add_22 : decode cX5_add 22 = .ok (.aload_n 0, 1) := by decide +kernel
theorem dX5_add_23 : decode cX5_add 23 = .ok (.getfield 15, 3) := by decide +kernel
theorem dX5_add_26 : decode cX5_add 26 = .ok (.aload_n 0, 1) := by decide +kernel
theorem dX5_add_27 : decode cX5_add 27 = .ok (.getfield 36, 3) := by decide +kernel
theorem dX5_add_30 : decode cX5_add 30 = .ok (.iload_n 2, 1) := by decide +kernel
theorem dX5_add_31 : decode cX5_add 31 = .ok (.iastore, 1) := by decide +kernel
theorem dX5_add_32 : decode cX5_add 32 = .ok (.aload_n 0, 1) := by decide +kernel
theorem dX5_add_33 : decode cX5_add 33 = .ok (.getfield 18, 3) := by decide +kernel
theorem dX5_add_36 : decode cX5_add 36 = .ok (.aload_n 0, 1) := by decide +kernel
theorem dX5_add_37 : decode cX5_add 37 = .ok (.getfield 36, 3) := by decide +kernel
theorem dX5_add_40 : decode cX5_add 40 = .ok (.iload_n 3, 1) := by decide +kernel
theorem dX5_add_41 : decode cX5_add 41 = .ok (.iastore, 1) := by decide +kernel
theorem dX5_add_42 : decode cX5_add 42 = .ok (.aload_n 0, 1) := by decide +kernel
theorem dX5_add_43 : decode cX5_add 43 = .ok (.getfield 21, 3) := by decide +kernel
theorem dX5_add_46 : decode cX5_add 46 = .ok (.aload_n 0, 1) := by decide +kernel
theorem dX5_add_47 : decode cX5_add 47 = .ok (.getfield 36, 3) := by decide +kernel
theorem dX5_add_50 : decode cX5_add 50 = .ok (.iload 4, 2) := by decide +kernel
theorem dX5_add_52 : decode cX5_add 52 = .ok (.iastore, 1) := by decide +kernel
theorem dX5_add_53 : decode cX5_add 53 = .ok (.aload_n 0, 1) := by decide +kernel
theorem dX5_add_54 : decode cX5_add 54 = .ok (.dup, 1) := by decide +kernel
theorem dX5_add_55 : decode cX5_add 55 = .ok (.getfield 36, 3) := by decide +kernel
theorem dX5_add_58 : decode cX5_add 58 = .ok (.iconst 1, 1) := by decide +kernel
theorem dX5_add_59 : decode cX5_add 59 = .ok (.iadd, 1) := by decide +kernel
theorem dX5_add_60 : decode cX5_add 60 = .ok (.putfield 36, 3) := by decide +kernel
theorem dX5_add_63 : decode cX5_add 63 = .ok (.aload_n 0, 1) := by decide +kernel
theorem dX5_add_64 : decode cX5_add 64 = .ok (.getfield 36, 3) := by decide +kernel
theorem dX5_add_67 : decode cX5_add 67 = .ok (.iconst 1, 1) := by decide +kernel
theorem dX5_add_68 : decode cX5_add 68 = .ok (.isub, 1) := by decide +kernel
theorem dX5_add_69 : decode cX5_add 69 = .ok (.ireturn, 1) := by decide +kernel
set_option maxRecDepth 20000 in
theorem ggX5_keepPlan_X5_keepPart : GoodIn wsX5_keepPlan wsX5_keepPart := goodIn_r _ [9, 10, 11, 12, 8, 13, 14, 15, 16, 17, 18, 19, 20, 21, 22, 23, 24, 25, 26, 35, 36, 37, 38, 39, 40, 41, 42, 43] (by decide +kernel) (by decide +kernel)
set_option maxRecDepth 20000 in
theorem gX5_keepPlan_X5_keepPart : GoodIn wsX5_keepPlan (wsV RX5 61 RX5 yX5_keepPart wsX5_keepPart) := goodIn_app (goodIn_of _ (by decide +kernel)) ggX5_keepPlan_X5_keepPart
set_option maxRecDepth 20000 in
theorem ggX5_keepPlan_X5_keepJoin : GoodIn wsX5_keepPlan wsX5_keepJoin := goodIn_r _ [30, 26, 14, 15, 16, 8, 17, 18, 19, 20, 21, 22, 23, 24, 25, 35, 36, 37, 38, 39, 40, 41, 42, 43] (by decide +kernel) (by decide +kernel)
set_option maxRecDepth 20000 in
theorem gX5_keepPlan_X5_keepJoin : GoodIn wsX5_keepPlan (wsV RX5 64 RX5 yX5_keepJoin wsX5_keepJoin) := goodIn_app (goodIn_of _ (by decide +kernel)) ggX5_keepPlan_X5_keepJoin
theorem dX5_keepPlan_0 : decode cX5_keepPlan 0 = .ok (.iconst 0, 1) := by decide +kernel
theorem dX5_keepPlan_1 : decode cX5_keepPlan 1 = .ok (.istore_n 2, 1) := by decide +kernel
theorem dX5_keepPlan_2 : decode cX5_keepPlan 2 = .ok (.iconst 0, 1) := by decide +kernel
theorem dX5_keepPlan_3 : decode cX5_keepPlan 3 = .ok (.istore_n 3, 1) := by decide +kernel
theorem dX5_keepPlan_4 : decode cX5_keepPlan 4 = .ok (.iload_n 3, 1) := by decide +kernel
theorem dX5_keepPlan_5 : decode cX5_keepPlan 5 = .ok (.aload_n 1, 1) := by decide +kernel
theorem dX5_keepPlan_6 : decode cX5_keepPlan 6 = .ok (.getfield 52, 3) := by decide +kernel
theorem dX5_keepPlan_9 : decode cX5_keepPlan 9 = .ok (.if_icmp .ge 95, 3) := by decide +kernel
theorem dX5_keepPlan_12 : decode cX5_keepPlan 12 = .ok (.iconst (-1), 1) := by decide +kernel
theorem dX5_keepPlan_13 : decode cX5_keepPlan 13 = .ok (.istore 4, 2) := by decide +kernel
theorem dX5_keepPlan_15 : decode cX5_keepPlan 15 = .ok (.aload_n 1, 1) := by decide +kernel
theorem dX5_keepPlan_16 : decode cX5_keepPlan 16 = .ok (.getfield 57, 3) := by decide +kernel
theorem dX5_keepPlan_19 : decode cX5_keepPlan 19 = .ok (.iload_n 3, 1) := by decide +kernel
theorem dX5_keepPlan_20 : decode cX5_keepPlan 20 = .ok (.iaload, 1) := by decide +kernel
theorem dX5_keepPlan_21 : decode cX5_keepPlan 21 = .ok (.ifCond .ne 18, 3) := by decide +kernel
theorem dX5_keepPlan_24 : decode cX5_keepPlan 24 = .ok (.aload_n 0, 1) := by decide +kernel
theorem dX5_keepPlan_25 : decode cX5_keepPlan 25 = .ok (.aload_n 1, 1) := by decide +kernel
theorem dX5_keepPlan_26 : decode cX5_keepPlan 26 = .ok (.getfield 58, 3) := by decide +kernel
theorem dX5_keepPlan_29 : decode cX5_keepPlan 29 = .ok (.iload_n 3, 1) := by decide +kernel
theorem dX5_keepPlan_30 : decode cX5_keepPlan 30 = .ok (.iaload, 1) := by decide +kernel
theorem dX5_keepPlan_31 : decode cX5_keepPlan 31 = .ok (.invokevirtual 61, 3) := by decide +kernel
theorem dX5_keepPlan_34 : decode cX5_keepPlan 34 = .ok (.istore 4, 2) := by decide +kernel
theorem dX5_keepPlan_36 : decode cX5_keepPlan 36 = .ok (.goto 37, 3) := by decide +kernel
theorem dX5_keepPlan_39 : decode cX5_keepPlan 39 = .ok (.iload_n 2, 1) := by decide +kernel
theorem dX5_keepPlan_40 : decode cX5_keepPlan 40 = .ok (.iconst 2, 1) := by decide +kernel
theorem dX5_keepPlan_41 : decode cX5_keepPlan 41 = .ok (.if_icmp .lt 32, 3) := by decide +kernel
theorem dX5_keepPlan_44 : decode cX5_keepPlan 44 = .ok (.iinc 2 (-2), 3) := by decide +kernel
theorem dX5_keepPlan_47 : decode cX5_keepPlan 47 = .ok (.aload_n 0, 1) := by decide +kernel
theorem dX5_keepPlan_48 : decode cX5_keepPlan 48 = .ok (.aload_n 1, 1) := by decide +kernel
theorem dX5_keepPlan_49 : decode cX5_keepPlan 49 = .ok (.getfield 57, 3) := by decide +kernel
theorem dX5_keepPlan_52 : decode cX5_keepPlan 52 = .ok (.iload_n 3, 1) := by decide +kernel
theorem dX5_keepPlan_53 : decode cX5_keepPlan 53 = .ok (.iaload, 1) := by decide +kernel
theorem dX5_keepPlan_54 : decode cX5_keepPlan 54 = .ok (.aload_n 0, 1) := by decide +kernel
theorem dX5_keepPlan_55 : decode cX5_keepPlan 55 = .ok (.getfield 33, 3) := by decide +kernel
theorem dX5_keepPlan_58 : decode cX5_keepPlan 58 = .ok (.iload_n 2, 1) := by decide +kernel
theorem dX5_keepPlan_59 : decode cX5_keepPlan 59 = .ok (.iaload, 1) := by decide +kernel
theorem dX5_keepPlan_60 : decode cX5_keepPlan 60 = .ok (.aload_n 0, 1) := by decide +kernel
theorem dX5_keepPlan_61 : decode cX5_keepPlan 61 = .ok (.getfield 33, 3) := by decide +kernel
theorem dX5_keepPlan_64 : decode cX5_keepPlan 64 = .ok (.iload_n 2, 1) := by decide +kernel
theorem dX5_keepPlan_65 : decode cX5_keepPlan 65 = .ok (.iconst 1, 1) := by decide +kernel
theorem dX5_keepPlan_66 : decode cX5_keepPlan 66 = .ok (.iadd, 1) := by decide +kernel
theorem dX5_keepPlan_67 : decode cX5_keepPlan 67 = .ok (.iaload, 1) := by decide +kernel
theorem dX5_keepPlan_68 : decode cX5_keepPlan 68 = .ok (.invokevirtual 64, 3) := by decide +kernel
theorem dX5_keepPlan_71 : decode cX5_keepPlan 71 = .ok (.istore 4, 2) := by decide +kernel
theorem dX5_keepPlan_73 : decode cX5_keepPlan 73 = .ok (.iload 4, 2) := by decide +kernel
theorem dX5_keepPlan_75 : decode cX5_keepPlan 75 = .ok (.ifCond .lt 9, 3) := by decide +kernel
theorem dX5_keepPlan_78 : decode cX5_keepPlan 78 = .ok (.iload_n 2, 1) := by decide +kernel
theorem dX5_keepPlan_79 : decode cX5_keepPlan 79 = .ok (.bipush 12, 2) := by decide +kernel
theorem dX5_keepPlan_81 : decode cX5_keepPlan 81 = .ok (.if_icmp .lt 6, 3) := by decide +kernel
theorem dX5_keepPlan_84 : decode cX5_keepPlan 84 = .ok (.iload 4, 2) := by decide +kernel
theorem dX5_keepPlan_86 : decode cX5_keepPlan 86 = .ok (.ireturn, 1) := by decide +kernel
theorem dX5_keepPlan_87 : decode cX5_keepPlan 87 = .ok (.aload_n 0, 1) := by decide +kernel
theorem dX5_keepPlan_88 : decode cX5_keepPlan 88 = .ok (.getfield 33, 3) := by decide +kernel
theorem dX5_keepPlan_91 : decode cX5_keepPlan 91 = .ok (.iload_n 2, 1) := by decide +kernel
theorem dX5_keepPlan_92 : decode cX5_keepPlan 92 = .ok (.iload 4, 2) := by decide +kernel
theorem dX5_keepPlan_94 : decode cX5_keepPlan 94 = .ok (.iastore, 1) := by decide +kernel
theorem dX5_keepPlan_95 : decode cX5_keepPlan 95 = .ok (.iinc 2 1, 3) := by decide +kernel
theorem dX5_keepPlan_98 : decode cX5_keepPlan 98 = .ok (.iinc 3 1, 3) := by decide +kernel
theorem dX5_keepPlan_101 : decode cX5_keepPlan 101 = .ok (.goto (-97), 3) := by decide +kernel
theorem dX5_keepPlan_104 : decode cX5_keepPlan 104 = .ok (.aload_n 0, 1) := by decide +kernel
theorem dX5_keepPlan_105 : decode cX5_keepPlan 105 = .ok (.getfield 33, 3) := by decide +kernel
theorem dX5_keepPlan_108 : decode cX5_keepPlan 108 = .ok (.iconst 0, 1) := by decide +kernel
theorem dX5_keepPlan_109 : decode cX5_keepPlan 109 = .ok (.iaload, 1) := by decide +kernel
theorem dX5_keepPlan_110 : decode cX5_keepPlan 110 = .ok (.ireturn, 1) := by decide +kernel
theorem dX5_usersOf_0 : decode cX5_usersOf 0 = .ok (.iconst 0, 1) := by decide +kernel
theorem dX5_usersOf_1 : decode cX5_usersOf 1 = .ok (.istore_n 2, 1) := by decide +kernel
theorem dX5_usersOf_2 : decode cX5_usersOf 2 = .ok (.iconst 0, 1) := by decide +kernel
theorem dX5_usersOf_3 : decode cX5_usersOf 3 = .ok (.istore_n 3, 1) := by decide +kernel
theorem dX5_usersOf_4 : decode cX5_usersOf 4 = .ok (.iload_n 3, 1) := by decide +kernel
theorem dX5_usersOf_5 : decode cX5_usersOf 5 = .ok (.aload_n 0, 1) := by decide +kernel
theorem dX5_usersOf_6 : decode cX5_usersOf 6 = .ok (.getfield 36, 3) := by decide +kernel
theorem dX5_usersOf_9 : decode cX5_usersOf 9 = .ok (.if_icmp .ge 41, 3) := by decide +kernel
theorem dX5_usersOf_12 : decode cX5_usersOf 12 = .ok (.aload_n 0, 1) := by decide +kernel
theorem dX5_usersOf_13 : decode cX5_usersOf 13 = .ok (.getfield 9, 3) := by decide +kernel
theorem dX5_usersOf_16 : decode cX5_usersOf 16 = .ok (.iload_n 3, 1) := by decide +kernel
theorem dX5_usersOf_17 : decode cX5_usersOf 17 = .ok (.iaload, 1) := by decide +kernel
theorem dX5_usersOf_18 : decode cX5_usersOf 18 = .ok (.ifCond .eq 26, 3) := by decide +kernel
theorem dX5_usersOf_21 : decode cX5_usersOf 21 = .ok (.aload_n 0, 1) := by decide +kernel
theorem dX5_usersOf_22 : decode cX5_usersOf 22 = .ok (.getfield 15, 3) := by decide +kernel
theorem dX5_usersOf_25 : decode cX5_usersOf 25 = .ok (.iload_n 3, 1) := by decide +kernel
theorem dX5_usersOf_26 : decode cX5_usersOf 26 = .ok (.iaload, 1) := by decide +kernel
theorem dX5_usersOf_27 : decode cX5_usersOf 27 = .ok (.iload_n 1, 1) := by decide +kernel
theorem dX5_usersOf_28 : decode cX5_usersOf 28 = .ok (.if_icmp .eq 13, 3) := by decide +kernel
theorem dX5_usersOf_31 : decode cX5_usersOf 31 = .ok (.aload_n 0, 1) := by decide +kernel
theorem dX5_usersOf_32 : decode cX5_usersOf 32 = .ok (.getfield 18, 3) := by decide +kernel
theorem dX5_usersOf_35 : decode cX5_usersOf 35 = .ok (.iload_n 3, 1) := by decide +kernel
theorem dX5_usersOf_36 : decode cX5_usersOf 36 = .ok (.iaload, 1) := by decide +kernel
theorem dX5_usersOf_37 : decode cX5_usersOf 37 = .ok (.iload_n 1, 1) := by decide +kernel
theorem dX5_usersOf_38 : decode cX5_usersOf 38 = .ok (.if_icmp .ne 6, 3) := by decide +kernel
theorem dX5_usersOf_41 : decode cX5_usersOf 41 = .ok (.iinc 2 1, 3) := by decide +kernel
theorem dX5_usersOf_44 : decode cX5_usersOf 44 = .ok (.iinc 3 1, 3) := by decide +kernel
theorem dX5_usersOf_47 : decode cX5_usersOf 47 = .ok (.goto (-43), 3) := by decide +kernel
theorem dX5_usersOf_50 : decode cX5_usersOf 50 = .ok (.iload_n 2, 1) := by decide +kernel
theorem dX5_usersOf_51 : decode cX5_usersOf 51 = .ok (.ireturn, 1) := by decide +kernel
set_option maxRecDepth 20000 in
theorem ggX5_areTurned_X5_isTurn : GoodIn wsX5_areTurned wsX5_isTurn := goodIn_r _ [7, 8, 2, 9, 10, 11, 12, 13, 14, 15, 16, 17, 18, 19] (by decide +kernel) (by decide +kernel)
set_option maxRecDepth 20000 in
theorem gX5_areTurned_X5_isTurn : GoodIn wsX5_areTurned (wsV RX5 67 RX5 yX5_isTurn wsX5_isTurn) := goodIn_app (goodIn_of _ (by decide +kernel)) ggX5_areTurned_X5_isTurn
theorem dX5_areTurned_0 : decode cX5_areTurned 0 = .ok (.iconst 0, 1) := by decide +kernel
theorem dX5_areTurned_1 : decode cX5_areTurned 1 = .ok (.istore_n 3, 1) := by decide +kernel
theorem dX5_areTurned_2 : decode cX5_areTurned 2 = .ok (.iload_n 3, 1) := by decide +kernel
theorem dX5_areTurned_3 : decode cX5_areTurned 3 = .ok (.aload_n 0, 1) := by decide +kernel
theorem dX5_areTurned_4 : decode cX5_areTurned 4 = .ok (.getfield 36, 3) := by decide +kernel
theorem dX5_areTurned_7 : decode cX5_areTurned 7 = .ok (.if_icmp .ge 60, 3) := by decide +kernel
theorem dX5_areTurned_10 : decode cX5_areTurned 10 = .ok (.iload_n 3, 1) := by decide +kernel
theorem dX5_areTurned_11 : decode cX5_areTurned 11 = .ok (.istore 4, 2) := by decide +kernel
theorem dX5_areTurned_13 : decode cX5_areTurned 13 = .ok (.iconst 0, 1) := by decide +kernel
theorem dX5_areTurned_14 : decode cX5_areTurned 14 = .ok (.istore 5, 2) := by decide +kernel
theorem dX5_areTurned_16 : decode cX5_areTurned 16 = .ok (.iload 5, 2) := by decide +kernel
theorem dX5_areTurned_18 : decode cX5_areTurned 18 = .ok (.iload_n 3, 1) := by decide +kernel
theorem dX5_areTurned_19 : decode cX5_areTurned 19 = .ok (.if_icmp .ge 34, 3) := by decide +kernel
theorem dX5_areTurned_22 : decode cX5_areTurned 22 = .ok (.iload 4, 2) := by decide +kernel
theorem dX5_areTurned_24 : decode cX5_areTurned 24 = .ok (.iload_n 3, 1) := by decide +kernel
theorem dX5_areTurned_25 : decode cX5_areTurned 25 = .ok (.if_icmp .ne 28, 3) := by decide +kernel
theorem dX5_areTurned_28 : decode cX5_areTurned 28 = .ok (.aload_n 0, 1) := by decide +kernel
theorem dX5_areTurned_29 : decode cX5_areTurned 29 = .ok (.iload 5, 2) := by decide +kernel
