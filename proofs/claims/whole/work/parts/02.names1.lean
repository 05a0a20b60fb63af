theorem dX5_areTurned_31 : decode cX5_areTurned 31 = .ok (.iload_n 3, 1) := by decide +kernel
theorem dX5_areTurned_32 : decode cX5_areTurned 32 = .ok (.invokevirtual 67, 3) := by decide +kernel
theorem dX5_areTurned_35 : decode cX5_areTurned 35 = .ok (.ifCond .eq 12, 3) := by decide +kernel
theorem dX5_areTurned_38 : decode cX5_areTurned 38 = .ok (.aload_n 0, 1) := by decide +kernel
theorem dX5_areTurned_39 : decode cX5_areTurned 39 = .ok (.getfield 24, 3) := by decide +kernel
theorem dX5_areTurned_42 : decode cX5_areTurned 42 = .ok (.iload 5, 2) := by decide +kernel
theorem dX5_areTurned_44 : decode cX5_areTurned 44 = .ok (.iaload, 1) := by decide +kernel
theorem dX5_areTurned_45 : decode cX5_areTurned 45 = .ok (.istore 4, 2) := by decide +kernel
theorem dX5_areTurned_47 : decode cX5_areTurned 47 = .ok (.iinc 5 1, 3) := by decide +kernel
theorem dX5_areTurned_50 : decode cX5_areTurned 50 = .ok (.goto (-34), 3) := by decide +kernel
theorem dX5_areTurned_53 : decode cX5_areTurned 53 = .ok (.aload_n 0, 1) := by decide +kernel
theorem dX5_areTurned_54 : decode cX5_areTurned 54 = .ok (.getfield 24, 3) := by decide +kernel
theorem dX5_areTurned_57 : decode cX5_areTurned 57 = .ok (.iload_n 3, 1) := by decide +kernel
theorem dX5_areTurned_58 : decode cX5_areTurned 58 = .ok (.iload 4, 2) := by decide +kernel
theorem dX5_areTurned_60 : decode cX5_areTurned 60 = .ok (.iastore, 1) := by decide +kernel
theorem dX5_areTurned_61 : decode cX5_areTurned 61 = .ok (.iinc 3 1, 3) := by decide +kernel
theorem dX5_areTurned_64 : decode cX5_areTurned 64 = .ok (.goto (-62), 3) := by decide +kernel
theorem dX5_areTurned_67 : decode cX5_areTurned 67 = .ok (.aload_n 0, 1) := by decide +kernel
theorem dX5_areTurned_68 : decode cX5_areTurned 68 = .ok (.getfield 24, 3) := by decide +kernel
theorem dX5_areTurned_71 : decode cX5_areTurned 71 = .ok (.iload_n 1, 1) := by decide +kernel
theorem dX5_areTurned_72 : decode cX5_areTurned 72 = .ok (.iaload, 1) := by decide +kernel
theorem dX5_areTurned_73 : decode cX5_areTurned 73 = .ok (.aload_n 0, 1) := by decide +kernel
theorem dX5_areTurned_74 : decode cX5_areTurned 74 = .ok (.getfield 24, 3) := by decide +kernel
theorem dX5_areTurned_77 : decode cX5_areTurned 77 = .ok (.iload_n 2, 1) := by decide +kernel
theorem dX5_areTurned_78 : decode cX5_areTurned 78 = .ok (.iaload, 1) := by decide +kernel
theorem dX5_areTurned_79 : decode cX5_areTurned 79 = .ok (.if_icmp .ne 7, 3) := by decide +kernel
theorem dX5_areTurned_82 : decode cX5_areTurned 82 = .ok (.iconst 1, 1) := by decide +kernel
theorem dX5_areTurned_83 : decode cX5_areTurned 83 = .ok (.goto 4, 3) := by decide +kernel
theorem dX5_areTurned_86 : decode cX5_areTurned 86 = .ok (.iconst 0, 1) := by decide +kernel
theorem dX5_areTurned_87 : decode cX5_areTurned 87 = .ok (.ireturn, 1) := by decide +kernel
theorem dX5_isTurn_0 : decode cX5_isTurn 0 = .ok (.aload_n 0, 1) := by decide +kernel
theorem dX5_isTurn_1 : decode cX5_isTurn 1 = .ok (.getfield 9, 3) := by decide +kernel
theorem dX5_isTurn_4 : decode cX5_isTurn 4 = .ok (.iload_n 1, 1) := by decide +kernel
theorem dX5_isTurn_5 : decode cX5_isTurn 5 = .ok (.iaload, 1) := by decide +kernel
theorem dX5_isTurn_6 : decode cX5_isTurn 6 = .ok (.aload_n 0, 1) := by decide +kernel
theorem dX5_isTurn_7 : decode cX5_isTurn 7 = .ok (.getfield 9, 3) := by decide +kernel
theorem dX5_isTurn_10 : decode cX5_isTurn 10 = .ok (.iload_n 2, 1) := by decide +kernel
theorem dX5_isTurn_11 : decode cX5_isTurn 11 = .ok (.iaload, 1) := by decide +kernel
theorem dX5_isTurn_12 : decode cX5_isTurn 12 = .ok (.if_icmp .ne 12, 3) := by decide +kernel
theorem dX5_isTurn_15 : decode cX5_isTurn 15 = .ok (.aload_n 0, 1) := by decide +kernel
theorem dX5_isTurn_16 : decode cX5_isTurn 16 = .ok (.getfield 9, 3) := by decide +kernel
theorem dX5_isTurn_19 : decode cX5_isTurn 19 = .ok (.iload_n 1, 1) := by decide +kernel
theorem dX5_isTurn_20 : decode cX5_isTurn 20 = .ok (.iaload, 1) := by decide +kernel
theorem dX5_isTurn_21 : decode cX5_isTurn 21 = .ok (.ifCond .ne 5, 3) := by decide +kernel
theorem dX5_isTurn_24 : decode cX5_isTurn 24 = .ok (.iconst 0, 1) := by decide +kernel
theorem dX5_isTurn_25 : decode cX5_isTurn 25 = .ok (.ireturn, 1) := by decide +kernel
theorem dX5_isTurn_26 : decode cX5_isTurn 26 = .ok (.aload_n 0, 1) := by decide +kernel
theorem dX5_isTurn_27 : decode cX5_isTurn 27 = .ok (.getfield 24, 3) := by decide +kernel
theorem dX5_isTurn_30 : decode cX5_isTurn 30 = .ok (.aload_n 0, 1) := by decide +kernel
theorem dX5_isTurn_31 : decode cX5_isTurn 31 = .ok (.getfield 15, 3) := by decide +kernel
theorem dX5_isTurn_34 : decode cX5_isTurn 34 = .ok (.iload_n 1, 1) := by decide +kernel
theorem dX5_isTurn_35 : decode cX5_isTurn 35 = .ok (.iaload, 1) := by decide +kernel
theorem dX5_isTurn_36 : decode cX5_isTurn 36 = .ok (.iaload, 1) := by decide +kernel
theorem dX5_isTurn_37 : decode cX5_isTurn 37 = .ok (.istore_n 3, 1) := by decide +kernel
theorem dX5_isTurn_38 : decode cX5_isTurn 38 = .ok (.aload_n 0, 1) := by decide +kernel
theorem dX5_isTurn_39 : decode cX5_isTurn 39 = .ok (.getfield 24, 3) := by decide +kernel
theorem dX5_isTurn_42 : decode cX5_isTurn 42 = .ok (.aload_n 0, 1) := by decide +kernel
theorem dX5_isTurn_43 : decode cX5_isTurn 43 = .ok (.getfield 18, 3) := by decide +kernel
theorem dX5_isTurn_46 : decode cX5_isTurn 46 = .ok (.iload_n 1, 1) := by decide +kernel
theorem dX5_isTurn_47 : decode cX5_isTurn 47 = .ok (.iaload, 1) := by decide +kernel
theorem dX5_isTurn_48 : decode cX5_isTurn 48 = .ok (.iaload, 1) := by decide +kernel
theorem dX5_isTurn_49 : decode cX5_isTurn 49 = .ok (.istore 4, 2) := by decide +kernel
theorem dX5_isTurn_51 : decode cX5_isTurn 51 = .ok (.aload_n 0, 1) := by decide +kernel
theorem dX5_isTurn_52 : decode cX5_isTurn 52 = .ok (.getfield 24, 3) := by decide +kernel
theorem dX5_isTurn_55 : decode cX5_isTurn 55 = .ok (.aload_n 0, 1) := by decide +kernel
theorem dX5_isTurn_56 : decode cX5_isTurn 56 = .ok (.getfield 15, 3) := by decide +kernel
theorem dX5_isTurn_59 : decode cX5_isTurn 59 = .ok (.iload_n 2, 1) := by decide +kernel
theorem dX5_isTurn_60 : decode cX5_isTurn 60 = .ok (.iaload, 1) := by decide +kernel
theorem dX5_isTurn_61 : decode cX5_isTurn 61 = .ok (.iaload, 1) := by decide +kernel
theorem dX5_isTurn_62 : decode cX5_isTurn 62 = .ok (.istore 5, 2) := by decide +kernel
theorem dX5_isTurn_64 : decode cX5_isTurn 64 = .ok (.aload_n 0, 1) := by decide +kernel
theorem dX5_isTurn_65 : decode cX5_isTurn 65 = .ok (.getfield 24, 3) := by decide +kernel
theorem dX5_isTurn_68 : decode cX5_isTurn 68 = .ok (.aload_n 0, 1) := by decide +kernel
theorem dX5_isTurn_69 : decode cX5_isTurn 69 = .ok (.getfield 18, 3) := by decide +kernel
theorem dX5_isTurn_72 : decode cX5_isTurn 72 = .ok (.iload_n 2, 1) := by decide +kernel
theorem dX5_isTurn_73 : decode cX5_isTurn 73 = .ok (.iaload, 1) := by decide +kernel
theorem dX5_isTurn_74 : decode cX5_isTurn 74 = .ok (.iaload, 1) := by decide +kernel
theorem dX5_isTurn_75 : decode cX5_isTurn 75 = .ok (.istore 6, 2) := by decide +kernel
theorem dX5_isTurn_77 : decode cX5_isTurn 77 = .ok (.iload_n 3, 1) := by decide +kernel
theorem dX5_isTurn_78 : decode cX5_isTurn 78 = .ok (.iload 5, 2) := by decide +kernel
theorem dX5_isTurn_80 : decode cX5_isTurn 80 = .ok (.if_icmp .ne 10, 3) := by decide +kernel
theorem dX5_isTurn_83 : decode cX5_isTurn 83 = .ok (.iload 4, 2) := by decide +kernel
theorem dX5_isTurn_85 : decode cX5_isTurn 85 = .ok (.iload 6, 2) := by decide +kernel
theorem dX5_isTurn_87 : decode cX5_isTurn 87 = .ok (.if_icmp .eq 16, 3) := by decide +kernel
theorem dX5_isTurn_90 : decode cX5_isTurn 90 = .ok (.iload_n 3, 1) := by decide +kernel
theorem dX5_isTurn_91 : decode cX5_isTurn 91 = .ok (.iload 6, 2) := by decide +kernel
theorem dX5_isTurn_93 : decode cX5_isTurn 93 = .ok (.if_icmp .ne 14, 3) := by decide +kernel
theorem dX5_isTurn_96 : decode cX5_isTurn 96 = .ok (.iload 4, 2) := by decide +kernel
theorem dX5_isTurn_98 : decode cX5_isTurn 98 = .ok (.iload 5, 2) := by decide +kernel
theorem dX5_isTurn_100 : decode cX5_isTurn 100 = .ok (.if_icmp .ne 7, 3) := by decide +kernel
theorem dX5_isTurn_103 : decode cX5_isTurn 103 = .ok (.iconst 1, 1) := by decide +kernel
theorem dX5_isTurn_104 : decode cX5_isTurn 104 = .ok (.goto 4, 3) := by decide +kernel
theorem dX5_isTurn_107 : decode cX5_isTurn 107 = .ok (.iconst 0, 1) := by decide +kernel
theorem dX5_isTurn_108 : decode cX5_isTurn 108 = .ok (.ireturn, 1) := by decide +kernel
set_option maxRecDepth 20000 in
theorem ggX5_spell_X5_openBrackets : GoodIn wsX5_spell wsX5_openBrackets := goodIn_r _ [9, 1, 10, 3, 4, 11, 12, 13, 14, 15, 16, 17, 18, 19] (by decide +kernel) (by decide +kernel)
set_option maxRecDepth 20000 in
theorem gX5_spell_X5_openBrackets : GoodIn wsX5_spell (wsV RX5 71 RX5 yX5_openBrackets wsX5_openBrackets) := goodIn_app (goodIn_of _ (by decide +kernel)) ggX5_spell_X5_openBrackets
theorem dX5_spell_0 : decode cX5_spell 0 = .ok (.iconst 0, 1) := by decide +kernel
theorem dX5_spell_1 : decode cX5_spell 1 = .ok (.istore_n 2, 1) := by decide +kernel
theorem dX5_spell_2 : decode cX5_spell 2 = .ok (.iconst 1, 1) := by decide +kernel
theorem dX5_spell_3 : decode cX5_spell 3 = .ok (.istore_n 3, 1) := by decide +kernel
theorem dX5_spell_4 : decode cX5_spell 4 = .ok (.aload_n 0, 1) := by decide +kernel
theorem dX5_spell_5 : decode cX5_spell 5 = .ok (.getfield 30, 3) := by decide +kernel
theorem dX5_spell_8 : decode cX5_spell 8 = .ok (.iconst 0, 1) := by decide +kernel
theorem dX5_spell_9 : decode cX5_spell 9 = .ok (.iload_n 1, 1) := by decide +kernel
theorem dX5_spell_10 : decode cX5_spell 10 = .ok (.iastore, 1) := by decide +kernel
theorem dX5_spell_11 : decode cX5_spell 11 = .ok (.iconst 0, 1) := by decide +kernel
theorem dX5_spell_12 : decode cX5_spell 12 = .ok (.istore 4, 2) := by decide +kernel
theorem dX5_spell_14 : decode cX5_spell 14 = .ok (.iload 4, 2) := by decide +kernel
theorem dX5_spell_16 : decode cX5_spell 16 = .ok (.aload_n 0, 1) := by decide +kernel
theorem dX5_spell_17 : decode cX5_spell 17 = .ok (.getfield 27, 3) := by decide +kernel
theorem dX5_spell_20 : decode cX5_spell 20 = .ok (.arraylength, 1) := by decide +kernel
theorem dX5_spell_21 : decode cX5_spell 21 = .ok (.iconst 2, 1) := by decide +kernel
theorem dX5_spell_22 : decode cX5_spell 22 = .ok (.imul, 1) := by decide +kernel
theorem dX5_spell_23 : decode cX5_spell 23 = .ok (.if_icmp .ge 89, 3) := by decide +kernel
theorem dX5_spell_26 : decode cX5_spell 26 = .ok (.iload_n 3, 1) := by decide +kernel
theorem dX5_spell_27 : decode cX5_spell 27 = .ok (.ifCond .le 85, 3) := by decide +kernel
theorem dX5_spell_30 : decode cX5_spell 30 = .ok (.iinc 3 (-1), 3) := by decide +kernel
theorem dX5_spell_33 : decode cX5_spell 33 = .ok (.aload_n 0, 1) := by decide +kernel
theorem dX5_spell_34 : decode cX5_spell 34 = .ok (.getfield 30, 3) := by decide +kernel
theorem dX5_spell_37 : decode cX5_spell 37 = .ok (.iload_n 3, 1) := by decide +kernel
theorem dX5_spell_38 : decode cX5_spell 38 = .ok (.iaload, 1) := by decide +kernel
theorem dX5_spell_39 : decode cX5_spell 39 = .ok (.istore 5, 2) := by decide +kernel
theorem dX5_spell_41 : decode cX5_spell 41 = .ok (.iload 5, 2) := by decide +kernel
theorem dX5_spell_43 : decode cX5_spell 43 = .ok (.ifCond .lt 24, 3) := by decide +kernel
theorem dX5_spell_46 : decode cX5_spell 46 = .ok (.aload_n 0, 1) := by decide +kernel
theorem dX5_spell_47 : decode cX5_spell 47 = .ok (.getfield 9, 3) := by decide +kernel
theorem dX5_spell_50 : decode cX5_spell 50 = .ok (.iload 5, 2) := by decide +kernel
theorem dX5_spell_52 : decode cX5_spell 52 = .ok (.iaload, 1) := by decide +kernel
theorem dX5_spell_53 : decode cX5_spell 53 = .ok (.ifCond .eq 14, 3) := by decide +kernel
theorem dX5_spell_56 : decode cX5_spell 56 = .ok (.aload_n 0, 1) := by decide +kernel
theorem dX5_spell_57 : decode cX5_spell 57 = .ok (.iload 5, 2) := by decide +kernel
theorem dX5_spell_59 : decode cX5_spell 59 = .ok (.iload_n 3, 1) := by decide +kernel
theorem dX5_spell_60 : decode cX5_spell 60 = .ok (.invokevirtual 71, 3) := by decide +kernel
theorem dX5_spell_63 : decode cX5_spell 63 = .ok (.istore_n 3, 1) := by decide +kernel
theorem dX5_spell_64 : decode cX5_spell 64 = .ok (.goto 42, 3) := by decide +kernel
theorem dX5_spell_67 : decode cX5_spell 67 = .ok (.iload_n 2, 1) := by decide +kernel
theorem dX5_spell_68 : decode cX5_spell 68 = .ok (.aload_n 0, 1) := by decide +kernel
theorem dX5_spell_69 : decode cX5_spell 69 = .ok (.getfield 27, 3) := by decide +kernel
theorem dX5_spell_72 : decode cX5_spell 72 = .ok (.arraylength, 1) := by decide +kernel
theorem dX5_spell_73 : decode cX5_spell 73 = .ok (.if_icmp .ge 33, 3) := by decide +kernel
theorem dX5_spell_76 : decode cX5_spell 76 = .ok (.aload_n 0, 1) := by decide +kernel
theorem dX5_spell_77 : decode cX5_spell 77 = .ok (.getfield 27, 3) := by decide +kernel
theorem dX5_spell_80 : decode cX5_spell 80 = .ok (.iload_n 2, 1) := by decide +kernel
theorem dX5_spell_81 : decode cX5_spell 81 = .ok (.iload 5, 2) := by decide +kernel
theorem dX5_spell_83 : decode cX5_spell 83 = .ok (.ifCond .ge 9, 3) := by decide +kernel
theorem dX5_spell_86 : decode cX5_spell 86 = .ok (.iload 5, 2) := by decide +kernel
theorem dX5_spell_88 : decode cX5_spell 88 = .ok (.ineg, 1) := by decide +kernel
theorem dX5_spell_89 : decode cX5_spell 89 = .ok (.goto 13, 3) := by decide +kernel
theorem dX5_spell_92 : decode cX5_spell 92 = .ok (.bipush 97, 2) := by decide +kernel
theorem dX5_spell_94 : decode cX5_spell 94 = .ok (.aload_n 0, 1) := by decide +kernel
theorem dX5_spell_95 : decode cX5_spell 95 = .ok (.getfield 15, 3) := by decide +kernel
theorem dX5_spell_98 : decode cX5_spell 98 = .ok (.iload 5, 2) := by decide +kernel
theorem dX5_spell_100 : decode cX5_spell 100 = .ok (.iaload, 1) := by decide +kernel
theorem dX5_spell_101 : decode cX5_spell 101 = .ok (.iadd, 1) := by decide +kernel
theorem dX5_spell_102 : decode cX5_spell 102 = .ok (.iastore, 1) := by decide +kernel
theorem dX5_spell_103 : decode cX5_spell 103 = .ok (.iinc 2 1, 3) := by decide +kernel
theorem dX5_spell_106 : decode cX5_spell 106 = .ok (.iinc 4 1, 3) := by decide +kernel
theorem dX5_spell_109 : decode cX5_spell 109 = .ok (.goto (-95), 3) := by decide +kernel
theorem dX5_spell_112 : decode cX5_spell 112 = .ok (.iload_n 2, 1) := by decide +kernel
theorem dX5_spell_113 : decode cX5_spell 113 = .ok (.ireturn, 1) := by decide +kernel
theorem dX5_openBrackets_0 : decode cX5_openBrackets 0 = .ok (.iload_n 2, 1) := by decide +kernel
theorem dX5_openBrackets_1 : decode cX5_openBrackets 1 = .ok (.iconst 5, 1) := by decide +kernel
theorem dX5_openBrackets_2 : decode cX5_openBrackets 2 = .ok (.iadd, 1) := by decide +kernel
theorem dX5_openBrackets_3 : decode cX5_openBrackets 3 = .ok (.aload_n 0, 1) := by decide +kernel
theorem dX5_openBrackets_4 : decode cX5_openBrackets 4 = .ok (.getfield 30, 3) := by decide +kernel
theorem dX5_openBrackets_7 : decode cX5_openBrackets 7 = .ok (.arraylength, 1) := by decide +kernel
theorem dX5_openBrackets_8 : decode cX5_openBrackets 8 = .ok (.if_icmp .le 5, 3) := by decide +kernel
theorem dX5_openBrackets_11 : decode cX5_openBrackets 11 = .ok (.iload_n 2, 1) := by decide +kernel
theorem dX5_openBrackets_12 : decode cX5_openBrackets 12 = .ok (.ireturn, 1) := by decide +kernel
theorem dX5_openBrackets_13 : decode cX5_openBrackets 13 = .ok (.aload_n 0, 1) := by decide +kernel
theorem dX5_openBrackets_14 : decode cX5_openBrackets 14 = .ok (.getfield 30, 3) := by decide +kernel
theorem dX5_openBrackets_17 : decode cX5_openBrackets 17 = .ok (.iload_n 2, 1) := by decide +kernel
theorem dX5_openBrackets_18 : decode cX5_openBrackets 18 = .ok (.bipush (-41), 2) := by decide +kernel
theorem dX5_openBrackets_20 : decode cX5_openBrackets 20 = .ok (.iastore, 1) := by decide +kernel
theorem dX5_openBrackets_21 : decode cX5_openBrackets 21 = .ok (.aload_n 0, 1) := by decide +kernel
theorem dX5_openBrackets_22 : decode cX5_openBrackets 22 = .ok (.getfield 30, 3) := by decide +kernel
theorem dX5_openBrackets_25 : decode cX5_openBrackets 25 = .ok (.iload_n 2, 1) := by decide +kernel
theorem dX5_openBrackets_26 : decode cX5_openBrackets 26 = .ok (.iconst 1, 1) := by decide +kernel
theorem dX5_openBrackets_27 : decode cX5_openBrackets 27 = .ok (.iadd, 1) := by decide +kernel
theorem dX5_openBrackets_28 : decode cX5_openBrackets 28 = .ok (.aload_n 0, 1) := by decide +kernel
theorem dX5_openBrackets_29 : decode cX5_openBrackets 29 = .ok (.getfield 18, 3) := by decide +kernel
theorem dX5_openBrackets_32 : decode cX5_openBrackets 32 = .ok (.iload_n 1, 1) := by decide +kernel
theorem dX5_openBrackets_33 : decode cX5_openBrackets 33 = .ok (.iaload, 1) := by decide +kernel
theorem dX5_openBrackets_34 : decode cX5_openBrackets 34 = .ok (.iastore, 1) := by decide +kernel
theorem dX5_openBrackets_35 : decode cX5_openBrackets 35 = .ok (.aload_n 0, 1) := by decide +kernel
theorem dX5_openBrackets_36 : decode cX5_openBrackets 36 = .ok (.getfield 30, 3) := by decide +kernel
theorem dX5_openBrackets_39 : decode cX5_openBrackets 39 = .ok (.iload_n 2, 1) := by decide +kernel
theorem dX5_openBrackets_40 : decode cX5_openBrackets 40 = .ok (.iconst 2, 1) := by decide +kernel
theorem dX5_openBrackets_41 : decode cX5_openBrackets 41 = .ok (.iadd, 1) := by decide +kernel
theorem dX5_openBrackets_42 : decode cX5_openBrackets 42 = .ok (.aload_n 0, 1) := by decide +kernel
theorem dX5_openBrackets_43 : decode cX5_openBrackets 43 = .ok (.getfield 9, 3) := by decide +kernel
theorem dX5_openBrackets_46 : decode cX5_openBrackets 46 = .ok (.iload_n 1, 1) := by decide +kernel
theorem dX5_openBrackets_47 : decode cX5_openBrackets 47 = .ok (.iaload, 1) := by decide +kernel
theorem dX5_openBrackets_48 : decode cX5_openBrackets 48 = .ok (.iconst 1, 1) := by decide +kernel
theorem dX5_openBrackets_49 : decode cX5_openBrackets 49 = .ok (.if_icmp .ne 8, 3) := by decide +kernel
theorem dX5_openBrackets_52 : decode cX5_openBrackets 52 = .ok (.bipush (-43), 2) := by decide +kernel
theorem dX5_openBrackets_54 : decode cX5_openBrackets 54 = .ok (.goto 5, 3) := by decide +kernel
theorem dX5_openBrackets_57 : decode cX5_openBrackets 57 = .ok (.bipush (-124), 2) := by decide +kernel
theorem dX5_openBrackets_59 : decode cX5_openBrackets 59 = .ok (.iastore, 1) := by decide +kernel
theorem dX5_openBrackets_60 : decode cX5_openBrackets 60 = .ok (.aload_n 0, 1) := by decide +kernel
theorem dX5_openBrackets_61 : decode cX5_openBrackets 61 = .ok (.getfield 30, 3) := by decide +kernel
theorem dX5_openBrackets_64 : decode cX5_openBrackets 64 = .ok (.iload_n 2, 1) := by decide +kernel
theorem dX5_openBrackets_65 : decode cX5_openBrackets 65 = .ok (.iconst 3, 1) := by decide +kernel
theorem dX5_openBrackets_66 : decode cX5_openBrackets 66 = .ok (.iadd, 1) := by decide +kernel
theorem dX5_openBrackets_67 : decode cX5_openBrackets 67 = .ok (.aload_n 0, 1) := by decide +kernel
theorem dX5_openBrackets_68 : decode cX5_openBrackets 68 = .ok (.getfield 15, 3) := by decide +kernel
theorem dX5_openBrackets_71 : decode cX5_openBrackets 71 = .ok (.iload_n 1, 1) := by decide +kernel
theorem dX5_openBrackets_72 : decode cX5_openBrackets 72 = .ok (.iaload, 1) := by decide +kernel
theorem dX5_openBrackets_73 : decode cX5_openBrackets 73 = .ok (.iastore, 1) := by decide +kernel
theorem dX5_openBrackets_74 : decode cX5_openBrackets 74 = .ok (.aload_n 0, 1) := by decide +kernel
theorem dX5_openBrackets_75 : decode cX5_openBrackets 75 = .ok (.getfield 30, 3) := by decide +kernel
theorem dX5_openBrackets_78 : decode cX5_openBrackets 78 = .ok (.iload_n 2, 1) := by decide +kernel
theorem dX5_openBrackets_79 : decode cX5_openBrackets 79 = .ok (.iconst 4, 1) := by decide +kernel
theorem dX5_openBrackets_80 : decode cX5_openBrackets 80 = .ok (.iadd, 1) := by decide +kernel
theorem dX5_openBrackets_81 : decode cX5_openBrackets 81 = .ok (.bipush (-40), 2) := by decide +kernel
theorem dX5_openBrackets_83 : decode cX5_openBrackets 83 = .ok (.iastore, 1) := by decide +kernel
theorem dX5_openBrackets_84 : decode cX5_openBrackets 84 = .ok (.iload_n 2, 1) := by decide +kernel
theorem dX5_openBrackets_85 : decode cX5_openBrackets 85 = .ok (.iconst 5, 1) := by decide +kernel
theorem dX5_openBrackets_86 : decode cX5_openBrackets 86 = .ok (.iadd, 1) := by decide +kernel
theorem dX5_openBrackets_87 : decode cX5_openBrackets 87 = .ok (.ireturn, 1) := by decide +kernel
theorem dX5_copy_0 : decode cX5_copy 0 = .ok (.aload_n 1, 1) := by decide +kernel
theorem dX5_copy_1 : decode cX5_copy 1 = .ok (.getfield 9, 3) := by decide +kernel
theorem dX5_copy_4 : decode cX5_copy 4 = .ok (.iconst 0, 1) := by decide +kernel
theorem dX5_copy_5 : decode cX5_copy 5 = .ok (.aload_n 0, 1) := by decide +kernel
theorem dX5_copy_6 : decode cX5_copy 6 = .ok (.getfield 9, 3) := by decide +kernel
theorem dX5_copy_9 : decode cX5_copy 9 = .ok (.iconst 0, 1) := by decide +kernel
theorem dX5_copy_10 : decode cX5_copy 10 = .ok (.bipush 40, 2) := by decide +kernel
theorem dX5_copy_12 : decode cX5_copy 12 = .ok (.invokestatic 75, 3) := by decide +kernel
theorem dX5_copy_15 : decode cX5_copy 15 = .ok (.aload_n 1, 1) := by decide +kernel
theorem dX5_copy_16 : decode cX5_copy 16 = .ok (.getfield 15, 3) := by decide +kernel
theorem dX5_copy_19 : decode cX5_copy 19 = .ok (.iconst 0, 1) := by decide +kernel
theorem dX5_copy_20 : decode cX5_copy 20 = .ok (.aload_n 0, 1) := by decide +kernel
theorem dX5_copy_21 : decode cX5_copy 21 = .ok (.getfield 15, 3) := by decide +kernel
theorem dX5_copy_24 : decode cX5_copy 24 = .ok (.iconst 0, 1) := by decide +kernel
theorem dX5_copy_25 : decode cX5_copy 25 = .ok (.bipush 40, 2) := by decide +kernel
theorem dX5_copy_27 : decode cX5_copy 27 = .ok (.invokestatic 75, 3) := by decide +kernel
theorem dX5_copy_30 : decode cX5_copy 30 = .ok (.aload_n 1, 1) := by decide +kernel
theorem dX5_copy_31 : decode cX5_copy 31 = .ok (.getfield 18, 3) := by decide +kernel
theorem dX5_copy_34 : decode cX5_copy 34 = .ok (.iconst 0, 1) := by decide +kernel
theorem dX5_copy_35 : decode cX5_copy 35 = .ok (.aload_n 0, 1) := by decide +kernel
theorem dX5_copy_36 : decode cX5_copy 36 = .ok (.getfield 18, 3) := by decide +kernel
theorem dX5_copy_39 : decode cX5_copy 39 = .ok (.iconst 0, 1) := by decide +kernel
theorem dX5_copy_40 : decode cX5_copy 40 = .ok (.bipush 40, 2) := by decide +kernel
theorem dX5_copy_42 : decode cX5_copy 42 = .ok (.invokestatic 75, 3) := by decide +kernel
theorem dX5_copy_45 : decode cX5_copy 45 = .ok (.aload_n 1, 1) := by decide +kernel
theorem dX5_copy_46 : decode cX5_copy 46 = .ok (.getfield 21, 3) := by decide +kernel
theorem dX5_copy_49 : decode cX5_copy 49 = .ok (.iconst 0, 1) := by decide +kernel
theorem dX5_copy_50 : decode cX5_copy 50 = .ok (.aload_n 0, 1) := by decide +kernel
theorem dX5_copy_51 : decode cX5_copy 51 = .ok (.getfield 21, 3) := by decide +kernel
theorem dX5_copy_54 : decode cX5_copy 54 = .ok (.iconst 0, 1) := by decide +kernel
theorem dX5_copy_55 : decode cX5_copy 55 = .ok (.bipush 40, 2) := by decide +kernel
theorem dX5_copy_57 : decode cX5_copy 57 = .ok (.invokestatic 75, 3) := by decide +kernel
theorem dX5_copy_60 : decode cX5_copy 60 = .ok (.aload_n 0, 1) := by decide +kernel
theorem dX5_copy_61 : decode cX5_copy 61 = .ok (.aload_n 1, 1) := by decide +kernel
theorem dX5_copy_62 : decode cX5_copy 62 = .ok (.getfield 36, 3) := by decide +kernel
theorem dX5_copy_65 : decode cX5_copy 65 = .ok (.putfield 36, 3) := by decide +kernel
theorem dX5_copy_68 : decode cX5_copy 68 = .ok (.return_, 1) := by decide +kernel
theorem dX6_init_0 : decode cX6_init 0 = .ok (.aload_n 0, 1) := by decide +kernel
theorem dX6_init_1 : decode cX6_init 1 = .ok (.invokespecial 3, 3) := by decide +kernel
theorem dX6_init_4 : decode cX6_init 4 = .ok (.aload_n 0, 1) := by decide +kernel
theorem dX6_init_5 : decode cX6_init 5 = .ok (.bipush 23, 2) := by decide +kernel
theorem dX6_init_7 : decode cX6_init 7 = .ok (.newarray .int, 2) := by decide +kernel
theorem dX6_init_9 : decode cX6_init 9 = .ok (.putfield 9, 3) := by decide +kernel
theorem dX6_init_12 : decode cX6_init 12 = .ok (.aload_n 0, 1) := by decide +kernel
theorem dX6_init_13 : decode cX6_init 13 = .ok (.bipush 23, 2) := by decide +kernel
theorem dX6_init_15 : decode cX6_init 15 = .ok (.newarray .int, 2) := by decide +kernel
theorem dX6_init_17 : decode cX6_init 17 = .ok (.putfield 15, 3) := by decide +kernel
theorem dX6_init_20 : decode cX6_init 20 = .ok (.aload_n 0, 1) := by decide +kernel
theorem dX6_init_21 : decode cX6_init 21 = .ok (.bipush 24, 2) := by decide +kernel
theorem dX6_init_23 : decode cX6_init 23 = .ok (.newarray .int, 2) := by decide +kernel
theorem dX6_init_25 : decode cX6_init 25 = .ok (.putfield 18, 3) := by decide +kernel
theorem dX6_init_28 : decode cX6_init 28 = .ok (.return_, 1) := by decide +kernel
theorem dX6_add_0 : decode cX6_add 0 = .ok (.aload_n 0, 1) := by decide +kernel
theorem dX6_add_1 : decode cX6_add 1 = .ok (.getfield 21, 3) := by decide +kernel
theorem dX6_add_4 : decode cX6_add 4 = .ok (.bipush 23, 2) := by decide +kernel
theorem dX6_add_6 : decode cX6_add 6 = .ok (.if_icmp .ge 33, 3) := by decide +kernel
theorem dX6_add_9 : decode cX6_add 9 = .ok (.aload_n 0, 1) := by decide +kernel
theorem dX6_add_10 : decode cX6_add 10 = .ok (.getfield 9, 3) := by decide +kernel
theorem dX6_add_13 : decode cX6_add 13 = .ok (.aload_n 0, 1) := by decide +kernel
theorem dX6_add_14 : decode cX6_add 14 = .ok (.getfield 21, 3) := by decide +kernel
theorem dX6_add_17 : decode cX6_add 17 = .ok (.iload_n 1, 1) := by decide +kernel
theorem dX6_add_18 : decode cX6_add 18 = .ok (.iastore, 1) := by decide +kernel
theorem dX6_add_19 : decode cX6_add 19 = .ok (.aload_n 0, 1) := by decide +kernel
theorem dX6_add_20 : decode cX6_add 20 = .ok (.getfield 15, 3) := by decide +kernel
theorem dX6_add_23 : decode cX6_add 23 = .ok (.aload_n 0, 1) := by decide +kernel
theorem dX6_add_24 : decode cX6_add 24 = .ok (.getfield 21, 3) := by decide +kernel
theorem dX6_add_27 : decode cX6_add 27 = .ok (.iload_n 2, 1) := by decide +kernel
theorem dX6_add_28 : decode cX6_add 28 = .ok (.iastore, 1) := by decide +kernel
theorem dX6_add_29 : decode cX6_add 29 = .ok (.aload_n 0, 1) := by decide +kernel
theorem dX6_add_30 : decode cX6_add 30 = .ok (.dup, 1) := by decide +kernel
theorem dX6_add_31 : decode cX6_add 31 = .ok (.getfield 21, 3) := by decide +kernel
theorem dX6_add_34 : decode cX6_add 34 = .ok (.iconst 1, 1) := by decide +kernel
theorem dX6_add_35 : decode cX6_add 35 = .ok (.iadd, 1) := by decide +kernel
theorem dX6_add_36 : decode cX6_add 36 = .ok (.putfield 21, 3) := by decide +kernel
theorem dX6_add_39 : decode cX6_add 39 = .ok (.return_, 1) := by decide +kernel
theorem dX6_fill_0 : decode cX6_fill 0 = .ok (.aload_n 0, 1) := by decide +kernel
theorem dX6_fill_1 : decode cX6_fill 1 = .ok (.iload_n 2, 1) := by decide +kernel
theorem dX6_fill_2 : decode cX6_fill 2 = .ok (.bipush 12, 2) := by decide +kernel
theorem dX6_fill_4 : decode cX6_fill 4 = .ok (.if_icmp .le 7, 3) := by decide +kernel
theorem dX6_fill_7 : decode cX6_fill 7 = .ok (.iconst 0, 1) := by decide +kernel
theorem dX6_fill_8 : decode cX6_fill 8 = .ok (.goto 8, 3) := by decide +kernel
theorem dX6_fill_11 : decode cX6_fill 11 = .ok (.iconst 2, 1) := by decide +kernel
theorem dX6_fill_12 : decode cX6_fill 12 = .ok (.iload_n 2, 1) := by decide +kernel
theorem dX6_fill_13 : decode cX6_fill 13 = .ok (.imul, 1) := by decide +kernel
theorem dX6_fill_14 : decode cX6_fill 14 = .ok (.iconst 1, 1) := by decide +kernel
theorem dX6_fill_15 : decode cX6_fill 15 = .ok (.isub, 1) := by decide +kernel
theorem dX6_fill_16 : decode cX6_fill 16 = .ok (.putfield 21, 3) := by decide +kernel
theorem dX6_fill_19 : decode cX6_fill 19 = .ok (.iconst 1, 1) := by decide +kernel
theorem dX6_fill_20 : decode cX6_fill 20 = .ok (.istore 6, 2) := by decide +kernel
theorem dX6_fill_22 : decode cX6_fill 22 = .ok (.aload_n 0, 1) := by decide +kernel
theorem dX6_fill_23 : decode cX6_fill 23 = .ok (.getfield 18, 3) := by decide +kernel
theorem dX6_fill_26 : decode cX6_fill 26 = .ok (.iconst 0, 1) := by decide +kernel
theorem dX6_fill_27 : decode cX6_fill 27 = .ok (.iload_n 1, 1) := by decide +kernel
theorem dX6_fill_28 : decode cX6_fill 28 = .ok (.iastore, 1) := by decide +kernel
theorem dX6_fill_29 : decode cX6_fill 29 = .ok (.aload_n 0, 1) := by decide +kernel
theorem dX6_fill_30 : decode cX6_fill 30 = .ok (.getfield 21, 3) := by decide +kernel
theorem dX6_fill_33 : decode cX6_fill 33 = .ok (.iconst 1, 1) := by decide +kernel
theorem dX6_fill_34 : decode cX6_fill 34 = .ok (.isub, 1) := by decide +kernel
theorem dX6_fill_35 : decode cX6_fill 35 = .ok (.istore 7, 2) := by decide +kernel
theorem dX6_fill_37 : decode cX6_fill 37 = .ok (.iload 7, 2) := by decide +kernel
theorem dX6_fill_39 : decode cX6_fill 39 = .ok (.ifCond .lt 97, 3) := by decide +kernel
theorem dX6_fill_42 : decode cX6_fill 42 = .ok (.iload 6, 2) := by decide +kernel
theorem dX6_fill_44 : decode cX6_fill 44 = .ok (.ifCond .le 92, 3) := by decide +kernel
theorem dX6_fill_47 : decode cX6_fill 47 = .ok (.iinc 6 (-1), 3) := by decide +kernel
theorem dX6_fill_50 : decode cX6_fill 50 = .ok (.aload_n 0, 1) := by decide +kernel
theorem dX6_fill_51 : decode cX6_fill 51 = .ok (.getfield 18, 3) := by decide +kernel
theorem dX6_fill_54 : decode cX6_fill 54 = .ok (.iload 6, 2) := by decide +kernel
theorem dX6_fill_56 : decode cX6_fill 56 = .ok (.iaload, 1) := by decide +kernel
theorem dX6_fill_57 : decode cX6_fill 57 = .ok (.istore 8, 2) := by decide +kernel
theorem dX6_fill_59 : decode cX6_fill 59 = .ok (.aload_n 0, 1) := by decide +kernel
theorem dX6_fill_60 : decode cX6_fill 60 = .ok (.getfield 9, 3) := by decide +kernel
theorem dX6_fill_63 : decode cX6_fill 63 = .ok (.iload 7, 2) := by decide +kernel
theorem dX6_fill_65 : decode cX6_fill 65 = .ok (.aload_n 3, 1) := by decide +kernel
theorem dX6_fill_66 : decode cX6_fill 66 = .ok (.iload 8, 2) := by decide +kernel
theorem dX6_fill_68 : decode cX6_fill 68 = .ok (.iaload, 1) := by decide +kernel
theorem dX6_fill_69 : decode cX6_fill 69 = .ok (.iastore, 1) := by decide +kernel
theorem dX6_fill_70 : decode cX6_fill 70 = .ok (.aload_n 0, 1) := by decide +kernel
theorem dX6_fill_71 : decode cX6_fill 71 = .ok (.getfield 15, 3) := by decide +kernel
theorem dX6_fill_74 : decode cX6_fill 74 = .ok (.iload 7, 2) := by decide +kernel
theorem dX6_fill_76 : decode cX6_fill 76 = .ok (.aload 4, 2) := by decide +kernel
theorem dX6_fill_78 : decode cX6_fill 78 = .ok (.iload 8, 2) := by decide +kernel
theorem dX6_fill_80 : decode cX6_fill 80 = .ok (.iaload, 1) := by decide +kernel
theorem dX6_fill_81 : decode cX6_fill 81 = .ok (.iastore, 1) := by decide +kernel
theorem dX6_fill_82 : decode cX6_fill 82 = .ok (.aload_n 3, 1) := by decide +kernel
theorem dX6_fill_83 : decode cX6_fill 83 = .ok (.iload 8, 2) := by decide +kernel
theorem dX6_fill_85 : decode cX6_fill 85 = .ok (.iaload, 1) := by decide +kernel
theorem dX6_fill_86 : decode cX6_fill 86 = .ok (.ifCond .eq 44, 3) := by decide +kernel
theorem dX6_fill_89 : decode cX6_fill 89 = .ok (.iload 6, 2) := by decide +kernel
theorem dX6_fill_91 : decode cX6_fill 91 = .ok (.iconst 2, 1) := by decide +kernel
theorem dX6_fill_92 : decode cX6_fill 92 = .ok (.iadd, 1) := by decide +kernel
theorem dX6_fill_93 : decode cX6_fill 93 = .ok (.aload_n 0, 1) := by decide +kernel
theorem dX6_fill_94 : decode cX6_fill 94 = .ok (.getfield 18, 3) := by decide +kernel
theorem dX6_fill_97 : decode cX6_fill 97 = .ok (.arraylength, 1) := by decide +kernel
theorem dX6_fill_98 : decode cX6_fill 98 = .ok (.if_icmp .gt 32, 3) := by decide +kernel
theorem dX6_fill_101 : decode cX6_fill 101 = .ok (.aload_n 0, 1) := by decide +kernel
theorem dX6_fill_102 : decode cX6_fill 102 = .ok (.getfield 18, 3) := by decide +kernel
theorem dX6_fill_105 : decode cX6_fill 105 = .ok (.iload 6, 2) := by decide +kernel
theorem dX6_fill_107 : decode cX6_fill 107 = .ok (.aload 4, 2) := by decide +kernel
theorem dX6_fill_109 : decode cX6_fill 109 = .ok (.iload 8, 2) := by decide +kernel
theorem dX6_fill_111 : decode cX6_fill 111 = .ok (.iaload, 1) := by decide +kernel
theorem dX6_fill_112 : decode cX6_fill 112 = .ok (.iastore, 1) := by decide +kernel
theorem dX6_fill_113 : decode cX6_fill 113 = .ok (.aload_n 0, 1) := by decide +kernel
theorem dX6_fill_114 : decode cX6_fill 114 = .ok (.getfield 18, 3) := by decide +kernel
theorem dX6_fill_117 : decode cX6_fill 117 = .ok (.iload 6, 2) := by decide +kernel
theorem dX6_fill_119 : decode cX6_fill 119 = .ok (.iconst 1, 1) := by decide +kernel
theorem dX6_fill_120 : decode cX6_fill 120 = .ok (.iadd, 1) := by decide +kernel
theorem dX6_fill_121 : decode cX6_fill 121 = .ok (.aload 5, 2) := by decide +kernel
theorem dX6_fill_123 : decode cX6_fill 123 = .ok (.iload 8, 2) := by decide +kernel
theorem dX6_fill_125 : decode cX6_fill 125 = .ok (.iaload, 1) := by decide +kernel
theorem dX6_fill_126 : decode cX6_fill 126 = .ok (.iastore, 1) := by decide +kernel
theorem dX6_fill_127 : decode cX6_fill 127 = .ok (.iinc 6 2, 3) := by decide +kernel
theorem dX6_fill_130 : decode cX6_fill 130 = .ok (.iinc 7 (-1), 3) := by decide +kernel
theorem dX6_fill_133 : decode cX6_fill 133 = .ok (.goto (-96), 3) := by decide +kernel
theorem dX6_fill_136 : decode cX6_fill 136 = .ok (.return_, 1) := by decide +kernel
theorem dX7_init_0 : decode cX7_init 0 = .ok (.aload_n 0, 1) := by decide +kernel
theorem dX7_init_1 : decode cX7_init 1 = .ok (.invokespecial 3, 3) := by decide +kernel
theorem dX7_init_4 : decode cX7_init 4 = .ok (.aload_n 0, 1) := by decide +kernel
theorem dX7_init_5 : decode cX7_init 5 = .ok (.sipush 1884, 3) := by decide +kernel
theorem dX7_init_8 : decode cX7_init 8 = .ok (.newarray .int, 2) := by decide +kernel
theorem dX7_init_10 : decode cX7_init 10 = .ok (.putfield 11, 3) := by decide +kernel
theorem dX7_init_13 : decode cX7_init 13 = .ok (.aload_n 0, 1) := by decide +kernel
theorem dX7_init_14 : decode cX7_init 14 = .ok (.sipush 1884, 3) := by decide +kernel
theorem dX7_init_17 : decode cX7_init 17 = .ok (.newarray .int, 2) := by decide +kernel
theorem dX7_init_19 : decode cX7_init 19 = .ok (.putfield 15, 3) := by decide +kernel
theorem dX7_init_22 : decode cX7_init 22 = .ok (.aload_n 0, 1) := by decide +kernel
theorem dX7_init_23 : decode cX7_init 23 = .ok (.sipush 1884, 3) := by decide +kernel
theorem dX7_init_26 : decode cX7_init 26 = .ok (.newarray .int, 2) := by decide +kernel
theorem dX7_init_28 : decode cX7_init 28 = .ok (.putfield 18, 3) := by decide +kernel
theorem dX7_init_31 : decode cX7_init 31 = .ok (.aload_n 0, 1) := by decide +kernel
theorem dX7_init_32 : decode cX7_init 32 = .ok (.sipush 1884, 3) := by decide +kernel
theorem dX7_init_35 : decode cX7_init 35 = .ok (.newarray .int, 2) := by decide +kernel
theorem dX7_init_37 : decode cX7_init 37 = .ok (.putfield 21, 3) := by decide +kernel
theorem dX7_init_40 : decode cX7_init 40 = .ok (.aload_n 0, 1) := by decide +kernel
theorem dX7_init_41 : decode cX7_init 41 = .ok (.sipush 1884, 3) := by decide +kernel
theorem dX7_init_44 : decode cX7_init 44 = .ok (.newarray .int, 2) := by decide +kernel
theorem dX7_init_46 : decode cX7_init 46 = .ok (.putfield 24, 3) := by decide +kernel
theorem dX7_init_49 : decode cX7_init 49 = .ok (.aload_n 0, 1) := by decide +kernel
theorem dX7_init_50 : decode cX7_init 50 = .ok (.sipush 1884, 3) := by decide +kernel
theorem dX7_init_53 : decode cX7_init 53 = .ok (.newarray .int, 2) := by decide +kernel
theorem dX7_init_55 : decode cX7_init 55 = .ok (.putfield 27, 3) := by decide +kernel
theorem dX7_init_58 : decode cX7_init 58 = .ok (.aload_n 0, 1) := by decide +kernel
theorem dX7_init_59 : decode cX7_init 59 = .ok (.sipush 1884, 3) := by decide +kernel
theorem dX7_init_62 : decode cX7_init 62 = .ok (.newarray .int, 2) := by decide +kernel
theorem dX7_init_64 : decode cX7_init 64 = .ok (.putfield 30, 3) := by decide +kernel
theorem dX7_init_67 : decode cX7_init 67 = .ok (.aload_n 0, 1) := by decide +kernel
theorem dX7_init_68 : decode cX7_init 68 = .ok (.sipush 4096, 3) := by decide +kernel
theorem dX7_init_71 : decode cX7_init 71 = .ok (.newarray .int, 2) := by decide +kernel
theorem dX7_init_73 : decode cX7_init 73 = .ok (.putfield 33, 3) := by decide +kernel
theorem dX7_init_76 : decode cX7_init 76 = .ok (.aload_n 0, 1) := by decide +kernel
theorem dX7_init_77 : decode cX7_init 77 = .ok (.bipush 6, 2) := by decide +kernel
theorem dX7_init_79 : decode cX7_init 79 = .ok (.newarray .int, 2) := by decide +kernel
theorem dX7_init_81 : decode cX7_init 81 = .ok (.putfield 36, 3) := by decide +kernel
theorem dX7_init_84 : decode cX7_init 84 = .ok (.aload_n 0, 1) := by decide +kernel
theorem dX7_init_85 : decode cX7_init 85 = .ok (.iconst 4, 1) := by decide +kernel
theorem dX7_init_86 : decode cX7_init 86 = .ok (.newarray .int, 2) := by decide +kernel
theorem dX7_init_88 : decode cX7_init 88 = .ok (.putfield 39, 3) := by decide +kernel
theorem dX7_init_91 : decode cX7_init 91 = .ok (.aload_n 0, 1) := by decide +kernel
theorem dX7_init_92 : decode cX7_init 92 = .ok (.aload_n 1, 1) := by decide +kernel
theorem dX7_init_93 : decode cX7_init 93 = .ok (.putfield 42, 3) := by decide +kernel
theorem dX7_init_96 : decode cX7_init 96 = .ok (.return_, 1) := by decide +kernel
set_option maxRecDepth 20000 in
theorem ggX7_build_X7_isBuiltForBox : GoodIn wsX7_build wsX7_isBuiltForBox := goodIn_r _ [17, 3, 1, 2, 55, 56, 57, 58, 59, 60, 61, 62, 63, 64, 65, 66, 67, 68, 69, 70] (by decide +kernel) (by decide +kernel)
set_option maxRecDepth 20000 in
theorem gX7_build_X7_isBuiltForBox : GoodIn wsX7_build (wsV RX7 46 RX7 yX7_isBuiltForBox wsX7_isBuiltForBox) := goodIn_app (goodIn_of _ (by decide +kernel)) ggX7_build_X7_isBuiltForBox
set_option maxRecDepth 20000 in
theorem ggX7_build_J7_fill_53178 : GoodIn wsX7_build wsJ7_fill_53178 := goodIn_r _ [21] (by decide +kernel) (by decide +kernel)
set_option maxRecDepth 20000 in
theorem gX7_build_J7_fill_53178 : GoodIn wsX7_build (va_wsS RX7 61 yJ7_fill_53178 wsJ7_fill_53178) := goodIn_app (goodIn_of _ (by decide +kernel)) ggX7_build_J7_fill_53178
set_option maxRecDepth 20000 in
theorem ggX7_build_X7_addParts : GoodIn wsX7_build wsX7_addParts := goodIn_r _ [25, 1, 2, 26, 27, 28, 29, 30, 31, 32, 33, 34, 35, 36, 37, 16, 38, 8, 9, 39, 40, 41, 42, 43, 44, 45, 46, 47, 48, 49, 50, 55, 56, 57, 58, 59, 60, 61, 62, 63, 64, 65, 66, 67, 68, 69, 70] (by decide +kernel) (by decide +kernel)
set_option maxRecDepth 20000 in
theorem gX7_build_X7_addParts : GoodIn wsX7_build (wsV RX7 77 RX7 yX7_addParts wsX7_addParts) := goodIn_app (goodIn_of _ (by decide +kernel)) ggX7_build_X7_addParts
set_option maxRecDepth 20000 in
theorem ggX7_build_X7_addPairs : GoodIn wsX7_build wsX7_addPairs := goodIn_r _ [54, 12, 39, 40, 35, 36, 37, 16, 38, 8, 9, 41, 42, 43, 44, 33, 45, 46, 47, 48, 49, 50, 55, 56, 57, 58, 59, 60, 61, 62, 63, 64, 65, 66, 67, 68] (by decide +kernel) (by decide +kernel)
set_option maxRecDepth 20000 in
theorem gX7_build_X7_addPairs : GoodIn wsX7_build (wsV RX7 80 RX7 yX7_addPairs wsX7_addPairs) := goodIn_app (goodIn_of _ (by decide +kernel)) ggX7_build_X7_addPairs
theorem dX7_build_0 : decode cX7_build 0 = .ok (.aload_n 0, 1) := by decide +kernel
theorem dX7_build_1 : decode cX7_build 1 = .ok (.invokevirtual 46, 3) := by decide +kernel
theorem dX7_build_4 : decode cX7_build 4 = .ok (.ifCond .ne 43, 3) := by decide +kernel
theorem dX7_build_7 : decode cX7_build 7 = .ok (.aload_n 0, 1) := by decide +kernel
theorem dX7_build_8 : decode cX7_build 8 = .ok (.getfield 42, 3) := by decide +kernel
theorem dX7_build_11 : decode cX7_build 11 = .ok (.getfield 50, 3) := by decide +kernel
theorem dX7_build_14 : decode cX7_build 14 = .ok (.iconst 0, 1) := by decide +kernel
theorem dX7_build_15 : decode cX7_build 15 = .ok (.aload_n 0, 1) := by decide +kernel
theorem dX7_build_16 : decode cX7_build 16 = .ok (.getfield 39, 3) := by decide +kernel
theorem dX7_build_19 : decode cX7_build 19 = .ok (.iconst 0, 1) := by decide +kernel
theorem dX7_build_20 : decode cX7_build 20 = .ok (.iconst 4, 1) := by decide +kernel
theorem dX7_build_21 : decode cX7_build 21 = .ok (.invokestatic 55, 3) := by decide +kernel
theorem dX7_build_24 : decode cX7_build 24 = .ok (.aload_n 0, 1) := by decide +kernel
theorem dX7_build_25 : decode cX7_build 25 = .ok (.getfield 33, 3) := by decide +kernel
theorem dX7_build_28 : decode cX7_build 28 = .ok (.iconst 0, 1) := by decide +kernel
theorem dX7_build_29 : decode cX7_build 29 = .ok (.invokestatic 61, 3) := by decide +kernel
theorem dX7_build_32 : decode cX7_build 32 = .ok (.aload_n 0, 1) := by decide +kernel
theorem dX7_build_33 : decode cX7_build 33 = .ok (.iconst 0, 1) := by decide +kernel
theorem dX7_build_34 : decode cX7_build 34 = .ok (.putfield 67, 3) := by decide +kernel
theorem dX7_build_37 : decode cX7_build 37 = .ok (.aload_n 0, 1) := by decide +kernel
theorem dX7_build_38 : decode cX7_build 38 = .ok (.iconst 0, 1) := by decide +kernel
theorem dX7_build_39 : decode cX7_build 39 = .ok (.putfield 71, 3) := by decide +kernel
theorem dX7_build_42 : decode cX7_build 42 = .ok (.aload_n 0, 1) := by decide +kernel
theorem dX7_build_43 : decode cX7_build 43 = .ok (.iconst 0, 1) := by decide +kernel
theorem dX7_build_44 : decode cX7_build 44 = .ok (.putfield 74, 3) := by decide +kernel
theorem dX7_build_47 : decode cX7_build 47 = .ok (.aload_n 0, 1) := by decide +kernel
theorem dX7_build_48 : decode cX7_build 48 = .ok (.getfield 71, 3) := by decide +kernel
theorem dX7_build_51 : decode cX7_build 51 = .ok (.iconst 1, 1) := by decide +kernel
theorem dX7_build_52 : decode cX7_build 52 = .ok (.iadd, 1) := by decide +kernel
theorem dX7_build_53 : decode cX7_build 53 = .ok (.istore_n 2, 1) := by decide +kernel
theorem dX7_build_54 : decode cX7_build 54 = .ok (.iload_n 2, 1) := by decide +kernel
theorem dX7_build_55 : decode cX7_build 55 = .ok (.iload_n 1, 1) := by decide +kernel
theorem dX7_build_56 : decode cX7_build 56 = .ok (.if_icmp .gt 73, 3) := by decide +kernel
theorem dX7_build_59 : decode cX7_build 59 = .ok (.iload_n 2, 1) := by decide +kernel
theorem dX7_build_60 : decode cX7_build 60 = .ok (.iconst 4, 1) := by decide +kernel
theorem dX7_build_61 : decode cX7_build 61 = .ok (.if_icmp .gt 68, 3) := by decide +kernel
theorem dX7_build_64 : decode cX7_build 64 = .ok (.aload_n 0, 1) := by decide +kernel
theorem dX7_build_65 : decode cX7_build 65 = .ok (.getfield 36, 3) := by decide +kernel
theorem dX7_build_68 : decode cX7_build 68 = .ok (.iload_n 2, 1) := by decide +kernel
theorem dX7_build_69 : decode cX7_build 69 = .ok (.aload_n 0, 1) := by decide +kernel
theorem dX7_build_70 : decode cX7_build 70 = .ok (.getfield 67, 3) := by decide +kernel
theorem dX7_build_73 : decode cX7_build 73 = .ok (.iastore, 1) := by decide +kernel
theorem dX7_build_74 : decode cX7_build 74 = .ok (.iload_n 2, 1) := by decide +kernel
theorem dX7_build_75 : decode cX7_build 75 = .ok (.iconst 1, 1) := by decide +kernel
theorem dX7_build_76 : decode cX7_build 76 = .ok (.if_icmp .ne 7, 3) := by decide +kernel
theorem dX7_build_79 : decode cX7_build 79 = .ok (.aload_n 0, 1) := by decide +kernel
theorem dX7_build_80 : decode cX7_build 80 = .ok (.invokevirtual 77, 3) := by decide +kernel
theorem dX7_build_83 : decode cX7_build 83 = .ok (.iconst 1, 1) := by decide +kernel
theorem dX7_build_84 : decode cX7_build 84 = .ok (.istore_n 3, 1) := by decide +kernel
theorem dX7_build_85 : decode cX7_build 85 = .ok (.iload_n 3, 1) := by decide +kernel
theorem dX7_build_86 : decode cX7_build 86 = .ok (.iload_n 2, 1) := by decide +kernel
theorem dX7_build_87 : decode cX7_build 87 = .ok (.iconst 2, 1) := by decide +kernel
theorem dX7_build_88 : decode cX7_build 88 = .ok (.idiv, 1) := by decide +kernel
theorem dX7_build_89 : decode cX7_build 89 = .ok (.if_icmp .gt 17, 3) := by decide +kernel
theorem dX7_build_92 : decode cX7_build 92 = .ok (.aload_n 0, 1) := by decide +kernel
theorem dX7_build_93 : decode cX7_build 93 = .ok (.iload_n 3, 1) := by decide +kernel
theorem dX7_build_94 : decode cX7_build 94 = .ok (.iload_n 2, 1) := by decide +kernel
theorem dX7_build_95 : decode cX7_build 95 = .ok (.iload_n 3, 1) := by decide +kernel
theorem dX7_build_96 : decode cX7_build 96 = .ok (.isub, 1) := by decide +kernel
theorem dX7_build_97 : decode cX7_build 97 = .ok (.invokevirtual 80, 3) := by decide +kernel
theorem dX7_build_100 : decode cX7_build 100 = .ok (.iinc 3 1, 3) := by decide +kernel
theorem dX7_build_103 : decode cX7_build 103 = .ok (.goto (-18), 3) := by decide +kernel
theorem dX7_build_106 : decode cX7_build 106 = .ok (.aload_n 0, 1) := by decide +kernel
theorem dX7_build_107 : decode cX7_build 107 = .ok (.getfield 36, 3) := by decide +kernel
theorem dX7_build_110 : decode cX7_build 110 = .ok (.iload_n 2, 1) := by decide +kernel
theorem dX7_build_111 : decode cX7_build 111 = .ok (.iconst 1, 1) := by decide +kernel
theorem dX7_build_112 : decode cX7_build 112 = .ok (.iadd, 1) := by decide +kernel
theorem dX7_build_113 : decode cX7_build 113 = .ok (.aload_n 0, 1) := by decide +kernel
theorem dX7_build_114 : decode cX7_build 114 = .ok (.getfield 67, 3) := by decide +kernel
theorem dX7_build_117 : decode cX7_build 117 = .ok (.iastore, 1) := by decide +kernel
theorem dX7_build_118 : decode cX7_build 118 = .ok (.aload_n 0, 1) := by decide +kernel
theorem dX7_build_119 : decode cX7_build 119 = .ok (.iload_n 2, 1) := by decide +kernel
theorem dX7_build_120 : decode cX7_build 120 = .ok (.putfield 71, 3) := by decide +kernel
theorem dX7_build_123 : decode cX7_build 123 = .ok (.iinc 2 1, 3) := by decide +kernel
theorem dX7_build_126 : decode cX7_build 126 = .ok (.goto (-72), 3) := by decide +kernel
theorem dX7_build_129 : decode cX7_build 129 = .ok (.return_, 1) := by decide +kernel
theorem dX7_isBuiltForBox_0 : decode cX7_isBuiltForBox 0 = .ok (.iconst 0, 1) := by decide +kernel
theorem dX7_isBuiltForBox_1 : decode cX7_isBuiltForBox 1 = .ok (.istore_n 1, 1) := by decide +kernel
theorem dX7_isBuiltForBox_2 : decode cX7_isBuiltForBox 2 = .ok (.iload_n 1, 1) := by decide +kernel
theorem dX7_isBuiltForBox_3 : decode cX7_isBuiltForBox 3 = .ok (.iconst 4, 1) := by decide +kernel
theorem dX7_isBuiltForBox_4 : decode cX7_isBuiltForBox 4 = .ok (.if_icmp .ge 29, 3) := by decide +kernel
theorem dX7_isBuiltForBox_7 : decode cX7_isBuiltForBox 7 = .ok (.aload_n 0, 1) := by decide +kernel
theorem dX7_isBuiltForBox_8 : decode cX7_isBuiltForBox 8 = .ok (.getfield 39, 3) := by decide +kernel
theorem dX7_isBuiltForBox_11 : decode cX7_isBuiltForBox 11 = .ok (.iload_n 1, 1) := by decide +kernel
theorem dX7_isBuiltForBox_12 : decode cX7_isBuiltForBox 12 = .ok (.iaload, 1) := by decide +kernel
theorem dX7_isBuiltForBox_13 : decode cX7_isBuiltForBox 13 = .ok (.aload_n 0, 1) := by decide +kernel
theorem dX7_isBuiltForBox_14 : decode cX7_isBuiltForBox 14 = .ok (.getfield 42, 3) := by decide +kernel
theorem dX7_isBuiltForBox_17 : decode cX7_isBuiltForBox 17 = .ok (.getfield 50, 3) := by decide +kernel
theorem dX7_isBuiltForBox_20 : decode cX7_isBuiltForBox 20 = .ok (.iload_n 1, 1) := by decide +kernel
theorem dX7_isBuiltForBox_21 : decode cX7_isBuiltForBox 21 = .ok (.iaload, 1) := by decide +kernel
theorem dX7_isBuiltForBox_22 : decode cX7_isBuiltForBox 22 = .ok (.if_icmp .eq 5, 3) := by decide +kernel
theorem dX7_isBuiltForBox_25 : decode cX7_isBuiltForBox 25 = .ok (.iconst 0, 1) := by decide +kernel
theorem dX7_isBuiltForBox_26 : decode cX7_isBuiltForBox 26 = .ok (.ireturn, 1) := by decide +kernel
theorem dX7_isBuiltForBox_27 : decode cX7_isBuiltForBox 27 = .ok (.iinc 1 1, 3) := by decide +kernel
theorem dX7_isBuiltForBox_30 : decode cX7_isBuiltForBox 30 = .ok (.goto (-28), 3) := by decide +kernel
theorem dX7_isBuiltForBox_33 : decode cX7_isBuiltForBox 33 = .ok (.iconst 1, 1) := by decide +kernel
theorem dX7_isBuiltForBox_34 : decode cX7_isBuiltForBox 34 = .ok (.ireturn, 1) := by decide +kernel
set_option maxRecDepth 20000 in
theorem ggX7_addParts_X0_has : GoodIn wsX7_addParts wsX0_has := goodIn_r _ [7, 8, 9, 10, 11, 45, 46] (by decide +kernel) (by decide +kernel)
set_option maxRecDepth 20000 in
theorem gX7_addParts_X0_has : GoodIn wsX7_addParts (wsV RX7 84 RX0 yX0_has wsX0_has) := goodIn_app (goodIn_of _ (by decide +kernel)) ggX7_addParts_X0_has
set_option maxRecDepth 20000 in
theorem ggX7_addParts_X7_add : GoodIn wsX7_addParts wsX7_add := goodIn_r _ [16, 17, 18, 19, 20, 21, 22, 23, 24, 10, 25, 26, 27, 28, 15, 29, 30, 31, 32, 33, 34, 35, 36, 37, 38, 39, 40, 41, 42, 43, 44] (by decide +kernel) (by decide +kernel)
set_option maxRecDepth 20000 in
theorem gX7_addParts_X7_add : GoodIn wsX7_addParts (wsV RX7 88 RX7 yX7_add wsX7_add) := goodIn_app (goodIn_of _ (by decide +kernel)) ggX7_addParts_X7_add
theorem dX7_addParts_0 : decode cX7_addParts 0 = .ok (.iconst 0, 1) := by decide +kernel
theorem dX7_addParts_1 : decode cX7_addParts 1 = .ok (.istore_n 1, 1) := by decide +kernel
theorem dX7_addParts_2 : decode cX7_addParts 2 = .ok (.iload_n 1, 1) := by decide +kernel
theorem dX7_addParts_3 : decode cX7_addParts 3 = .ok (.iconst 4, 1) := by decide +kernel
theorem dX7_addParts_4 : decode cX7_addParts 4 = .ok (.if_icmp .ge 38, 3) := by decide +kernel
theorem dX7_addParts_7 : decode cX7_addParts 7 = .ok (.aload_n 0, 1) := by decide +kernel
theorem dX7_addParts_8 : decode cX7_addParts 8 = .ok (.getfield 42, 3) := by decide +kernel
theorem dX7_addParts_11 : decode cX7_addParts 11 = .ok (.iload_n 1, 1) := by decide +kernel
theorem dX7_addParts_12 : decode cX7_addParts 12 = .ok (.invokevirtual 84, 3) := by decide +kernel
theorem dX7_addParts_15 : decode cX7_addParts 15 = .ok (.ifCond .eq 21, 3) := by decide +kernel
theorem dX7_addParts_18 : decode cX7_addParts 18 = .ok (.aload_n 0, 1) := by decide +kernel
theorem dX7_addParts_19 : decode cX7_addParts 19 = .ok (.aload_n 0, 1) := by decide +kernel
theorem dX7_addParts_20 : decode cX7_addParts 20 = .ok (.getfield 42, 3) := by decide +kernel
theorem dX7_addParts_23 : decode cX7_addParts 23 = .ok (.getfield 50, 3) := by decide +kernel
theorem dX7_addParts_26 : decode cX7_addParts 26 = .ok (.iload_n 1, 1) := by decide +kernel
theorem dX7_addParts_27 : decode cX7_addParts 27 = .ok (.iaload, 1) := by decide +kernel
theorem dX7_addParts_28 : decode cX7_addParts 28 = .ok (.i2l, 1) := by decide +kernel
theorem dX7_addParts_29 : decode cX7_addParts 29 = .ok (.lconst 1, 1) := by decide +kernel
theorem dX7_addParts_30 : decode cX7_addParts 30 = .ok (.iconst 0, 1) := by decide +kernel
theorem dX7_addParts_31 : decode cX7_addParts 31 = .ok (.iload_n 1, 1) := by decide +kernel
theorem dX7_addParts_32 : decode cX7_addParts 32 = .ok (.iconst (-1), 1) := by decide +kernel
theorem dX7_addParts_33 : decode cX7_addParts 33 = .ok (.invokevirtual 88, 3) := by decide +kernel
theorem dX7_addParts_36 : decode cX7_addParts 36 = .ok (.iinc 1 1, 3) := by decide +kernel
theorem dX7_addParts_39 : decode cX7_addParts 39 = .ok (.goto (-37), 3) := by decide +kernel
theorem dX7_addParts_42 : decode cX7_addParts 42 = .ok (.return_, 1) := by decide +kernel
set_option maxRecDepth 20000 in
theorem ggX7_addPairs_X7_add : GoodIn wsX7_addPairs wsX7_add := goodIn_r _ [8, 9, 10, 2, 3, 11, 12, 13, 14, 15, 16, 17, 18, 19, 7, 20, 21, 22, 23, 24, 25, 26, 27, 28, 29, 30, 31, 32, 33, 34, 35] (by decide +kernel) (by decide +kernel)
set_option maxRecDepth 20000 in
theorem gX7_addPairs_X7_add : GoodIn wsX7_addPairs (wsV RX7 88 RX7 yX7_add wsX7_add) := goodIn_app (goodIn_of _ (by decide +kernel)) ggX7_addPairs_X7_add
theorem dX7_addPairs_0 : decode cX7_addPairs 0 = .ok (.aload_n 0, 1) := by decide +kernel
theorem dX7_addPairs_1 : decode cX7_addPairs 1 = .ok (.getfield 36, 3) := by decide +kernel
theorem dX7_addPairs_4 : decode cX7_addPairs 4 = .ok (.iload_n 1, 1) := by decide +kernel
theorem dX7_addPairs_5 : decode cX7_addPairs 5 = .ok (.iaload, 1) := by decide +kernel
theorem dX7_addPairs_6 : decode cX7_addPairs 6 = .ok (.istore_n 3, 1) := by decide +kernel
theorem dX7_addPairs_7 : decode cX7_addPairs 7 = .ok (.iload_n 3, 1) := by decide +kernel
theorem dX7_addPairs_8 : decode cX7_addPairs 8 = .ok (.aload_n 0, 1) := by decide +kernel
theorem dX7_addPairs_9 : decode cX7_addPairs 9 = .ok (.getfield 36, 3) := by decide +kernel
theorem dX7_addPairs_12 : decode cX7_addPairs 12 = .ok (.iload_n 1, 1) := by decide +kernel
theorem dX7_addPairs_13 : decode cX7_addPairs 13 = .ok (.iconst 1, 1) := by decide +kernel
theorem dX7_addPairs_14 : decode cX7_addPairs 14 = .ok (.iadd, 1) := by decide +kernel
theorem dX7_addPairs_15 : decode cX7_addPairs 15 = .ok (.iaload, 1) := by decide +kernel
theorem dX7_addPairs_16 : decode cX7_addPairs 16 = .ok (.if_icmp .ge 132, 3) := by decide +kernel
theorem dX7_addPairs_19 : decode cX7_addPairs 19 = .ok (.iload_n 1, 1) := by decide +kernel
theorem dX7_addPairs_20 : decode cX7_addPairs 20 = .ok (.iload_n 2, 1) := by decide +kernel
theorem dX7_addPairs_21 : decode cX7_addPairs 21 = .ok (.if_icmp .ne 7, 3) := by decide +kernel
theorem dX7_addPairs_24 : decode cX7_addPairs 24 = .ok (.iload_n 3, 1) := by decide +kernel
theorem dX7_addPairs_25 : decode cX7_addPairs 25 = .ok (.goto 9, 3) := by decide +kernel
theorem dX7_addPairs_28 : decode cX7_addPairs 28 = .ok (.aload_n 0, 1) := by decide +kernel
theorem dX7_addPairs_29 : decode cX7_addPairs 29 = .ok (.getfield 36, 3) := by decide +kernel
theorem dX7_addPairs_32 : decode cX7_addPairs 32 = .ok (.iload_n 2, 1) := by decide +kernel
theorem dX7_addPairs_33 : decode cX7_addPairs 33 = .ok (.iaload, 1) := by decide +kernel
theorem dX7_addPairs_34 : decode cX7_addPairs 34 = .ok (.istore 4, 2) := by decide +kernel
theorem dX7_addPairs_36 : decode cX7_addPairs 36 = .ok (.iload 4, 2) := by decide +kernel
theorem dX7_addPairs_38 : decode cX7_addPairs 38 = .ok (.aload_n 0, 1) := by decide +kernel
theorem dX7_addPairs_39 : decode cX7_addPairs 39 = .ok (.getfield 36, 3) := by decide +kernel
theorem dX7_addPairs_42 : decode cX7_addPairs 42 = .ok (.iload_n 2, 1) := by decide +kernel
theorem dX7_addPairs_43 : decode cX7_addPairs 43 = .ok (.iconst 1, 1) := by decide +kernel
theorem dX7_addPairs_44 : decode cX7_addPairs 44 = .ok (.iadd, 1) := by decide +kernel
theorem dX7_addPairs_45 : decode cX7_addPairs 45 = .ok (.iaload, 1) := by decide +kernel
theorem dX7_addPairs_46 : decode cX7_addPairs 46 = .ok (.if_icmp .ge 96, 3) := by decide +kernel
theorem dX7_addPairs_49 : decode cX7_addPairs 49 = .ok (.aload_n 0, 1) := by decide +kernel
theorem dX7_addPairs_50 : decode cX7_addPairs 50 = .ok (.getfield 11, 3) := by decide +kernel
theorem dX7_addPairs_53 : decode cX7_addPairs 53 = .ok (.iload_n 3, 1) := by decide +kernel
theorem dX7_addPairs_54 : decode cX7_addPairs 54 = .ok (.iaload, 1) := by decide +kernel
theorem dX7_addPairs_55 : decode cX7_addPairs 55 = .ok (.i2l, 1) := by decide +kernel
theorem dX7_addPairs_56 : decode cX7_addPairs 56 = .ok (.aload_n 0, 1) := by decide +kernel
theorem dX7_addPairs_57 : decode cX7_addPairs 57 = .ok (.getfield 15, 3) := by decide +kernel
theorem dX7_addPairs_60 : decode cX7_addPairs 60 = .ok (.iload 4, 2) := by decide +kernel
theorem dX7_addPairs_62 : decode cX7_addPairs 62 = .ok (.iaload, 1) := by decide +kernel
theorem dX7_addPairs_63 : decode cX7_addPairs 63 = .ok (.i2l, 1) := by decide +kernel
theorem dX7_addPairs_64 : decode cX7_addPairs 64 = .ok (.lmul, 1) := by decide +kernel
theorem dX7_addPairs_65 : decode cX7_addPairs 65 = .ok (.aload_n 0, 1) := by decide +kernel
theorem dX7_addPairs_66 : decode cX7_addPairs 66 = .ok (.getfield 11, 3) := by decide +kernel
theorem dX7_addPairs_69 : decode cX7_addPairs 69 = .ok (.iload 4, 2) := by decide +kernel
theorem dX7_addPairs_71 : decode cX7_addPairs 71 = .ok (.iaload, 1) := by decide +kernel
theorem dX7_addPairs_72 : decode cX7_addPairs 72 = .ok (.i2l, 1) := by decide +kernel
theorem dX7_addPairs_73 : decode cX7_addPairs 73 = .ok (.aload_n 0, 1) := by decide +kernel
theorem dX7_addPairs_74 : decode cX7_addPairs 74 = .ok (.getfield 15, 3) := by decide +kernel
theorem dX7_addPairs_77 : decode cX7_addPairs 77 = .ok (.iload_n 3, 1) := by decide +kernel
theorem dX7_addPairs_78 : decode cX7_addPairs 78 = .ok (.iaload, 1) := by decide +kernel
theorem dX7_addPairs_79 : decode cX7_addPairs 79 = .ok (.i2l, 1) := by decide +kernel
theorem dX7_addPairs_80 : decode cX7_addPairs 80 = .ok (.lmul, 1) := by decide +kernel
theorem dX7_addPairs_81 : decode cX7_addPairs 81 = .ok (.ladd, 1) := by decide +kernel
theorem dX7_addPairs_82 : decode cX7_addPairs 82 = .ok (.lstore 5, 2) := by decide +kernel
theorem dX7_addPairs_84 : decode cX7_addPairs 84 = .ok (.aload_n 0, 1) := by decide +kernel
theorem dX7_addPairs_85 : decode cX7_addPairs 85 = .ok (.lload 5, 2) := by decide +kernel
theorem dX7_addPairs_87 : decode cX7_addPairs 87 = .ok (.aload_n 0, 1) := by decide +kernel
theorem dX7_addPairs_88 : decode cX7_addPairs 88 = .ok (.getfield 15, 3) := by decide +kernel
theorem dX7_addPairs_91 : decode cX7_addPairs 91 = .ok (.iload_n 3, 1) := by decide +kernel
theorem dX7_addPairs_92 : decode cX7_addPairs 92 = .ok (.iaload, 1) := by decide +kernel
theorem dX7_addPairs_93 : decode cX7_addPairs 93 = .ok (.i2l, 1) := by decide +kernel
theorem dX7_addPairs_94 : decode cX7_addPairs 94 = .ok (.aload_n 0, 1) := by decide +kernel
theorem dX7_addPairs_95 : decode cX7_addPairs 95 = .ok (.getfield 15, 3) := by decide +kernel
theorem dX7_addPairs_98 : decode cX7_addPairs 98 = .ok (.iload 4, 2) := by decide +kernel
theorem dX7_addPairs_100 : decode cX7_addPairs 100 = .ok (.iaload, 1) := by decide +kernel
theorem dX7_addPairs_101 : decode cX7_addPairs 101 = .ok (.i2l, 1) := by decide +kernel
theorem dX7_addPairs_102 : decode cX7_addPairs 102 = .ok (.lmul, 1) := by decide +kernel
theorem dX7_addPairs_103 : decode cX7_addPairs 103 = .ok (.iconst 1, 1) := by decide +kernel
theorem dX7_addPairs_104 : decode cX7_addPairs 104 = .ok (.iload_n 3, 1) := by decide +kernel
theorem dX7_addPairs_105 : decode cX7_addPairs 105 = .ok (.iload 4, 2) := by decide +kernel
theorem dX7_addPairs_107 : decode cX7_addPairs 107 = .ok (.invokevirtual 88, 3) := by decide +kernel
theorem dX7_addPairs_110 : decode cX7_addPairs 110 = .ok (.aload_n 0, 1) := by decide +kernel
theorem dX7_addPairs_111 : decode cX7_addPairs 111 = .ok (.aload_n 0, 1) := by decide +kernel
theorem dX7_addPairs_112 : decode cX7_addPairs 112 = .ok (.getfield 11, 3) := by decide +kernel
theorem dX7_addPairs_115 : decode cX7_addPairs 115 = .ok (.iload_n 3, 1) := by decide +kernel
theorem dX7_addPairs_116 : decode cX7_addPairs 116 = .ok (.iaload, 1) := by decide +kernel
theorem dX7_addPairs_117 : decode cX7_addPairs 117 = .ok (.i2l, 1) := by decide +kernel
theorem dX7_addPairs_118 : decode cX7_addPairs 118 = .ok (.aload_n 0, 1) := by decide +kernel
theorem dX7_addPairs_119 : decode cX7_addPairs 119 = .ok (.getfield 11, 3) := by decide +kernel
theorem dX7_addPairs_122 : decode cX7_addPairs 122 = .ok (.iload 4, 2) := by decide +kernel
theorem dX7_addPairs_124 : decode cX7_addPairs 124 = .ok (.iaload, 1) := by decide +kernel
theorem dX7_addPairs_125 : decode cX7_addPairs 125 = .ok (.i2l, 1) := by decide +kernel
theorem dX7_addPairs_126 : decode cX7_addPairs 126 = .ok (.lmul, 1) := by decide +kernel
theorem dX7_addPairs_127 : decode cX7_addPairs 127 = .ok (.lload 5, 2) := by decide +kernel
theorem dX7_addPairs_129 : decode cX7_addPairs 129 = .ok (.iconst 2, 1) := by decide +kernel
theorem dX7_addPairs_130 : decode cX7_addPairs 130 = .ok (.iload_n 3, 1) := by decide +kernel
theorem dX7_addPairs_131 : decode cX7_addPairs 131 = .ok (.iload 4, 2) := by decide +kernel
theorem dX7_addPairs_133 : decode cX7_addPairs 133 = .ok (.invokevirtual 88, 3) := by decide +kernel
theorem dX7_addPairs_136 : decode cX7_addPairs 136 = .ok (.iinc 4 1, 3) := by decide +kernel
theorem dX7_addPairs_139 : decode cX7_addPairs 139 = .ok (.goto (-103), 3) := by decide +kernel
theorem dX7_addPairs_142 : decode cX7_addPairs 142 = .ok (.iinc 3 1, 3) := by decide +kernel
theorem dX7_addPairs_145 : decode cX7_addPairs 145 = .ok (.goto (-138), 3) := by decide +kernel
theorem dX7_addPairs_148 : decode cX7_addPairs 148 = .ok (.return_, 1) := by decide +kernel
set_option maxRecDepth 20000 in
theorem ggX7_add_X10_greatestDivisor : GoodIn wsX7_add wsX10_greatestDivisor := goodIn_r _ [10] (by decide +kernel) (by decide +kernel)
set_option maxRecDepth 20000 in
theorem gX7_add_X10_greatestDivisor_n92 : GoodIn wsX7_add (wsX10_greatestDivisor) := ggX7_add_X10_greatestDivisor
set_option maxRecDepth 20000 in
theorem ggX7_add_X7_slotOf : GoodIn wsX7_add wsX7_slotOf := goodIn_r _ [15, 16, 1, 3, 4, 17, 18, 19, 20, 21, 22, 23, 24, 25, 26, 27, 28, 29, 30] (by decide +kernel) (by decide +kernel)
set_option maxRecDepth 20000 in
theorem gX7_add_X7_slotOf : GoodIn wsX7_add (wsV RX7 96 RX7 yX7_slotOf wsX7_slotOf) := goodIn_app (goodIn_of _ (by decide +kernel)) ggX7_add_X7_slotOf
theorem dX7_add_0 : decode cX7_add 0 = .ok (.lload_n 1, 1) := by decide +kernel
theorem dX7_add_1 : decode cX7_add 1 = .ok (.lload_n 3, 1) := by decide +kernel
theorem dX7_add_2 : decode cX7_add 2 = .ok (.invokestatic 92, 3) := by decide +kernel
theorem dX7_add_5 : decode cX7_add 5 = .ok (.lstore 8, 2) := by decide +kernel
theorem dX7_add_7 : decode cX7_add 7 = .ok (.lload 8, 2) := by decide +kernel
theorem dX7_add_9 : decode cX7_add 9 = .ok (.lconst 0, 1) := by decide +kernel
theorem dX7_add_10 : decode cX7_add 10 = .ok (.lcmp, 1) := by decide +kernel
theorem dX7_add_11 : decode cX7_add 11 = .ok (.ifCond .ne 4, 3) := by decide +kernel
theorem dX7_add_14 : decode cX7_add 14 = .ok (.return_, 1) := by decide +kernel
theorem dX7_add_15 : decode cX7_add 15 = .ok (.lload_n 1, 1) := by decide +kernel
theorem dX7_add_16 : decode cX7_add 16 = .ok (.lload 8, 2) := by decide +kernel
theorem dX7_add_18 : decode cX7_add 18 = .ok (.ldiv, 1) := by decide +kernel
theorem dX7_add_19 : decode cX7_add 19 = .ok (.l2i, 1) := by decide +kernel
theorem dX7_add_20 : decode cX7_add 20 = .ok (.istore 10, 2) := by decide +kernel
theorem dX7_add_22 : decode cX7_add 22 = .ok (.lload_n 3, 1) := by decide +kernel
theorem dX7_add_23 : decode cX7_add 23 = .ok (.lload 8, 2) := by decide +kernel
theorem dX7_add_25 : decode cX7_add 25 = .ok (.ldiv, 1) := by decide +kernel
theorem dX7_add_26 : decode cX7_add 26 = .ok (.l2i, 1) := by decide +kernel
theorem dX7_add_27 : decode cX7_add 27 = .ok (.istore 11, 2) := by decide +kernel
theorem dX7_add_29 : decode cX7_add 29 = .ok (.aload_n 0, 1) := by decide +kernel
theorem dX7_add_30 : decode cX7_add 30 = .ok (.iload 10, 2) := by decide +kernel
theorem dX7_add_32 : decode cX7_add 32 = .ok (.iload 11, 2) := by decide +kernel
theorem dX7_add_34 : decode cX7_add 34 = .ok (.invokevirtual 96, 3) := by decide +kernel
theorem dX7_add_37 : decode cX7_add 37 = .ok (.istore 12, 2) := by decide +kernel
theorem dX7_add_39 : decode cX7_add 39 = .ok (.aload_n 0, 1) := by decide +kernel
theorem dX7_add_40 : decode cX7_add 40 = .ok (.getfield 33, 3) := by decide +kernel
theorem dX7_add_43 : decode cX7_add 43 = .ok (.iload 12, 2) := by decide +kernel
theorem dX7_add_45 : decode cX7_add 45 = .ok (.iaload, 1) := by decide +kernel
theorem dX7_add_46 : decode cX7_add 46 = .ok (.ifCond .ne 13, 3) := by decide +kernel
theorem dX7_add_49 : decode cX7_add 49 = .ok (.aload_n 0, 1) := by decide +kernel
theorem dX7_add_50 : decode cX7_add 50 = .ok (.getfield 67, 3) := by decide +kernel
theorem dX7_add_53 : decode cX7_add 53 = .ok (.sipush 1884, 3) := by decide +kernel
theorem dX7_add_56 : decode cX7_add 56 = .ok (.if_icmp .lt 4, 3) := by decide +kernel
theorem dX7_add_59 : decode cX7_add 59 = .ok (.return_, 1) := by decide +kernel
theorem dX7_add_60 : decode cX7_add 60 = .ok (.aload_n 0, 1) := by decide +kernel
theorem dX7_add_61 : decode cX7_add 61 = .ok (.getfield 11, 3) := by decide +kernel
theorem dX7_add_64 : decode cX7_add 64 = .ok (.aload_n 0, 1) := by decide +kernel
theorem dX7_add_65 : decode cX7_add 65 = .ok (.getfield 67, 3) := by decide +kernel
theorem dX7_add_68 : decode cX7_add 68 = .ok (.iload 10, 2) := by decide +kernel
theorem dX7_add_70 : decode cX7_add 70 = .ok (.iastore, 1) := by decide +kernel
theorem dX7_add_71 : decode cX7_add 71 = .ok (.aload_n 0, 1) := by decide +kernel
theorem dX7_add_72 : decode cX7_add 72 = .ok (.getfield 15, 3) := by decide +kernel
theorem dX7_add_75 : decode cX7_add 75 = .ok (.aload_n 0, 1) := by decide +kernel
theorem dX7_add_76 : decode cX7_add 76 = .ok (.getfield 67, 3) := by decide +kernel
theorem dX7_add_79 : decode cX7_add 79 = .ok (.iload 11, 2) := by decide +kernel
theorem dX7_add_81 : decode cX7_add 81 = .ok (.iastore, 1) := by decide +kernel
theorem dX7_add_82 : decode cX7_add 82 = .ok (.aload_n 0, 1) := by decide +kernel
theorem dX7_add_83 : decode cX7_add 83 = .ok (.getfield 18, 3) := by decide +kernel
theorem dX7_add_86 : decode cX7_add 86 = .ok (.aload_n 0, 1) := by decide +kernel
theorem dX7_add_87 : decode cX7_add 87 = .ok (.getfield 67, 3) := by decide +kernel
theorem dX7_add_90 : decode cX7_add 90 = .ok (.iload 5, 2) := by decide +kernel
theorem dX7_add_92 : decode cX7_add 92 = .ok (.iastore, 1) := by decide +kernel
theorem dX7_add_93 : decode cX7_add 93 = .ok (.aload_n 0, 1) := by decide +kernel
theorem dX7_add_94 : decode cX7_add 94 = .ok (.getfield 21, 3) := by decide +kernel
theorem dX7_add_97 : decode cX7_add 97 = .ok (.aload_n 0, 1) := by decide +kernel
theorem dX7_add_98 : decode cX7_add 98 = .ok (.getfield 67, 3) := by decide +kernel
theorem dX7_add_101 : decode cX7_add 101 = .ok (.iload 6, 2) := by decide +kernel
theorem dX7_add_103 : decode cX7_add 103 = .ok (.iastore, 1) := by decide +kernel
theorem dX7_add_104 : decode cX7_add 104 = .ok (.aload_n 0, 1) := by decide +kernel
theorem dX7_add_105 : decode cX7_add 105 = .ok (.getfield 24, 3) := by decide +kernel
theorem dX7_add_108 : decode cX7_add 108 = .ok (.aload_n 0, 1) := by decide +kernel
theorem dX7_add_109 : decode cX7_add 109 = .ok (.getfield 67, 3) := by decide +kernel
theorem dX7_add_112 : decode cX7_add 112 = .ok (.iload 7, 2) := by decide +kernel
theorem dX7_add_114 : decode cX7_add 114 = .ok (.iastore, 1) := by decide +kernel
theorem dX7_add_115 : decode cX7_add 115 = .ok (.aload_n 0, 1) := by decide +kernel
theorem dX7_add_116 : decode cX7_add 116 = .ok (.dup, 1) := by decide +kernel
theorem dX7_add_117 : decode cX7_add 117 = .ok (.getfield 67, 3) := by decide +kernel
theorem dX7_add_120 : decode cX7_add 120 = .ok (.iconst 1, 1) := by decide +kernel
theorem dX7_add_121 : decode cX7_add 121 = .ok (.iadd, 1) := by decide +kernel
theorem dX7_add_122 : decode cX7_add 122 = .ok (.putfield 67, 3) := by decide +kernel
theorem dX7_add_125 : decode cX7_add 125 = .ok (.aload_n 0, 1) := by decide +kernel
theorem dX7_add_126 : decode cX7_add 126 = .ok (.getfield 33, 3) := by decide +kernel
theorem dX7_add_129 : decode cX7_add 129 = .ok (.iload 12, 2) := by decide +kernel
theorem dX7_add_131 : decode cX7_add 131 = .ok (.aload_n 0, 1) := by decide +kernel
theorem dX7_add_132 : decode cX7_add 132 = .ok (.getfield 67, 3) := by decide +kernel
theorem dX7_add_135 : decode cX7_add 135 = .ok (.iastore, 1) := by decide +kernel
theorem dX7_add_136 : decode cX7_add 136 = .ok (.return_, 1) := by decide +kernel
theorem dX7_slotOf_0 : decode cX7_slotOf 0 = .ok (.iload_n 1, 1) := by decide +kernel
theorem dX7_slotOf_1 : decode cX7_slotOf 1 = .ok (.ldc 100, 2) := by decide +kernel
theorem dX7_slotOf_3 : decode cX7_slotOf 3 = .ok (.imul, 1) := by decide +kernel
theorem dX7_slotOf_4 : decode cX7_slotOf 4 = .ok (.iload_n 2, 1) := by decide +kernel
theorem dX7_slotOf_5 : decode cX7_slotOf 5 = .ok (.sipush 30011, 3) := by decide +kernel
theorem dX7_slotOf_8 : decode cX7_slotOf 8 = .ok (.imul, 1) := by decide +kernel
theorem dX7_slotOf_9 : decode cX7_slotOf 9 = .ok (.iadd, 1) := by decide +kernel
theorem dX7_slotOf_10 : decode cX7_slotOf 10 = .ok (.istore_n 3, 1) := by decide +kernel
theorem dX7_slotOf_11 : decode cX7_slotOf 11 = .ok (.iload_n 3, 1) := by decide +kernel
theorem dX7_slotOf_12 : decode cX7_slotOf 12 = .ok (.iload_n 3, 1) := by decide +kernel
theorem dX7_slotOf_13 : decode cX7_slotOf 13 = .ok (.bipush 13, 2) := by decide +kernel
theorem dX7_slotOf_15 : decode cX7_slotOf 15 = .ok (.iushr, 1) := by decide +kernel
theorem dX7_slotOf_16 : decode cX7_slotOf 16 = .ok (.ixor, 1) := by decide +kernel
theorem dX7_slotOf_17 : decode cX7_slotOf 17 = .ok (.sipush 4095, 3) := by decide +kernel
theorem dX7_slotOf_20 : decode cX7_slotOf 20 = .ok (.iand, 1) := by decide +kernel
theorem dX7_slotOf_21 : decode cX7_slotOf 21 = .ok (.istore 4, 2) := by decide +kernel
theorem dX7_slotOf_23 : decode cX7_slotOf 23 = .ok (.iconst 0, 1) := by decide +kernel
theorem dX7_slotOf_24 : decode cX7_slotOf 24 = .ok (.istore 5, 2) := by decide +kernel
theorem dX7_slotOf_26 : decode cX7_slotOf 26 = .ok (.iload 5, 2) := by decide +kernel
theorem dX7_slotOf_28 : decode cX7_slotOf 28 = .ok (.sipush 4096, 3) := by decide +kernel
theorem dX7_slotOf_31 : decode cX7_slotOf 31 = .ok (.if_icmp .ge 60, 3) := by decide +kernel
theorem dX7_slotOf_34 : decode cX7_slotOf 34 = .ok (.aload_n 0, 1) := by decide +kernel
theorem dX7_slotOf_35 : decode cX7_slotOf 35 = .ok (.getfield 33, 3) := by decide +kernel
theorem dX7_slotOf_38 : decode cX7_slotOf 38 = .ok (.iload 4, 2) := by decide +kernel
theorem dX7_slotOf_40 : decode cX7_slotOf 40 = .ok (.iaload, 1) := by decide +kernel
theorem dX7_slotOf_41 : decode cX7_slotOf 41 = .ok (.iconst 1, 1) := by decide +kernel
theorem dX7_slotOf_42 : decode cX7_slotOf 42 = .ok (.isub, 1) := by decide +kernel
theorem dX7_slotOf_43 : decode cX7_slotOf 43 = .ok (.istore 6, 2) := by decide +kernel
theorem dX7_slotOf_45 : decode cX7_slotOf 45 = .ok (.iload 6, 2) := by decide +kernel
theorem dX7_slotOf_47 : decode cX7_slotOf 47 = .ok (.ifCond .lt 25, 3) := by decide +kernel
theorem dX7_slotOf_50 : decode cX7_slotOf 50 = .ok (.aload_n 0, 1) := by decide +kernel
theorem dX7_slotOf_51 : decode cX7_slotOf 51 = .ok (.getfield 11, 3) := by decide +kernel
theorem dX7_slotOf_54 : decode cX7_slotOf 54 = .ok (.iload 6, 2) := by decide +kernel
theorem dX7_slotOf_56 : decode cX7_slotOf 56 = .ok (.iaload, 1) := by decide +kernel
theorem dX7_slotOf_57 : decode cX7_slotOf 57 = .ok (.iload_n 1, 1) := by decide +kernel
theorem dX7_slotOf_58 : decode cX7_slotOf 58 = .ok (.if_icmp .ne 17, 3) := by decide +kernel
theorem dX7_slotOf_61 : decode cX7_slotOf 61 = .ok (.aload_n 0, 1) := by decide +kernel
theorem dX7_slotOf_62 : decode cX7_slotOf 62 = .ok (.getfield 15, 3) := by decide +kernel
theorem dX7_slotOf_65 : decode cX7_slotOf 65 = .ok (.iload 6, 2) := by decide +kernel
theorem dX7_slotOf_67 : decode cX7_slotOf 67 = .ok (.iaload, 1) := by decide +kernel
theorem dX7_slotOf_68 : decode cX7_slotOf 68 = .ok (.iload_n 2, 1) := by decide +kernel
theorem dX7_slotOf_69 : decode cX7_slotOf 69 = .ok (.if_icmp .ne 6, 3) := by decide +kernel
theorem dX7_slotOf_72 : decode cX7_slotOf 72 = .ok (.iload 4, 2) := by decide +kernel
theorem dX7_slotOf_74 : decode cX7_slotOf 74 = .ok (.ireturn, 1) := by decide +kernel
theorem dX7_slotOf_75 : decode cX7_slotOf 75 = .ok (.iload 4, 2) := by decide +kernel
theorem dX7_slotOf_77 : decode cX7_slotOf 77 = .ok (.iconst 1, 1) := by decide +kernel
theorem dX7_slotOf_78 : decode cX7_slotOf 78 = .ok (.iadd, 1) := by decide +kernel
theorem dX7_slotOf_79 : decode cX7_slotOf 79 = .ok (.sipush 4095, 3) := by decide +kernel
theorem dX7_slotOf_82 : decode cX7_slotOf 82 = .ok (.iand, 1) := by decide +kernel
theorem dX7_slotOf_83 : decode cX7_slotOf 83 = .ok (.istore 4, 2) := by decide +kernel
theorem dX7_slotOf_85 : decode cX7_slotOf 85 = .ok (.iinc 5 1, 3) := by decide +kernel
theorem dX7_slotOf_88 : decode cX7_slotOf 88 = .ok (.goto (-62), 3) := by decide +kernel
theorem dX7_slotOf_91 : decode cX7_slotOf 91 = .ok (.iload 4, 2) := by decide +kernel
theorem dX7_slotOf_93 : decode cX7_slotOf 93 = .ok (.ireturn, 1) := by decide +kernel
theorem dX7_side_0 : decode cX7_side 0 = .ok (.iload_n 2, 1) := by decide +kernel
theorem dX7_side_1 : decode cX7_side 1 = .ok (.ifCond .ne 12, 3) := by decide +kernel
theorem dX7_side_4 : decode cX7_side 4 = .ok (.aload_n 0, 1) := by decide +kernel
theorem dX7_side_5 : decode cX7_side 5 = .ok (.getfield 11, 3) := by decide +kernel
theorem dX7_side_8 : decode cX7_side 8 = .ok (.iload_n 1, 1) := by decide +kernel
theorem dX7_side_9 : decode cX7_side 9 = .ok (.iaload, 1) := by decide +kernel
theorem dX7_side_10 : decode cX7_side 10 = .ok (.goto 9, 3) := by decide +kernel
theorem dX7_side_13 : decode cX7_side 13 = .ok (.aload_n 0, 1) := by decide +kernel
theorem dX7_side_14 : decode cX7_side 14 = .ok (.getfield 15, 3) := by decide +kernel
theorem dX7_side_17 : decode cX7_side 17 = .ok (.iload_n 1, 1) := by decide +kernel
theorem dX7_side_18 : decode cX7_side 18 = .ok (.iaload, 1) := by decide +kernel
theorem dX7_side_19 : decode cX7_side 19 = .ok (.ireturn, 1) := by decide +kernel
theorem dX7_partsOf_0 : decode cX7_partsOf 0 = .ok (.iconst 1, 1) := by decide +kernel
theorem dX7_partsOf_1 : decode cX7_partsOf 1 = .ok (.istore_n 2, 1) := by decide +kernel
theorem dX7_partsOf_2 : decode cX7_partsOf 2 = .ok (.iload_n 2, 1) := by decide +kernel
theorem dX7_partsOf_3 : decode cX7_partsOf 3 = .ok (.aload_n 0, 1) := by decide +kernel
theorem dX7_partsOf_4 : decode cX7_partsOf 4 = .ok (.getfield 71, 3) := by decide +kernel
theorem dX7_partsOf_7 : decode cX7_partsOf 7 = .ok (.if_icmp .ge 23, 3) := by decide +kernel
theorem dX7_partsOf_10 : decode cX7_partsOf 10 = .ok (.iload_n 1, 1) := by decide +kernel
theorem dX7_partsOf_11 : decode cX7_partsOf 11 = .ok (.aload_n 0, 1) := by decide +kernel
theorem dX7_partsOf_12 : decode cX7_partsOf 12 = .ok (.getfield 36, 3) := by decide +kernel
theorem dX7_partsOf_15 : decode cX7_partsOf 15 = .ok (.iload_n 2, 1) := by decide +kernel
theorem dX7_partsOf_16 : decode cX7_partsOf 16 = .ok (.iconst 1, 1) := by decide +kernel
theorem dX7_partsOf_17 : decode cX7_partsOf 17 = .ok (.iadd, 1) := by decide +kernel
theorem dX7_partsOf_18 : decode cX7_partsOf 18 = .ok (.iaload, 1) := by decide +kernel
theorem dX7_partsOf_19 : decode cX7_partsOf 19 = .ok (.if_icmp .ge 5, 3) := by decide +kernel
theorem dX7_partsOf_22 : decode cX7_partsOf 22 = .ok (.iload_n 2, 1) := by decide +kernel
theorem dX7_partsOf_23 : decode cX7_partsOf 23 = .ok (.ireturn, 1) := by decide +kernel
theorem dX7_partsOf_24 : decode cX7_partsOf 24 = .ok (.iinc 2 1, 3) := by decide +kernel
theorem dX7_partsOf_27 : decode cX7_partsOf 27 = .ok (.goto (-25), 3) := by decide +kernel
theorem dX7_partsOf_30 : decode cX7_partsOf 30 = .ok (.aload_n 0, 1) := by decide +kernel
theorem dX7_partsOf_31 : decode cX7_partsOf 31 = .ok (.getfield 71, 3) := by decide +kernel
theorem dX7_partsOf_34 : decode cX7_partsOf 34 = .ok (.ireturn, 1) := by decide +kernel
set_option maxRecDepth 20000 in
theorem ggX7_indexOf_X10_greatestDivisor : GoodIn wsX7_indexOf wsX10_greatestDivisor := goodIn_r _ [4] (by decide +kernel) (by decide +kernel)
set_option maxRecDepth 20000 in
theorem gX7_indexOf_X10_greatestDivisor_n92 : GoodIn wsX7_indexOf (wsX10_greatestDivisor) := ggX7_indexOf_X10_greatestDivisor
set_option maxRecDepth 20000 in
theorem ggX7_indexOf_X7_build : GoodIn wsX7_indexOf wsX7_build := goodIn_r _ [9, 10, 11, 12, 13, 14, 15, 16, 1, 17, 18, 19, 20, 21, 22, 23, 8, 24, 25, 26, 27, 28, 29, 30, 31, 32, 33, 34, 35, 36, 37, 38, 39, 3, 40, 41, 42, 43, 44, 45, 46, 47, 48, 49, 2, 4, 50, 51, 52, 53, 54, 55, 56, 57, 58, 59, 60, 61, 62, 63, 64, 65, 66, 67, 68, 69, 70, 71, 72, 73, 74] (by decide +kernel) (by decide +kernel)
set_option maxRecDepth 20000 in
theorem gX7_indexOf_X7_build : GoodIn wsX7_indexOf (wsV RX7 101 RX7 yX7_build wsX7_build) := goodIn_app (goodIn_of _ (by decide +kernel)) ggX7_indexOf_X7_build
set_option maxRecDepth 20000 in
theorem ggX7_indexOf_X7_slotOf : GoodIn wsX7_indexOf wsX7_slotOf := goodIn_r _ [53, 54, 1, 45, 46, 59, 60, 61, 62, 63, 64, 65, 66, 67, 68, 69, 70, 71, 72] (by decide +kernel) (by decide +kernel)
set_option maxRecDepth 20000 in
theorem gX7_indexOf_X7_slotOf : GoodIn wsX7_indexOf (wsV RX7 96 RX7 yX7_slotOf wsX7_slotOf) := goodIn_app (goodIn_of _ (by decide +kernel)) ggX7_indexOf_X7_slotOf
theorem dX7_indexOf_0 : decode cX7_indexOf 0 = .ok (.iload_n 1, 1) := by decide +kernel
theorem dX7_indexOf_1 : decode cX7_indexOf 1 = .ok (.i2l, 1) := by decide +kernel
theorem dX7_indexOf_2 : decode cX7_indexOf 2 = .ok (.iload_n 2, 1) := by decide +kernel
theorem dX7_indexOf_3 : decode cX7_indexOf 3 = .ok (.i2l, 1) := by decide +kernel
theorem dX7_indexOf_4 : decode cX7_indexOf 4 = .ok (.invokestatic 92, 3) := by decide +kernel
theorem dX7_indexOf_7 : decode cX7_indexOf 7 = .ok (.l2i, 1) := by decide +kernel
theorem dX7_indexOf_8 : decode cX7_indexOf 8 = .ok (.istore_n 3, 1) := by decide +kernel
theorem dX7_indexOf_9 : decode cX7_indexOf 9 = .ok (.iload_n 3, 1) := by decide +kernel
theorem dX7_indexOf_10 : decode cX7_indexOf 10 = .ok (.ifCond .ne 5, 3) := by decide +kernel
theorem dX7_indexOf_13 : decode cX7_indexOf 13 = .ok (.iconst (-1), 1) := by decide +kernel
theorem dX7_indexOf_14 : decode cX7_indexOf 14 = .ok (.ireturn, 1) := by decide +kernel
theorem dX7_indexOf_15 : decode cX7_indexOf 15 = .ok (.iconst 1, 1) := by decide +kernel
theorem dX7_indexOf_16 : decode cX7_indexOf 16 = .ok (.istore 4, 2) := by decide +kernel
theorem dX7_indexOf_18 : decode cX7_indexOf 18 = .ok (.iload 4, 2) := by decide +kernel
theorem dX7_indexOf_20 : decode cX7_indexOf 20 = .ok (.iconst 4, 1) := by decide +kernel
theorem dX7_indexOf_21 : decode cX7_indexOf 21 = .ok (.if_icmp .gt 42, 3) := by decide +kernel
theorem dX7_indexOf_24 : decode cX7_indexOf 24 = .ok (.aload_n 0, 1) := by decide +kernel
theorem dX7_indexOf_25 : decode cX7_indexOf 25 = .ok (.iload 4, 2) := by decide +kernel
theorem dX7_indexOf_27 : decode cX7_indexOf 27 = .ok (.invokevirtual 101, 3) := by decide +kernel
theorem dX7_indexOf_30 : decode cX7_indexOf 30 = .ok (.aload_n 0, 1) := by decide +kernel
theorem dX7_indexOf_31 : decode cX7_indexOf 31 = .ok (.getfield 33, 3) := by decide +kernel
theorem dX7_indexOf_34 : decode cX7_indexOf 34 = .ok (.aload_n 0, 1) := by decide +kernel
theorem dX7_indexOf_35 : decode cX7_indexOf 35 = .ok (.iload_n 1, 1) := by decide +kernel
theorem dX7_indexOf_36 : decode cX7_indexOf 36 = .ok (.iload_n 3, 1) := by decide +kernel
theorem dX7_indexOf_37 : decode cX7_indexOf 37 = .ok (.idiv, 1) := by decide +kernel
theorem dX7_indexOf_38 : decode cX7_indexOf 38 = .ok (.iload_n 2, 1) := by decide +kernel
theorem dX7_indexOf_39 : decode cX7_indexOf 39 = .ok (.iload_n 3, 1) := by decide +kernel
theorem dX7_indexOf_40 : decode cX7_indexOf 40 = .ok (.idiv, 1) := by decide +kernel
theorem dX7_indexOf_41 : decode cX7_indexOf 41 = .ok (.invokevirtual 96, 3) := by decide +kernel
theorem dX7_indexOf_44 : decode cX7_indexOf 44 = .ok (.iaload, 1) := by decide +kernel
theorem dX7_indexOf_45 : decode cX7_indexOf 45 = .ok (.istore 5, 2) := by decide +kernel
theorem dX7_indexOf_47 : decode cX7_indexOf 47 = .ok (.iload 5, 2) := by decide +kernel
theorem dX7_indexOf_49 : decode cX7_indexOf 49 = .ok (.ifCond .eq 8, 3) := by decide +kernel
theorem dX7_indexOf_52 : decode cX7_indexOf 52 = .ok (.iload 5, 2) := by decide +kernel
theorem dX7_indexOf_54 : decode cX7_indexOf 54 = .ok (.iconst 1, 1) := by decide +kernel
theorem dX7_indexOf_55 : decode cX7_indexOf 55 = .ok (.isub, 1) := by decide +kernel
theorem dX7_indexOf_56 : decode cX7_indexOf 56 = .ok (.ireturn, 1) := by decide +kernel
theorem dX7_indexOf_57 : decode cX7_indexOf 57 = .ok (.iinc 4 1, 3) := by decide +kernel
theorem dX7_indexOf_60 : decode cX7_indexOf 60 = .ok (.goto (-42), 3) := by decide +kernel
theorem dX7_indexOf_63 : decode cX7_indexOf 63 = .ok (.iconst (-1), 1) := by decide +kernel
theorem dX7_indexOf_64 : decode cX7_indexOf 64 = .ok (.ireturn, 1) := by decide +kernel
set_option maxRecDepth 20000 in
theorem ggX7_bySize_X7_build : GoodIn wsX7_bySize wsX7_build := goodIn_r _ [8, 9, 10, 11, 12, 13, 14, 15, 16, 17, 18, 2, 1, 19, 20, 21, 7, 22, 23, 24, 25, 26, 27, 28, 29, 30, 31, 32, 33, 34, 35, 36, 37, 38, 39, 40, 41, 42, 43, 44, 45, 46, 47, 48, 49, 50, 51, 52, 53, 54, 55, 56, 57, 58, 59, 77, 78, 79, 80, 81, 82, 83, 84, 85, 86, 87, 88, 89, 90, 91, 92] (by decide +kernel) (by decide +kernel)
set_option maxRecDepth 20000 in
theorem gX7_bySize_X7_build : GoodIn wsX7_bySize (wsV RX7 101 RX7 yX7_build wsX7_build) := goodIn_app (goodIn_of _ (by decide +kernel)) ggX7_bySize_X7_build
set_option maxRecDepth 20000 in
theorem ggX7_bySize_X7_putInOrder : GoodIn wsX7_bySize wsX7_putInOrder := goodIn_r _ [63, 3, 64, 65, 66, 67, 68, 12, 13, 14, 15, 69, 70, 71, 7, 72, 73, 74, 75, 76, 44, 45, 77, 78, 79, 80, 81, 82, 83, 84, 85, 86, 87, 88, 89, 90] (by decide +kernel) (by decide +kernel)
set_option maxRecDepth 20000 in
theorem gX7_bySize_X7_putInOrder : GoodIn wsX7_bySize (wsV RX7 105 RX7 yX7_putInOrder wsX7_putInOrder) := goodIn_app (goodIn_of _ (by decide +kernel)) ggX7_bySize_X7_putInOrder
theorem dX7_bySize_0 : decode cX7_bySize 0 = .ok (.aload_n 0, 1) := by decide +kernel
theorem dX7_bySize_1 : decode cX7_bySize 1 = .ok (.iload_n 1, 1) := by decide +kernel
theorem dX7_bySize_2 : decode cX7_bySize 2 = .ok (.invokevirtual 101, 3) := by decide +kernel
theorem dX7_bySize_5 : decode cX7_bySize 5 = .ok (.iload_n 2, 1) := by decide +kernel
theorem dX7_bySize_6 : decode cX7_bySize 6 = .ok (.ifCond .lt 22, 3) := by decide +kernel
theorem dX7_bySize_9 : decode cX7_bySize 9 = .ok (.iload_n 2, 1) := by decide +kernel
theorem dX7_bySize_10 : decode cX7_bySize 10 = .ok (.aload_n 0, 1) := by decide +kernel
theorem dX7_bySize_11 : decode cX7_bySize 11 = .ok (.getfield 36, 3) := by decide +kernel
theorem dX7_bySize_14 : decode cX7_bySize 14 = .ok (.iload_n 1, 1) := by decide +kernel
theorem dX7_bySize_15 : decode cX7_bySize 15 = .ok (.iconst 1, 1) := by decide +kernel
theorem dX7_bySize_16 : decode cX7_bySize 16 = .ok (.iadd, 1) := by decide +kernel
theorem dX7_bySize_17 : decode cX7_bySize 17 = .ok (.iaload, 1) := by decide +kernel
theorem dX7_bySize_18 : decode cX7_bySize 18 = .ok (.aload_n 0, 1) := by decide +kernel
theorem dX7_bySize_19 : decode cX7_bySize 19 = .ok (.getfield 36, 3) := by decide +kernel
theorem dX7_bySize_22 : decode cX7_bySize 22 = .ok (.iload_n 1, 1) := by decide +kernel
theorem dX7_bySize_23 : decode cX7_bySize 23 = .ok (.iaload, 1) := by decide +kernel
theorem dX7_bySize_24 : decode cX7_bySize 24 = .ok (.isub, 1) := by decide +kernel
theorem dX7_bySize_25 : decode cX7_bySize 25 = .ok (.if_icmp .lt 5, 3) := by decide +kernel
theorem dX7_bySize_28 : decode cX7_bySize 28 = .ok (.iconst (-1), 1) := by decide +kernel
theorem dX7_bySize_29 : decode cX7_bySize 29 = .ok (.ireturn, 1) := by decide +kernel
theorem dX7_bySize_30 : decode cX7_bySize 30 = .ok (.aload_n 0, 1) := by decide +kernel
theorem dX7_bySize_31 : decode cX7_bySize 31 = .ok (.getfield 74, 3) := by decide +kernel
theorem dX7_bySize_34 : decode cX7_bySize 34 = .ok (.iload_n 1, 1) := by decide +kernel
theorem dX7_bySize_35 : decode cX7_bySize 35 = .ok (.ishr, 1) := by decide +kernel
theorem dX7_bySize_36 : decode cX7_bySize 36 = .ok (.iconst 1, 1) := by decide +kernel
theorem dX7_bySize_37 : decode cX7_bySize 37 = .ok (.iand, 1) := by decide +kernel
theorem dX7_bySize_38 : decode cX7_bySize 38 = .ok (.ifCond .ne 33, 3) := by decide +kernel
theorem dX7_bySize_41 : decode cX7_bySize 41 = .ok (.aload_n 0, 1) := by decide +kernel
theorem dX7_bySize_42 : decode cX7_bySize 42 = .ok (.aload_n 0, 1) := by decide +kernel
theorem dX7_bySize_43 : decode cX7_bySize 43 = .ok (.getfield 36, 3) := by decide +kernel
theorem dX7_bySize_46 : decode cX7_bySize 46 = .ok (.iload_n 1, 1) := by decide +kernel
theorem dX7_bySize_47 : decode cX7_bySize 47 = .ok (.iaload, 1) := by decide +kernel
theorem dX7_bySize_48 : decode cX7_bySize 48 = .ok (.aload_n 0, 1) := by decide +kernel
theorem dX7_bySize_49 : decode cX7_bySize 49 = .ok (.getfield 36, 3) := by decide +kernel
theorem dX7_bySize_52 : decode cX7_bySize 52 = .ok (.iload_n 1, 1) := by decide +kernel
theorem dX7_bySize_53 : decode cX7_bySize 53 = .ok (.iconst 1, 1) := by decide +kernel
theorem dX7_bySize_54 : decode cX7_bySize 54 = .ok (.iadd, 1) := by decide +kernel
theorem dX7_bySize_55 : decode cX7_bySize 55 = .ok (.iaload, 1) := by decide +kernel
theorem dX7_bySize_56 : decode cX7_bySize 56 = .ok (.invokevirtual 105, 3) := by decide +kernel
theorem dX7_bySize_59 : decode cX7_bySize 59 = .ok (.aload_n 0, 1) := by decide +kernel
theorem dX7_bySize_60 : decode cX7_bySize 60 = .ok (.dup, 1) := by decide +kernel
theorem dX7_bySize_61 : decode cX7_bySize 61 = .ok (.getfield 74, 3) := by decide +kernel
theorem dX7_bySize_64 : decode cX7_bySize 64 = .ok (.iconst 1, 1) := by decide +kernel
theorem dX7_bySize_65 : decode cX7_bySize 65 = .ok (.iload_n 1, 1) := by decide +kernel
theorem dX7_bySize_66 : decode cX7_bySize 66 = .ok (.ishl, 1) := by decide +kernel
theorem dX7_bySize_67 : decode cX7_bySize 67 = .ok (.ior, 1) := by decide +kernel
theorem dX7_bySize_68 : decode cX7_bySize 68 = .ok (.putfield 74, 3) := by decide +kernel
theorem dX7_bySize_71 : decode cX7_bySize 71 = .ok (.aload_n 0, 1) := by decide +kernel
theorem dX7_bySize_72 : decode cX7_bySize 72 = .ok (.getfield 27, 3) := by decide +kernel
theorem dX7_bySize_75 : decode cX7_bySize 75 = .ok (.aload_n 0, 1) := by decide +kernel
theorem dX7_bySize_76 : decode cX7_bySize 76 = .ok (.getfield 36, 3) := by decide +kernel
theorem dX7_bySize_79 : decode cX7_bySize 79 = .ok (.iload_n 1, 1) := by decide +kernel
theorem dX7_bySize_80 : decode cX7_bySize 80 = .ok (.iaload, 1) := by decide +kernel
theorem dX7_bySize_81 : decode cX7_bySize 81 = .ok (.iload_n 2, 1) := by decide +kernel
theorem dX7_bySize_82 : decode cX7_bySize 82 = .ok (.iadd, 1) := by decide +kernel
theorem dX7_bySize_83 : decode cX7_bySize 83 = .ok (.iaload, 1) := by decide +kernel
theorem dX7_bySize_84 : decode cX7_bySize 84 = .ok (.ireturn, 1) := by decide +kernel
set_option maxRecDepth 20000 in
theorem ggX7_putInOrder_X7_merge : GoodIn wsX7_putInOrder wsX7_merge := goodIn_r _ [15, 1, 6, 16, 17, 18, 14, 19, 20, 21, 22, 23, 24, 25, 26, 27, 28, 29, 30, 31, 32, 33, 34, 35] (by decide +kernel) (by decide +kernel)
set_option maxRecDepth 20000 in
theorem gX7_putInOrder_X7_merge : GoodIn wsX7_putInOrder (wsV RX7 113 RX7 yX7_merge wsX7_merge) := goodIn_app (goodIn_of _ (by decide +kernel)) ggX7_putInOrder_X7_merge
theorem dX7_putInOrder_0 : decode cX7_putInOrder 0 = .ok (.iload_n 1, 1) := by decide +kernel
theorem dX7_putInOrder_1 : decode cX7_putInOrder 1 = .ok (.istore_n 3, 1) := by decide +kernel
theorem dX7_putInOrder_2 : decode cX7_putInOrder 2 = .ok (.iload_n 3, 1) := by decide +kernel
theorem dX7_putInOrder_3 : decode cX7_putInOrder 3 = .ok (.iload_n 2, 1) := by decide +kernel
theorem dX7_putInOrder_4 : decode cX7_putInOrder 4 = .ok (.if_icmp .ge 16, 3) := by decide +kernel
theorem dX7_putInOrder_7 : decode cX7_putInOrder 7 = .ok (.aload_n 0, 1) := by decide +kernel
theorem dX7_putInOrder_8 : decode cX7_putInOrder 8 = .ok (.getfield 27, 3) := by decide +kernel
theorem dX7_putInOrder_11 : decode cX7_putInOrder 11 = .ok (.iload_n 3, 1) := by decide +kernel
theorem dX7_putInOrder_12 : decode cX7_putInOrder 12 = .ok (.iload_n 3, 1) := by decide +kernel
theorem dX7_putInOrder_13 : decode cX7_putInOrder 13 = .ok (.iastore, 1) := by decide +kernel
theorem dX7_putInOrder_14 : decode cX7_putInOrder 14 = .ok (.iinc 3 1, 3) := by decide +kernel
theorem dX7_putInOrder_17 : decode cX7_putInOrder 17 = .ok (.goto (-15), 3) := by decide +kernel
theorem dX7_putInOrder_20 : decode cX7_putInOrder 20 = .ok (.iconst 1, 1) := by decide +kernel
theorem dX7_putInOrder_21 : decode cX7_putInOrder 21 = .ok (.istore_n 3, 1) := by decide +kernel
theorem dX7_putInOrder_22 : decode cX7_putInOrder 22 = .ok (.iload_n 3, 1) := by decide +kernel
theorem dX7_putInOrder_23 : decode cX7_putInOrder 23 = .ok (.iload_n 2, 1) := by decide +kernel
theorem dX7_putInOrder_24 : decode cX7_putInOrder 24 = .ok (.iload_n 1, 1) := by decide +kernel
theorem dX7_putInOrder_25 : decode cX7_putInOrder 25 = .ok (.isub, 1) := by decide +kernel
theorem dX7_putInOrder_26 : decode cX7_putInOrder 26 = .ok (.if_icmp .ge 70, 3) := by decide +kernel
theorem dX7_putInOrder_29 : decode cX7_putInOrder 29 = .ok (.iload_n 1, 1) := by decide +kernel
theorem dX7_putInOrder_30 : decode cX7_putInOrder 30 = .ok (.istore 4, 2) := by decide +kernel
theorem dX7_putInOrder_32 : decode cX7_putInOrder 32 = .ok (.iload 4, 2) := by decide +kernel
theorem dX7_putInOrder_34 : decode cX7_putInOrder 34 = .ok (.iload_n 2, 1) := by decide +kernel
theorem dX7_putInOrder_35 : decode cX7_putInOrder 35 = .ok (.if_icmp .ge 38, 3) := by decide +kernel
theorem dX7_putInOrder_38 : decode cX7_putInOrder 38 = .ok (.aload_n 0, 1) := by decide +kernel
theorem dX7_putInOrder_39 : decode cX7_putInOrder 39 = .ok (.iload 4, 2) := by decide +kernel
theorem dX7_putInOrder_41 : decode cX7_putInOrder 41 = .ok (.iload 4, 2) := by decide +kernel
theorem dX7_putInOrder_43 : decode cX7_putInOrder 43 = .ok (.iload_n 3, 1) := by decide +kernel
theorem dX7_putInOrder_44 : decode cX7_putInOrder 44 = .ok (.iadd, 1) := by decide +kernel
theorem dX7_putInOrder_45 : decode cX7_putInOrder 45 = .ok (.iload_n 2, 1) := by decide +kernel
theorem dX7_putInOrder_46 : decode cX7_putInOrder 46 = .ok (.invokestatic 108, 3) := by decide +kernel
theorem dX7_putInOrder_49 : decode cX7_putInOrder 49 = .ok (.iload 4, 2) := by decide +kernel
theorem dX7_putInOrder_51 : decode cX7_putInOrder 51 = .ok (.iconst 2, 1) := by decide +kernel
theorem dX7_putInOrder_52 : decode cX7_putInOrder 52 = .ok (.iload_n 3, 1) := by decide +kernel
theorem dX7_putInOrder_53 : decode cX7_putInOrder 53 = .ok (.imul, 1) := by decide +kernel
theorem dX7_putInOrder_54 : decode cX7_putInOrder 54 = .ok (.iadd, 1) := by decide +kernel
theorem dX7_putInOrder_55 : decode cX7_putInOrder 55 = .ok (.iload_n 2, 1) := by decide +kernel
theorem dX7_putInOrder_56 : decode cX7_putInOrder 56 = .ok (.invokestatic 108, 3) := by decide +kernel
theorem dX7_putInOrder_59 : decode cX7_putInOrder 59 = .ok (.invokevirtual 113, 3) := by decide +kernel
theorem dX7_putInOrder_62 : decode cX7_putInOrder 62 = .ok (.iload 4, 2) := by decide +kernel
theorem dX7_putInOrder_64 : decode cX7_putInOrder 64 = .ok (.iconst 2, 1) := by decide +kernel
theorem dX7_putInOrder_65 : decode cX7_putInOrder 65 = .ok (.iload_n 3, 1) := by decide +kernel
theorem dX7_putInOrder_66 : decode cX7_putInOrder 66 = .ok (.imul, 1) := by decide +kernel
theorem dX7_putInOrder_67 : decode cX7_putInOrder 67 = .ok (.iadd, 1) := by decide +kernel
theorem dX7_putInOrder_68 : decode cX7_putInOrder 68 = .ok (.istore 4, 2) := by decide +kernel
theorem dX7_putInOrder_70 : decode cX7_putInOrder 70 = .ok (.goto (-38), 3) := by decide +kernel
theorem dX7_putInOrder_73 : decode cX7_putInOrder 73 = .ok (.aload_n 0, 1) := by decide +kernel
theorem dX7_putInOrder_74 : decode cX7_putInOrder 74 = .ok (.getfield 30, 3) := by decide +kernel
theorem dX7_putInOrder_77 : decode cX7_putInOrder 77 = .ok (.iload_n 1, 1) := by decide +kernel
theorem dX7_putInOrder_78 : decode cX7_putInOrder 78 = .ok (.aload_n 0, 1) := by decide +kernel
theorem dX7_putInOrder_79 : decode cX7_putInOrder 79 = .ok (.getfield 27, 3) := by decide +kernel
theorem dX7_putInOrder_82 : decode cX7_putInOrder 82 = .ok (.iload_n 1, 1) := by decide +kernel
theorem dX7_putInOrder_83 : decode cX7_putInOrder 83 = .ok (.iload_n 2, 1) := by decide +kernel
theorem dX7_putInOrder_84 : decode cX7_putInOrder 84 = .ok (.iload_n 1, 1) := by decide +kernel
theorem dX7_putInOrder_85 : decode cX7_putInOrder 85 = .ok (.isub, 1) := by decide +kernel
theorem dX7_putInOrder_86 : decode cX7_putInOrder 86 = .ok (.invokestatic 55, 3) := by decide +kernel
theorem dX7_putInOrder_89 : decode cX7_putInOrder 89 = .ok (.iload_n 3, 1) := by decide +kernel
theorem dX7_putInOrder_90 : decode cX7_putInOrder 90 = .ok (.iconst 2, 1) := by decide +kernel
theorem dX7_putInOrder_91 : decode cX7_putInOrder 91 = .ok (.imul, 1) := by decide +kernel
theorem dX7_putInOrder_92 : decode cX7_putInOrder 92 = .ok (.istore_n 3, 1) := by decide +kernel
theorem dX7_putInOrder_93 : decode cX7_putInOrder 93 = .ok (.goto (-71), 3) := by decide +kernel
theorem dX7_putInOrder_96 : decode cX7_putInOrder 96 = .ok (.return_, 1) := by decide +kernel
set_option maxRecDepth 20000 in
theorem ggX7_merge_X7_isLess : GoodIn wsX7_merge wsX7_isLess := goodIn_r _ [7, 8, 9, 10, 11, 12, 13, 14, 15, 16, 17, 18, 19, 20, 21, 22, 23] (by decide +kernel) (by decide +kernel)
set_option maxRecDepth 20000 in
theorem gX7_merge_X7_isLess : GoodIn wsX7_merge (wsV RX7 117 RX7 yX7_isLess wsX7_isLess) := goodIn_app (goodIn_of _ (by decide +kernel)) ggX7_merge_X7_isLess
theorem dX7_merge_0 : decode cX7_merge 0 = .ok (.iload_n 1, 1) := by decide +kernel
theorem dX7_merge_1 : decode cX7_merge 1 = .ok (.istore 4, 2) := by decide +kernel
theorem dX7_merge_3 : decode cX7_merge 3 = .ok (.iload_n 2, 1) := by decide +kernel
theorem dX7_merge_4 : decode cX7_merge 4 = .ok (.istore 5, 2) := by decide +kernel
theorem dX7_merge_6 : decode cX7_merge 6 = .ok (.iload_n 1, 1) := by decide +kernel
theorem dX7_merge_7 : decode cX7_merge 7 = .ok (.istore 6, 2) := by decide +kernel
theorem dX7_merge_9 : decode cX7_merge 9 = .ok (.iload 6, 2) := by decide +kernel
theorem dX7_merge_11 : decode cX7_merge 11 = .ok (.iload_n 3, 1) := by decide +kernel
theorem dX7_merge_12 : decode cX7_merge 12 = .ok (.if_icmp .ge 79, 3) := by decide +kernel
theorem dX7_merge_15 : decode cX7_merge 15 = .ok (.iload 5, 2) := by decide +kernel
theorem dX7_merge_17 : decode cX7_merge 17 = .ok (.iload_n 3, 1) := by decide +kernel
theorem dX7_merge_18 : decode cX7_merge 18 = .ok (.if_icmp .ge 30, 3) := by decide +kernel
theorem dX7_merge_21 : decode cX7_merge 21 = .ok (.iload 4, 2) := by decide +kernel
theorem dX7_merge_23 : decode cX7_merge 23 = .ok (.iload_n 2, 1) := by decide +kernel
theorem dX7_merge_24 : decode cX7_merge 24 = .ok (.if_icmp .ge 44, 3) := by decide +kernel
theorem dX7_merge_27 : decode cX7_merge 27 = .ok (.aload_n 0, 1) := by decide +kernel
theorem dX7_merge_28 : decode cX7_merge 28 = .ok (.aload_n 0, 1) := by decide +kernel
theorem dX7_merge_29 : decode cX7_merge 29 = .ok (.getfield 27, 3) := by decide +kernel
theorem dX7_merge_32 : decode cX7_merge 32 = .ok (.iload 4, 2) := by decide +kernel
theorem dX7_merge_34 : decode cX7_merge 34 = .ok (.iaload, 1) := by decide +kernel
theorem dX7_merge_35 : decode cX7_merge 35 = .ok (.aload_n 0, 1) := by decide +kernel
theorem dX7_merge_36 : decode cX7_merge 36 = .ok (.getfield 27, 3) := by decide +kernel
theorem dX7_merge_39 : decode cX7_merge 39 = .ok (.iload 5, 2) := by decide +kernel
theorem dX7_merge_41 : decode cX7_merge 41 = .ok (.iaload, 1) := by decide +kernel
theorem dX7_merge_42 : decode cX7_merge 42 = .ok (.invokevirtual 117, 3) := by decide +kernel
theorem dX7_merge_45 : decode cX7_merge 45 = .ok (.ifCond .eq 23, 3) := by decide +kernel
theorem dX7_merge_48 : decode cX7_merge 48 = .ok (.aload_n 0, 1) := by decide +kernel
theorem dX7_merge_49 : decode cX7_merge 49 = .ok (.getfield 30, 3) := by decide +kernel
theorem dX7_merge_52 : decode cX7_merge 52 = .ok (.iload 6, 2) := by decide +kernel
theorem dX7_merge_54 : decode cX7_merge 54 = .ok (.aload_n 0, 1) := by decide +kernel
theorem dX7_merge_55 : decode cX7_merge 55 = .ok (.getfield 27, 3) := by decide +kernel
theorem dX7_merge_58 : decode cX7_merge 58 = .ok (.iload 4, 2) := by decide +kernel
theorem dX7_merge_60 : decode cX7_merge 60 = .ok (.iaload, 1) := by decide +kernel
theorem dX7_merge_61 : decode cX7_merge 61 = .ok (.iastore, 1) := by decide +kernel
theorem dX7_merge_62 : decode cX7_merge 62 = .ok (.iinc 4 1, 3) := by decide +kernel
theorem dX7_merge_65 : decode cX7_merge 65 = .ok (.goto 20, 3) := by decide +kernel
theorem dX7_merge_68 : decode cX7_merge 68 = .ok (.aload_n 0, 1) := by decide +kernel
theorem dX7_merge_69 : decode cX7_merge 69 = .ok (.getfield 30, 3) := by decide +kernel
theorem dX7_merge_72 : decode cX7_merge 72 = .ok (.iload 6, 2) := by decide +kernel
theorem dX7_merge_74 : decode cX7_merge 74 = .ok (.aload_n 0, 1) := by decide +kernel
theorem dX7_merge_75 : decode cX7_merge 75 = .ok (.getfield 27, 3) := by decide +kernel
theorem dX7_merge_78 : decode cX7_merge 78 = .ok (.iload 5, 2) := by decide +kernel
theorem dX7_merge_80 : decode cX7_merge 80 = .ok (.iaload, 1) := by decide +kernel
theorem dX7_merge_81 : decode cX7_merge 81 = .ok (.iastore, 1) := by decide +kernel
theorem dX7_merge_82 : decode cX7_merge 82 = .ok (.iinc 5 1, 3) := by decide +kernel
theorem dX7_merge_85 : decode cX7_merge 85 = .ok (.iinc 6 1, 3) := by decide +kernel
theorem dX7_merge_88 : decode cX7_merge 88 = .ok (.goto (-79), 3) := by decide +kernel
theorem dX7_merge_91 : decode cX7_merge 91 = .ok (.return_, 1) := by decide +kernel
theorem dX7_isLess_0 : decode cX7_isLess 0 = .ok (.aload_n 0, 1) := by decide +kernel
theorem dX7_isLess_1 : decode cX7_isLess 1 = .ok (.getfield 11, 3) := by decide +kernel
theorem dX7_isLess_4 : decode cX7_isLess 4 = .ok (.iload_n 1, 1) := by decide +kernel
theorem dX7_isLess_5 : decode cX7_isLess 5 = .ok (.iaload, 1) := by decide +kernel
theorem dX7_isLess_6 : decode cX7_isLess 6 = .ok (.i2l, 1) := by decide +kernel
theorem dX7_isLess_7 : decode cX7_isLess 7 = .ok (.aload_n 0, 1) := by decide +kernel
theorem dX7_isLess_8 : decode cX7_isLess 8 = .ok (.getfield 15, 3) := by decide +kernel
theorem dX7_isLess_11 : decode cX7_isLess 11 = .ok (.iload_n 2, 1) := by decide +kernel
theorem dX7_isLess_12 : decode cX7_isLess 12 = .ok (.iaload, 1) := by decide +kernel
theorem dX7_isLess_13 : decode cX7_isLess 13 = .ok (.i2l, 1) := by decide +kernel
theorem dX7_isLess_14 : decode cX7_isLess 14 = .ok (.lmul, 1) := by decide +kernel
theorem dX7_isLess_15 : decode cX7_isLess 15 = .ok (.aload_n 0, 1) := by decide +kernel
theorem dX7_isLess_16 : decode cX7_isLess 16 = .ok (.getfield 11, 3) := by decide +kernel
theorem dX7_isLess_19 : decode cX7_isLess 19 = .ok (.iload_n 2, 1) := by decide +kernel
theorem dX7_isLess_20 : decode cX7_isLess 20 = .ok (.iaload, 1) := by decide +kernel
theorem dX7_isLess_21 : decode cX7_isLess 21 = .ok (.i2l, 1) := by decide +kernel
theorem dX7_isLess_22 : decode cX7_isLess 22 = .ok (.aload_n 0, 1) := by decide +kernel
theorem dX7_isLess_23 : decode cX7_isLess 23 = .ok (.getfield 15, 3) := by decide +kernel
theorem dX7_isLess_26 : decode cX7_isLess 26 = .ok (.iload_n 1, 1) := by decide +kernel
theorem dX7_isLess_27 : decode cX7_isLess 27 = .ok (.iaload, 1) := by decide +kernel
theorem dX7_isLess_28 : decode cX7_isLess 28 = .ok (.i2l, 1) := by decide +kernel
theorem dX7_isLess_29 : decode cX7_isLess 29 = .ok (.lmul, 1) := by decide +kernel
theorem dX7_isLess_30 : decode cX7_isLess 30 = .ok (.lcmp, 1) := by decide +kernel
theorem dX7_isLess_31 : decode cX7_isLess 31 = .ok (.ifCond .ge 7, 3) := by decide +kernel
theorem dX7_isLess_34 : decode cX7_isLess 34 = .ok (.iconst 1, 1) := by decide +kernel
theorem dX7_isLess_35 : decode cX7_isLess 35 = .ok (.goto 4, 3) := by decide +kernel
theorem dX7_isLess_38 : decode cX7_isLess 38 = .ok (.iconst 0, 1) := by decide +kernel
theorem dX7_isLess_39 : decode cX7_isLess 39 = .ok (.ireturn, 1) := by decide +kernel
set_option maxRecDepth 20000 in
theorem ggX7_nearestTo_X7_build : GoodIn wsX7_nearestTo wsX7_build := goodIn_r _ [12, 13, 14, 15, 16, 17, 18, 19, 20, 21, 22, 23, 1, 24, 25, 26, 11, 27, 28, 29, 30, 31, 32, 33, 34, 35, 36, 37, 38, 39, 40, 41, 42, 43, 44, 45, 46, 47, 48, 2, 3, 49, 50, 51, 52, 53, 54, 55, 56, 57, 58, 59, 60, 61, 62, 75, 76, 77, 78, 79, 80, 81, 82, 83, 84, 85, 86, 87, 88, 89, 90] (by decide +kernel) (by decide +kernel)
set_option maxRecDepth 20000 in
theorem gX7_nearestTo_X7_build : GoodIn wsX7_nearestTo (wsV RX7 101 RX7 yX7_build wsX7_build) := goodIn_app (goodIn_of _ (by decide +kernel)) ggX7_nearestTo_X7_build
set_option maxRecDepth 20000 in
theorem ggX7_nearestTo_X7_isNearer : GoodIn wsX7_nearestTo wsX7_isNearer := goodIn_r _ [66, 3, 67, 68, 69, 11, 70, 22, 1, 71, 72, 73, 74, 2, 75, 76, 77, 78, 79, 80, 81, 82, 83, 84, 85, 86, 87, 88] (by decide +kernel) (by decide +kernel)
set_option maxRecDepth 20000 in
theorem gX7_nearestTo_X7_isNearer : GoodIn wsX7_nearestTo (wsV RX7 125 RX7 yX7_isNearer wsX7_isNearer) := goodIn_app (goodIn_of _ (by decide +kernel)) ggX7_nearestTo_X7_isNearer
theorem dX7_nearestTo_0 : decode cX7_nearestTo 0 = .ok (.aload_n 0, 1) := by decide +kernel
theorem dX7_nearestTo_1 : decode cX7_nearestTo 1 = .ok (.iload_n 3, 1) := by decide +kernel
theorem dX7_nearestTo_2 : decode cX7_nearestTo 2 = .ok (.invokevirtual 101, 3) := by decide +kernel
theorem dX7_nearestTo_5 : decode cX7_nearestTo 5 = .ok (.iconst (-1), 1) := by decide +kernel
theorem dX7_nearestTo_6 : decode cX7_nearestTo 6 = .ok (.istore 4, 2) := by decide +kernel
theorem dX7_nearestTo_8 : decode cX7_nearestTo 8 = .ok (.lconst 0, 1) := by decide +kernel
theorem dX7_nearestTo_9 : decode cX7_nearestTo 9 = .ok (.lstore 5, 2) := by decide +kernel
theorem dX7_nearestTo_11 : decode cX7_nearestTo 11 = .ok (.iconst 0, 1) := by decide +kernel
theorem dX7_nearestTo_12 : decode cX7_nearestTo 12 = .ok (.istore 7, 2) := by decide +kernel
theorem dX7_nearestTo_14 : decode cX7_nearestTo 14 = .ok (.iload 7, 2) := by decide +kernel
theorem dX7_nearestTo_16 : decode cX7_nearestTo 16 = .ok (.aload_n 0, 1) := by decide +kernel
theorem dX7_nearestTo_17 : decode cX7_nearestTo 17 = .ok (.getfield 36, 3) := by decide +kernel
theorem dX7_nearestTo_20 : decode cX7_nearestTo 20 = .ok (.iload_n 3, 1) := by decide +kernel
theorem dX7_nearestTo_21 : decode cX7_nearestTo 21 = .ok (.iconst 1, 1) := by decide +kernel
theorem dX7_nearestTo_22 : decode cX7_nearestTo 22 = .ok (.iadd, 1) := by decide +kernel
theorem dX7_nearestTo_23 : decode cX7_nearestTo 23 = .ok (.iaload, 1) := by decide +kernel
theorem dX7_nearestTo_24 : decode cX7_nearestTo 24 = .ok (.if_icmp .ge 66, 3) := by decide +kernel
theorem dX7_nearestTo_27 : decode cX7_nearestTo 27 = .ok (.aload_n 0, 1) := by decide +kernel
theorem dX7_nearestTo_28 : decode cX7_nearestTo 28 = .ok (.getfield 11, 3) := by decide +kernel
theorem dX7_nearestTo_31 : decode cX7_nearestTo 31 = .ok (.iload 7, 2) := by decide +kernel
theorem dX7_nearestTo_33 : decode cX7_nearestTo 33 = .ok (.iaload, 1) := by decide +kernel
theorem dX7_nearestTo_34 : decode cX7_nearestTo 34 = .ok (.i2l, 1) := by decide +kernel
theorem dX7_nearestTo_35 : decode cX7_nearestTo 35 = .ok (.iload_n 2, 1) := by decide +kernel
theorem dX7_nearestTo_36 : decode cX7_nearestTo 36 = .ok (.i2l, 1) := by decide +kernel
theorem dX7_nearestTo_37 : decode cX7_nearestTo 37 = .ok (.lmul, 1) := by decide +kernel
theorem dX7_nearestTo_38 : decode cX7_nearestTo 38 = .ok (.aload_n 0, 1) := by decide +kernel
theorem dX7_nearestTo_39 : decode cX7_nearestTo 39 = .ok (.getfield 15, 3) := by decide +kernel
theorem dX7_nearestTo_42 : decode cX7_nearestTo 42 = .ok (.iload 7, 2) := by decide +kernel
theorem dX7_nearestTo_44 : decode cX7_nearestTo 44 = .ok (.iaload, 1) := by decide +kernel
theorem dX7_nearestTo_45 : decode cX7_nearestTo 45 = .ok (.i2l, 1) := by decide +kernel
theorem dX7_nearestTo_46 : decode cX7_nearestTo 46 = .ok (.iload_n 1, 1) := by decide +kernel
theorem dX7_nearestTo_47 : decode cX7_nearestTo 47 = .ok (.i2l, 1) := by decide +kernel
theorem dX7_nearestTo_48 : decode cX7_nearestTo 48 = .ok (.lmul, 1) := by decide +kernel
theorem dX7_nearestTo_49 : decode cX7_nearestTo 49 = .ok (.lsub, 1) := by decide +kernel
theorem dX7_nearestTo_50 : decode cX7_nearestTo 50 = .ok (.invokestatic 121, 3) := by decide +kernel
theorem dX7_nearestTo_53 : decode cX7_nearestTo 53 = .ok (.lstore 8, 2) := by decide +kernel
theorem dX7_nearestTo_55 : decode cX7_nearestTo 55 = .ok (.iload 4, 2) := by decide +kernel
theorem dX7_nearestTo_57 : decode cX7_nearestTo 57 = .ok (.iconst (-1), 1) := by decide +kernel
theorem dX7_nearestTo_58 : decode cX7_nearestTo 58 = .ok (.if_icmp .eq 18, 3) := by decide +kernel
theorem dX7_nearestTo_61 : decode cX7_nearestTo 61 = .ok (.aload_n 0, 1) := by decide +kernel
theorem dX7_nearestTo_62 : decode cX7_nearestTo 62 = .ok (.iload 7, 2) := by decide +kernel
theorem dX7_nearestTo_64 : decode cX7_nearestTo 64 = .ok (.lload 8, 2) := by decide +kernel
theorem dX7_nearestTo_66 : decode cX7_nearestTo 66 = .ok (.iload 4, 2) := by decide +kernel
theorem dX7_nearestTo_68 : decode cX7_nearestTo 68 = .ok (.lload 5, 2) := by decide +kernel
theorem dX7_nearestTo_70 : decode cX7_nearestTo 70 = .ok (.invokevirtual 125, 3) := by decide +kernel
theorem dX7_nearestTo_73 : decode cX7_nearestTo 73 = .ok (.ifCond .eq 11, 3) := by decide +kernel
theorem dX7_nearestTo_76 : decode cX7_nearestTo 76 = .ok (.iload 7, 2) := by decide +kernel
theorem dX7_nearestTo_78 : decode cX7_nearestTo 78 = .ok (.istore 4, 2) := by decide +kernel
theorem dX7_nearestTo_80 : decode cX7_nearestTo 80 = .ok (.lload 8, 2) := by decide +kernel
theorem dX7_nearestTo_82 : decode cX7_nearestTo 82 = .ok (.lstore 5, 2) := by decide +kernel
theorem dX7_nearestTo_84 : decode cX7_nearestTo 84 = .ok (.iinc 7 1, 3) := by decide +kernel
theorem dX7_nearestTo_87 : decode cX7_nearestTo 87 = .ok (.goto (-73), 3) := by decide +kernel
theorem dX7_nearestTo_90 : decode cX7_nearestTo 90 = .ok (.iload 4, 2) := by decide +kernel
theorem dX7_nearestTo_92 : decode cX7_nearestTo 92 = .ok (.ireturn, 1) := by decide +kernel
set_option maxRecDepth 20000 in
theorem ggX7_isNearer_X7_partsOf : GoodIn wsX7_isNearer wsX7_partsOf := goodIn_r _ [6, 7, 8, 14, 15, 16, 17, 18, 19, 20, 21, 22, 23, 24, 25, 26, 27] (by decide +kernel) (by decide +kernel)
set_option maxRecDepth 20000 in
theorem gX7_isNearer_X7_partsOf : GoodIn wsX7_isNearer (wsV RX7 129 RX7 yX7_partsOf wsX7_partsOf) := goodIn_app (goodIn_of _ (by decide +kernel)) ggX7_isNearer_X7_partsOf
set_option maxRecDepth 20000 in
theorem ggX7_isNearer_X7_isLess : GoodIn wsX7_isNearer wsX7_isLess := goodIn_r _ [12, 13, 1, 14, 15, 16, 17, 18, 19, 20, 21, 22, 23, 24, 25, 26, 27] (by decide +kernel) (by decide +kernel)
set_option maxRecDepth 20000 in
theorem gX7_isNearer_X7_isLess : GoodIn wsX7_isNearer (wsV RX7 117 RX7 yX7_isLess wsX7_isLess) := goodIn_app (goodIn_of _ (by decide +kernel)) ggX7_isNearer_X7_isLess
theorem dX7_isNearer_0 : decode cX7_isNearer 0 = .ok (.lload_n 2, 1) := by decide +kernel
theorem dX7_isNearer_1 : decode cX7_isNearer 1 = .ok (.aload_n 0, 1) := by decide +kernel
theorem dX7_isNearer_2 : decode cX7_isNearer 2 = .ok (.getfield 15, 3) := by decide +kernel
theorem dX7_isNearer_5 : decode cX7_isNearer 5 = .ok (.iload 4, 2) := by decide +kernel
theorem dX7_isNearer_7 : decode cX7_isNearer 7 = .ok (.iaload, 1) := by decide +kernel
theorem dX7_isNearer_8 : decode cX7_isNearer 8 = .ok (.i2l, 1) := by decide +kernel
theorem dX7_isNearer_9 : decode cX7_isNearer 9 = .ok (.lmul, 1) := by decide +kernel
theorem dX7_isNearer_10 : decode cX7_isNearer 10 = .ok (.lstore 7, 2) := by decide +kernel
theorem dX7_isNearer_12 : decode cX7_isNearer 12 = .ok (.lload 5, 2) := by decide +kernel
theorem dX7_isNearer_14 : decode cX7_isNearer 14 = .ok (.aload_n 0, 1) := by decide +kernel
theorem dX7_isNearer_15 : decode cX7_isNearer 15 = .ok (.getfield 15, 3) := by decide +kernel
theorem dX7_isNearer_18 : decode cX7_isNearer 18 = .ok (.iload_n 1, 1) := by decide +kernel
theorem dX7_isNearer_19 : decode cX7_isNearer 19 = .ok (.iaload, 1) := by decide +kernel
theorem dX7_isNearer_20 : decode cX7_isNearer 20 = .ok (.i2l, 1) := by decide +kernel
theorem dX7_isNearer_21 : decode cX7_isNearer 21 = .ok (.lmul, 1) := by decide +kernel
theorem dX7_isNearer_22 : decode cX7_isNearer 22 = .ok (.lstore 9, 2) := by decide +kernel
theorem dX7_isNearer_24 : decode cX7_isNearer 24 = .ok (.lload 7, 2) := by decide +kernel
theorem dX7_isNearer_26 : decode cX7_isNearer 26 = .ok (.lload 9, 2) := by decide +kernel
theorem dX7_isNearer_28 : decode cX7_isNearer 28 = .ok (.lcmp, 1) := by decide +kernel
theorem dX7_isNearer_29 : decode cX7_isNearer 29 = .ok (.ifCond .eq 17, 3) := by decide +kernel
theorem dX7_isNearer_32 : decode cX7_isNearer 32 = .ok (.lload 7, 2) := by decide +kernel
theorem dX7_isNearer_34 : decode cX7_isNearer 34 = .ok (.lload 9, 2) := by decide +kernel
theorem dX7_isNearer_36 : decode cX7_isNearer 36 = .ok (.lcmp, 1) := by decide +kernel
theorem dX7_isNearer_37 : decode cX7_isNearer 37 = .ok (.ifCond .ge 7, 3) := by decide +kernel
theorem dX7_isNearer_40 : decode cX7_isNearer 40 = .ok (.iconst 1, 1) := by decide +kernel
theorem dX7_isNearer_41 : decode cX7_isNearer 41 = .ok (.goto 4, 3) := by decide +kernel
theorem dX7_isNearer_44 : decode cX7_isNearer 44 = .ok (.iconst 0, 1) := by decide +kernel
theorem dX7_isNearer_45 : decode cX7_isNearer 45 = .ok (.ireturn, 1) := by decide +kernel
theorem dX7_isNearer_46 : decode cX7_isNearer 46 = .ok (.aload_n 0, 1) := by decide +kernel
theorem dX7_isNearer_47 : decode cX7_isNearer 47 = .ok (.iload_n 1, 1) := by decide +kernel
theorem dX7_isNearer_48 : decode cX7_isNearer 48 = .ok (.invokevirtual 129, 3) := by decide +kernel
theorem dX7_isNearer_51 : decode cX7_isNearer 51 = .ok (.aload_n 0, 1) := by decide +kernel
theorem dX7_isNearer_52 : decode cX7_isNearer 52 = .ok (.iload 4, 2) := by decide +kernel
theorem dX7_isNearer_54 : decode cX7_isNearer 54 = .ok (.invokevirtual 129, 3) := by decide +kernel
theorem dX7_isNearer_57 : decode cX7_isNearer 57 = .ok (.if_icmp .ne 17, 3) := by decide +kernel
theorem dX7_isNearer_60 : decode cX7_isNearer 60 = .ok (.aload_n 0, 1) := by decide +kernel
theorem dX7_isNearer_61 : decode cX7_isNearer 61 = .ok (.iload_n 1, 1) := by decide +kernel
theorem dX7_isNearer_62 : decode cX7_isNearer 62 = .ok (.iload 4, 2) := by decide +kernel
theorem dX7_isNearer_64 : decode cX7_isNearer 64 = .ok (.invokevirtual 117, 3) := by decide +kernel
theorem dX7_isNearer_67 : decode cX7_isNearer 67 = .ok (.ifCond .eq 7, 3) := by decide +kernel
theorem dX7_isNearer_70 : decode cX7_isNearer 70 = .ok (.iconst 1, 1) := by decide +kernel
theorem dX7_isNearer_71 : decode cX7_isNearer 71 = .ok (.goto 4, 3) := by decide +kernel
theorem dX7_isNearer_74 : decode cX7_isNearer 74 = .ok (.iconst 0, 1) := by decide +kernel
theorem dX7_isNearer_75 : decode cX7_isNearer 75 = .ok (.ireturn, 1) := by decide +kernel
theorem dX8_init_0 : decode cX8_init 0 = .ok (.aload_n 0, 1) := by decide +kernel
theorem dX8_init_1 : decode cX8_init 1 = .ok (.invokespecial 3, 3) := by decide +kernel
theorem dX8_init_4 : decode cX8_init 4 = .ok (.aload_n 0, 1) := by decide +kernel
theorem dX8_init_5 : decode cX8_init 5 = .ok (.bipush 60, 2) := by decide +kernel
theorem dX8_init_7 : decode cX8_init 7 = .ok (.newarray .int, 2) := by decide +kernel
theorem dX8_init_9 : decode cX8_init 9 = .ok (.putfield 9, 3) := by decide +kernel
theorem dX8_init_12 : decode cX8_init 12 = .ok (.aload_n 0, 1) := by decide +kernel
theorem dX8_init_13 : decode cX8_init 13 = .ok (.bipush 11, 2) := by decide +kernel
theorem dX8_init_15 : decode cX8_init 15 = .ok (.newarray .int, 2) := by decide +kernel
theorem dX8_init_17 : decode cX8_init 17 = .ok (.putfield 15, 3) := by decide +kernel
theorem dX8_init_20 : decode cX8_init 20 = .ok (.return_, 1) := by decide +kernel
theorem dX8_take_0 : decode cX8_take 0 = .ok (.aload_n 0, 1) := by decide +kernel
theorem dX8_take_1 : decode cX8_take 1 = .ok (.getfield 18, 3) := by decide +kernel
theorem dX8_take_4 : decode cX8_take 4 = .ok (.bipush 60, 2) := by decide +kernel
theorem dX8_take_6 : decode cX8_take 6 = .ok (.if_icmp .lt 6, 3) := by decide +kernel
theorem dX8_take_9 : decode cX8_take 9 = .ok (.bipush (-3), 2) := by decide +kernel
theorem dX8_take_11 : decode cX8_take 11 = .ok (.ireturn, 1) := by decide +kernel
theorem dX8_take_12 : decode cX8_take 12 = .ok (.aload_n 0, 1) := by decide +kernel
theorem dX8_take_13 : decode cX8_take 13 = .ok (.getfield 9, 3) := by decide +kernel
theorem dX8_take_16 : decode cX8_take 16 = .ok (.aload_n 0, 1) := by decide +kernel
theorem dX8_take_17 : decode cX8_take 17 = .ok (.getfield 18, 3) := by decide +kernel
theorem dX8_take_20 : decode cX8_take 20 = .ok (.iload_n 1, 1) := by decide +kernel
theorem dX8_take_21 : decode cX8_take 21 = .ok (.iastore, 1) := by decide +kernel
theorem dX8_take_22 : decode cX8_take 22 = .ok (.aload_n 0, 1) := by decide +kernel
theorem dX8_take_23 : decode cX8_take 23 = .ok (.dup, 1) := by decide +kernel
theorem dX8_take_24 : decode cX8_take 24 = .ok (.getfield 18, 3) := by decide +kernel
theorem dX8_take_27 : decode cX8_take 27 = .ok (.iconst 1, 1) := by decide +kernel
theorem dX8_take_28 : decode cX8_take 28 = .ok (.iadd, 1) := by decide +kernel
theorem dX8_take_29 : decode cX8_take 29 = .ok (.putfield 18, 3) := by decide +kernel
theorem dX8_take_32 : decode cX8_take 32 = .ok (.aload_n 0, 1) := by decide +kernel
theorem dX8_take_33 : decode cX8_take 33 = .ok (.getfield 18, 3) := by decide +kernel
theorem dX8_take_36 : decode cX8_take 36 = .ok (.ireturn, 1) := by decide +kernel
set_option maxRecDepth 20000 in
theorem ggX8_faultOrPlan_X0_has : GoodIn wsX8_faultOrPlan wsX0_has := goodIn_r _ [9, 10, 11, 12, 13, 33, 34] (by decide +kernel) (by decide +kernel)
set_option maxRecDepth 20000 in
theorem gX8_faultOrPlan_X0_has : GoodIn wsX8_faultOrPlan (wsV RX8 25 RX0 yX0_has wsX0_has) := goodIn_app (goodIn_of _ (by decide +kernel)) ggX8_faultOrPlan_X0_has
set_option maxRecDepth 20000 in
theorem ggX8_faultOrPlan_X6_add : GoodIn wsX8_faultOrPlan wsX6_add := goodIn_r _ [18, 19, 20, 21, 26, 27, 28, 29] (by decide +kernel) (by decide +kernel)
set_option maxRecDepth 20000 in
theorem gX8_faultOrPlan_X6_add : GoodIn wsX8_faultOrPlan (wsV RX8 31 RX6 yX6_add wsX6_add) := goodIn_app (goodIn_of _ (by decide +kernel)) ggX8_faultOrPlan_X6_add
set_option maxRecDepth 20000 in
theorem ggX8_faultOrPlan_X8_joinOf : GoodIn wsX8_faultOrPlan wsX8_joinOf := goodIn_r _ [25] (by decide +kernel) (by decide +kernel)
set_option maxRecDepth 20000 in
theorem gX8_faultOrPlan_X8_joinOf : GoodIn wsX8_faultOrPlan (va_wsS RX8 35 yX8_joinOf wsX8_joinOf) := goodIn_app (goodIn_of _ (by decide +kernel)) ggX8_faultOrPlan_X8_joinOf
theorem dX8_faultOrPlan_0 : decode cX8_faultOrPlan 0 = .ok (.aload_n 2, 1) := by decide +kernel
theorem dX8_faultOrPlan_1 : decode cX8_faultOrPlan 1 = .ok (.iconst 0, 1) := by decide +kernel
theorem dX8_faultOrPlan_2 : decode cX8_faultOrPlan 2 = .ok (.putfield 22, 3) := by decide +kernel
theorem dX8_faultOrPlan_5 : decode cX8_faultOrPlan 5 = .ok (.iconst 0, 1) := by decide +kernel
theorem dX8_faultOrPlan_6 : decode cX8_faultOrPlan 6 = .ok (.istore_n 3, 1) := by decide +kernel
theorem dX8_faultOrPlan_7 : decode cX8_faultOrPlan 7 = .ok (.iconst 0, 1) := by decide +kernel
theorem dX8_faultOrPlan_8 : decode cX8_faultOrPlan 8 = .ok (.istore 4, 2) := by decide +kernel
theorem dX8_faultOrPlan_10 : decode cX8_faultOrPlan 10 = .ok (.iconst 1, 1) := by decide +kernel
theorem dX8_faultOrPlan_11 : decode cX8_faultOrPlan 11 = .ok (.istore 5, 2) := by decide +kernel
theorem dX8_faultOrPlan_13 : decode cX8_faultOrPlan 13 = .ok (.iconst 0, 1) := by decide +kernel
theorem dX8_faultOrPlan_14 : decode cX8_faultOrPlan 14 = .ok (.istore 6, 2) := by decide +kernel
theorem dX8_faultOrPlan_16 : decode cX8_faultOrPlan 16 = .ok (.iload 6, 2) := by decide +kernel
theorem dX8_faultOrPlan_18 : decode cX8_faultOrPlan 18 = .ok (.aload_n 0, 1) := by decide +kernel
theorem dX8_faultOrPlan_19 : decode cX8_faultOrPlan 19 = .ok (.getfield 18, 3) := by decide +kernel
theorem dX8_faultOrPlan_22 : decode cX8_faultOrPlan 22 = .ok (.if_icmp .ge 183, 3) := by decide +kernel
theorem dX8_faultOrPlan_25 : decode cX8_faultOrPlan 25 = .ok (.aload_n 0, 1) := by decide +kernel
theorem dX8_faultOrPlan_26 : decode cX8_faultOrPlan 26 = .ok (.getfield 9, 3) := by decide +kernel
theorem dX8_faultOrPlan_29 : decode cX8_faultOrPlan 29 = .ok (.iload 6, 2) := by decide +kernel
theorem dX8_faultOrPlan_31 : decode cX8_faultOrPlan 31 = .ok (.iaload, 1) := by decide +kernel
theorem dX8_faultOrPlan_32 : decode cX8_faultOrPlan 32 = .ok (.istore 7, 2) := by decide +kernel
theorem dX8_faultOrPlan_34 : decode cX8_faultOrPlan 34 = .ok (.iload 5, 2) := by decide +kernel
theorem dX8_faultOrPlan_36 : decode cX8_faultOrPlan 36 = .ok (.ifCond .eq 29, 3) := by decide +kernel
theorem dX8_faultOrPlan_39 : decode cX8_faultOrPlan 39 = .ok (.iload 7, 2) := by decide +kernel
theorem dX8_faultOrPlan_41 : decode cX8_faultOrPlan 41 = .ok (.bipush 40, 2) := by decide +kernel
theorem dX8_faultOrPlan_43 : decode cX8_faultOrPlan 43 = .ok (.if_icmp .ne 22, 3) := by decide +kernel
theorem dX8_faultOrPlan_46 : decode cX8_faultOrPlan 46 = .ok (.iload_n 3, 1) := by decide +kernel
theorem dX8_faultOrPlan_47 : decode cX8_faultOrPlan 47 = .ok (.bipush 11, 2) := by decide +kernel
theorem dX8_faultOrPlan_49 : decode cX8_faultOrPlan 49 = .ok (.if_icmp .ge 16, 3) := by decide +kernel
theorem dX8_faultOrPlan_52 : decode cX8_faultOrPlan 52 = .ok (.aload_n 0, 1) := by decide +kernel
theorem dX8_faultOrPlan_53 : decode cX8_faultOrPlan 53 = .ok (.getfield 15, 3) := by decide +kernel
theorem dX8_faultOrPlan_56 : decode cX8_faultOrPlan 56 = .ok (.iload_n 3, 1) := by decide +kernel
theorem dX8_faultOrPlan_57 : decode cX8_faultOrPlan 57 = .ok (.iconst (-1), 1) := by decide +kernel
theorem dX8_faultOrPlan_58 : decode cX8_faultOrPlan 58 = .ok (.iastore, 1) := by decide +kernel
theorem dX8_faultOrPlan_59 : decode cX8_faultOrPlan 59 = .ok (.iinc 3 1, 3) := by decide +kernel
theorem dX8_faultOrPlan_62 : decode cX8_faultOrPlan 62 = .ok (.goto 137, 3) := by decide +kernel
theorem dX8_faultOrPlan_65 : decode cX8_faultOrPlan 65 = .ok (.iload 5, 2) := by decide +kernel
theorem dX8_faultOrPlan_67 : decode cX8_faultOrPlan 67 = .ok (.ifCond .eq 41, 3) := by decide +kernel
theorem dX8_faultOrPlan_70 : decode cX8_faultOrPlan 70 = .ok (.aload_n 1, 1) := by decide +kernel
theorem dX8_faultOrPlan_71 : decode cX8_faultOrPlan 71 = .ok (.iload 7, 2) := by decide +kernel
theorem dX8_faultOrPlan_73 : decode cX8_faultOrPlan 73 = .ok (.bipush 97, 2) := by decide +kernel
theorem dX8_faultOrPlan_75 : decode cX8_faultOrPlan 75 = .ok (.isub, 1) := by decide +kernel
theorem dX8_faultOrPlan_76 : decode cX8_faultOrPlan 76 = .ok (.invokevirtual 25, 3) := by decide +kernel
theorem dX8_faultOrPlan_79 : decode cX8_faultOrPlan 79 = .ok (.ifCond .eq 29, 3) := by decide +kernel
theorem dX8_faultOrPlan_82 : decode cX8_faultOrPlan 82 = .ok (.iload 4, 2) := by decide +kernel
theorem dX8_faultOrPlan_84 : decode cX8_faultOrPlan 84 = .ok (.bipush 12, 2) := by decide +kernel
theorem dX8_faultOrPlan_86 : decode cX8_faultOrPlan 86 = .ok (.if_icmp .ge 22, 3) := by decide +kernel
theorem dX8_faultOrPlan_89 : decode cX8_faultOrPlan 89 = .ok (.aload_n 2, 1) := by decide +kernel
theorem dX8_faultOrPlan_90 : decode cX8_faultOrPlan 90 = .ok (.iconst 0, 1) := by decide +kernel
theorem dX8_faultOrPlan_91 : decode cX8_faultOrPlan 91 = .ok (.iload 7, 2) := by decide +kernel
theorem dX8_faultOrPlan_93 : decode cX8_faultOrPlan 93 = .ok (.bipush 97, 2) := by decide +kernel
theorem dX8_faultOrPlan_95 : decode cX8_faultOrPlan 95 = .ok (.isub, 1) := by decide +kernel
theorem dX8_faultOrPlan_96 : decode cX8_faultOrPlan 96 = .ok (.invokevirtual 31, 3) := by decide +kernel
theorem dX8_faultOrPlan_99 : decode cX8_faultOrPlan 99 = .ok (.iinc 4 1, 3) := by decide +kernel
theorem dX8_faultOrPlan_102 : decode cX8_faultOrPlan 102 = .ok (.iconst 0, 1) := by decide +kernel
theorem dX8_faultOrPlan_103 : decode cX8_faultOrPlan 103 = .ok (.istore 5, 2) := by decide +kernel
theorem dX8_faultOrPlan_105 : decode cX8_faultOrPlan 105 = .ok (.goto 94, 3) := by decide +kernel
theorem dX8_faultOrPlan_108 : decode cX8_faultOrPlan 108 = .ok (.iload 5, 2) := by decide +kernel
theorem dX8_faultOrPlan_110 : decode cX8_faultOrPlan 110 = .ok (.ifCond .ne 7, 3) := by decide +kernel
theorem dX8_faultOrPlan_113 : decode cX8_faultOrPlan 113 = .ok (.iload_n 3, 1) := by decide +kernel
theorem dX8_faultOrPlan_114 : decode cX8_faultOrPlan 114 = .ok (.ifCond .ne 6, 3) := by decide +kernel
theorem dX8_faultOrPlan_117 : decode cX8_faultOrPlan 117 = .ok (.iload 6, 2) := by decide +kernel
theorem dX8_faultOrPlan_119 : decode cX8_faultOrPlan 119 = .ok (.ireturn, 1) := by decide +kernel
theorem dX8_faultOrPlan_120 : decode cX8_faultOrPlan 120 = .ok (.aload_n 0, 1) := by decide +kernel
theorem dX8_faultOrPlan_121 : decode cX8_faultOrPlan 121 = .ok (.getfield 15, 3) := by decide +kernel
theorem dX8_faultOrPlan_124 : decode cX8_faultOrPlan 124 = .ok (.iload_n 3, 1) := by decide +kernel
theorem dX8_faultOrPlan_125 : decode cX8_faultOrPlan 125 = .ok (.iconst 1, 1) := by decide +kernel
theorem dX8_faultOrPlan_126 : decode cX8_faultOrPlan 126 = .ok (.isub, 1) := by decide +kernel
theorem dX8_faultOrPlan_127 : decode cX8_faultOrPlan 127 = .ok (.iaload, 1) := by decide +kernel
theorem dX8_faultOrPlan_128 : decode cX8_faultOrPlan 128 = .ok (.iconst (-1), 1) := by decide +kernel
theorem dX8_faultOrPlan_129 : decode cX8_faultOrPlan 129 = .ok (.if_icmp .ne 31, 3) := by decide +kernel
theorem dX8_faultOrPlan_132 : decode cX8_faultOrPlan 132 = .ok (.iload 7, 2) := by decide +kernel
theorem dX8_faultOrPlan_134 : decode cX8_faultOrPlan 134 = .ok (.invokestatic 35, 3) := by decide +kernel
theorem dX8_faultOrPlan_137 : decode cX8_faultOrPlan 137 = .ok (.iconst (-1), 1) := by decide +kernel
theorem dX8_faultOrPlan_138 : decode cX8_faultOrPlan 138 = .ok (.if_icmp .eq 22, 3) := by decide +kernel
theorem dX8_faultOrPlan_141 : decode cX8_faultOrPlan 141 = .ok (.aload_n 0, 1) := by decide +kernel
theorem dX8_faultOrPlan_142 : decode cX8_faultOrPlan 142 = .ok (.getfield 15, 3) := by decide +kernel
theorem dX8_faultOrPlan_145 : decode cX8_faultOrPlan 145 = .ok (.iload_n 3, 1) := by decide +kernel
theorem dX8_faultOrPlan_146 : decode cX8_faultOrPlan 146 = .ok (.iconst 1, 1) := by decide +kernel
theorem dX8_faultOrPlan_147 : decode cX8_faultOrPlan 147 = .ok (.isub, 1) := by decide +kernel
theorem dX8_faultOrPlan_148 : decode cX8_faultOrPlan 148 = .ok (.iload 7, 2) := by decide +kernel
theorem dX8_faultOrPlan_150 : decode cX8_faultOrPlan 150 = .ok (.invokestatic 35, 3) := by decide +kernel
theorem dX8_faultOrPlan_153 : decode cX8_faultOrPlan 153 = .ok (.iastore, 1) := by decide +kernel
theorem dX8_faultOrPlan_154 : decode cX8_faultOrPlan 154 = .ok (.iconst 1, 1) := by decide +kernel
theorem dX8_faultOrPlan_155 : decode cX8_faultOrPlan 155 = .ok (.istore 5, 2) := by decide +kernel
theorem dX8_faultOrPlan_157 : decode cX8_faultOrPlan 157 = .ok (.goto 42, 3) := by decide +kernel
theorem dX8_faultOrPlan_160 : decode cX8_faultOrPlan 160 = .ok (.aload_n 0, 1) := by decide +kernel
theorem dX8_faultOrPlan_161 : decode cX8_faultOrPlan 161 = .ok (.getfield 15, 3) := by decide +kernel
theorem dX8_faultOrPlan_164 : decode cX8_faultOrPlan 164 = .ok (.iload_n 3, 1) := by decide +kernel
theorem dX8_faultOrPlan_165 : decode cX8_faultOrPlan 165 = .ok (.iconst 1, 1) := by decide +kernel
theorem dX8_faultOrPlan_166 : decode cX8_faultOrPlan 166 = .ok (.isub, 1) := by decide +kernel
theorem dX8_faultOrPlan_167 : decode cX8_faultOrPlan 167 = .ok (.iaload, 1) := by decide +kernel
theorem dX8_faultOrPlan_168 : decode cX8_faultOrPlan 168 = .ok (.iconst (-1), 1) := by decide +kernel
theorem dX8_faultOrPlan_169 : decode cX8_faultOrPlan 169 = .ok (.if_icmp .eq 27, 3) := by decide +kernel
theorem dX8_faultOrPlan_172 : decode cX8_faultOrPlan 172 = .ok (.iload 7, 2) := by decide +kernel
theorem dX8_faultOrPlan_174 : decode cX8_faultOrPlan 174 = .ok (.bipush 41, 2) := by decide +kernel
theorem dX8_faultOrPlan_176 : decode cX8_faultOrPlan 176 = .ok (.if_icmp .ne 20, 3) := by decide +kernel
theorem dX8_faultOrPlan_179 : decode cX8_faultOrPlan 179 = .ok (.iinc 3 (-1), 3) := by decide +kernel
theorem dX8_faultOrPlan_182 : decode cX8_faultOrPlan 182 = .ok (.aload_n 2, 1) := by decide +kernel
theorem dX8_faultOrPlan_183 : decode cX8_faultOrPlan 183 = .ok (.aload_n 0, 1) := by decide +kernel
theorem dX8_faultOrPlan_184 : decode cX8_faultOrPlan 184 = .ok (.getfield 15, 3) := by decide +kernel
theorem dX8_faultOrPlan_187 : decode cX8_faultOrPlan 187 = .ok (.iload_n 3, 1) := by decide +kernel
theorem dX8_faultOrPlan_188 : decode cX8_faultOrPlan 188 = .ok (.iaload, 1) := by decide +kernel
theorem dX8_faultOrPlan_189 : decode cX8_faultOrPlan 189 = .ok (.iconst (-1), 1) := by decide +kernel
theorem dX8_faultOrPlan_190 : decode cX8_faultOrPlan 190 = .ok (.invokevirtual 31, 3) := by decide +kernel
theorem dX8_faultOrPlan_193 : decode cX8_faultOrPlan 193 = .ok (.goto 6, 3) := by decide +kernel
theorem dX8_faultOrPlan_196 : decode cX8_faultOrPlan 196 = .ok (.iload 6, 2) := by decide +kernel
theorem dX8_faultOrPlan_198 : decode cX8_faultOrPlan 198 = .ok (.ireturn, 1) := by decide +kernel
theorem dX8_faultOrPlan_199 : decode cX8_faultOrPlan 199 = .ok (.iinc 6 1, 3) := by decide +kernel
theorem dX8_faultOrPlan_202 : decode cX8_faultOrPlan 202 = .ok (.goto (-186), 3) := by decide +kernel
theorem dX8_faultOrPlan_205 : decode cX8_faultOrPlan 205 = .ok (.iload 5, 2) := by decide +kernel
theorem dX8_faultOrPlan_207 : decode cX8_faultOrPlan 207 = .ok (.ifCond .ne 7, 3) := by decide +kernel
theorem dX8_faultOrPlan_210 : decode cX8_faultOrPlan 210 = .ok (.iload_n 3, 1) := by decide +kernel
theorem dX8_faultOrPlan_211 : decode cX8_faultOrPlan 211 = .ok (.ifCond .le 10, 3) := by decide +kernel
theorem dX8_faultOrPlan_214 : decode cX8_faultOrPlan 214 = .ok (.aload_n 0, 1) := by decide +kernel
theorem dX8_faultOrPlan_215 : decode cX8_faultOrPlan 215 = .ok (.getfield 18, 3) := by decide +kernel
theorem dX8_faultOrPlan_218 : decode cX8_faultOrPlan 218 = .ok (.goto 4, 3) := by decide +kernel
theorem dX8_faultOrPlan_221 : decode cX8_faultOrPlan 221 = .ok (.iconst (-1), 1) := by decide +kernel
theorem dX8_faultOrPlan_222 : decode cX8_faultOrPlan 222 = .ok (.ireturn, 1) := by decide +kernel
theorem dX8_joinOf_0 : decode cX8_joinOf 0 = .ok (.iload_n 0, 1) := by decide +kernel
theorem dX8_joinOf_1 : decode cX8_joinOf 1 = .ok (.bipush 43, 2) := by decide +kernel
theorem dX8_joinOf_3 : decode cX8_joinOf 3 = .ok (.if_icmp .ne 7, 3) := by decide +kernel
theorem dX8_joinOf_6 : decode cX8_joinOf 6 = .ok (.iconst 1, 1) := by decide +kernel
theorem dX8_joinOf_7 : decode cX8_joinOf 7 = .ok (.goto 14, 3) := by decide +kernel
theorem dX8_joinOf_10 : decode cX8_joinOf 10 = .ok (.iload_n 0, 1) := by decide +kernel
theorem dX8_joinOf_11 : decode cX8_joinOf 11 = .ok (.bipush 124, 2) := by decide +kernel
theorem dX8_joinOf_13 : decode cX8_joinOf 13 = .ok (.if_icmp .ne 7, 3) := by decide +kernel
theorem dX8_joinOf_16 : decode cX8_joinOf 16 = .ok (.iconst 2, 1) := by decide +kernel
theorem dX8_joinOf_17 : decode cX8_joinOf 17 = .ok (.goto 4, 3) := by decide +kernel
theorem dX8_joinOf_20 : decode cX8_joinOf 20 = .ok (.iconst (-1), 1) := by decide +kernel
theorem dX8_joinOf_21 : decode cX8_joinOf 21 = .ok (.ireturn, 1) := by decide +kernel
theorem dX9_init_0 : decode cX9_init 0 = .ok (.aload_n 0, 1) := by decide +kernel
theorem dX9_init_1 : decode cX9_init 1 = .ok (.invokespecial 3, 3) := by decide +kernel
theorem dX9_init_4 : decode cX9_init 4 = .ok (.aload_n 0, 1) := by decide +kernel
theorem dX9_init_5 : decode cX9_init 5 = .ok (.iconst (-1), 1) := by decide +kernel
theorem dX9_init_6 : decode cX9_init 6 = .ok (.putfield 9, 3) := by decide +kernel
theorem dX9_init_9 : decode cX9_init 9 = .ok (.aload_n 0, 1) := by decide +kernel
theorem dX9_init_10 : decode cX9_init 10 = .ok (.bipush 20, 2) := by decide +kernel
theorem dX9_init_12 : decode cX9_init 12 = .ok (.newarray .int, 2) := by decide +kernel
theorem dX9_init_14 : decode cX9_init 14 = .ok (.putfield 15, 3) := by decide +kernel
theorem dX9_init_17 : decode cX9_init 17 = .ok (.return_, 1) := by decide +kernel
set_option maxRecDepth 20000 in
theorem ggX9_become_J7_fill_53178 : GoodIn wsX9_become wsJ7_fill_53178 := goodIn_r _ [7] (by decide +kernel) (by decide +kernel)
set_option maxRecDepth 20000 in
theorem gX9_become_J7_fill_53178 : GoodIn wsX9_become (va_wsS RX9 22 yJ7_fill_53178 wsJ7_fill_53178) := goodIn_app (goodIn_of _ (by decide +kernel)) ggX9_become_J7_fill_53178
theorem dX9_become_0 : decode cX9_become 0 = .ok (.aload_n 0, 1) := by decide +kernel
theorem dX9_become_1 : decode cX9_become 1 = .ok (.iload_n 1, 1) := by decide +kernel
theorem dX9_become_2 : decode cX9_become 2 = .ok (.putfield 9, 3) := by decide +kernel
theorem dX9_become_5 : decode cX9_become 5 = .ok (.aload_n 0, 1) := by decide +kernel
theorem dX9_become_6 : decode cX9_become 6 = .ok (.iload_n 2, 1) := by decide +kernel
theorem dX9_become_7 : decode cX9_become 7 = .ok (.putfield 19, 3) := by decide +kernel
theorem dX9_become_10 : decode cX9_become 10 = .ok (.aload_n 0, 1) := by decide +kernel
theorem dX9_become_11 : decode cX9_become 11 = .ok (.getfield 15, 3) := by decide +kernel
theorem dX9_become_14 : decode cX9_become 14 = .ok (.iconst (-1), 1) := by decide +kernel
theorem dX9_become_15 : decode cX9_become 15 = .ok (.invokestatic 22, 3) := by decide +kernel
theorem dX9_become_18 : decode cX9_become 18 = .ok (.return_, 1) := by decide +kernel
theorem dX9_isMissing_0 : decode cX9_isMissing 0 = .ok (.aload_n 0, 1) := by decide +kernel
theorem dX9_isMissing_1 : decode cX9_isMissing 1 = .ok (.getfield 9, 3) := by decide +kernel
theorem dX9_isMissing_4 : decode cX9_isMissing 4 = .ok (.iconst (-1), 1) := by decide +kernel
theorem dX9_isMissing_5 : decode cX9_isMissing 5 = .ok (.if_icmp .ne 7, 3) := by decide +kernel
theorem dX9_isMissing_8 : decode cX9_isMissing 8 = .ok (.iconst 1, 1) := by decide +kernel
theorem dX9_isMissing_9 : decode cX9_isMissing 9 = .ok (.goto 4, 3) := by decide +kernel
theorem dX9_isMissing_12 : decode cX9_isMissing 12 = .ok (.iconst 0, 1) := by decide +kernel
theorem dX9_isMissing_13 : decode cX9_isMissing 13 = .ok (.ireturn, 1) := by decide +kernel
theorem dX9_hasPlace_0 : decode cX9_hasPlace 0 = .ok (.iload_n 1, 1) := by decide +kernel
theorem dX9_hasPlace_1 : decode cX9_hasPlace 1 = .ok (.ifCond .lt 21, 3) := by decide +kernel
theorem dX9_hasPlace_4 : decode cX9_hasPlace 4 = .ok (.iload_n 1, 1) := by decide +kernel
theorem dX9_hasPlace_5 : decode cX9_hasPlace 5 = .ok (.aload_n 0, 1) := by decide +kernel
theorem dX9_hasPlace_6 : decode cX9_hasPlace 6 = .ok (.getfield 19, 3) := by decide +kernel
theorem dX9_hasPlace_9 : decode cX9_hasPlace 9 = .ok (.if_icmp .ge 13, 3) := by decide +kernel
theorem dX9_hasPlace_12 : decode cX9_hasPlace 12 = .ok (.iload_n 1, 1) := by decide +kernel
theorem dX9_hasPlace_13 : decode cX9_hasPlace 13 = .ok (.bipush 20, 2) := by decide +kernel
theorem dX9_hasPlace_15 : decode cX9_hasPlace 15 = .ok (.if_icmp .ge 7, 3) := by decide +kernel
theorem dX9_hasPlace_18 : decode cX9_hasPlace 18 = .ok (.iconst 1, 1) := by decide +kernel
theorem dX9_hasPlace_19 : decode cX9_hasPlace 19 = .ok (.goto 4, 3) := by decide +kernel
theorem dX9_hasPlace_22 : decode cX9_hasPlace 22 = .ok (.iconst 0, 1) := by decide +kernel
theorem dX9_hasPlace_23 : decode cX9_hasPlace 23 = .ok (.ireturn, 1) := by decide +kernel
theorem dX9_hasStretch_0 : decode cX9_hasStretch 0 = .ok (.iload_n 1, 1) := by decide +kernel
theorem dX9_hasStretch_1 : decode cX9_hasStretch 1 = .ok (.ifCond .lt 30, 3) := by decide +kernel
theorem dX9_hasStretch_4 : decode cX9_hasStretch 4 = .ok (.iload_n 2, 1) := by decide +kernel
theorem dX9_hasStretch_5 : decode cX9_hasStretch 5 = .ok (.ifCond .lt 26, 3) := by decide +kernel
theorem dX9_hasStretch_8 : decode cX9_hasStretch 8 = .ok (.iload_n 1, 1) := by decide +kernel
theorem dX9_hasStretch_9 : decode cX9_hasStretch 9 = .ok (.aload_n 0, 1) := by decide +kernel
theorem dX9_hasStretch_10 : decode cX9_hasStretch 10 = .ok (.getfield 19, 3) := by decide +kernel
theorem dX9_hasStretch_13 : decode cX9_hasStretch 13 = .ok (.iload_n 2, 1) := by decide +kernel
theorem dX9_hasStretch_14 : decode cX9_hasStretch 14 = .ok (.isub, 1) := by decide +kernel
theorem dX9_hasStretch_15 : decode cX9_hasStretch 15 = .ok (.if_icmp .gt 16, 3) := by decide +kernel
theorem dX9_hasStretch_18 : decode cX9_hasStretch 18 = .ok (.aload_n 0, 1) := by decide +kernel
theorem dX9_hasStretch_19 : decode cX9_hasStretch 19 = .ok (.getfield 19, 3) := by decide +kernel
theorem dX9_hasStretch_22 : decode cX9_hasStretch 22 = .ok (.bipush 20, 2) := by decide +kernel
theorem dX9_hasStretch_24 : decode cX9_hasStretch 24 = .ok (.if_icmp .gt 7, 3) := by decide +kernel
theorem dX9_hasStretch_27 : decode cX9_hasStretch 27 = .ok (.iconst 1, 1) := by decide +kernel
theorem dX9_hasStretch_28 : decode cX9_hasStretch 28 = .ok (.goto 4, 3) := by decide +kernel
theorem dX9_hasStretch_31 : decode cX9_hasStretch 31 = .ok (.iconst 0, 1) := by decide +kernel
theorem dX9_hasStretch_32 : decode cX9_hasStretch 32 = .ok (.ireturn, 1) := by decide +kernel
set_option maxRecDepth 20000 in
theorem ggX9_fits_X5_has : GoodIn wsX9_fits wsX5_has := goodIn_r _ [7, 8, 12, 13, 14, 15, 16, 17, 18, 19, 20] (by decide +kernel) (by decide +kernel)
set_option maxRecDepth 20000 in
theorem gX9_fits_X5_has : GoodIn wsX9_fits (wsV RX9 28 RX5 yX5_has wsX5_has) := goodIn_app (goodIn_of _ (by decide +kernel)) ggX9_fits_X5_has
theorem dX9_fits_0 : decode cX9_fits 0 = .ok (.aload_n 0, 1) := by decide +kernel
theorem dX9_fits_1 : decode cX9_fits 1 = .ok (.getfield 9, 3) := by decide +kernel
theorem dX9_fits_4 : decode cX9_fits 4 = .ok (.ifCond .eq 11, 3) := by decide +kernel
theorem dX9_fits_7 : decode cX9_fits 7 = .ok (.aload_n 1, 1) := by decide +kernel
theorem dX9_fits_8 : decode cX9_fits 8 = .ok (.iload_n 2, 1) := by decide +kernel
theorem dX9_fits_9 : decode cX9_fits 9 = .ok (.invokevirtual 28, 3) := by decide +kernel
theorem dX9_fits_12 : decode cX9_fits 12 = .ok (.ifCond .ne 5, 3) := by decide +kernel
theorem dX9_fits_15 : decode cX9_fits 15 = .ok (.iconst 1, 1) := by decide +kernel
theorem dX9_fits_16 : decode cX9_fits 16 = .ok (.ireturn, 1) := by decide +kernel
theorem dX9_fits_17 : decode cX9_fits 17 = .ok (.aload_n 0, 1) := by decide +kernel
theorem dX9_fits_18 : decode cX9_fits 18 = .ok (.getfield 9, 3) := by decide +kernel
theorem dX9_fits_21 : decode cX9_fits 21 = .ok (.iconst 1, 1) := by decide +kernel
theorem dX9_fits_22 : decode cX9_fits 22 = .ok (.if_icmp .ne 7, 3) := by decide +kernel
theorem dX9_fits_25 : decode cX9_fits 25 = .ok (.iconst 1, 1) := by decide +kernel
theorem dX9_fits_26 : decode cX9_fits 26 = .ok (.goto 4, 3) := by decide +kernel
theorem dX9_fits_29 : decode cX9_fits 29 = .ok (.iconst 0, 1) := by decide +kernel
theorem dX9_fits_30 : decode cX9_fits 30 = .ok (.aload_n 1, 1) := by decide +kernel
theorem dX9_fits_31 : decode cX9_fits 31 = .ok (.getfield 34, 3) := by decide +kernel
theorem dX9_fits_34 : decode cX9_fits 34 = .ok (.iload_n 2, 1) := by decide +kernel
theorem dX9_fits_35 : decode cX9_fits 35 = .ok (.iaload, 1) := by decide +kernel
theorem dX9_fits_36 : decode cX9_fits 36 = .ok (.ifCond .ne 7, 3) := by decide +kernel
theorem dX9_fits_39 : decode cX9_fits 39 = .ok (.iconst 1, 1) := by decide +kernel
theorem dX9_fits_40 : decode cX9_fits 40 = .ok (.goto 4, 3) := by decide +kernel
theorem dX9_fits_43 : decode cX9_fits 43 = .ok (.iconst 0, 1) := by decide +kernel
theorem dX9_fits_44 : decode cX9_fits 44 = .ok (.if_icmp .ne 7, 3) := by decide +kernel
theorem dX9_fits_47 : decode cX9_fits 47 = .ok (.iconst 1, 1) := by decide +kernel
theorem dX9_fits_48 : decode cX9_fits 48 = .ok (.goto 4, 3) := by decide +kernel
theorem dX9_fits_51 : decode cX9_fits 51 = .ok (.iconst 0, 1) := by decide +kernel
theorem dX9_fits_52 : decode cX9_fits 52 = .ok (.ireturn, 1) := by decide +kernel
theorem dX9_copy_0 : decode cX9_copy 0 = .ok (.aload_n 0, 1) := by decide +kernel
theorem dX9_copy_1 : decode cX9_copy 1 = .ok (.aload_n 1, 1) := by decide +kernel
theorem dX9_copy_2 : decode cX9_copy 2 = .ok (.getfield 9, 3) := by decide +kernel
theorem dX9_copy_5 : decode cX9_copy 5 = .ok (.putfield 9, 3) := by decide +kernel
theorem dX9_copy_8 : decode cX9_copy 8 = .ok (.aload_n 0, 1) := by decide +kernel
theorem dX9_copy_9 : decode cX9_copy 9 = .ok (.aload_n 1, 1) := by decide +kernel
theorem dX9_copy_10 : decode cX9_copy 10 = .ok (.getfield 19, 3) := by decide +kernel
theorem dX9_copy_13 : decode cX9_copy 13 = .ok (.putfield 19, 3) := by decide +kernel
theorem dX9_copy_16 : decode cX9_copy 16 = .ok (.aload_n 1, 1) := by decide +kernel
theorem dX9_copy_17 : decode cX9_copy 17 = .ok (.getfield 15, 3) := by decide +kernel
theorem dX9_copy_20 : decode cX9_copy 20 = .ok (.iconst 0, 1) := by decide +kernel
theorem dX9_copy_21 : decode cX9_copy 21 = .ok (.aload_n 0, 1) := by decide +kernel
theorem dX9_copy_22 : decode cX9_copy 22 = .ok (.getfield 15, 3) := by decide +kernel
theorem dX9_copy_25 : decode cX9_copy 25 = .ok (.iconst 0, 1) := by decide +kernel
theorem dX9_copy_26 : decode cX9_copy 26 = .ok (.bipush 20, 2) := by decide +kernel
theorem dX9_copy_28 : decode cX9_copy 28 = .ok (.invokestatic 36, 3) := by decide +kernel
theorem dX9_copy_31 : decode cX9_copy 31 = .ok (.return_, 1) := by decide +kernel
set_option maxRecDepth 20000 in
theorem ggX10_init_X0_init : GoodIn wsX10_init wsX0_init := goodIn_r _ [43, 44, 2, 3, 36, 45, 46, 134, 135] (by decide +kernel) (by decide +kernel)
set_option maxRecDepth 20000 in
theorem gX10_init_X0_init_n13 : GoodIn wsX10_init (wsX0_init) := ggX10_init_X0_init
set_option maxRecDepth 20000 in
theorem ggX10_init_X5_init : GoodIn wsX10_init wsX5_init := goodIn_r _ [48, 49, 2, 3, 36, 50, 51, 52, 53, 54, 55, 56, 57, 146, 147, 148, 149, 150, 151, 152, 153, 154] (by decide +kernel) (by decide +kernel)
set_option maxRecDepth 20000 in
theorem gX10_init_X5_init_n20 : GoodIn wsX10_init (wsX5_init) := ggX10_init_X5_init
set_option maxRecDepth 20000 in
theorem ggX10_init_X4_init : GoodIn wsX10_init wsX4_init := goodIn_r _ [60, 61, 2, 3, 62, 21, 22, 63, 64, 65, 66, 67, 68, 69, 70, 71, 72, 73, 74, 75, 76, 77, 78, 36, 79, 80, 81, 82, 83, 84, 85, 167, 168, 169, 170, 155, 156, 157, 158, 159, 160, 161, 162, 163, 201, 202] (by decide +kernel) (by decide +kernel)
set_option maxRecDepth 20000 in
theorem gX10_init_X4_init : GoodIn wsX10_init (wsX4_init) := ggX10_init_X4_init
set_option maxRecDepth 20000 in
theorem ggX10_init_X8_init : GoodIn wsX10_init wsX8_init := goodIn_r _ [87, 88, 2, 3, 36, 89, 90, 164, 165, 166] (by decide +kernel) (by decide +kernel)
set_option maxRecDepth 20000 in
theorem gX10_init_X8_init_n36 : GoodIn wsX10_init (wsX8_init) := ggX10_init_X8_init
set_option maxRecDepth 20000 in
theorem ggX10_init_X6_init : GoodIn wsX10_init wsX6_init := goodIn_r _ [77, 78, 2, 3, 36, 79, 80, 81, 167, 168, 169, 170] (by decide +kernel) (by decide +kernel)
set_option maxRecDepth 20000 in
theorem gX10_init_X6_init_n43 : GoodIn wsX10_init (wsX6_init) := ggX10_init_X6_init
set_option maxRecDepth 20000 in
theorem ggX10_init_X7_init : GoodIn wsX10_init wsX7_init := goodIn_r _ [93, 94, 2, 3, 36, 95, 96, 97, 98, 99, 100, 101, 102, 103, 104, 105, 171, 172, 173, 174, 175, 176, 177, 178, 179, 180, 181, 182, 183, 184] (by decide +kernel) (by decide +kernel)
set_option maxRecDepth 20000 in
theorem gX10_init_X7_init : GoodIn wsX10_init (wsX7_init) := ggX10_init_X7_init
set_option maxRecDepth 20000 in
theorem ggX10_init_X3_init : GoodIn wsX10_init wsX3_init := goodIn_r _ [107, 108, 2, 3, 109, 36, 110, 111, 112, 113, 114, 70, 71, 115, 116, 82, 83, 84, 85, 185, 186, 187, 188, 189, 190, 191, 192, 201, 202] (by decide +kernel) (by decide +kernel)
set_option maxRecDepth 20000 in
theorem gX10_init_X3_init_n59 : GoodIn wsX10_init (wsX3_init) := ggX10_init_X3_init
set_option maxRecDepth 20000 in
theorem ggX10_init_X9_init : GoodIn wsX10_init wsX9_init := goodIn_r _ [118, 119, 2, 3, 120, 36, 121, 193, 194, 195] (by decide +kernel) (by decide +kernel)
set_option maxRecDepth 20000 in
theorem gX10_init_X9_init_n70 : GoodIn wsX10_init (wsX9_init) := ggX10_init_X9_init
set_option maxRecDepth 20000 in
theorem ggX10_init_X2_init : GoodIn wsX10_init wsX2_init := goodIn_r _ [124, 125, 2, 3, 126, 5, 6, 127, 128, 9, 10, 129, 130, 29, 30, 131, 132, 133, 34, 35, 42, 43, 44, 36, 45, 46, 47, 48, 49, 50, 51, 52, 53, 54, 55, 56, 57, 106, 107, 108, 109, 110, 111, 112, 113, 114, 70, 71, 115, 116, 82, 83, 84, 85, 117, 118, 119, 120, 121, 134, 135, 196, 197, 198, 199, 200, 146, 147, 148, 149, 150, 151, 152, 153, 154, 185, 186, 187, 188, 189, 190, 191, 192, 193, 194, 195, 201, 202] (by decide +kernel) (by decide +kernel)
set_option maxRecDepth 20000 in
theorem gX10_init_X2_init : GoodIn wsX10_init (wsX2_init) := ggX10_init_X2_init
theorem dX10_init_0 : decode cX10_init 0 = .ok (.aload_n 0, 1) := by decide +kernel
theorem dX10_init_1 : decode cX10_init 1 = .ok (.invokespecial 5, 3) := by decide +kernel
theorem dX10_init_4 : decode cX10_init 4 = .ok (.aload_n 0, 1) := by decide +kernel
theorem dX10_init_5 : decode cX10_init 5 = .ok (.new 11, 3) := by decide +kernel
theorem dX10_init_8 : decode cX10_init 8 = .ok (.dup, 1) := by decide +kernel
theorem dX10_init_9 : decode cX10_init 9 = .ok (.invokespecial 13, 3) := by decide +kernel
theorem dX10_init_12 : decode cX10_init 12 = .ok (.putfield 14, 3) := by decide +kernel
theorem dX10_init_15 : decode cX10_init 15 = .ok (.aload_n 0, 1) := by decide +kernel
theorem dX10_init_16 : decode cX10_init 16 = .ok (.new 18, 3) := by decide +kernel
theorem dX10_init_19 : decode cX10_init 19 = .ok (.dup, 1) := by decide +kernel
theorem dX10_init_20 : decode cX10_init 20 = .ok (.invokespecial 20, 3) := by decide +kernel
theorem dX10_init_23 : decode cX10_init 23 = .ok (.putfield 21, 3) := by decide +kernel
theorem dX10_init_26 : decode cX10_init 26 = .ok (.aload_n 0, 1) := by decide +kernel
theorem dX10_init_27 : decode cX10_init 27 = .ok (.new 25, 3) := by decide +kernel
theorem dX10_init_30 : decode cX10_init 30 = .ok (.dup, 1) := by decide +kernel
theorem dX10_init_31 : decode cX10_init 31 = .ok (.aload_n 0, 1) := by decide +kernel
theorem dX10_init_32 : decode cX10_init 32 = .ok (.getfield 14, 3) := by decide +kernel
theorem dX10_init_35 : decode cX10_init 35 = .ok (.aload_n 0, 1) := by decide +kernel
theorem dX10_init_36 : decode cX10_init 36 = .ok (.getfield 21, 3) := by decide +kernel
theorem dX10_init_39 : decode cX10_init 39 = .ok (.invokespecial 27, 3) := by decide +kernel
theorem dX10_init_42 : decode cX10_init 42 = .ok (.putfield 30, 3) := by decide +kernel
theorem dX10_init_45 : decode cX10_init 45 = .ok (.aload_n 0, 1) := by decide +kernel
theorem dX10_init_46 : decode cX10_init 46 = .ok (.new 34, 3) := by decide +kernel
theorem dX10_init_49 : decode cX10_init 49 = .ok (.dup, 1) := by decide +kernel
theorem dX10_init_50 : decode cX10_init 50 = .ok (.invokespecial 36, 3) := by decide +kernel
theorem dX10_init_53 : decode cX10_init 53 = .ok (.putfield 37, 3) := by decide +kernel
theorem dX10_init_56 : decode cX10_init 56 = .ok (.aload_n 0, 1) := by decide +kernel
theorem dX10_init_57 : decode cX10_init 57 = .ok (.new 41, 3) := by decide +kernel
theorem dX10_init_60 : decode cX10_init 60 = .ok (.dup, 1) := by decide +kernel
theorem dX10_init_61 : decode cX10_init 61 = .ok (.invokespecial 43, 3) := by decide +kernel
theorem dX10_init_64 : decode cX10_init 64 = .ok (.putfield 44, 3) := by decide +kernel
theorem dX10_init_67 : decode cX10_init 67 = .ok (.aload_n 0, 1) := by decide +kernel
theorem dX10_init_68 : decode cX10_init 68 = .ok (.new 48, 3) := by decide +kernel
theorem dX10_init_71 : decode cX10_init 71 = .ok (.dup, 1) := by decide +kernel
theorem dX10_init_72 : decode cX10_init 72 = .ok (.aload_n 0, 1) := by decide +kernel
theorem dX10_init_73 : decode cX10_init 73 = .ok (.getfield 14, 3) := by decide +kernel
theorem dX10_init_76 : decode cX10_init 76 = .ok (.invokespecial 50, 3) := by decide +kernel
theorem dX10_init_79 : decode cX10_init 79 = .ok (.putfield 53, 3) := by decide +kernel
theorem dX10_init_82 : decode cX10_init 82 = .ok (.aload_n 0, 1) := by decide +kernel
theorem dX10_init_83 : decode cX10_init 83 = .ok (.new 57, 3) := by decide +kernel
theorem dX10_init_86 : decode cX10_init 86 = .ok (.dup, 1) := by decide +kernel
theorem dX10_init_87 : decode cX10_init 87 = .ok (.invokespecial 59, 3) := by decide +kernel
theorem dX10_init_90 : decode cX10_init 90 = .ok (.putfield 60, 3) := by decide +kernel
theorem dX10_init_93 : decode cX10_init 93 = .ok (.aload_n 0, 1) := by decide +kernel
theorem dX10_init_94 : decode cX10_init 94 = .ok (.iconst 3, 1) := by decide +kernel
theorem dX10_init_95 : decode cX10_init 95 = .ok (.anewarray 64, 3) := by decide +kernel
theorem dX10_init_98 : decode cX10_init 98 = .ok (.putfield 66, 3) := by decide +kernel
theorem dX10_init_101 : decode cX10_init 101 = .ok (.iconst 0, 1) := by decide +kernel
theorem dX10_init_102 : decode cX10_init 102 = .ok (.istore_n 1, 1) := by decide +kernel
theorem dX10_init_103 : decode cX10_init 103 = .ok (.iload_n 1, 1) := by decide +kernel
theorem dX10_init_104 : decode cX10_init 104 = .ok (.iconst 3, 1) := by decide +kernel
theorem dX10_init_105 : decode cX10_init 105 = .ok (.if_icmp .ge 22, 3) := by decide +kernel
theorem dX10_init_108 : decode cX10_init 108 = .ok (.aload_n 0, 1) := by decide +kernel
theorem dX10_init_109 : decode cX10_init 109 = .ok (.getfield 66, 3) := by decide +kernel
theorem dX10_init_112 : decode cX10_init 112 = .ok (.iload_n 1, 1) := by decide +kernel
theorem dX10_init_113 : decode cX10_init 113 = .ok (.new 64, 3) := by decide +kernel
theorem dX10_init_116 : decode cX10_init 116 = .ok (.dup, 1) := by decide +kernel
theorem dX10_init_117 : decode cX10_init 117 = .ok (.invokespecial 70, 3) := by decide +kernel
theorem dX10_init_120 : decode cX10_init 120 = .ok (.aastore, 1) := by decide +kernel
theorem dX10_init_121 : decode cX10_init 121 = .ok (.iinc 1 1, 3) := by decide +kernel
theorem dX10_init_124 : decode cX10_init 124 = .ok (.goto (-21), 3) := by decide +kernel
theorem dX10_init_127 : decode cX10_init 127 = .ok (.aload_n 0, 1) := by decide +kernel
theorem dX10_init_128 : decode cX10_init 128 = .ok (.bipush 20, 2) := by decide +kernel
theorem dX10_init_130 : decode cX10_init 130 = .ok (.newarray .int, 2) := by decide +kernel
theorem dX10_init_132 : decode cX10_init 132 = .ok (.putfield 71, 3) := by decide +kernel
theorem dX10_init_135 : decode cX10_init 135 = .ok (.aload_n 0, 1) := by decide +kernel
theorem dX10_init_136 : decode cX10_init 136 = .ok (.new 75, 3) := by decide +kernel
theorem dX10_init_139 : decode cX10_init 139 = .ok (.dup, 1) := by decide +kernel
theorem dX10_init_140 : decode cX10_init 140 = .ok (.invokespecial 77, 3) := by decide +kernel
theorem dX10_init_143 : decode cX10_init 143 = .ok (.putfield 78, 3) := by decide +kernel
theorem dX10_init_146 : decode cX10_init 146 = .ok (.return_, 1) := by decide +kernel
set_option maxRecDepth 20000 in
theorem ggX10_sort_X10_isSort : GoodIn wsX10_sort wsX10_isSort := goodIn_r _ [8] (by decide +kernel) (by decide +kernel)
set_option maxRecDepth 20000 in
theorem gX10_sort_X10_isSort : GoodIn wsX10_sort (va_wsS RX10 82 yX10_isSort wsX10_isSort) := goodIn_app (goodIn_of _ (by decide +kernel)) ggX10_sort_X10_isSort
set_option maxRecDepth 20000 in
theorem ggX10_sort_X10_isIn : GoodIn wsX10_sort wsX10_isIn := goodIn_r _ [11] (by decide +kernel) (by decide +kernel)
set_option maxRecDepth 20000 in
theorem gX10_sort_X10_isIn : GoodIn wsX10_sort (va_wsS RX10 86 yX10_isIn wsX10_isIn) := goodIn_app (goodIn_of _ (by decide +kernel)) ggX10_sort_X10_isIn
set_option maxRecDepth 20000 in
theorem ggX10_sort_X5_partOf : GoodIn wsX10_sort wsX5_partOf := goodIn_r _ [16, 17, 18, 19, 15, 20, 21, 22, 23, 24, 37, 38, 39, 40, 41, 42, 43, 44, 45] (by decide +kernel) (by decide +kernel)
set_option maxRecDepth 20000 in
theorem gX10_sort_X5_partOf : GoodIn wsX10_sort (wsV RX10 90 RX5 yX5_partOf wsX5_partOf) := goodIn_app (goodIn_of _ (by decide +kernel)) ggX10_sort_X5_partOf
theorem dX10_sort_0 : decode cX10_sort 0 = .ok (.iload_n 1, 1) := by decide +kernel
theorem dX10_sort_1 : decode cX10_sort 1 = .ok (.invokestatic 82, 3) := by decide +kernel
theorem dX10_sort_4 : decode cX10_sort 4 = .ok (.ifCond .eq 23, 3) := by decide +kernel
theorem dX10_sort_7 : decode cX10_sort 7 = .ok (.iload_n 2, 1) := by decide +kernel
theorem dX10_sort_8 : decode cX10_sort 8 = .ok (.iconst 0, 1) := by decide +kernel
theorem dX10_sort_9 : decode cX10_sort 9 = .ok (.bipush 99, 2) := by decide +kernel
theorem dX10_sort_11 : decode cX10_sort 11 = .ok (.invokestatic 86, 3) := by decide +kernel
theorem dX10_sort_14 : decode cX10_sort 14 = .ok (.ifCond .eq 13, 3) := by decide +kernel
theorem dX10_sort_17 : decode cX10_sort 17 = .ok (.iload_n 3, 1) := by decide +kernel
theorem dX10_sort_18 : decode cX10_sort 18 = .ok (.iconst 0, 1) := by decide +kernel
theorem dX10_sort_19 : decode cX10_sort 19 = .ok (.bipush 50, 2) := by decide +kernel
theorem dX10_sort_21 : decode cX10_sort 21 = .ok (.invokestatic 86, 3) := by decide +kernel
theorem dX10_sort_24 : decode cX10_sort 24 = .ok (.ifCond .ne 5, 3) := by decide +kernel
theorem dX10_sort_27 : decode cX10_sort 27 = .ok (.iconst (-1), 1) := by decide +kernel
theorem dX10_sort_28 : decode cX10_sort 28 = .ok (.ireturn, 1) := by decide +kernel
theorem dX10_sort_29 : decode cX10_sort 29 = .ok (.iload_n 2, 1) := by decide +kernel
theorem dX10_sort_30 : decode cX10_sort 30 = .ok (.ifCond .ne 18, 3) := by decide +kernel
theorem dX10_sort_33 : decode cX10_sort 33 = .ok (.aload_n 0, 1) := by decide +kernel
theorem dX10_sort_34 : decode cX10_sort 34 = .ok (.getfield 21, 3) := by decide +kernel
theorem dX10_sort_37 : decode cX10_sort 37 = .ok (.iload_n 1, 1) := by decide +kernel
theorem dX10_sort_38 : decode cX10_sort 38 = .ok (.invokevirtual 90, 3) := by decide +kernel
theorem dX10_sort_41 : decode cX10_sort 41 = .ok (.iconst (-1), 1) := by decide +kernel
theorem dX10_sort_42 : decode cX10_sort 42 = .ok (.if_icmp .eq 6, 3) := by decide +kernel
theorem dX10_sort_45 : decode cX10_sort 45 = .ok (.bipush (-5), 2) := by decide +kernel
theorem dX10_sort_47 : decode cX10_sort 47 = .ok (.ireturn, 1) := by decide +kernel
theorem dX10_sort_48 : decode cX10_sort 48 = .ok (.aload_n 0, 1) := by decide +kernel
theorem dX10_sort_49 : decode cX10_sort 49 = .ok (.getfield 14, 3) := by decide +kernel
theorem dX10_sort_52 : decode cX10_sort 52 = .ok (.getfield 94, 3) := by decide +kernel
theorem dX10_sort_55 : decode cX10_sort 55 = .ok (.iload_n 1, 1) := by decide +kernel
theorem dX10_sort_56 : decode cX10_sort 56 = .ok (.iaload, 1) := by decide +kernel
theorem dX10_sort_57 : decode cX10_sort 57 = .ok (.istore 4, 2) := by decide +kernel
theorem dX10_sort_59 : decode cX10_sort 59 = .ok (.aload_n 0, 1) := by decide +kernel
theorem dX10_sort_60 : decode cX10_sort 60 = .ok (.getfield 14, 3) := by decide +kernel
theorem dX10_sort_63 : decode cX10_sort 63 = .ok (.getfield 94, 3) := by decide +kernel
theorem dX10_sort_66 : decode cX10_sort 66 = .ok (.iload_n 1, 1) := by decide +kernel
theorem dX10_sort_67 : decode cX10_sort 67 = .ok (.iload_n 2, 1) := by decide +kernel
theorem dX10_sort_68 : decode cX10_sort 68 = .ok (.iastore, 1) := by decide +kernel
theorem dX10_sort_69 : decode cX10_sort 69 = .ok (.aload_n 0, 1) := by decide +kernel
theorem dX10_sort_70 : decode cX10_sort 70 = .ok (.getfield 14, 3) := by decide +kernel
theorem dX10_sort_73 : decode cX10_sort 73 = .ok (.getfield 97, 3) := by decide +kernel
theorem dX10_sort_76 : decode cX10_sort 76 = .ok (.iload_n 1, 1) := by decide +kernel
theorem dX10_sort_77 : decode cX10_sort 77 = .ok (.iload_n 3, 1) := by decide +kernel
theorem dX10_sort_78 : decode cX10_sort 78 = .ok (.iastore, 1) := by decide +kernel
theorem dX10_sort_79 : decode cX10_sort 79 = .ok (.iload 4, 2) := by decide +kernel
theorem dX10_sort_81 : decode cX10_sort 81 = .ok (.ireturn, 1) := by decide +kernel
set_option maxRecDepth 20000 in
theorem ggX10_ofSort_X10_isSort : GoodIn wsX10_ofSort wsX10_isSort := goodIn_r _ [8] (by decide +kernel) (by decide +kernel)
set_option maxRecDepth 20000 in
theorem gX10_ofSort_X10_isSort : GoodIn wsX10_ofSort (va_wsS RX10 82 yX10_isSort wsX10_isSort) := goodIn_app (goodIn_of _ (by decide +kernel)) ggX10_ofSort_X10_isSort
set_option maxRecDepth 20000 in
theorem ggX10_ofSort_X5_partOf : GoodIn wsX10_ofSort wsX5_partOf := goodIn_r _ [13, 14, 15, 16, 12, 17, 18, 19, 20, 21, 34, 35, 36, 37, 38, 39, 40, 41, 42] (by decide +kernel) (by decide +kernel)
set_option maxRecDepth 20000 in
theorem gX10_ofSort_X5_partOf : GoodIn wsX10_ofSort (wsV RX10 90 RX5 yX5_partOf wsX5_partOf) := goodIn_app (goodIn_of _ (by decide +kernel)) ggX10_ofSort_X5_partOf
theorem dX10_ofSort_0 : decode cX10_ofSort 0 = .ok (.iload_n 1, 1) := by decide +kernel
theorem dX10_ofSort_1 : decode cX10_ofSort 1 = .ok (.invokestatic 82, 3) := by decide +kernel
theorem dX10_ofSort_4 : decode cX10_ofSort 4 = .ok (.ifCond .ne 5, 3) := by decide +kernel
theorem dX10_ofSort_7 : decode cX10_ofSort 7 = .ok (.iconst (-1), 1) := by decide +kernel
theorem dX10_ofSort_8 : decode cX10_ofSort 8 = .ok (.ireturn, 1) := by decide +kernel
theorem dX10_ofSort_9 : decode cX10_ofSort 9 = .ok (.iload_n 2, 1) := by decide +kernel
theorem dX10_ofSort_10 : decode cX10_ofSort 10 = .ok (.tableswitch 64 0 2 #[26, 36, 46], 26) := by decide +kernel
theorem dX10_ofSort_36 : decode cX10_ofSort 36 = .ok (.aload_n 0, 1) := by decide +kernel
theorem dX10_ofSort_37 : decode cX10_ofSort 37 = .ok (.getfield 14, 3) := by decide +kernel
theorem dX10_ofSort_40 : decode cX10_ofSort 40 = .ok (.getfield 94, 3) := by decide +kernel
theorem dX10_ofSort_43 : decode cX10_ofSort 43 = .ok (.iload_n 1, 1) := by decide +kernel
theorem dX10_ofSort_44 : decode cX10_ofSort 44 = .ok (.iaload, 1) := by decide +kernel
theorem dX10_ofSort_45 : decode cX10_ofSort 45 = .ok (.ireturn, 1) := by decide +kernel
theorem dX10_ofSort_46 : decode cX10_ofSort 46 = .ok (.aload_n 0, 1) := by decide +kernel
theorem dX10_ofSort_47 : decode cX10_ofSort 47 = .ok (.getfield 14, 3) := by decide +kernel
theorem dX10_ofSort_50 : decode cX10_ofSort 50 = .ok (.getfield 97, 3) := by decide +kernel
theorem dX10_ofSort_53 : decode cX10_ofSort 53 = .ok (.iload_n 1, 1) := by decide +kernel
theorem dX10_ofSort_54 : decode cX10_ofSort 54 = .ok (.iaload, 1) := by decide +kernel
theorem dX10_ofSort_55 : decode cX10_ofSort 55 = .ok (.ireturn, 1) := by decide +kernel
theorem dX10_ofSort_56 : decode cX10_ofSort 56 = .ok (.aload_n 0, 1) := by decide +kernel
theorem dX10_ofSort_57 : decode cX10_ofSort 57 = .ok (.getfield 21, 3) := by decide +kernel
theorem dX10_ofSort_60 : decode cX10_ofSort 60 = .ok (.iload_n 1, 1) := by decide +kernel
theorem dX10_ofSort_61 : decode cX10_ofSort 61 = .ok (.invokevirtual 90, 3) := by decide +kernel
theorem dX10_ofSort_64 : decode cX10_ofSort 64 = .ok (.iconst (-1), 1) := by decide +kernel
theorem dX10_ofSort_65 : decode cX10_ofSort 65 = .ok (.if_icmp .ne 7, 3) := by decide +kernel
theorem dX10_ofSort_68 : decode cX10_ofSort 68 = .ok (.iconst 0, 1) := by decide +kernel
theorem dX10_ofSort_69 : decode cX10_ofSort 69 = .ok (.goto 4, 3) := by decide +kernel
theorem dX10_ofSort_72 : decode cX10_ofSort 72 = .ok (.iconst 1, 1) := by decide +kernel
theorem dX10_ofSort_73 : decode cX10_ofSort 73 = .ok (.ireturn, 1) := by decide +kernel
theorem dX10_ofSort_74 : decode cX10_ofSort 74 = .ok (.iconst (-1), 1) := by decide +kernel
theorem dX10_ofSort_75 : decode cX10_ofSort 75 = .ok (.ireturn, 1) := by decide +kernel
set_option maxRecDepth 20000 in
theorem ggX10_part_X10_isSort : GoodIn wsX10_part wsX10_isSort := goodIn_r _ [6] (by decide +kernel) (by decide +kernel)
set_option maxRecDepth 20000 in
theorem gX10_part_X10_isSort : GoodIn wsX10_part (va_wsS RX10 82 yX10_isSort wsX10_isSort) := goodIn_app (goodIn_of _ (by decide +kernel)) ggX10_part_X10_isSort
set_option maxRecDepth 20000 in
theorem ggX10_part_X0_has : GoodIn wsX10_part wsX0_has := goodIn_r _ [11, 12, 4, 5, 6, 45, 46] (by decide +kernel) (by decide +kernel)
set_option maxRecDepth 20000 in
theorem gX10_part_X0_has : GoodIn wsX10_part (wsV RX10 100 RX0 yX0_has wsX0_has) := goodIn_app (goodIn_of _ (by decide +kernel)) ggX10_part_X0_has
set_option maxRecDepth 20000 in
theorem ggX10_part_X5_keepPart : GoodIn wsX10_part wsX5_keepPart := goodIn_r _ [17, 18, 19, 20, 16, 21, 22, 23, 24, 25, 26, 27, 28, 29, 30, 31, 32, 33, 34, 47, 48, 49, 50, 51, 52, 53, 54, 55] (by decide +kernel) (by decide +kernel)
set_option maxRecDepth 20000 in
theorem gX10_part_X5_keepPart : GoodIn wsX10_part (wsV RX10 103 RX5 yX5_keepPart wsX5_keepPart) := goodIn_app (goodIn_of _ (by decide +kernel)) ggX10_part_X5_keepPart
theorem dX10_part_0 : decode cX10_part 0 = .ok (.iload_n 1, 1) := by decide +kernel
theorem dX10_part_1 : decode cX10_part 1 = .ok (.invokestatic 82, 3) := by decide +kernel
theorem dX10_part_4 : decode cX10_part 4 = .ok (.ifCond .ne 5, 3) := by decide +kernel
theorem dX10_part_7 : decode cX10_part 7 = .ok (.iconst (-1), 1) := by decide +kernel
theorem dX10_part_8 : decode cX10_part 8 = .ok (.ireturn, 1) := by decide +kernel
theorem dX10_part_9 : decode cX10_part 9 = .ok (.aload_n 0, 1) := by decide +kernel
theorem dX10_part_10 : decode cX10_part 10 = .ok (.getfield 14, 3) := by decide +kernel
theorem dX10_part_13 : decode cX10_part 13 = .ok (.iload_n 1, 1) := by decide +kernel
theorem dX10_part_14 : decode cX10_part 14 = .ok (.invokevirtual 100, 3) := by decide +kernel
theorem dX10_part_17 : decode cX10_part 17 = .ok (.ifCond .eq 14, 3) := by decide +kernel
theorem dX10_part_20 : decode cX10_part 20 = .ok (.aload_n 0, 1) := by decide +kernel
theorem dX10_part_21 : decode cX10_part 21 = .ok (.getfield 21, 3) := by decide +kernel
theorem dX10_part_24 : decode cX10_part 24 = .ok (.iload_n 1, 1) := by decide +kernel
theorem dX10_part_25 : decode cX10_part 25 = .ok (.invokevirtual 103, 3) := by decide +kernel
theorem dX10_part_28 : decode cX10_part 28 = .ok (.goto 5, 3) := by decide +kernel
theorem dX10_part_31 : decode cX10_part 31 = .ok (.bipush (-5), 2) := by decide +kernel
theorem dX10_part_33 : decode cX10_part 33 = .ok (.ireturn, 1) := by decide +kernel
set_option maxRecDepth 20000 in
theorem ggX10_join_X10_isIn : GoodIn wsX10_join wsX10_isIn := goodIn_r _ [5] (by decide +kernel) (by decide +kernel)
set_option maxRecDepth 20000 in
theorem gX10_join_X10_isIn : GoodIn wsX10_join (va_wsS RX10 86 yX10_isIn wsX10_isIn) := goodIn_app (goodIn_of _ (by decide +kernel)) ggX10_join_X10_isIn
set_option maxRecDepth 20000 in
theorem ggX10_join_X5_has : GoodIn wsX10_join wsX5_has := goodIn_r _ [10, 11, 38, 39, 40, 41, 42, 43, 44, 45, 46] (by decide +kernel) (by decide +kernel)
set_option maxRecDepth 20000 in
theorem gX10_join_X5_has : GoodIn wsX10_join (wsV RX10 106 RX5 yX5_has wsX5_has) := goodIn_app (goodIn_of _ (by decide +kernel)) ggX10_join_X5_has
set_option maxRecDepth 20000 in
theorem ggX10_join_X5_keepJoin : GoodIn wsX10_join wsX5_keepJoin := goodIn_r _ [15, 16, 17, 18, 19, 9, 20, 11, 21, 22, 23, 24, 25, 26, 27, 38, 39, 40, 41, 42, 43, 44, 45, 46] (by decide +kernel) (by decide +kernel)
set_option maxRecDepth 20000 in
theorem gX10_join_X5_keepJoin : GoodIn wsX10_join (wsV RX10 107 RX5 yX5_keepJoin wsX5_keepJoin) := goodIn_app (goodIn_of _ (by decide +kernel)) ggX10_join_X5_keepJoin
theorem dX10_join_0 : decode cX10_join 0 = .ok (.iload_n 1, 1) := by decide +kernel
theorem dX10_join_1 : decode cX10_join 1 = .ok (.iconst 0, 1) := by decide +kernel
theorem dX10_join_2 : decode cX10_join 2 = .ok (.iconst 1, 1) := by decide +kernel
theorem dX10_join_3 : decode cX10_join 3 = .ok (.invokestatic 86, 3) := by decide +kernel
theorem dX10_join_6 : decode cX10_join 6 = .ok (.ifCond .eq 25, 3) := by decide +kernel
theorem dX10_join_9 : decode cX10_join 9 = .ok (.aload_n 0, 1) := by decide +kernel
theorem dX10_join_10 : decode cX10_join 10 = .ok (.getfield 21, 3) := by decide +kernel
theorem dX10_join_13 : decode cX10_join 13 = .ok (.iload_n 2, 1) := by decide +kernel
theorem dX10_join_14 : decode cX10_join 14 = .ok (.invokevirtual 106, 3) := by decide +kernel
theorem dX10_join_17 : decode cX10_join 17 = .ok (.ifCond .eq 14, 3) := by decide +kernel
theorem dX10_join_20 : decode cX10_join 20 = .ok (.aload_n 0, 1) := by decide +kernel
theorem dX10_join_21 : decode cX10_join 21 = .ok (.getfield 21, 3) := by decide +kernel
theorem dX10_join_24 : decode cX10_join 24 = .ok (.iload_n 3, 1) := by decide +kernel
theorem dX10_join_25 : decode cX10_join 25 = .ok (.invokevirtual 106, 3) := by decide +kernel
theorem dX10_join_28 : decode cX10_join 28 = .ok (.ifCond .ne 5, 3) := by decide +kernel
theorem dX10_join_31 : decode cX10_join 31 = .ok (.iconst (-1), 1) := by decide +kernel
theorem dX10_join_32 : decode cX10_join 32 = .ok (.ireturn, 1) := by decide +kernel
theorem dX10_join_33 : decode cX10_join 33 = .ok (.aload_n 0, 1) := by decide +kernel
theorem dX10_join_34 : decode cX10_join 34 = .ok (.getfield 21, 3) := by decide +kernel
theorem dX10_join_37 : decode cX10_join 37 = .ok (.iload_n 1, 1) := by decide +kernel
theorem dX10_join_38 : decode cX10_join 38 = .ok (.ifCond .ne 7, 3) := by decide +kernel
theorem dX10_join_41 : decode cX10_join 41 = .ok (.iconst 1, 1) := by decide +kernel
theorem dX10_join_42 : decode cX10_join 42 = .ok (.goto 4, 3) := by decide +kernel
theorem dX10_join_45 : decode cX10_join 45 = .ok (.iconst 2, 1) := by decide +kernel
theorem dX10_join_46 : decode cX10_join 46 = .ok (.iload_n 2, 1) := by decide +kernel
theorem dX10_join_47 : decode cX10_join 47 = .ok (.iload_n 3, 1) := by decide +kernel
theorem dX10_join_48 : decode cX10_join 48 = .ok (.invokevirtual 107, 3) := by decide +kernel
theorem dX10_join_51 : decode cX10_join 51 = .ok (.ireturn, 1) := by decide +kernel
set_option maxRecDepth 20000 in
theorem ggX10_net_X5_has : GoodIn wsX10_net wsX5_has := goodIn_r _ [10, 11, 29, 30, 31, 32, 33, 34, 35, 36, 37] (by decide +kernel) (by decide +kernel)
set_option maxRecDepth 20000 in
theorem gX10_net_X5_has : GoodIn wsX10_net (wsV RX10 106 RX5 yX5_has wsX5_has) := goodIn_app (goodIn_of _ (by decide +kernel)) ggX10_net_X5_has
set_option maxRecDepth 20000 in
theorem ggX10_net_X5_usersOf : GoodIn wsX10_net wsX5_usersOf := goodIn_r _ [15, 11, 16, 17, 18, 29, 30, 31, 32, 33, 34, 35, 36, 37] (by decide +kernel) (by decide +kernel)
set_option maxRecDepth 20000 in
theorem gX10_net_X5_usersOf : GoodIn wsX10_net (wsV RX10 123 RX5 yX5_usersOf wsX5_usersOf) := goodIn_app (goodIn_of _ (by decide +kernel)) ggX10_net_X5_usersOf
theorem dX10_net_0 : decode cX10_net 0 = .ok (.aload_n 0, 1) := by decide +kernel
theorem dX10_net_1 : decode cX10_net 1 = .ok (.getfield 21, 3) := by decide +kernel
theorem dX10_net_4 : decode cX10_net 4 = .ok (.iload_n 1, 1) := by decide +kernel
theorem dX10_net_5 : decode cX10_net 5 = .ok (.invokevirtual 106, 3) := by decide +kernel
theorem dX10_net_8 : decode cX10_net 8 = .ok (.ifCond .ne 5, 3) := by decide +kernel
theorem dX10_net_11 : decode cX10_net 11 = .ok (.iconst (-1), 1) := by decide +kernel
theorem dX10_net_12 : decode cX10_net 12 = .ok (.ireturn, 1) := by decide +kernel
theorem dX10_net_13 : decode cX10_net 13 = .ok (.iload_n 2, 1) := by decide +kernel
theorem dX10_net_14 : decode cX10_net 14 = .ok (.tableswitch 100 0 4 #[34, 44, 54, 81, 91], 34) := by decide +kernel
theorem dX10_net_48 : decode cX10_net 48 = .ok (.aload_n 0, 1) := by decide +kernel
theorem dX10_net_49 : decode cX10_net 49 = .ok (.getfield 21, 3) := by decide +kernel
theorem dX10_net_52 : decode cX10_net 52 = .ok (.getfield 111, 3) := by decide +kernel
theorem dX10_net_55 : decode cX10_net 55 = .ok (.iload_n 1, 1) := by decide +kernel
theorem dX10_net_56 : decode cX10_net 56 = .ok (.iaload, 1) := by decide +kernel
theorem dX10_net_57 : decode cX10_net 57 = .ok (.ireturn, 1) := by decide +kernel
theorem dX10_net_58 : decode cX10_net 58 = .ok (.aload_n 0, 1) := by decide +kernel
theorem dX10_net_59 : decode cX10_net 59 = .ok (.getfield 21, 3) := by decide +kernel
theorem dX10_net_62 : decode cX10_net 62 = .ok (.getfield 114, 3) := by decide +kernel
theorem dX10_net_65 : decode cX10_net 65 = .ok (.iload_n 1, 1) := by decide +kernel
theorem dX10_net_66 : decode cX10_net 66 = .ok (.iaload, 1) := by decide +kernel
theorem dX10_net_67 : decode cX10_net 67 = .ok (.ireturn, 1) := by decide +kernel
theorem dX10_net_68 : decode cX10_net 68 = .ok (.aload_n 0, 1) := by decide +kernel
theorem dX10_net_69 : decode cX10_net 69 = .ok (.getfield 21, 3) := by decide +kernel
theorem dX10_net_72 : decode cX10_net 72 = .ok (.getfield 111, 3) := by decide +kernel
theorem dX10_net_75 : decode cX10_net 75 = .ok (.iload_n 1, 1) := by decide +kernel
theorem dX10_net_76 : decode cX10_net 76 = .ok (.iaload, 1) := by decide +kernel
theorem dX10_net_77 : decode cX10_net 77 = .ok (.ifCond .ne 8, 3) := by decide +kernel
theorem dX10_net_80 : decode cX10_net 80 = .ok (.bipush (-2), 2) := by decide +kernel
theorem dX10_net_82 : decode cX10_net 82 = .ok (.goto 12, 3) := by decide +kernel
theorem dX10_net_85 : decode cX10_net 85 = .ok (.aload_n 0, 1) := by decide +kernel
theorem dX10_net_86 : decode cX10_net 86 = .ok (.getfield 21, 3) := by decide +kernel
theorem dX10_net_89 : decode cX10_net 89 = .ok (.getfield 117, 3) := by decide +kernel
theorem dX10_net_92 : decode cX10_net 92 = .ok (.iload_n 1, 1) := by decide +kernel
theorem dX10_net_93 : decode cX10_net 93 = .ok (.iaload, 1) := by decide +kernel
theorem dX10_net_94 : decode cX10_net 94 = .ok (.ireturn, 1) := by decide +kernel
theorem dX10_net_95 : decode cX10_net 95 = .ok (.aload_n 0, 1) := by decide +kernel
theorem dX10_net_96 : decode cX10_net 96 = .ok (.getfield 21, 3) := by decide +kernel
theorem dX10_net_99 : decode cX10_net 99 = .ok (.getfield 120, 3) := by decide +kernel
theorem dX10_net_102 : decode cX10_net 102 = .ok (.iload_n 1, 1) := by decide +kernel
theorem dX10_net_103 : decode cX10_net 103 = .ok (.iaload, 1) := by decide +kernel
theorem dX10_net_104 : decode cX10_net 104 = .ok (.ireturn, 1) := by decide +kernel
theorem dX10_net_105 : decode cX10_net 105 = .ok (.aload_n 0, 1) := by decide +kernel
theorem dX10_net_106 : decode cX10_net 106 = .ok (.getfield 21, 3) := by decide +kernel
theorem dX10_net_109 : decode cX10_net 109 = .ok (.iload_n 1, 1) := by decide +kernel
theorem dX10_net_110 : decode cX10_net 110 = .ok (.invokevirtual 123, 3) := by decide +kernel
theorem dX10_net_113 : decode cX10_net 113 = .ok (.ireturn, 1) := by decide +kernel
theorem dX10_net_114 : decode cX10_net 114 = .ok (.iconst (-1), 1) := by decide +kernel
theorem dX10_net_115 : decode cX10_net 115 = .ok (.ireturn, 1) := by decide +kernel
set_option maxRecDepth 20000 in
theorem ggX10_value_X5_has : GoodIn wsX10_value wsX5_has := goodIn_r _ [10, 11, 106, 107, 108, 109, 110, 111, 112, 113, 114] (by decide +kernel) (by decide +kernel)
set_option maxRecDepth 20000 in
theorem gX10_value_X5_has : GoodIn wsX10_value (wsV RX10 106 RX5 yX5_has wsX5_has) := goodIn_app (goodIn_of _ (by decide +kernel)) ggX10_value_X5_has
set_option maxRecDepth 20000 in
theorem ggX10_value_X10_isIn : GoodIn wsX10_value wsX10_isIn := goodIn_r _ [15] (by decide +kernel) (by decide +kernel)
set_option maxRecDepth 20000 in
theorem gX10_value_X10_isIn : GoodIn wsX10_value (va_wsS RX10 86 yX10_isIn wsX10_isIn) := goodIn_app (goodIn_of _ (by decide +kernel)) ggX10_value_X10_isIn
set_option maxRecDepth 20000 in
theorem ggX10_value_X4_measure : GoodIn wsX10_value wsX4_measure := goodIn_r _ [20, 21, 22, 23, 19, 24, 25, 26, 27, 28, 29, 30, 31, 32, 33, 34, 35, 36, 37, 38, 39, 40, 41, 42, 43, 44, 45, 46, 47, 48, 49, 50, 51, 52, 53, 54, 55, 56, 57, 58, 59, 60, 61, 62, 14, 63, 64, 65, 66, 67, 68, 69, 70, 71, 72, 73, 74, 75, 76, 77, 78, 79, 80, 81, 82, 97, 98, 99, 100, 101, 102, 103, 104, 105, 106, 107, 108, 109, 110, 111, 112, 113, 114, 115, 116, 117, 118, 119, 120, 121, 122] (by decide +kernel) (by decide +kernel)
set_option maxRecDepth 20000 in
theorem gX10_value_X4_measure : GoodIn wsX10_value (wsV RX10 128 RX4 yX4_measure wsX4_measure) := goodIn_app (goodIn_of _ (by decide +kernel)) ggX10_value_X4_measure
set_option maxRecDepth 20000 in
theorem ggX10_value_X1_side : GoodIn wsX10_value wsX1_side := goodIn_r _ [86, 60, 61, 121, 122] (by decide +kernel) (by decide +kernel)
set_option maxRecDepth 20000 in
theorem gX10_value_X1_side : GoodIn wsX10_value (wsV RX10 135 RX1 yX1_side wsX1_side) := goodIn_app (goodIn_of _ (by decide +kernel)) ggX10_value_X1_side
theorem dX10_value_0 : decode cX10_value 0 = .ok (.aload_n 0, 1) := by decide +kernel
theorem dX10_value_1 : decode cX10_value 1 = .ok (.getfield 21, 3) := by decide +kernel
theorem dX10_value_4 : decode cX10_value 4 = .ok (.iload_n 1, 1) := by decide +kernel
theorem dX10_value_5 : decode cX10_value 5 = .ok (.invokevirtual 106, 3) := by decide +kernel
theorem dX10_value_8 : decode cX10_value 8 = .ok (.ifCond .eq 12, 3) := by decide +kernel
theorem dX10_value_11 : decode cX10_value 11 = .ok (.iload_n 2, 1) := by decide +kernel
theorem dX10_value_12 : decode cX10_value 12 = .ok (.iconst 0, 1) := by decide +kernel
theorem dX10_value_13 : decode cX10_value 13 = .ok (.iconst 1, 1) := by decide +kernel
theorem dX10_value_14 : decode cX10_value 14 = .ok (.invokestatic 86, 3) := by decide +kernel
theorem dX10_value_17 : decode cX10_value 17 = .ok (.ifCond .ne 7, 3) := by decide +kernel
theorem dX10_value_20 : decode cX10_value 20 = .ok (.ldc2_w 126, 3) := by decide +kernel
theorem dX10_value_23 : decode cX10_value 23 = .ok (.lreturn, 1) := by decide +kernel
theorem dX10_value_24 : decode cX10_value 24 = .ok (.aload_n 0, 1) := by decide +kernel
theorem dX10_value_25 : decode cX10_value 25 = .ok (.getfield 30, 3) := by decide +kernel
theorem dX10_value_28 : decode cX10_value 28 = .ok (.iload_n 1, 1) := by decide +kernel
theorem dX10_value_29 : decode cX10_value 29 = .ok (.iconst (-1), 1) := by decide +kernel
theorem dX10_value_30 : decode cX10_value 30 = .ok (.iconst 0, 1) := by decide +kernel
theorem dX10_value_31 : decode cX10_value 31 = .ok (.invokevirtual 128, 3) := by decide +kernel
theorem dX10_value_34 : decode cX10_value 34 = .ok (.ifCond .eq 17, 3) := by decide +kernel
theorem dX10_value_37 : decode cX10_value 37 = .ok (.aload_n 0, 1) := by decide +kernel
theorem dX10_value_38 : decode cX10_value 38 = .ok (.getfield 30, 3) := by decide +kernel
theorem dX10_value_41 : decode cX10_value 41 = .ok (.getfield 131, 3) := by decide +kernel
theorem dX10_value_44 : decode cX10_value 44 = .ok (.iload_n 2, 1) := by decide +kernel
theorem dX10_value_45 : decode cX10_value 45 = .ok (.invokevirtual 135, 3) := by decide +kernel
theorem dX10_value_48 : decode cX10_value 48 = .ok (.goto 6, 3) := by decide +kernel
theorem dX10_value_51 : decode cX10_value 51 = .ok (.ldc2_w 141, 3) := by decide +kernel
theorem dX10_value_54 : decode cX10_value 54 = .ok (.lreturn, 1) := by decide +kernel
set_option maxRecDepth 20000 in
theorem ggX10_ends_X5_has : GoodIn wsX10_ends wsX5_has := goodIn_r _ [8, 9, 66, 67, 68, 69, 70, 71, 72, 73, 74] (by decide +kernel) (by decide +kernel)
set_option maxRecDepth 20000 in
theorem gX10_ends_X5_has : GoodIn wsX10_ends (wsV RX10 106 RX5 yX5_has wsX5_has) := goodIn_app (goodIn_of _ (by decide +kernel)) ggX10_ends_X5_has
set_option maxRecDepth 20000 in
theorem ggX10_ends_X10_isIn : GoodIn wsX10_ends wsX10_isIn := goodIn_r _ [13] (by decide +kernel) (by decide +kernel)
set_option maxRecDepth 20000 in
theorem gX10_ends_X10_isIn : GoodIn wsX10_ends (va_wsS RX10 86 yX10_isIn wsX10_isIn) := goodIn_app (goodIn_of _ (by decide +kernel)) ggX10_ends_X10_isIn
set_option maxRecDepth 20000 in
theorem ggX10_ends_X4_endOf : GoodIn wsX10_ends wsX4_endOf := goodIn_r _ [18, 19, 20, 21, 22, 23, 24, 25, 26, 17, 27, 28, 29, 30, 31, 32, 33, 34, 35, 36, 37, 38, 39, 40, 41, 42, 43, 44, 45, 46, 47, 48, 49, 75, 76, 77, 78, 79, 80, 81, 82, 83, 84, 85, 86, 87, 66, 67, 68, 69, 70, 71, 72, 73, 74, 88, 89] (by decide +kernel) (by decide +kernel)
set_option maxRecDepth 20000 in
theorem gX10_ends_X4_endOf : GoodIn wsX10_ends (wsV RX10 143 RX4 yX4_endOf wsX4_endOf) := goodIn_app (goodIn_of _ (by decide +kernel)) ggX10_ends_X4_endOf
set_option maxRecDepth 20000 in
theorem ggX10_ends_X10_bitsOfDouble : GoodIn wsX10_ends wsX10_bitsOfDouble := goodIn_r _ [52, 53, 54, 55] (by decide +kernel) (by decide +kernel)
set_option maxRecDepth 20000 in
theorem gX10_ends_X10_bitsOfDouble : GoodIn wsX10_ends (va_wsS RX10 147 yX10_bitsOfDouble wsX10_bitsOfDouble) := goodIn_app (goodIn_of _ (by decide +kernel)) ggX10_ends_X10_bitsOfDouble
theorem dX10_ends_0 : decode cX10_ends 0 = .ok (.aload_n 0, 1) := by decide +kernel
theorem dX10_ends_1 : decode cX10_ends 1 = .ok (.getfield 21, 3) := by decide +kernel
theorem dX10_ends_4 : decode cX10_ends 4 = .ok (.iload_n 1, 1) := by decide +kernel
theorem dX10_ends_5 : decode cX10_ends 5 = .ok (.invokevirtual 106, 3) := by decide +kernel
theorem dX10_ends_8 : decode cX10_ends 8 = .ok (.ifCond .eq 12, 3) := by decide +kernel
theorem dX10_ends_11 : decode cX10_ends 11 = .ok (.iload_n 2, 1) := by decide +kernel
theorem dX10_ends_12 : decode cX10_ends 12 = .ok (.iconst 0, 1) := by decide +kernel
theorem dX10_ends_13 : decode cX10_ends 13 = .ok (.iconst 2, 1) := by decide +kernel
theorem dX10_ends_14 : decode cX10_ends 14 = .ok (.invokestatic 86, 3) := by decide +kernel
theorem dX10_ends_17 : decode cX10_ends 17 = .ok (.ifCond .ne 7, 3) := by decide +kernel
theorem dX10_ends_20 : decode cX10_ends 20 = .ok (.ldc2_w 126, 3) := by decide +kernel
theorem dX10_ends_23 : decode cX10_ends 23 = .ok (.lreturn, 1) := by decide +kernel
theorem dX10_ends_24 : decode cX10_ends 24 = .ok (.aload_n 0, 1) := by decide +kernel
theorem dX10_ends_25 : decode cX10_ends 25 = .ok (.getfield 30, 3) := by decide +kernel
theorem dX10_ends_28 : decode cX10_ends 28 = .ok (.iload_n 1, 1) := by decide +kernel
theorem dX10_ends_29 : decode cX10_ends 29 = .ok (.iload_n 2, 1) := by decide +kernel
theorem dX10_ends_30 : decode cX10_ends 30 = .ok (.invokevirtual 143, 3) := by decide +kernel
theorem dX10_ends_33 : decode cX10_ends 33 = .ok (.invokestatic 147, 3) := by decide +kernel
theorem dX10_ends_36 : decode cX10_ends 36 = .ok (.lreturn, 1) := by decide +kernel
set_option maxRecDepth 20000 in
theorem ggX10_shortly_X5_has : GoodIn wsX10_shortly wsX5_has := goodIn_r _ [8, 9, 63, 64, 65, 66, 67, 68, 69, 70, 71] (by decide +kernel) (by decide +kernel)
set_option maxRecDepth 20000 in
theorem gX10_shortly_X5_has : GoodIn wsX10_shortly (wsV RX10 106 RX5 yX5_has wsX5_has) := goodIn_app (goodIn_of _ (by decide +kernel)) ggX10_shortly_X5_has
set_option maxRecDepth 20000 in
theorem ggX10_shortly_X4_floatOf : GoodIn wsX10_shortly wsX4_floatOf := goodIn_r _ [14, 15, 16, 17, 18, 19, 20, 21, 22, 23, 24, 13, 25, 26, 27, 28, 29, 30, 31, 32, 33, 34, 35, 36, 37, 38, 39, 40, 41, 42, 43, 44, 45, 46, 47, 72, 73, 74, 75, 76, 77, 78, 79, 80, 81, 82, 83, 84, 85, 86, 63, 64, 65, 66, 67, 68, 69, 70, 71] (by decide +kernel) (by decide +kernel)
set_option maxRecDepth 20000 in
theorem gX10_shortly_X4_floatOf : GoodIn wsX10_shortly (wsV RX10 151 RX4 yX4_floatOf wsX4_floatOf) := goodIn_app (goodIn_of _ (by decide +kernel)) ggX10_shortly_X4_floatOf
set_option maxRecDepth 20000 in
theorem ggX10_shortly_X10_bitsOfFloat : GoodIn wsX10_shortly wsX10_bitsOfFloat := goodIn_r _ [51, 52] (by decide +kernel) (by decide +kernel)
set_option maxRecDepth 20000 in
theorem gX10_shortly_X10_bitsOfFloat : GoodIn wsX10_shortly (va_wsS RX10 155 yX10_bitsOfFloat wsX10_bitsOfFloat) := goodIn_app (goodIn_of _ (by decide +kernel)) ggX10_shortly_X10_bitsOfFloat
theorem dX10_shortly_0 : decode cX10_shortly 0 = .ok (.aload_n 0, 1) := by decide +kernel
theorem dX10_shortly_1 : decode cX10_shortly 1 = .ok (.getfield 21, 3) := by decide +kernel
theorem dX10_shortly_4 : decode cX10_shortly 4 = .ok (.iload_n 1, 1) := by decide +kernel
theorem dX10_shortly_5 : decode cX10_shortly 5 = .ok (.invokevirtual 106, 3) := by decide +kernel
theorem dX10_shortly_8 : decode cX10_shortly 8 = .ok (.ifCond .ne 7, 3) := by decide +kernel
theorem dX10_shortly_11 : decode cX10_shortly 11 = .ok (.ldc2_w 126, 3) := by decide +kernel
theorem dX10_shortly_14 : decode cX10_shortly 14 = .ok (.lreturn, 1) := by decide +kernel
theorem dX10_shortly_15 : decode cX10_shortly 15 = .ok (.aload_n 0, 1) := by decide +kernel
theorem dX10_shortly_16 : decode cX10_shortly 16 = .ok (.getfield 30, 3) := by decide +kernel
theorem dX10_shortly_19 : decode cX10_shortly 19 = .ok (.iload_n 1, 1) := by decide +kernel
theorem dX10_shortly_20 : decode cX10_shortly 20 = .ok (.iconst 0, 1) := by decide +kernel
theorem dX10_shortly_21 : decode cX10_shortly 21 = .ok (.invokevirtual 151, 3) := by decide +kernel
theorem dX10_shortly_24 : decode cX10_shortly 24 = .ok (.invokestatic 155, 3) := by decide +kernel
theorem dX10_shortly_27 : decode cX10_shortly 27 = .ok (.lreturn, 1) := by decide +kernel
set_option maxRecDepth 20000 in
theorem ggX10_drawn_X5_has : GoodIn wsX10_drawn wsX5_has := goodIn_r _ [9, 10, 73, 74, 75, 76, 77, 78, 79, 80, 81] (by decide +kernel) (by decide +kernel)
set_option maxRecDepth 20000 in
theorem gX10_drawn_X5_has : GoodIn wsX10_drawn (wsV RX10 106 RX5 yX5_has wsX5_has) := goodIn_app (goodIn_of _ (by decide +kernel)) ggX10_drawn_X5_has
set_option maxRecDepth 20000 in
theorem ggX10_drawn_X4_floatOf : GoodIn wsX10_drawn wsX4_floatOf := goodIn_r _ [15, 16, 17, 18, 19, 20, 21, 22, 23, 24, 25, 14, 26, 27, 28, 29, 30, 31, 32, 33, 34, 35, 36, 37, 38, 39, 40, 41, 42, 43, 44, 45, 46, 47, 48, 64, 65, 66, 67, 68, 69, 70, 71, 72, 82, 83, 84, 85, 86, 87, 73, 74, 75, 76, 77, 78, 79, 80, 81] (by decide +kernel) (by decide +kernel)
set_option maxRecDepth 20000 in
theorem gX10_drawn_X4_floatOf : GoodIn wsX10_drawn (wsV RX10 151 RX4 yX4_floatOf wsX4_floatOf) := goodIn_app (goodIn_of _ (by decide +kernel)) ggX10_drawn_X4_floatOf
set_option maxRecDepth 20000 in
theorem ggX10_drawn_X10_bitsOfFloat : GoodIn wsX10_drawn wsX10_bitsOfFloat := goodIn_r _ [52, 53] (by decide +kernel) (by decide +kernel)
set_option maxRecDepth 20000 in
theorem gX10_drawn_X10_bitsOfFloat : GoodIn wsX10_drawn (va_wsS RX10 155 yX10_bitsOfFloat wsX10_bitsOfFloat) := goodIn_app (goodIn_of _ (by decide +kernel)) ggX10_drawn_X10_bitsOfFloat
theorem dX10_drawn_0 : decode cX10_drawn 0 = .ok (.aload_n 0, 1) := by decide +kernel
theorem dX10_drawn_1 : decode cX10_drawn 1 = .ok (.getfield 21, 3) := by decide +kernel
theorem dX10_drawn_4 : decode cX10_drawn 4 = .ok (.iload_n 1, 1) := by decide +kernel
theorem dX10_drawn_5 : decode cX10_drawn 5 = .ok (.invokevirtual 106, 3) := by decide +kernel
theorem dX10_drawn_8 : decode cX10_drawn 8 = .ok (.ifCond .ne 7, 3) := by decide +kernel
theorem dX10_drawn_11 : decode cX10_drawn 11 = .ok (.ldc2_w 126, 3) := by decide +kernel
theorem dX10_drawn_14 : decode cX10_drawn 14 = .ok (.lreturn, 1) := by decide +kernel
theorem dX10_drawn_15 : decode cX10_drawn 15 = .ok (.aload_n 0, 1) := by decide +kernel
theorem dX10_drawn_16 : decode cX10_drawn 16 = .ok (.getfield 30, 3) := by decide +kernel
theorem dX10_drawn_19 : decode cX10_drawn 19 = .ok (.iload_n 2, 1) := by decide +kernel
