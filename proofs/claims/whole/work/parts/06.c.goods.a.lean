abbrev xs0 : XS := x0
abbrev ms0 : MS := m0
abbrev gW (w : Cond) : Prop := w ∈ lw_tbl ∧ ((w.onTables && w.keeps) = true ∨ ∃ ty, w = .arrayClass ty)
theorem gi_n : GoodIn lw_tbl [] := fun w h => by cases h
theorem gi_c {w : Cond} {ws : List Cond} (h : gW w) (hs : GoodIn lw_tbl ws) : GoodIn lw_tbl (w :: ws) := fun x hx => by
  rcases List.mem_cons.mp hx with q | q
  · rw [q]; exact h
  · exact hs x q
theorem zts {w : Cond} (h : w ∈ k2_sels lw_privs) : w ∈ lw_tbl := List.mem_append_left _ h
theorem zt1 {w : Cond} (h : w ∈ tables_1_1) : w ∈ lw_tbl := List.mem_append_right _ (List.mem_append_left _ h)
theorem zt2 {w : Cond} (h : w ∈ tables_1_2) : w ∈ lw_tbl := List.mem_append_right _ (List.mem_append_right _ (List.mem_append_left _ h))
theorem zt3 {w : Cond} (h : w ∈ tables_1_3) : w ∈ lw_tbl := List.mem_append_right _ (List.mem_append_right _ (List.mem_append_right _ (List.mem_append_left _ h)))
theorem zt4 {w : Cond} (h : w ∈ tables_1_4) : w ∈ lw_tbl := List.mem_append_right _ (List.mem_append_right _ (List.mem_append_right _ (List.mem_append_right _ (List.mem_append_left _ h))))
theorem zt5 {w : Cond} (h : w ∈ tables_1_5) : w ∈ lw_tbl := List.mem_append_right _ (List.mem_append_right _ (List.mem_append_right _ (List.mem_append_right _ (List.mem_append_right _ (List.mem_append_left _ h)))))
theorem zt6 {w : Cond} (h : w ∈ tables_1_6) : w ∈ lw_tbl := List.mem_append_right _ (List.mem_append_right _ (List.mem_append_right _ (List.mem_append_right _ (List.mem_append_right _ (List.mem_append_right _ h)))))
theorem wt_0_0 : gW (.selects RX5 yX5_add yX5_add) := ⟨zts (List.mem_of_getElem? (i := 0) rfl), Or.inl rfl⟩
theorem wt_1_0 : gW (.selects RX4 yX4_walk yX4_walk) := ⟨zts (List.mem_of_getElem? (i := 1) rfl), Or.inl rfl⟩
theorem wt_2_0 : gW (.selects RX4 yX4_measureWalk yX4_measureWalk) := ⟨zts (List.mem_of_getElem? (i := 2) rfl), Or.inl rfl⟩
theorem wt_3_0 : gW (.selects RX4 yX4_putPart yX4_putPart) := ⟨zts (List.mem_of_getElem? (i := 3) rfl), Or.inl rfl⟩
theorem wt_4_0 : gW (.selects RX4 yX4_endOfPart yX4_endOfPart) := ⟨zts (List.mem_of_getElem? (i := 4) rfl), Or.inl rfl⟩
theorem wt_5_0 : gW (.selects RX4 yX4_drawPart yX4_drawPart) := ⟨zts (List.mem_of_getElem? (i := 5) rfl), Or.inl rfl⟩
theorem wt_6_0 : gW (.selects RX5 yX5_isTurn yX5_isTurn) := ⟨zts (List.mem_of_getElem? (i := 6) rfl), Or.inl rfl⟩
theorem wt_7_0 : gW (.selects RX5 yX5_openBrackets yX5_openBrackets) := ⟨zts (List.mem_of_getElem? (i := 7) rfl), Or.inl rfl⟩
theorem wt_8_0 : gW (.selects RX7 yX7_isBuiltForBox yX7_isBuiltForBox) := ⟨zts (List.mem_of_getElem? (i := 8) rfl), Or.inl rfl⟩
theorem wt_9_0 : gW (.selects RX7 yX7_addParts yX7_addParts) := ⟨zts (List.mem_of_getElem? (i := 9) rfl), Or.inl rfl⟩
theorem wt_10_0 : gW (.selects RX7 yX7_add yX7_add) := ⟨zts (List.mem_of_getElem? (i := 10) rfl), Or.inl rfl⟩
theorem wt_11_0 : gW (.selects RX7 yX7_slotOf yX7_slotOf) := ⟨zts (List.mem_of_getElem? (i := 11) rfl), Or.inl rfl⟩
theorem wt_12_0 : gW (.selects RX7 yX7_addPairs yX7_addPairs) := ⟨zts (List.mem_of_getElem? (i := 12) rfl), Or.inl rfl⟩
theorem wt_13_0 : gW (.selects RX7 yX7_putInOrder yX7_putInOrder) := ⟨zts (List.mem_of_getElem? (i := 13) rfl), Or.inl rfl⟩
theorem wt_14_0 : gW (.selects RX7 yX7_merge yX7_merge) := ⟨zts (List.mem_of_getElem? (i := 14) rfl), Or.inl rfl⟩
theorem wt_15_0 : gW (.selects RX7 yX7_isLess yX7_isLess) := ⟨zts (List.mem_of_getElem? (i := 15) rfl), Or.inl rfl⟩
theorem wt_16_0 : gW (.selects RX7 yX7_isNearer yX7_isNearer) := ⟨zts (List.mem_of_getElem? (i := 16) rfl), Or.inl rfl⟩
theorem wt_17_0 : gW (.selects RX3 yX3_measureWay yX3_measureWay) := ⟨zts (List.mem_of_getElem? (i := 17) rfl), Or.inl rfl⟩
theorem wt_18_0 : gW (.selects RX3 yX3_edgesOn yX3_edgesOn) := ⟨zts (List.mem_of_getElem? (i := 18) rfl), Or.inl rfl⟩
theorem wt_19_0 : gW (.selects RX3 yX3_isForest yX3_isForest) := ⟨zts (List.mem_of_getElem? (i := 19) rfl), Or.inl rfl⟩
theorem wt_20_0 : gW (.selects RX3 yX3_hang yX3_hang) := ⟨zts (List.mem_of_getElem? (i := 20) rfl), Or.inl rfl⟩
theorem wt_21_0 : gW (.selects RX3 yX3_ohmsOf yX3_ohmsOf) := ⟨zts (List.mem_of_getElem? (i := 21) rfl), Or.inl rfl⟩
theorem wt_22_0 : gW (.selects RX11 yX11_found yX11_found) := ⟨zts (List.mem_of_getElem? (i := 22) rfl), Or.inl rfl⟩
theorem wt_23_0 : gW (.selects RX11 yX11_kindOf yX11_kindOf) := ⟨zts (List.mem_of_getElem? (i := 23) rfl), Or.inl rfl⟩
theorem wt_24_0 : gW (.selects RX11 yX11_firstOf yX11_firstOf) := ⟨zts (List.mem_of_getElem? (i := 24) rfl), Or.inl rfl⟩
theorem wt_25_0 : gW (.selects RX11 yX11_secondOf yX11_secondOf) := ⟨zts (List.mem_of_getElem? (i := 25) rfl), Or.inl rfl⟩
theorem wt_26_0 : gW (.selects RX11 yX11_isThere yX11_isThere) := ⟨zts (List.mem_of_getElem? (i := 26) rfl), Or.inl rfl⟩
theorem wt_27_0 : gW (.selects RX11 yX11_kept yX11_kept) := ⟨zts (List.mem_of_getElem? (i := 27) rfl), Or.inl rfl⟩
theorem wt_28_0 : gW (.selects RX11 yX11_isNet yX11_isNet) := ⟨zts (List.mem_of_getElem? (i := 28) rfl), Or.inl rfl⟩
theorem wt_29_0 : gW (.selects RX11 yX11_partsOf yX11_partsOf) := ⟨zts (List.mem_of_getElem? (i := 29) rfl), Or.inl rfl⟩
theorem wt_30_0 : gW (.selects RX11 yX11_usedBy yX11_usedBy) := ⟨zts (List.mem_of_getElem? (i := 30) rfl), Or.inl rfl⟩
theorem wt_31_0 : gW (.selects RX11 yX11_values yX11_values) := ⟨zts (List.mem_of_getElem? (i := 31) rfl), Or.inl rfl⟩
theorem wt_32_0 : gW (.selects RX11 yX11_becomes yX11_becomes) := ⟨zts (List.mem_of_getElem? (i := 32) rfl), Or.inl rfl⟩
theorem wt_33_0 : gW (.selects RX11 yX11_joined yX11_joined) := ⟨zts (List.mem_of_getElem? (i := 33) rfl), Or.inl rfl⟩
theorem wt_34_0 : gW (.selects RX11 yX11_endOf yX11_endOf) := ⟨zts (List.mem_of_getElem? (i := 34) rfl), Or.inl rfl⟩
theorem wt_35_0 : gW (.selects RX11 yX11_goes yX11_goes) := ⟨zts (List.mem_of_getElem? (i := 35) rfl), Or.inl rfl⟩
theorem wt_36_0 : gW (.selects RX11 yX11_draws yX11_draws) := ⟨zts (List.mem_of_getElem? (i := 36) rfl), Or.inl rfl⟩
theorem wt_37_0 : gW (.selects RX11 yX11_drawnPart yX11_drawnPart) := ⟨zts (List.mem_of_getElem? (i := 37) rfl), Or.inl rfl⟩
theorem wt_38_0 : gW (.selects RX11 yX11_laySame yX11_laySame) := ⟨zts (List.mem_of_getElem? (i := 38) rfl), Or.inl rfl⟩
theorem wt_39_0 : gW (.selects RX11 yX11_valueFailing yX11_valueFailing) := ⟨zts (List.mem_of_getElem? (i := 39) rfl), Or.inl rfl⟩
theorem wt_40_0 : gW (.selects RX11 yX11_faultOf yX11_faultOf) := ⟨zts (List.mem_of_getElem? (i := 40) rfl), Or.inl rfl⟩
theorem wt_41_0 : gW (.selects RX11 yX11_keeps yX11_keeps) := ⟨zts (List.mem_of_getElem? (i := 41) rfl), Or.inl rfl⟩
theorem wt_42_0 : gW (.selects RX11 yX11_printsAll yX11_printsAll) := ⟨zts (List.mem_of_getElem? (i := 42) rfl), Or.inl rfl⟩
theorem wt_43_0 : gW (.selects RX11 yX11_prints yX11_prints) := ⟨zts (List.mem_of_getElem? (i := 43) rfl), Or.inl rfl⟩
theorem wt_44_0 : gW (.selects RX11 yX11_layReached yX11_layReached) := ⟨zts (List.mem_of_getElem? (i := 44) rfl), Or.inl rfl⟩
theorem wt_45_0 : gW (.selects RX11 yX11_reaches yX11_reaches) := ⟨zts (List.mem_of_getElem? (i := 45) rfl), Or.inl rfl⟩
theorem wt_46_0 : gW (.selects RX11 yX11_reachedAt yX11_reachedAt) := ⟨zts (List.mem_of_getElem? (i := 46) rfl), Or.inl rfl⟩
theorem wt_47_0 : gW (.selects RX11 yX11_reachesBoth yX11_reachesBoth) := ⟨zts (List.mem_of_getElem? (i := 47) rfl), Or.inl rfl⟩
theorem wt_48_0 : gW (.selects RX11 yX11_lessThan yX11_lessThan) := ⟨zts (List.mem_of_getElem? (i := 48) rfl), Or.inl rfl⟩
theorem wt_49_0 : gW (.selects RX11 yX11_wished yX11_wished) := ⟨zts (List.mem_of_getElem? (i := 49) rfl), Or.inl rfl⟩
theorem wt_50_0 : gW (.selects RX11 yX11_partsOfReached yX11_partsOfReached) := ⟨zts (List.mem_of_getElem? (i := 50) rfl), Or.inl rfl⟩
theorem wt_51_0 : gW (.selects RX11 yX11_makes yX11_makes) := ⟨zts (List.mem_of_getElem? (i := 51) rfl), Or.inl rfl⟩
theorem wt_52_0 : gW (.selects RX11 yX11_isPoint yX11_isPoint) := ⟨zts (List.mem_of_getElem? (i := 52) rfl), Or.inl rfl⟩
theorem wt_53_0 : gW (.selects RX11 yX11_isEdge yX11_isEdge) := ⟨zts (List.mem_of_getElem? (i := 53) rfl), Or.inl rfl⟩
theorem wt_54_0 : gW (.selects RX11 yX11_live yX11_live) := ⟨zts (List.mem_of_getElem? (i := 54) rfl), Or.inl rfl⟩
theorem wt_55_0 : gW (.selects RX11 yX11_between0 yX11_between0) := ⟨zts (List.mem_of_getElem? (i := 55) rfl), Or.inl rfl⟩
theorem wt_56_0 : gW (.selects RX11 yX11_comesTo yX11_comesTo) := ⟨zts (List.mem_of_getElem? (i := 56) rfl), Or.inl rfl⟩
theorem wt_57_0 : gW (.selects RX11 yX11_othersOf yX11_othersOf) := ⟨zts (List.mem_of_getElem? (i := 57) rfl), Or.inl rfl⟩
theorem wt_58_0 : gW (.selects RX11 yX11_sizeOf yX11_sizeOf) := ⟨zts (List.mem_of_getElem? (i := 58) rfl), Or.inl rfl⟩
theorem wt_59_0 : gW (.selects RX11 yX11_mayLie yX11_mayLie) := ⟨zts (List.mem_of_getElem? (i := 59) rfl), Or.inl rfl⟩
theorem wt_61_0 : gW (.initialized RX10) := ⟨zt1 (List.mem_of_getElem? (i := 1) rfl), Or.inl rfl⟩
theorem wt_62_0 : gW (.initialized RX0) := ⟨zt1 (List.mem_of_getElem? (i := 2) rfl), Or.inl rfl⟩
theorem wt_63_0 : gW (.initialized RX5) := ⟨zt1 (List.mem_of_getElem? (i := 3) rfl), Or.inl rfl⟩
theorem wt_64_0 : gW (.initialized RX4) := ⟨zt1 (List.mem_of_getElem? (i := 4) rfl), Or.inl rfl⟩
theorem wt_65_0 : gW (.initialized RX6) := ⟨zt1 (List.mem_of_getElem? (i := 5) rfl), Or.inl rfl⟩
theorem wt_66_0 : gW (.initialized RX1) := ⟨zt1 (List.mem_of_getElem? (i := 6) rfl), Or.inl rfl⟩
theorem wt_67_0 : gW (.initialized RX8) := ⟨zt1 (List.mem_of_getElem? (i := 7) rfl), Or.inl rfl⟩
theorem wt_68_0 : gW (.initialized RX7) := ⟨zt1 (List.mem_of_getElem? (i := 8) rfl), Or.inl rfl⟩
theorem wt_69_0 : gW (.initialized RX3) := ⟨zt1 (List.mem_of_getElem? (i := 9) rfl), Or.inl rfl⟩
theorem wt_70_0 : gW (.initialized RX9) := ⟨zt1 (List.mem_of_getElem? (i := 10) rfl), Or.inl rfl⟩
theorem wt_71_0 : gW (.initialized RX2) := ⟨zt1 (List.mem_of_getElem? (i := 11) rfl), Or.inl rfl⟩
theorem wt_72_0 : gW (.initialized RX11) := ⟨zt1 (List.mem_of_getElem? (i := 12) rfl), Or.inl rfl⟩
theorem wt_74_0 : gW (.initialized "java/lang/Double") := ⟨zt1 (List.mem_of_getElem? (i := 14) rfl), Or.inl rfl⟩
theorem wt_74_1 : gW (.initialized RJxe99ae) := ⟨zt1 (List.mem_of_getElem? (i := 14) rfl), Or.inl rfl⟩
theorem wt_75_0 : gW (.initialized "java/lang/Float") := ⟨zt1 (List.mem_of_getElem? (i := 15) rfl), Or.inl rfl⟩
theorem wt_75_1 : gW (.initialized RJxf58ca) := ⟨zt1 (List.mem_of_getElem? (i := 15) rfl), Or.inl rfl⟩
theorem wt_76_0 : gW (.initialized "java/lang/System") := ⟨zt1 (List.mem_of_getElem? (i := 16) rfl), Or.inl rfl⟩
theorem wt_77_0 : gW (.initialized RJ7) := ⟨zt1 (List.mem_of_getElem? (i := 17) rfl), Or.inl rfl⟩
theorem wt_78_0 : gW (.initialized "java/lang/Math") := ⟨zt1 (List.mem_of_getElem? (i := 18) rfl), Or.inl rfl⟩
theorem wt_79_0 : gW (.initialized RJ6) := ⟨zt1 (List.mem_of_getElem? (i := 19) rfl), Or.inl rfl⟩
theorem wt_84_0 : gW (.code yX10_init cX10_init 2 none) := ⟨zt1 (List.mem_of_getElem? (i := 24) rfl), Or.inl rfl⟩
theorem wt_85_0 : gW (.methodLink RX10 5 objectInit) := ⟨zt1 (List.mem_of_getElem? (i := 25) rfl), Or.inl rfl⟩
theorem wt_86_0 : gW (.instanceMethod objectInit) := ⟨zt1 (List.mem_of_getElem? (i := 26) rfl), Or.inl rfl⟩
theorem wt_87_0 : gW (.code objectInit ⟨#[0xb1]⟩ 1 none) := ⟨zt1 (List.mem_of_getElem? (i := 27) rfl), Or.inl rfl⟩
theorem wt_88_0 : gW (.classLink RX10 11 RX0) := ⟨zt1 (List.mem_of_getElem? (i := 28) rfl), Or.inl rfl⟩
theorem wt_89_0 : gW (.instantiable RX0 2) := ⟨zt1 (List.mem_of_getElem? (i := 29) rfl), Or.inl rfl⟩
theorem wt_91_0 : gW (.instanceMethod yX0_init) := ⟨zt1 (List.mem_of_getElem? (i := 31) rfl), Or.inl rfl⟩
theorem wt_92_0 : gW (.code yX0_init cX0_init 1 none) := ⟨zt1 (List.mem_of_getElem? (i := 32) rfl), Or.inl rfl⟩
theorem wt_93_0 : gW (.methodLink RX0 3 objectInit) := ⟨zt1 (List.mem_of_getElem? (i := 33) rfl), Or.inl rfl⟩
theorem wt_94_0 : gW (.fieldLink RX0 9 "WishedResistor$Box" "ohms" "[I") := ⟨zt1 (List.mem_of_getElem? (i := 34) rfl), Or.inl rfl⟩
theorem wt_95_0 : gW (.fieldLink RX7 50 "WishedResistor$Box" "ohms" "[I") := ⟨zt1 (List.mem_of_getElem? (i := 35) rfl), Or.inl rfl⟩
theorem wt_96_0 : gW (.fieldLink RX10 94 "WishedResistor$Box" "ohms" "[I") := ⟨zt1 (List.mem_of_getElem? (i := 36) rfl), Or.inl rfl⟩
theorem wt_97_0 : gW (.fieldLink RX4 101 "WishedResistor$Box" "ohms" "[I") := ⟨zt1 (List.mem_of_getElem? (i := 37) rfl), Or.inl rfl⟩
theorem wt_98_0 : gW (.fieldLink RX0 15 "WishedResistor$Box" "spread" "[I") := ⟨zt1 (List.mem_of_getElem? (i := 38) rfl), Or.inl rfl⟩
theorem wt_99_0 : gW (.fieldLink RX10 97 "WishedResistor$Box" "spread" "[I") := ⟨zt1 (List.mem_of_getElem? (i := 39) rfl), Or.inl rfl⟩
theorem wt_100_0 : gW (.fieldLink RX4 118 "WishedResistor$Box" "spread" "[I") := ⟨zt1 (List.mem_of_getElem? (i := 40) rfl), Or.inl rfl⟩
theorem wt_106_0 : gW (.arrayClass .int) := ⟨zt1 (List.mem_of_getElem? (i := 46) rfl), Or.inr ⟨_, rfl⟩⟩
theorem wt_107_0 : gW (.classLink RX10 18 RX5) := ⟨zt1 (List.mem_of_getElem? (i := 47) rfl), Or.inl rfl⟩
theorem wt_108_0 : gW (.instantiable RX5 9) := ⟨zt1 (List.mem_of_getElem? (i := 48) rfl), Or.inl rfl⟩
theorem wt_110_0 : gW (.instanceMethod yX5_init) := ⟨zt1 (List.mem_of_getElem? (i := 50) rfl), Or.inl rfl⟩
theorem wt_111_0 : gW (.code yX5_init cX5_init 1 none) := ⟨zt1 (List.mem_of_getElem? (i := 51) rfl), Or.inl rfl⟩
theorem wt_112_0 : gW (.methodLink RX5 3 objectInit) := ⟨zt1 (List.mem_of_getElem? (i := 52) rfl), Or.inl rfl⟩
theorem wt_113_0 : gW (.fieldLink RX5 9 "WishedResistor$Nets" "kind" "[I") := ⟨zt1 (List.mem_of_getElem? (i := 53) rfl), Or.inl rfl⟩
theorem wt_114_0 : gW (.fieldLink RX4 54 "WishedResistor$Nets" "kind" "[I") := ⟨zt1 (List.mem_of_getElem? (i := 54) rfl), Or.inl rfl⟩
theorem wt_115_0 : gW (.fieldLink RX9 34 "WishedResistor$Nets" "kind" "[I") := ⟨zt1 (List.mem_of_getElem? (i := 55) rfl), Or.inl rfl⟩
theorem wt_116_0 : gW (.fieldLink RX10 111 "WishedResistor$Nets" "kind" "[I") := ⟨zt1 (List.mem_of_getElem? (i := 56) rfl), Or.inl rfl⟩
theorem wt_117_0 : gW (.fieldLink RX5 15 "WishedResistor$Nets" "first" "[I") := ⟨zt1 (List.mem_of_getElem? (i := 57) rfl), Or.inl rfl⟩
theorem wt_118_0 : gW (.fieldLink RX4 57 "WishedResistor$Nets" "first" "[I") := ⟨zt1 (List.mem_of_getElem? (i := 58) rfl), Or.inl rfl⟩
theorem wt_119_0 : gW (.fieldLink RX10 114 "WishedResistor$Nets" "first" "[I") := ⟨zt1 (List.mem_of_getElem? (i := 59) rfl), Or.inl rfl⟩
theorem wt_120_0 : gW (.fieldLink RX5 18 "WishedResistor$Nets" "second" "[I") := ⟨zt1 (List.mem_of_getElem? (i := 60) rfl), Or.inl rfl⟩
theorem wt_121_0 : gW (.fieldLink RX4 60 "WishedResistor$Nets" "second" "[I") := ⟨zt1 (List.mem_of_getElem? (i := 61) rfl), Or.inl rfl⟩
theorem wt_122_0 : gW (.fieldLink RX10 117 "WishedResistor$Nets" "second" "[I") := ⟨zt1 (List.mem_of_getElem? (i := 62) rfl), Or.inl rfl⟩
theorem wt_123_0 : gW (.fieldLink RX5 21 "WishedResistor$Nets" "parts" "[I") := ⟨zt1 (List.mem_of_getElem? (i := 63) rfl), Or.inl rfl⟩
theorem wt_124_0 : gW (.fieldLink RX4 48 "WishedResistor$Nets" "parts" "[I") := ⟨zt1 (List.mem_of_getElem? (i := 64) rfl), Or.inl rfl⟩
theorem wt_125_0 : gW (.fieldLink RX10 120 "WishedResistor$Nets" "parts" "[I") := ⟨zt1 (List.mem_of_getElem? (i := 65) rfl), Or.inl rfl⟩
theorem wt_126_0 : gW (.fieldLink RX5 36 "WishedResistor$Nets" "count" "I") := ⟨zt1 (List.mem_of_getElem? (i := 66) rfl), Or.inl rfl⟩
theorem wt_127_0 : gW (.fieldLink RX10 298 "WishedResistor$Nets" "count" "I") := ⟨zt1 (List.mem_of_getElem? (i := 67) rfl), Or.inl rfl⟩
theorem wt_128_0 : gW (.fieldLink RX5 24 "WishedResistor$Nets" "likes" "[I") := ⟨zt1 (List.mem_of_getElem? (i := 68) rfl), Or.inl rfl⟩
theorem wt_129_0 : gW (.fieldLink RX5 27 "WishedResistor$Nets" "letters" "[I") := ⟨zt1 (List.mem_of_getElem? (i := 69) rfl), Or.inl rfl⟩
theorem wt_130_0 : gW (.fieldLink RX10 199 "WishedResistor$Nets" "letters" "[I") := ⟨zt1 (List.mem_of_getElem? (i := 70) rfl), Or.inl rfl⟩
theorem wt_131_0 : gW (.fieldLink RX5 30 "WishedResistor$Nets" "waiting" "[I") := ⟨zt1 (List.mem_of_getElem? (i := 71) rfl), Or.inl rfl⟩
theorem wt_132_0 : gW (.fieldLink RX5 33 "WishedResistor$Nets" "made" "[I") := ⟨zt1 (List.mem_of_getElem? (i := 72) rfl), Or.inl rfl⟩
theorem wt_152_0 : gW (.classLink RX10 25 RX4) := ⟨zt1 (List.mem_of_getElem? (i := 92) rfl), Or.inl rfl⟩
theorem wt_153_0 : gW (.instantiable RX4 9) := ⟨zt1 (List.mem_of_getElem? (i := 93) rfl), Or.inl rfl⟩
theorem wt_154_0 : gW (.methodLink RX10 27 yX4_init) := ⟨zt1 (List.mem_of_getElem? (i := 94) rfl), Or.inl rfl⟩
theorem wt_155_0 : gW (.instanceMethod yX4_init) := ⟨zt1 (List.mem_of_getElem? (i := 95) rfl), Or.inl rfl⟩
theorem wt_156_0 : gW (.code yX4_init cX4_init 4 none) := ⟨zt1 (List.mem_of_getElem? (i := 96) rfl), Or.inl rfl⟩
theorem wt_157_0 : gW (.methodLink RX4 3 objectInit) := ⟨zt1 (List.mem_of_getElem? (i := 97) rfl), Or.inl rfl⟩
theorem wt_158_0 : gW (.classLink RX4 9 RX6) := ⟨zt1 (List.mem_of_getElem? (i := 98) rfl), Or.inl rfl⟩
theorem wt_159_0 : gW (.instantiable RX6 4) := ⟨zt1 (List.mem_of_getElem? (i := 99) rfl), Or.inl rfl⟩
theorem wt_161_0 : gW (.instanceMethod yX6_init) := ⟨zt1 (List.mem_of_getElem? (i := 101) rfl), Or.inl rfl⟩
theorem wt_162_0 : gW (.code yX6_init cX6_init 1 none) := ⟨zt1 (List.mem_of_getElem? (i := 102) rfl), Or.inl rfl⟩
theorem wt_163_0 : gW (.methodLink RX6 3 objectInit) := ⟨zt1 (List.mem_of_getElem? (i := 103) rfl), Or.inl rfl⟩
theorem wt_164_0 : gW (.fieldLink RX6 9 "WishedResistor$Plan" "kind" "[I") := ⟨zt1 (List.mem_of_getElem? (i := 104) rfl), Or.inl rfl⟩
theorem wt_165_0 : gW (.fieldLink RX4 79 "WishedResistor$Plan" "kind" "[I") := ⟨zt1 (List.mem_of_getElem? (i := 105) rfl), Or.inl rfl⟩
theorem wt_166_0 : gW (.fieldLink RX5 57 "WishedResistor$Plan" "kind" "[I") := ⟨zt1 (List.mem_of_getElem? (i := 106) rfl), Or.inl rfl⟩
theorem wt_167_0 : gW (.fieldLink RX6 15 "WishedResistor$Plan" "sort" "[I") := ⟨zt1 (List.mem_of_getElem? (i := 107) rfl), Or.inl rfl⟩
theorem wt_168_0 : gW (.fieldLink RX4 80 "WishedResistor$Plan" "sort" "[I") := ⟨zt1 (List.mem_of_getElem? (i := 108) rfl), Or.inl rfl⟩
theorem wt_169_0 : gW (.fieldLink RX5 58 "WishedResistor$Plan" "sort" "[I") := ⟨zt1 (List.mem_of_getElem? (i := 109) rfl), Or.inl rfl⟩
theorem wt_170_0 : gW (.fieldLink RX6 21 "WishedResistor$Plan" "length" "I") := ⟨zt1 (List.mem_of_getElem? (i := 110) rfl), Or.inl rfl⟩
theorem wt_171_0 : gW (.fieldLink RX8 22 "WishedResistor$Plan" "length" "I") := ⟨zt1 (List.mem_of_getElem? (i := 111) rfl), Or.inl rfl⟩
theorem wt_172_0 : gW (.fieldLink RX4 75 "WishedResistor$Plan" "length" "I") := ⟨zt1 (List.mem_of_getElem? (i := 112) rfl), Or.inl rfl⟩
theorem wt_173_0 : gW (.fieldLink RX5 52 "WishedResistor$Plan" "length" "I") := ⟨zt1 (List.mem_of_getElem? (i := 113) rfl), Or.inl rfl⟩
theorem wt_174_0 : gW (.fieldLink RX6 18 "WishedResistor$Plan" "waiting" "[I") := ⟨zt1 (List.mem_of_getElem? (i := 114) rfl), Or.inl rfl⟩
theorem wt_184_0 : gW (.classLink RX4 18 RX1) := ⟨zt1 (List.mem_of_getElem? (i := 124) rfl), Or.inl rfl⟩
theorem wt_186_0 : gW (.instantiable RX1 2) := ⟨zt1 (List.mem_of_getElem? (i := 126) rfl), Or.inl rfl⟩
theorem wt_188_0 : gW (.instanceMethod yX1_init) := ⟨zt1 (List.mem_of_getElem? (i := 128) rfl), Or.inl rfl⟩
theorem wt_189_0 : gW (.code yX1_init cX1_init 1 none) := ⟨zt1 (List.mem_of_getElem? (i := 129) rfl), Or.inl rfl⟩
theorem wt_190_0 : gW (.methodLink RX1 3 objectInit) := ⟨zt1 (List.mem_of_getElem? (i := 130) rfl), Or.inl rfl⟩
theorem wt_191_0 : gW (.fieldLink RX1 19 "WishedResistor$Fraction" "above" "J") := ⟨zt1 (List.mem_of_getElem? (i := 131) rfl), Or.inl rfl⟩
theorem wt_192_0 : gW (.fieldLink RX10 168 "WishedResistor$Fraction" "above" "J") := ⟨zt1 (List.mem_of_getElem? (i := 132) rfl), Or.inl rfl⟩
theorem wt_193_0 : gW (.fieldLink RX1 9 "WishedResistor$Fraction" "below" "J") := ⟨zt1 (List.mem_of_getElem? (i := 133) rfl), Or.inl rfl⟩
theorem wt_194_0 : gW (.fieldLink RX10 172 "WishedResistor$Fraction" "below" "J") := ⟨zt1 (List.mem_of_getElem? (i := 134) rfl), Or.inl rfl⟩
theorem wt_200_0 : gW (.arrayClass .double) := ⟨zt1 (List.mem_of_getElem? (i := 140) rfl), Or.inr ⟨_, rfl⟩⟩
theorem wt_201_0 : gW (.arrayClass .float) := ⟨zt1 (List.mem_of_getElem? (i := 141) rfl), Or.inr ⟨_, rfl⟩⟩
theorem wt_202_0 : gW (.fieldLink RX4 40 "WishedResistor$Meter" "box" "LWishedResistor$Box;") := ⟨zt1 (List.mem_of_getElem? (i := 142) rfl), Or.inl rfl⟩
theorem wt_203_0 : gW (.fieldLink RX4 44 "WishedResistor$Meter" "nets" "LWishedResistor$Nets;") := ⟨zt1 (List.mem_of_getElem? (i := 143) rfl), Or.inl rfl⟩
theorem wt_204_0 : gW (.fieldLink RX4 12 "WishedResistor$Meter" "plan" "LWishedResistor$Plan;") := ⟨zt1 (List.mem_of_getElem? (i := 144) rfl), Or.inl rfl⟩
theorem wt_205_0 : gW (.fieldLink RX4 20 "WishedResistor$Meter" "fractions" "[LWishedResistor$Fraction;") := ⟨zt1 (List.mem_of_getElem? (i := 145) rfl), Or.inl rfl⟩
theorem wt_206_0 : gW (.fieldLink RX4 24 "WishedResistor$Meter" "doubles" "[D") := ⟨zt1 (List.mem_of_getElem? (i := 146) rfl), Or.inl rfl⟩
theorem wt_207_0 : gW (.fieldLink RX4 28 "WishedResistor$Meter" "floats" "[F") := ⟨zt1 (List.mem_of_getElem? (i := 147) rfl), Or.inl rfl⟩
theorem wt_208_0 : gW (.fieldLink RX4 33 "WishedResistor$Meter" "worth" "LWishedResistor$Fraction;") := ⟨zt1 (List.mem_of_getElem? (i := 148) rfl), Or.inl rfl⟩
theorem wt_209_0 : gW (.fieldLink RX10 131 "WishedResistor$Meter" "worth" "LWishedResistor$Fraction;") := ⟨zt1 (List.mem_of_getElem? (i := 149) rfl), Or.inl rfl⟩
theorem wt_210_0 : gW (.fieldLink RX4 37 "WishedResistor$Meter" "worst" "LWishedResistor$Fraction;") := ⟨zt1 (List.mem_of_getElem? (i := 150) rfl), Or.inl rfl⟩
theorem wt_211_0 : gW (.fieldLink RX4 127 "WishedResistor$Meter" "seed" "I") := ⟨zt1 (List.mem_of_getElem? (i := 151) rfl), Or.inl rfl⟩
theorem wt_212_0 : gW (.fieldLink RX10 159 "WishedResistor$Meter" "seed" "I") := ⟨zt1 (List.mem_of_getElem? (i := 152) rfl), Or.inl rfl⟩
theorem wt_232_0 : gW (.classLink RX10 34 RX8) := ⟨zt1 (List.mem_of_getElem? (i := 172) rfl), Or.inl rfl⟩
theorem wt_233_0 : gW (.instantiable RX8 3) := ⟨zt1 (List.mem_of_getElem? (i := 173) rfl), Or.inl rfl⟩
theorem wt_235_0 : gW (.instanceMethod yX8_init) := ⟨zt1 (List.mem_of_getElem? (i := 175) rfl), Or.inl rfl⟩
theorem wt_236_0 : gW (.code yX8_init cX8_init 1 none) := ⟨zt1 (List.mem_of_getElem? (i := 176) rfl), Or.inl rfl⟩
theorem wt_237_0 : gW (.methodLink RX8 3 objectInit) := ⟨zt1 (List.mem_of_getElem? (i := 177) rfl), Or.inl rfl⟩
theorem wt_238_0 : gW (.fieldLink RX8 9 "WishedResistor$Tape" "letters" "[I") := ⟨zt1 (List.mem_of_getElem? (i := 178) rfl), Or.inl rfl⟩
theorem wt_239_0 : gW (.fieldLink RX8 18 "WishedResistor$Tape" "length" "I") := ⟨zt1 (List.mem_of_getElem? (i := 179) rfl), Or.inl rfl⟩
theorem wt_240_0 : gW (.fieldLink RX10 189 "WishedResistor$Tape" "length" "I") := ⟨zt1 (List.mem_of_getElem? (i := 180) rfl), Or.inl rfl⟩
theorem wt_241_0 : gW (.fieldLink RX8 15 "WishedResistor$Tape" "joins" "[I") := ⟨zt1 (List.mem_of_getElem? (i := 181) rfl), Or.inl rfl⟩
theorem wt_249_0 : gW (.classLink RX10 41 RX6) := ⟨zt1 (List.mem_of_getElem? (i := 189) rfl), Or.inl rfl⟩
theorem wt_251_0 : gW (.classLink RX10 48 RX7) := ⟨zt1 (List.mem_of_getElem? (i := 191) rfl), Or.inl rfl⟩
theorem wt_252_0 : gW (.instantiable RX7 14) := ⟨zt1 (List.mem_of_getElem? (i := 192) rfl), Or.inl rfl⟩
theorem wt_253_0 : gW (.methodLink RX10 50 yX7_init) := ⟨zt1 (List.mem_of_getElem? (i := 193) rfl), Or.inl rfl⟩
theorem wt_254_0 : gW (.instanceMethod yX7_init) := ⟨zt1 (List.mem_of_getElem? (i := 194) rfl), Or.inl rfl⟩
theorem wt_255_0 : gW (.code yX7_init cX7_init 2 none) := ⟨zt1 (List.mem_of_getElem? (i := 195) rfl), Or.inl rfl⟩
theorem wt_256_0 : gW (.methodLink RX7 3 objectInit) := ⟨zt1 (List.mem_of_getElem? (i := 196) rfl), Or.inl rfl⟩
theorem wt_257_0 : gW (.fieldLink RX7 42 "WishedResistor$Reached" "box" "LWishedResistor$Box;") := ⟨zt1 (List.mem_of_getElem? (i := 197) rfl), Or.inl rfl⟩
theorem wt_258_0 : gW (.fieldLink RX7 11 "WishedResistor$Reached" "above" "[I") := ⟨zt1 (List.mem_of_getElem? (i := 198) rfl), Or.inl rfl⟩
theorem wt_259_0 : gW (.fieldLink RX7 15 "WishedResistor$Reached" "below" "[I") := ⟨zt1 (List.mem_of_getElem? (i := 199) rfl), Or.inl rfl⟩
theorem wt_260_0 : gW (.fieldLink RX7 18 "WishedResistor$Reached" "kind" "[I") := ⟨zt1 (List.mem_of_getElem? (i := 200) rfl), Or.inl rfl⟩
theorem wt_261_0 : gW (.fieldLink RX10 225 "WishedResistor$Reached" "kind" "[I") := ⟨zt1 (List.mem_of_getElem? (i := 201) rfl), Or.inl rfl⟩
theorem wt_262_0 : gW (.fieldLink RX7 21 "WishedResistor$Reached" "first" "[I") := ⟨zt1 (List.mem_of_getElem? (i := 202) rfl), Or.inl rfl⟩
theorem wt_263_0 : gW (.fieldLink RX10 226 "WishedResistor$Reached" "first" "[I") := ⟨zt1 (List.mem_of_getElem? (i := 203) rfl), Or.inl rfl⟩
theorem wt_264_0 : gW (.fieldLink RX7 24 "WishedResistor$Reached" "second" "[I") := ⟨zt1 (List.mem_of_getElem? (i := 204) rfl), Or.inl rfl⟩
theorem wt_265_0 : gW (.fieldLink RX10 227 "WishedResistor$Reached" "second" "[I") := ⟨zt1 (List.mem_of_getElem? (i := 205) rfl), Or.inl rfl⟩
theorem wt_266_0 : gW (.fieldLink RX7 27 "WishedResistor$Reached" "order" "[I") := ⟨zt1 (List.mem_of_getElem? (i := 206) rfl), Or.inl rfl⟩
theorem wt_267_0 : gW (.fieldLink RX7 30 "WishedResistor$Reached" "merged" "[I") := ⟨zt1 (List.mem_of_getElem? (i := 207) rfl), Or.inl rfl⟩
theorem wt_268_0 : gW (.fieldLink RX7 33 "WishedResistor$Reached" "table" "[I") := ⟨zt1 (List.mem_of_getElem? (i := 208) rfl), Or.inl rfl⟩
theorem wt_269_0 : gW (.fieldLink RX7 36 "WishedResistor$Reached" "start" "[I") := ⟨zt1 (List.mem_of_getElem? (i := 209) rfl), Or.inl rfl⟩
theorem wt_270_0 : gW (.fieldLink RX10 206 "WishedResistor$Reached" "start" "[I") := ⟨zt1 (List.mem_of_getElem? (i := 210) rfl), Or.inl rfl⟩
theorem wt_271_0 : gW (.fieldLink RX7 39 "WishedResistor$Reached" "builtFor" "[I") := ⟨zt1 (List.mem_of_getElem? (i := 211) rfl), Or.inl rfl⟩
theorem wt_272_0 : gW (.fieldLink RX7 67 "WishedResistor$Reached" "size" "I") := ⟨zt1 (List.mem_of_getElem? (i := 212) rfl), Or.inl rfl⟩
theorem wt_273_0 : gW (.fieldLink RX7 71 "WishedResistor$Reached" "levels" "I") := ⟨zt1 (List.mem_of_getElem? (i := 213) rfl), Or.inl rfl⟩
theorem wt_274_0 : gW (.fieldLink RX7 74 "WishedResistor$Reached" "levelsInOrder" "I") := ⟨zt1 (List.mem_of_getElem? (i := 214) rfl), Or.inl rfl⟩
theorem wt_304_0 : gW (.classLink RX10 57 RX3) := ⟨zt2 (List.mem_of_getElem? (i := 4) rfl), Or.inl rfl⟩
theorem wt_305_0 : gW (.instantiable RX3 8) := ⟨zt2 (List.mem_of_getElem? (i := 5) rfl), Or.inl rfl⟩
theorem wt_307_0 : gW (.instanceMethod yX3_init) := ⟨zt2 (List.mem_of_getElem? (i := 7) rfl), Or.inl rfl⟩
theorem wt_308_0 : gW (.code yX3_init cX3_init 1 none) := ⟨zt2 (List.mem_of_getElem? (i := 8) rfl), Or.inl rfl⟩
theorem wt_309_0 : gW (.methodLink RX3 3 objectInit) := ⟨zt2 (List.mem_of_getElem? (i := 9) rfl), Or.inl rfl⟩
theorem wt_310_0 : gW (.classLink RX3 28 RX1) := ⟨zt2 (List.mem_of_getElem? (i := 10) rfl), Or.inl rfl⟩
theorem wt_312_0 : gW (.fieldLink RX3 9 "WishedResistor$Mesh" "points" "I") := ⟨zt2 (List.mem_of_getElem? (i := 12) rfl), Or.inl rfl⟩
theorem wt_313_0 : gW (.fieldLink RX10 232 "WishedResistor$Mesh" "points" "I") := ⟨zt2 (List.mem_of_getElem? (i := 13) rfl), Or.inl rfl⟩
theorem wt_314_0 : gW (.fieldLink RX3 38 "WishedResistor$Mesh" "edges" "I") := ⟨zt2 (List.mem_of_getElem? (i := 14) rfl), Or.inl rfl⟩
theorem wt_315_0 : gW (.fieldLink RX10 235 "WishedResistor$Mesh" "edges" "I") := ⟨zt2 (List.mem_of_getElem? (i := 15) rfl), Or.inl rfl⟩
theorem wt_316_0 : gW (.fieldLink RX3 15 "WishedResistor$Mesh" "one" "[I") := ⟨zt2 (List.mem_of_getElem? (i := 16) rfl), Or.inl rfl⟩
theorem wt_317_0 : gW (.fieldLink RX3 19 "WishedResistor$Mesh" "other" "[I") := ⟨zt2 (List.mem_of_getElem? (i := 17) rfl), Or.inl rfl⟩
theorem wt_318_0 : gW (.fieldLink RX3 22 "WishedResistor$Mesh" "ohms" "[I") := ⟨zt2 (List.mem_of_getElem? (i := 18) rfl), Or.inl rfl⟩
theorem wt_319_0 : gW (.fieldLink RX10 245 "WishedResistor$Mesh" "ohms" "[I") := ⟨zt2 (List.mem_of_getElem? (i := 19) rfl), Or.inl rfl⟩
theorem wt_320_0 : gW (.fieldLink RX3 25 "WishedResistor$Mesh" "trees" "[I") := ⟨zt2 (List.mem_of_getElem? (i := 20) rfl), Or.inl rfl⟩
theorem wt_321_0 : gW (.fieldLink RX3 31 "WishedResistor$Mesh" "worth" "LWishedResistor$Fraction;") := ⟨zt2 (List.mem_of_getElem? (i := 21) rfl), Or.inl rfl⟩
theorem wt_322_0 : gW (.fieldLink RX10 249 "WishedResistor$Mesh" "worth" "LWishedResistor$Fraction;") := ⟨zt2 (List.mem_of_getElem? (i := 22) rfl), Or.inl rfl⟩
theorem wt_323_0 : gW (.fieldLink RX3 35 "WishedResistor$Mesh" "best" "LWishedResistor$Fraction;") := ⟨zt2 (List.mem_of_getElem? (i := 23) rfl), Or.inl rfl⟩
theorem wt_341_0 : gW (.classLink RX10 64 RX9) := ⟨zt2 (List.mem_of_getElem? (i := 41) rfl), Or.inl rfl⟩
theorem wt_343_0 : gW (.instantiable RX9 3) := ⟨zt2 (List.mem_of_getElem? (i := 43) rfl), Or.inl rfl⟩
theorem wt_345_0 : gW (.instanceMethod yX9_init) := ⟨zt2 (List.mem_of_getElem? (i := 45) rfl), Or.inl rfl⟩
theorem wt_346_0 : gW (.code yX9_init cX9_init 1 none) := ⟨zt2 (List.mem_of_getElem? (i := 46) rfl), Or.inl rfl⟩
theorem wt_347_0 : gW (.methodLink RX9 3 objectInit) := ⟨zt2 (List.mem_of_getElem? (i := 47) rfl), Or.inl rfl⟩
theorem wt_348_0 : gW (.fieldLink RX9 9 "WishedResistor$Tray" "kind" "I") := ⟨zt2 (List.mem_of_getElem? (i := 48) rfl), Or.inl rfl⟩
theorem wt_349_0 : gW (.fieldLink RX9 19 "WishedResistor$Tray" "size" "I") := ⟨zt2 (List.mem_of_getElem? (i := 49) rfl), Or.inl rfl⟩
theorem wt_350_0 : gW (.fieldLink RX9 15 "WishedResistor$Tray" "places" "[I") := ⟨zt2 (List.mem_of_getElem? (i := 50) rfl), Or.inl rfl⟩
theorem wt_351_0 : gW (.fieldLink RX10 283 "WishedResistor$Tray" "places" "[I") := ⟨zt2 (List.mem_of_getElem? (i := 51) rfl), Or.inl rfl⟩
theorem wt_359_0 : gW (.classLink RX10 75 RX2) := ⟨zt2 (List.mem_of_getElem? (i := 59) rfl), Or.inl rfl⟩
theorem wt_360_0 : gW (.instantiable RX2 5) := ⟨zt2 (List.mem_of_getElem? (i := 60) rfl), Or.inl rfl⟩
theorem wt_361_0 : gW (.methodLink RX10 77 yX2_init) := ⟨zt2 (List.mem_of_getElem? (i := 61) rfl), Or.inl rfl⟩
theorem wt_362_0 : gW (.instanceMethod yX2_init) := ⟨zt2 (List.mem_of_getElem? (i := 62) rfl), Or.inl rfl⟩
theorem wt_363_0 : gW (.code yX2_init cX2_init 2 none) := ⟨zt2 (List.mem_of_getElem? (i := 63) rfl), Or.inl rfl⟩
theorem wt_364_0 : gW (.methodLink RX2 3 objectInit) := ⟨zt2 (List.mem_of_getElem? (i := 64) rfl), Or.inl rfl⟩
theorem wt_365_0 : gW (.classLink RX2 9 RX0) := ⟨zt2 (List.mem_of_getElem? (i := 65) rfl), Or.inl rfl⟩
theorem wt_367_0 : gW (.classLink RX2 18 RX5) := ⟨zt2 (List.mem_of_getElem? (i := 67) rfl), Or.inl rfl⟩
theorem wt_369_0 : gW (.classLink RX2 25 RX3) := ⟨zt2 (List.mem_of_getElem? (i := 69) rfl), Or.inl rfl⟩
theorem wt_371_0 : gW (.classLink RX2 32 RX9) := ⟨zt2 (List.mem_of_getElem? (i := 71) rfl), Or.inl rfl⟩
theorem wt_373_0 : gW (.fieldLink RX2 12 "WishedResistor$Image" "box" "LWishedResistor$Box;") := ⟨zt2 (List.mem_of_getElem? (i := 73) rfl), Or.inl rfl⟩
theorem wt_374_0 : gW (.fieldLink RX2 21 "WishedResistor$Image" "nets" "LWishedResistor$Nets;") := ⟨zt2 (List.mem_of_getElem? (i := 74) rfl), Or.inl rfl⟩
theorem wt_375_0 : gW (.fieldLink RX2 28 "WishedResistor$Image" "mesh" "LWishedResistor$Mesh;") := ⟨zt2 (List.mem_of_getElem? (i := 75) rfl), Or.inl rfl⟩
theorem wt_376_0 : gW (.fieldLink RX2 34 "WishedResistor$Image" "trays" "[LWishedResistor$Tray;") := ⟨zt2 (List.mem_of_getElem? (i := 76) rfl), Or.inl rfl⟩
theorem wt_377_0 : gW (.fieldLink RX2 52 "WishedResistor$Image" "isTaken" "Z") := ⟨zt2 (List.mem_of_getElem? (i := 77) rfl), Or.inl rfl⟩
theorem wt_378_0 : gW (.fieldLink RX10 301 "WishedResistor$Image" "isTaken" "Z") := ⟨zt2 (List.mem_of_getElem? (i := 78) rfl), Or.inl rfl⟩
theorem wt_390_0 : gW (.fieldLink RX10 14 "WishedResistor" "box" "LWishedResistor$Box;") := ⟨zt2 (List.mem_of_getElem? (i := 90) rfl), Or.inl rfl⟩
theorem wt_391_0 : gW (.fieldLink RX10 21 "WishedResistor" "nets" "LWishedResistor$Nets;") := ⟨zt2 (List.mem_of_getElem? (i := 91) rfl), Or.inl rfl⟩
theorem wt_392_0 : gW (.fieldLink RX10 30 "WishedResistor" "meter" "LWishedResistor$Meter;") := ⟨zt2 (List.mem_of_getElem? (i := 92) rfl), Or.inl rfl⟩
theorem wt_393_0 : gW (.fieldLink RX10 37 "WishedResistor" "tape" "LWishedResistor$Tape;") := ⟨zt2 (List.mem_of_getElem? (i := 93) rfl), Or.inl rfl⟩
theorem wt_394_0 : gW (.fieldLink RX10 44 "WishedResistor" "plan" "LWishedResistor$Plan;") := ⟨zt2 (List.mem_of_getElem? (i := 94) rfl), Or.inl rfl⟩
theorem wt_395_0 : gW (.fieldLink RX10 53 "WishedResistor" "found" "LWishedResistor$Reached;") := ⟨zt2 (List.mem_of_getElem? (i := 95) rfl), Or.inl rfl⟩
theorem wt_396_0 : gW (.fieldLink RX10 60 "WishedResistor" "mesh" "LWishedResistor$Mesh;") := ⟨zt2 (List.mem_of_getElem? (i := 96) rfl), Or.inl rfl⟩
theorem wt_397_0 : gW (.fieldLink RX10 66 "WishedResistor" "trays" "[LWishedResistor$Tray;") := ⟨zt2 (List.mem_of_getElem? (i := 97) rfl), Or.inl rfl⟩
theorem wt_398_0 : gW (.fieldLink RX10 71 "WishedResistor" "moved" "[I") := ⟨zt2 (List.mem_of_getElem? (i := 98) rfl), Or.inl rfl⟩
theorem wt_399_0 : gW (.fieldLink RX10 78 "WishedResistor" "kept" "LWishedResistor$Image;") := ⟨zt2 (List.mem_of_getElem? (i := 99) rfl), Or.inl rfl⟩
theorem wt_421_0 : gW (.methodLink RL 13 yX10_sort) := ⟨zt2 (List.mem_of_getElem? (i := 121) rfl), Or.inl rfl⟩
theorem wt_422_0 : gW (.instanceMethod yX10_sort) := ⟨zt2 (List.mem_of_getElem? (i := 122) rfl), Or.inl rfl⟩
theorem wt_423_0 : gW (.selects RX10 yX10_sort yX10_sort) := ⟨zt2 (List.mem_of_getElem? (i := 123) rfl), Or.inl rfl⟩
theorem wt_424_0 : gW (.code yX10_sort cX10_sort 5 (some .int)) := ⟨zt2 (List.mem_of_getElem? (i := 124) rfl), Or.inl rfl⟩
theorem wt_425_0 : gW (.methodLink RX10 82 yX10_isSort) := ⟨zt2 (List.mem_of_getElem? (i := 125) rfl), Or.inl rfl⟩
theorem wt_426_0 : gW (.static yX10_isSort) := ⟨zt2 (List.mem_of_getElem? (i := 126) rfl), Or.inl rfl⟩
theorem wt_427_0 : gW (.code yX10_isSort cX10_isSort 1 (some .boolean)) := ⟨zt2 (List.mem_of_getElem? (i := 127) rfl), Or.inl rfl⟩
theorem wt_428_0 : gW (.methodLink RX10 86 yX10_isIn) := ⟨zt2 (List.mem_of_getElem? (i := 128) rfl), Or.inl rfl⟩
theorem wt_429_0 : gW (.static yX10_isIn) := ⟨zt2 (List.mem_of_getElem? (i := 129) rfl), Or.inl rfl⟩
theorem wt_430_0 : gW (.code yX10_isIn cX10_isIn 3 (some .boolean)) := ⟨zt2 (List.mem_of_getElem? (i := 130) rfl), Or.inl rfl⟩
theorem wt_431_0 : gW (.methodLink RX10 90 yX5_partOf) := ⟨zt2 (List.mem_of_getElem? (i := 131) rfl), Or.inl rfl⟩
theorem wt_432_0 : gW (.instanceMethod yX5_partOf) := ⟨zt2 (List.mem_of_getElem? (i := 132) rfl), Or.inl rfl⟩
theorem wt_433_0 : gW (.selects RX5 yX5_partOf yX5_partOf) := ⟨zt2 (List.mem_of_getElem? (i := 133) rfl), Or.inl rfl⟩
theorem wt_434_0 : gW (.code yX5_partOf cX5_partOf 2 (some .int)) := ⟨zt2 (List.mem_of_getElem? (i := 134) rfl), Or.inl rfl⟩
theorem wt_435_0 : gW (.methodLink RX5 40 yX5_find) := ⟨zt2 (List.mem_of_getElem? (i := 135) rfl), Or.inl rfl⟩
theorem wt_436_0 : gW (.instanceMethod yX5_find) := ⟨zt2 (List.mem_of_getElem? (i := 136) rfl), Or.inl rfl⟩
theorem wt_437_0 : gW (.selects RX5 yX5_find yX5_find) := ⟨zt2 (List.mem_of_getElem? (i := 137) rfl), Or.inl rfl⟩
theorem wt_438_0 : gW (.code yX5_find cX5_find 5 (some .int)) := ⟨zt2 (List.mem_of_getElem? (i := 138) rfl), Or.inl rfl⟩
theorem wt_439_0 : gW (.methodLink RL 18 yX10_ofSort) := ⟨zt2 (List.mem_of_getElem? (i := 139) rfl), Or.inl rfl⟩
theorem wt_440_0 : gW (.instanceMethod yX10_ofSort) := ⟨zt2 (List.mem_of_getElem? (i := 140) rfl), Or.inl rfl⟩
theorem wt_441_0 : gW (.selects RX10 yX10_ofSort yX10_ofSort) := ⟨zt2 (List.mem_of_getElem? (i := 141) rfl), Or.inl rfl⟩
theorem wt_442_0 : gW (.code yX10_ofSort cX10_ofSort 3 (some .int)) := ⟨zt2 (List.mem_of_getElem? (i := 142) rfl), Or.inl rfl⟩
theorem wt_443_0 : gW (.methodLink RL 23 yX10_part) := ⟨zt2 (List.mem_of_getElem? (i := 143) rfl), Or.inl rfl⟩
theorem wt_444_0 : gW (.instanceMethod yX10_part) := ⟨zt2 (List.mem_of_getElem? (i := 144) rfl), Or.inl rfl⟩
theorem wt_445_0 : gW (.selects RX10 yX10_part yX10_part) := ⟨zt2 (List.mem_of_getElem? (i := 145) rfl), Or.inl rfl⟩
theorem wt_446_0 : gW (.code yX10_part cX10_part 2 (some .int)) := ⟨zt2 (List.mem_of_getElem? (i := 146) rfl), Or.inl rfl⟩
theorem wt_447_0 : gW (.methodLink RX10 100 yX0_has) := ⟨zt2 (List.mem_of_getElem? (i := 147) rfl), Or.inl rfl⟩
theorem wt_448_0 : gW (.instanceMethod yX0_has) := ⟨zt2 (List.mem_of_getElem? (i := 148) rfl), Or.inl rfl⟩
theorem wt_449_0 : gW (.selects RX0 yX0_has yX0_has) := ⟨zt2 (List.mem_of_getElem? (i := 149) rfl), Or.inl rfl⟩
theorem wt_450_0 : gW (.code yX0_has cX0_has 2 (some .boolean)) := ⟨zt2 (List.mem_of_getElem? (i := 150) rfl), Or.inl rfl⟩
theorem wt_452_0 : gW (.methodLink RX10 103 yX5_keepPart) := ⟨zt2 (List.mem_of_getElem? (i := 152) rfl), Or.inl rfl⟩
theorem wt_453_0 : gW (.instanceMethod yX5_keepPart) := ⟨zt2 (List.mem_of_getElem? (i := 153) rfl), Or.inl rfl⟩
theorem wt_454_0 : gW (.selects RX5 yX5_keepPart yX5_keepPart) := ⟨zt2 (List.mem_of_getElem? (i := 154) rfl), Or.inl rfl⟩
theorem wt_455_0 : gW (.code yX5_keepPart cX5_keepPart 3 (some .int)) := ⟨zt2 (List.mem_of_getElem? (i := 155) rfl), Or.inl rfl⟩
theorem wt_456_0 : gW (.methodLink RX5 44 yX5_partOf) := ⟨zt2 (List.mem_of_getElem? (i := 156) rfl), Or.inl rfl⟩
theorem wt_457_0 : gW (.methodLink RX5 48 yX5_add) := ⟨zt2 (List.mem_of_getElem? (i := 157) rfl), Or.inl rfl⟩
theorem wt_459_0 : gW (.instanceMethod yX5_add) := ⟨zt2 (List.mem_of_getElem? (i := 159) rfl), Or.inl rfl⟩
theorem wt_460_0 : gW (.code yX5_add cX5_add 5 (some .int)) := ⟨zt2 (List.mem_of_getElem? (i := 160) rfl), Or.inl rfl⟩
theorem wt_461_0 : gW (.methodLink RL 28 yX10_join) := ⟨zt2 (List.mem_of_getElem? (i := 161) rfl), Or.inl rfl⟩
theorem wt_462_0 : gW (.instanceMethod yX10_join) := ⟨zt2 (List.mem_of_getElem? (i := 162) rfl), Or.inl rfl⟩
theorem wt_463_0 : gW (.selects RX10 yX10_join yX10_join) := ⟨zt2 (List.mem_of_getElem? (i := 163) rfl), Or.inl rfl⟩
theorem wt_464_0 : gW (.code yX10_join cX10_join 4 (some .int)) := ⟨zt2 (List.mem_of_getElem? (i := 164) rfl), Or.inl rfl⟩
theorem wt_465_0 : gW (.methodLink RX10 106 yX5_has) := ⟨zt2 (List.mem_of_getElem? (i := 165) rfl), Or.inl rfl⟩
theorem wt_466_0 : gW (.instanceMethod yX5_has) := ⟨zt2 (List.mem_of_getElem? (i := 166) rfl), Or.inl rfl⟩
theorem wt_467_0 : gW (.selects RX5 yX5_has yX5_has) := ⟨zt2 (List.mem_of_getElem? (i := 167) rfl), Or.inl rfl⟩
theorem wt_468_0 : gW (.code yX5_has cX5_has 2 (some .boolean)) := ⟨zt2 (List.mem_of_getElem? (i := 168) rfl), Or.inl rfl⟩
theorem wt_469_0 : gW (.methodLink RX10 107 yX5_keepJoin) := ⟨zt2 (List.mem_of_getElem? (i := 169) rfl), Or.inl rfl⟩
theorem wt_470_0 : gW (.instanceMethod yX5_keepJoin) := ⟨zt2 (List.mem_of_getElem? (i := 170) rfl), Or.inl rfl⟩
theorem wt_471_0 : gW (.selects RX5 yX5_keepJoin yX5_keepJoin) := ⟨zt2 (List.mem_of_getElem? (i := 171) rfl), Or.inl rfl⟩
theorem wt_472_0 : gW (.code yX5_keepJoin cX5_keepJoin 6 (some .int)) := ⟨zt2 (List.mem_of_getElem? (i := 172) rfl), Or.inl rfl⟩
theorem wt_473_0 : gW (.methodLink RL 32 yX10_net) := ⟨zt2 (List.mem_of_getElem? (i := 173) rfl), Or.inl rfl⟩
theorem wt_474_0 : gW (.instanceMethod yX10_net) := ⟨zt2 (List.mem_of_getElem? (i := 174) rfl), Or.inl rfl⟩
theorem wt_475_0 : gW (.selects RX10 yX10_net yX10_net) := ⟨zt2 (List.mem_of_getElem? (i := 175) rfl), Or.inl rfl⟩
theorem wt_476_0 : gW (.code yX10_net cX10_net 3 (some .int)) := ⟨zt2 (List.mem_of_getElem? (i := 176) rfl), Or.inl rfl⟩
theorem wt_477_0 : gW (.methodLink RX10 123 yX5_usersOf) := ⟨zt2 (List.mem_of_getElem? (i := 177) rfl), Or.inl rfl⟩
theorem wt_478_0 : gW (.instanceMethod yX5_usersOf) := ⟨zt2 (List.mem_of_getElem? (i := 178) rfl), Or.inl rfl⟩
theorem wt_479_0 : gW (.selects RX5 yX5_usersOf yX5_usersOf) := ⟨zt2 (List.mem_of_getElem? (i := 179) rfl), Or.inl rfl⟩
theorem wt_480_0 : gW (.code yX5_usersOf cX5_usersOf 4 (some .int)) := ⟨zt2 (List.mem_of_getElem? (i := 180) rfl), Or.inl rfl⟩
theorem wt_481_0 : gW (.methodLink RL 36 yX10_value) := ⟨zt2 (List.mem_of_getElem? (i := 181) rfl), Or.inl rfl⟩
theorem wt_482_0 : gW (.instanceMethod yX10_value) := ⟨zt2 (List.mem_of_getElem? (i := 182) rfl), Or.inl rfl⟩
theorem wt_483_0 : gW (.selects RX10 yX10_value yX10_value) := ⟨zt2 (List.mem_of_getElem? (i := 183) rfl), Or.inl rfl⟩
theorem wt_484_0 : gW (.code yX10_value cX10_value 3 (some .long)) := ⟨zt2 (List.mem_of_getElem? (i := 184) rfl), Or.inl rfl⟩
theorem wt_485_0 : gW (.constantLong RX10 126 (-9223372036854775808)) := ⟨zt2 (List.mem_of_getElem? (i := 185) rfl), Or.inl rfl⟩
theorem wt_486_0 : gW (.methodLink RX10 128 yX4_measure) := ⟨zt2 (List.mem_of_getElem? (i := 186) rfl), Or.inl rfl⟩
theorem wt_487_0 : gW (.instanceMethod yX4_measure) := ⟨zt2 (List.mem_of_getElem? (i := 187) rfl), Or.inl rfl⟩
theorem wt_488_0 : gW (.selects RX4 yX4_measure yX4_measure) := ⟨zt2 (List.mem_of_getElem? (i := 188) rfl), Or.inl rfl⟩
theorem wt_489_0 : gW (.code yX4_measure cX4_measure 4 (some .boolean)) := ⟨zt2 (List.mem_of_getElem? (i := 189) rfl), Or.inl rfl⟩
theorem wt_490_0 : gW (.methodLink RX4 67 yX4_walk) := ⟨zt2 (List.mem_of_getElem? (i := 190) rfl), Or.inl rfl⟩
theorem wt_492_0 : gW (.instanceMethod yX4_walk) := ⟨zt2 (List.mem_of_getElem? (i := 192) rfl), Or.inl rfl⟩
theorem wt_493_0 : gW (.code yX4_walk cX4_walk 2 none) := ⟨zt2 (List.mem_of_getElem? (i := 193) rfl), Or.inl rfl⟩
theorem wt_494_0 : gW (.methodLink RX4 63 yX6_fill) := ⟨zt2 (List.mem_of_getElem? (i := 194) rfl), Or.inl rfl⟩
theorem wt_495_0 : gW (.instanceMethod yX6_fill) := ⟨zt2 (List.mem_of_getElem? (i := 195) rfl), Or.inl rfl⟩
theorem wt_496_0 : gW (.selects RX6 yX6_fill yX6_fill) := ⟨zt2 (List.mem_of_getElem? (i := 196) rfl), Or.inl rfl⟩
theorem wt_497_0 : gW (.code yX6_fill cX6_fill 9 none) := ⟨zt2 (List.mem_of_getElem? (i := 197) rfl), Or.inl rfl⟩
theorem wt_498_0 : gW (.methodLink RX4 71 yX4_measureWalk) := ⟨zt2 (List.mem_of_getElem? (i := 198) rfl), Or.inl rfl⟩
theorem wt_500_0 : gW (.instanceMethod yX4_measureWalk) := ⟨zt2 (List.mem_of_getElem? (i := 200) rfl), Or.inl rfl⟩
theorem wt_501_0 : gW (.code yX4_measureWalk cX4_measureWalk 8 (some .boolean)) := ⟨zt2 (List.mem_of_getElem? (i := 201) rfl), Or.inl rfl⟩
theorem wt_502_0 : gW (.methodLink RX4 83 yX4_putPart) := ⟨zt2 (List.mem_of_getElem? (i := 202) rfl), Or.inl rfl⟩
theorem wt_504_0 : gW (.instanceMethod yX4_putPart) := ⟨zt2 (List.mem_of_getElem? (i := 204) rfl), Or.inl rfl⟩
theorem wt_505_0 : gW (.code yX4_putPart cX4_putPart 5 none) := ⟨zt2 (List.mem_of_getElem? (i := 205) rfl), Or.inl rfl⟩
theorem wt_506_0 : gW (.methodLink RX4 106 yX1_become) := ⟨zt2 (List.mem_of_getElem? (i := 206) rfl), Or.inl rfl⟩
theorem wt_507_0 : gW (.instanceMethod yX1_become) := ⟨zt2 (List.mem_of_getElem? (i := 207) rfl), Or.inl rfl⟩
theorem wt_508_0 : gW (.selects RX1 yX1_become yX1_become) := ⟨zt2 (List.mem_of_getElem? (i := 208) rfl), Or.inl rfl⟩
theorem wt_509_0 : gW (.code yX1_become cX1_become 7 none) := ⟨zt2 (List.mem_of_getElem? (i := 209) rfl), Or.inl rfl⟩
theorem wt_511_0 : gW (.static yX10_greatestDivisor) := ⟨zt2 (List.mem_of_getElem? (i := 211) rfl), Or.inl rfl⟩
theorem wt_512_0 : gW (.code yX10_greatestDivisor cX10_greatestDivisor 11 (some .long)) := ⟨zt2 (List.mem_of_getElem? (i := 212) rfl), Or.inl rfl⟩
theorem wt_513_0 : gW (.methodLink RX4 87 yX1_addInSeries) := ⟨zt2 (List.mem_of_getElem? (i := 213) rfl), Or.inl rfl⟩
theorem wt_514_0 : gW (.instanceMethod yX1_addInSeries) := ⟨zt2 (List.mem_of_getElem? (i := 214) rfl), Or.inl rfl⟩
theorem wt_515_0 : gW (.selects RX1 yX1_addInSeries yX1_addInSeries) := ⟨zt2 (List.mem_of_getElem? (i := 215) rfl), Or.inl rfl⟩
theorem wt_516_0 : gW (.code yX1_addInSeries cX1_addInSeries 2 none) := ⟨zt2 (List.mem_of_getElem? (i := 216) rfl), Or.inl rfl⟩
theorem wt_517_0 : gW (.methodLink RX1 24 yX1_become) := ⟨zt2 (List.mem_of_getElem? (i := 217) rfl), Or.inl rfl⟩
theorem wt_518_0 : gW (.methodLink RX4 91 yX1_addBeside) := ⟨zt2 (List.mem_of_getElem? (i := 218) rfl), Or.inl rfl⟩
theorem wt_519_0 : gW (.instanceMethod yX1_addBeside) := ⟨zt2 (List.mem_of_getElem? (i := 219) rfl), Or.inl rfl⟩
theorem wt_520_0 : gW (.selects RX1 yX1_addBeside yX1_addBeside) := ⟨zt2 (List.mem_of_getElem? (i := 220) rfl), Or.inl rfl⟩
theorem wt_521_0 : gW (.code yX1_addBeside cX1_addBeside 2 none) := ⟨zt2 (List.mem_of_getElem? (i := 221) rfl), Or.inl rfl⟩
theorem wt_522_0 : gW (.methodLink RX1 28 yX1_copy) := ⟨zt2 (List.mem_of_getElem? (i := 222) rfl), Or.inl rfl⟩
theorem wt_523_0 : gW (.instanceMethod yX1_copy) := ⟨zt2 (List.mem_of_getElem? (i := 223) rfl), Or.inl rfl⟩
theorem wt_524_0 : gW (.selects RX1 yX1_copy yX1_copy) := ⟨zt2 (List.mem_of_getElem? (i := 224) rfl), Or.inl rfl⟩
theorem wt_525_0 : gW (.code yX1_copy cX1_copy 2 none) := ⟨zt2 (List.mem_of_getElem? (i := 225) rfl), Or.inl rfl⟩
theorem wt_526_0 : gW (.methodLink RX4 94 yX1_isLong) := ⟨zt2 (List.mem_of_getElem? (i := 226) rfl), Or.inl rfl⟩
theorem wt_527_0 : gW (.instanceMethod yX1_isLong) := ⟨zt2 (List.mem_of_getElem? (i := 227) rfl), Or.inl rfl⟩
theorem wt_528_0 : gW (.selects RX1 yX1_isLong yX1_isLong) := ⟨zt2 (List.mem_of_getElem? (i := 228) rfl), Or.inl rfl⟩
theorem wt_529_0 : gW (.code yX1_isLong cX1_isLong 1 (some .boolean)) := ⟨zt2 (List.mem_of_getElem? (i := 229) rfl), Or.inl rfl⟩
theorem wt_530_0 : gW (.constantLong RX1 22 (1000000000)) := ⟨zt2 (List.mem_of_getElem? (i := 230) rfl), Or.inl rfl⟩
theorem wt_531_0 : gW (.methodLink RX4 98 yX1_copy) := ⟨zt2 (List.mem_of_getElem? (i := 231) rfl), Or.inl rfl⟩
theorem wt_532_0 : gW (.methodLink RX10 135 yX1_side) := ⟨zt2 (List.mem_of_getElem? (i := 232) rfl), Or.inl rfl⟩
theorem wt_533_0 : gW (.instanceMethod yX1_side) := ⟨zt2 (List.mem_of_getElem? (i := 233) rfl), Or.inl rfl⟩
theorem wt_534_0 : gW (.selects RX1 yX1_side yX1_side) := ⟨zt2 (List.mem_of_getElem? (i := 234) rfl), Or.inl rfl⟩
theorem wt_535_0 : gW (.code yX1_side cX1_side 2 (some .long)) := ⟨zt2 (List.mem_of_getElem? (i := 235) rfl), Or.inl rfl⟩
theorem wt_536_0 : gW (.constantLong RX10 141 (-7)) := ⟨zt2 (List.mem_of_getElem? (i := 236) rfl), Or.inl rfl⟩
theorem wt_537_0 : gW (.methodLink RL 41 yX10_ends) := ⟨zt2 (List.mem_of_getElem? (i := 237) rfl), Or.inl rfl⟩
theorem wt_538_0 : gW (.instanceMethod yX10_ends) := ⟨zt2 (List.mem_of_getElem? (i := 238) rfl), Or.inl rfl⟩
theorem wt_539_0 : gW (.selects RX10 yX10_ends yX10_ends) := ⟨zt2 (List.mem_of_getElem? (i := 239) rfl), Or.inl rfl⟩
theorem wt_540_0 : gW (.code yX10_ends cX10_ends 3 (some .long)) := ⟨zt3 (List.mem_of_getElem? (i := 0) rfl), Or.inl rfl⟩
theorem wt_541_0 : gW (.methodLink RX10 143 yX4_endOf) := ⟨zt3 (List.mem_of_getElem? (i := 1) rfl), Or.inl rfl⟩
theorem wt_542_0 : gW (.instanceMethod yX4_endOf) := ⟨zt3 (List.mem_of_getElem? (i := 2) rfl), Or.inl rfl⟩
theorem wt_543_0 : gW (.selects RX4 yX4_endOf yX4_endOf) := ⟨zt3 (List.mem_of_getElem? (i := 3) rfl), Or.inl rfl⟩
theorem wt_544_0 : gW (.code yX4_endOf cX4_endOf 10 (some .double)) := ⟨zt3 (List.mem_of_getElem? (i := 4) rfl), Or.inl rfl⟩
theorem wt_545_0 : gW (.methodLink RX4 114 yX4_endOfPart) := ⟨zt3 (List.mem_of_getElem? (i := 5) rfl), Or.inl rfl⟩
theorem wt_547_0 : gW (.instanceMethod yX4_endOfPart) := ⟨zt3 (List.mem_of_getElem? (i := 7) rfl), Or.inl rfl⟩
theorem wt_548_0 : gW (.code yX4_endOfPart cX4_endOfPart 4 (some .double)) := ⟨zt3 (List.mem_of_getElem? (i := 8) rfl), Or.inl rfl⟩
theorem wt_549_0 : gW (.constantDouble RX4 121 (4636737291354636288)) := ⟨zt3 (List.mem_of_getElem? (i := 9) rfl), Or.inl rfl⟩
theorem wt_550_0 : gW (.methodLink RX10 147 yX10_bitsOfDouble) := ⟨zt3 (List.mem_of_getElem? (i := 10) rfl), Or.inl rfl⟩
theorem wt_551_0 : gW (.static yX10_bitsOfDouble) := ⟨zt3 (List.mem_of_getElem? (i := 11) rfl), Or.inl rfl⟩
theorem wt_552_0 : gW (.code yX10_bitsOfDouble cX10_bitsOfDouble 7 (some .long)) := ⟨zt3 (List.mem_of_getElem? (i := 12) rfl), Or.inl rfl⟩
theorem wt_553_0 : gW (.constantLong RX10 312 (1023)) := ⟨zt3 (List.mem_of_getElem? (i := 13) rfl), Or.inl rfl⟩
theorem wt_554_0 : gW (.constantDouble RX10 314 (4611686018427387904)) := ⟨zt3 (List.mem_of_getElem? (i := 14) rfl), Or.inl rfl⟩
theorem wt_555_0 : gW (.constantDouble RX10 316 (4841369599423283200)) := ⟨zt3 (List.mem_of_getElem? (i := 15) rfl), Or.inl rfl⟩
theorem wt_556_0 : gW (.methodLink RL 45 yX10_shortly) := ⟨zt3 (List.mem_of_getElem? (i := 16) rfl), Or.inl rfl⟩
theorem wt_557_0 : gW (.instanceMethod yX10_shortly) := ⟨zt3 (List.mem_of_getElem? (i := 17) rfl), Or.inl rfl⟩
theorem wt_558_0 : gW (.selects RX10 yX10_shortly yX10_shortly) := ⟨zt3 (List.mem_of_getElem? (i := 18) rfl), Or.inl rfl⟩
theorem wt_559_0 : gW (.code yX10_shortly cX10_shortly 2 (some .long)) := ⟨zt3 (List.mem_of_getElem? (i := 19) rfl), Or.inl rfl⟩
theorem wt_560_0 : gW (.methodLink RX10 151 yX4_floatOf) := ⟨zt3 (List.mem_of_getElem? (i := 20) rfl), Or.inl rfl⟩
theorem wt_561_0 : gW (.instanceMethod yX4_floatOf) := ⟨zt3 (List.mem_of_getElem? (i := 21) rfl), Or.inl rfl⟩
theorem wt_562_0 : gW (.selects RX4 yX4_floatOf yX4_floatOf) := ⟨zt3 (List.mem_of_getElem? (i := 22) rfl), Or.inl rfl⟩
theorem wt_563_0 : gW (.code yX4_floatOf cX4_floatOf 8 (some .float)) := ⟨zt3 (List.mem_of_getElem? (i := 23) rfl), Or.inl rfl⟩
theorem wt_564_0 : gW (.methodLink RX4 123 yX4_drawPart) := ⟨zt3 (List.mem_of_getElem? (i := 24) rfl), Or.inl rfl⟩
theorem wt_566_0 : gW (.instanceMethod yX4_drawPart) := ⟨zt3 (List.mem_of_getElem? (i := 26) rfl), Or.inl rfl⟩
theorem wt_567_0 : gW (.code yX4_drawPart cX4_drawPart 4 (some .float)) := ⟨zt3 (List.mem_of_getElem? (i := 27) rfl), Or.inl rfl⟩
theorem wt_568_0 : gW (.constant RX4 130 (1103515245)) := ⟨zt3 (List.mem_of_getElem? (i := 28) rfl), Or.inl rfl⟩
theorem wt_569_0 : gW (.constantFloat RX4 131 (1176256512)) := ⟨zt3 (List.mem_of_getElem? (i := 29) rfl), Or.inl rfl⟩
theorem wt_570_0 : gW (.methodLink RX10 155 yX10_bitsOfFloat) := ⟨zt3 (List.mem_of_getElem? (i := 30) rfl), Or.inl rfl⟩
theorem wt_571_0 : gW (.static yX10_bitsOfFloat) := ⟨zt3 (List.mem_of_getElem? (i := 31) rfl), Or.inl rfl⟩
theorem wt_572_0 : gW (.code yX10_bitsOfFloat cX10_bitsOfFloat 4 (some .long)) := ⟨zt3 (List.mem_of_getElem? (i := 32) rfl), Or.inl rfl⟩
theorem wt_573_0 : gW (.constantFloat RX10 318 (1258291200)) := ⟨zt3 (List.mem_of_getElem? (i := 33) rfl), Or.inl rfl⟩
theorem wt_574_0 : gW (.methodLink RL 50 yX10_drawn) := ⟨zt3 (List.mem_of_getElem? (i := 34) rfl), Or.inl rfl⟩
theorem wt_575_0 : gW (.instanceMethod yX10_drawn) := ⟨zt3 (List.mem_of_getElem? (i := 35) rfl), Or.inl rfl⟩
theorem wt_576_0 : gW (.selects RX10 yX10_drawn yX10_drawn) := ⟨zt3 (List.mem_of_getElem? (i := 36) rfl), Or.inl rfl⟩
theorem wt_577_0 : gW (.code yX10_drawn cX10_drawn 3 (some .long)) := ⟨zt3 (List.mem_of_getElem? (i := 37) rfl), Or.inl rfl⟩
theorem wt_578_0 : gW (.methodLink RL 54 yX10_within) := ⟨zt3 (List.mem_of_getElem? (i := 38) rfl), Or.inl rfl⟩
theorem wt_579_0 : gW (.instanceMethod yX10_within) := ⟨zt3 (List.mem_of_getElem? (i := 39) rfl), Or.inl rfl⟩
theorem wt_580_0 : gW (.selects RX10 yX10_within yX10_within) := ⟨zt3 (List.mem_of_getElem? (i := 40) rfl), Or.inl rfl⟩
theorem wt_581_0 : gW (.code yX10_within cX10_within 11 (some .int)) := ⟨zt3 (List.mem_of_getElem? (i := 41) rfl), Or.inl rfl⟩
theorem wt_582_0 : gW (.methodLink RX10 163 yX10_isWish) := ⟨zt3 (List.mem_of_getElem? (i := 42) rfl), Or.inl rfl⟩
theorem wt_583_0 : gW (.static yX10_isWish) := ⟨zt3 (List.mem_of_getElem? (i := 43) rfl), Or.inl rfl⟩
theorem wt_584_0 : gW (.code yX10_isWish cX10_isWish 2 (some .boolean)) := ⟨zt3 (List.mem_of_getElem? (i := 44) rfl), Or.inl rfl⟩
theorem wt_585_0 : gW (.constantFloat RX10 167 (1120403456)) := ⟨zt3 (List.mem_of_getElem? (i := 45) rfl), Or.inl rfl⟩
theorem wt_586_0 : gW (.methodLink RL 59 yX10_alike) := ⟨zt3 (List.mem_of_getElem? (i := 46) rfl), Or.inl rfl⟩
theorem wt_587_0 : gW (.instanceMethod yX10_alike) := ⟨zt3 (List.mem_of_getElem? (i := 47) rfl), Or.inl rfl⟩
theorem wt_588_0 : gW (.selects RX10 yX10_alike yX10_alike) := ⟨zt3 (List.mem_of_getElem? (i := 48) rfl), Or.inl rfl⟩
theorem wt_589_0 : gW (.code yX10_alike cX10_alike 7 (some .int)) := ⟨zt3 (List.mem_of_getElem? (i := 49) rfl), Or.inl rfl⟩
theorem wt_590_0 : gW (.methodLink RL 63 yX10_turned) := ⟨zt3 (List.mem_of_getElem? (i := 50) rfl), Or.inl rfl⟩
theorem wt_591_0 : gW (.instanceMethod yX10_turned) := ⟨zt3 (List.mem_of_getElem? (i := 51) rfl), Or.inl rfl⟩
theorem wt_592_0 : gW (.selects RX10 yX10_turned yX10_turned) := ⟨zt3 (List.mem_of_getElem? (i := 52) rfl), Or.inl rfl⟩
theorem wt_593_0 : gW (.code yX10_turned cX10_turned 3 (some .int)) := ⟨zt3 (List.mem_of_getElem? (i := 53) rfl), Or.inl rfl⟩
theorem wt_594_0 : gW (.methodLink RX10 175 yX5_areTurned) := ⟨zt3 (List.mem_of_getElem? (i := 54) rfl), Or.inl rfl⟩
theorem wt_595_0 : gW (.instanceMethod yX5_areTurned) := ⟨zt3 (List.mem_of_getElem? (i := 55) rfl), Or.inl rfl⟩
theorem wt_596_0 : gW (.selects RX5 yX5_areTurned yX5_areTurned) := ⟨zt3 (List.mem_of_getElem? (i := 56) rfl), Or.inl rfl⟩
theorem wt_597_0 : gW (.code yX5_areTurned cX5_areTurned 6 (some .boolean)) := ⟨zt3 (List.mem_of_getElem? (i := 57) rfl), Or.inl rfl⟩
theorem wt_598_0 : gW (.methodLink RX5 67 yX5_isTurn) := ⟨zt3 (List.mem_of_getElem? (i := 58) rfl), Or.inl rfl⟩
theorem wt_600_0 : gW (.instanceMethod yX5_isTurn) := ⟨zt3 (List.mem_of_getElem? (i := 60) rfl), Or.inl rfl⟩
theorem wt_601_0 : gW (.code yX5_isTurn cX5_isTurn 7 (some .boolean)) := ⟨zt3 (List.mem_of_getElem? (i := 61) rfl), Or.inl rfl⟩
theorem wt_602_0 : gW (.methodLink RL 67 yX10_fails) := ⟨zt3 (List.mem_of_getElem? (i := 62) rfl), Or.inl rfl⟩
theorem wt_603_0 : gW (.instanceMethod yX10_fails) := ⟨zt3 (List.mem_of_getElem? (i := 63) rfl), Or.inl rfl⟩
theorem wt_604_0 : gW (.selects RX10 yX10_fails yX10_fails) := ⟨zt3 (List.mem_of_getElem? (i := 64) rfl), Or.inl rfl⟩
theorem wt_605_0 : gW (.code yX10_fails cX10_fails 5 (some .long)) := ⟨zt3 (List.mem_of_getElem? (i := 65) rfl), Or.inl rfl⟩
theorem wt_606_0 : gW (.methodLink RL 72 yX10_worst) := ⟨zt3 (List.mem_of_getElem? (i := 66) rfl), Or.inl rfl⟩
theorem wt_607_0 : gW (.instanceMethod yX10_worst) := ⟨zt3 (List.mem_of_getElem? (i := 67) rfl), Or.inl rfl⟩
theorem wt_608_0 : gW (.selects RX10 yX10_worst yX10_worst) := ⟨zt3 (List.mem_of_getElem? (i := 68) rfl), Or.inl rfl⟩
theorem wt_609_0 : gW (.code yX10_worst cX10_worst 3 (some .int)) := ⟨zt3 (List.mem_of_getElem? (i := 69) rfl), Or.inl rfl⟩
theorem wt_610_0 : gW (.methodLink RX10 178 yX4_worstPlace) := ⟨zt3 (List.mem_of_getElem? (i := 70) rfl), Or.inl rfl⟩
theorem wt_611_0 : gW (.instanceMethod yX4_worstPlace) := ⟨zt3 (List.mem_of_getElem? (i := 71) rfl), Or.inl rfl⟩
theorem wt_612_0 : gW (.selects RX4 yX4_worstPlace yX4_worstPlace) := ⟨zt3 (List.mem_of_getElem? (i := 72) rfl), Or.inl rfl⟩
theorem wt_613_0 : gW (.code yX4_worstPlace cX4_worstPlace 6 (some .int)) := ⟨zt3 (List.mem_of_getElem? (i := 73) rfl), Or.inl rfl⟩
theorem wt_614_0 : gW (.methodLink RX4 110 yX1_against) := ⟨zt3 (List.mem_of_getElem? (i := 74) rfl), Or.inl rfl⟩
theorem wt_615_0 : gW (.instanceMethod yX1_against) := ⟨zt3 (List.mem_of_getElem? (i := 75) rfl), Or.inl rfl⟩
theorem wt_616_0 : gW (.selects RX1 yX1_against yX1_against) := ⟨zt3 (List.mem_of_getElem? (i := 76) rfl), Or.inl rfl⟩
theorem wt_617_0 : gW (.code yX1_against cX1_against 20 (some .int)) := ⟨zt3 (List.mem_of_getElem? (i := 77) rfl), Or.inl rfl⟩
theorem wt_618_0 : gW (.methodLink RL 76 yX10_feed) := ⟨zt3 (List.mem_of_getElem? (i := 78) rfl), Or.inl rfl⟩
theorem wt_619_0 : gW (.instanceMethod yX10_feed) := ⟨zt3 (List.mem_of_getElem? (i := 79) rfl), Or.inl rfl⟩
theorem wt_620_0 : gW (.selects RX10 yX10_feed yX10_feed) := ⟨zt3 (List.mem_of_getElem? (i := 80) rfl), Or.inl rfl⟩
theorem wt_621_0 : gW (.code yX10_feed cX10_feed 2 (some .int)) := ⟨zt3 (List.mem_of_getElem? (i := 81) rfl), Or.inl rfl⟩
theorem wt_622_0 : gW (.methodLink RX10 182 yX8_take) := ⟨zt3 (List.mem_of_getElem? (i := 82) rfl), Or.inl rfl⟩
theorem wt_623_0 : gW (.instanceMethod yX8_take) := ⟨zt3 (List.mem_of_getElem? (i := 83) rfl), Or.inl rfl⟩
theorem wt_624_0 : gW (.selects RX8 yX8_take yX8_take) := ⟨zt3 (List.mem_of_getElem? (i := 84) rfl), Or.inl rfl⟩
theorem wt_625_0 : gW (.code yX8_take cX8_take 2 (some .int)) := ⟨zt3 (List.mem_of_getElem? (i := 85) rfl), Or.inl rfl⟩
theorem wt_626_0 : gW (.methodLink RL 80 yX10_read) := ⟨zt3 (List.mem_of_getElem? (i := 86) rfl), Or.inl rfl⟩
theorem wt_627_0 : gW (.instanceMethod yX10_read) := ⟨zt3 (List.mem_of_getElem? (i := 87) rfl), Or.inl rfl⟩
theorem wt_628_0 : gW (.selects RX10 yX10_read yX10_read) := ⟨zt3 (List.mem_of_getElem? (i := 88) rfl), Or.inl rfl⟩
theorem wt_629_0 : gW (.code yX10_read cX10_read 2 (some .int)) := ⟨zt3 (List.mem_of_getElem? (i := 89) rfl), Or.inl rfl⟩
theorem wt_630_0 : gW (.methodLink RX10 185 yX8_faultOrPlan) := ⟨zt3 (List.mem_of_getElem? (i := 90) rfl), Or.inl rfl⟩
theorem wt_631_0 : gW (.instanceMethod yX8_faultOrPlan) := ⟨zt3 (List.mem_of_getElem? (i := 91) rfl), Or.inl rfl⟩
theorem wt_632_0 : gW (.selects RX8 yX8_faultOrPlan yX8_faultOrPlan) := ⟨zt3 (List.mem_of_getElem? (i := 92) rfl), Or.inl rfl⟩
theorem wt_633_0 : gW (.code yX8_faultOrPlan cX8_faultOrPlan 8 (some .int)) := ⟨zt3 (List.mem_of_getElem? (i := 93) rfl), Or.inl rfl⟩
theorem wt_634_0 : gW (.methodLink RX8 25 yX0_has) := ⟨zt3 (List.mem_of_getElem? (i := 94) rfl), Or.inl rfl⟩
theorem wt_635_0 : gW (.methodLink RX8 31 yX6_add) := ⟨zt3 (List.mem_of_getElem? (i := 95) rfl), Or.inl rfl⟩
theorem wt_636_0 : gW (.instanceMethod yX6_add) := ⟨zt3 (List.mem_of_getElem? (i := 96) rfl), Or.inl rfl⟩
theorem wt_637_0 : gW (.selects RX6 yX6_add yX6_add) := ⟨zt3 (List.mem_of_getElem? (i := 97) rfl), Or.inl rfl⟩
theorem wt_638_0 : gW (.code yX6_add cX6_add 3 none) := ⟨zt3 (List.mem_of_getElem? (i := 98) rfl), Or.inl rfl⟩
theorem wt_639_0 : gW (.methodLink RX8 35 yX8_joinOf) := ⟨zt3 (List.mem_of_getElem? (i := 99) rfl), Or.inl rfl⟩
theorem wt_640_0 : gW (.static yX8_joinOf) := ⟨zt3 (List.mem_of_getElem? (i := 100) rfl), Or.inl rfl⟩
theorem wt_641_0 : gW (.code yX8_joinOf cX8_joinOf 1 (some .int)) := ⟨zt3 (List.mem_of_getElem? (i := 101) rfl), Or.inl rfl⟩
theorem wt_642_0 : gW (.methodLink RX10 192 yX5_keepPlan) := ⟨zt3 (List.mem_of_getElem? (i := 102) rfl), Or.inl rfl⟩
theorem wt_643_0 : gW (.instanceMethod yX5_keepPlan) := ⟨zt3 (List.mem_of_getElem? (i := 103) rfl), Or.inl rfl⟩
theorem wt_644_0 : gW (.selects RX5 yX5_keepPlan yX5_keepPlan) := ⟨zt3 (List.mem_of_getElem? (i := 104) rfl), Or.inl rfl⟩
theorem wt_645_0 : gW (.code yX5_keepPlan cX5_keepPlan 5 (some .int)) := ⟨zt3 (List.mem_of_getElem? (i := 105) rfl), Or.inl rfl⟩
theorem wt_646_0 : gW (.methodLink RX5 61 yX5_keepPart) := ⟨zt3 (List.mem_of_getElem? (i := 106) rfl), Or.inl rfl⟩
theorem wt_647_0 : gW (.methodLink RX5 64 yX5_keepJoin) := ⟨zt3 (List.mem_of_getElem? (i := 107) rfl), Or.inl rfl⟩
theorem wt_648_0 : gW (.methodLink RL 85 yX10_print) := ⟨zt3 (List.mem_of_getElem? (i := 108) rfl), Or.inl rfl⟩
theorem wt_649_0 : gW (.instanceMethod yX10_print) := ⟨zt3 (List.mem_of_getElem? (i := 109) rfl), Or.inl rfl⟩
theorem wt_650_0 : gW (.selects RX10 yX10_print yX10_print) := ⟨zt3 (List.mem_of_getElem? (i := 110) rfl), Or.inl rfl⟩
theorem wt_651_0 : gW (.code yX10_print cX10_print 4 (some .int)) := ⟨zt3 (List.mem_of_getElem? (i := 111) rfl), Or.inl rfl⟩
theorem wt_652_0 : gW (.methodLink RX10 196 yX5_spell) := ⟨zt3 (List.mem_of_getElem? (i := 112) rfl), Or.inl rfl⟩
theorem wt_653_0 : gW (.instanceMethod yX5_spell) := ⟨zt3 (List.mem_of_getElem? (i := 113) rfl), Or.inl rfl⟩
theorem wt_654_0 : gW (.selects RX5 yX5_spell yX5_spell) := ⟨zt3 (List.mem_of_getElem? (i := 114) rfl), Or.inl rfl⟩
theorem wt_655_0 : gW (.code yX5_spell cX5_spell 6 (some .int)) := ⟨zt3 (List.mem_of_getElem? (i := 115) rfl), Or.inl rfl⟩
theorem wt_656_0 : gW (.methodLink RX5 71 yX5_openBrackets) := ⟨zt3 (List.mem_of_getElem? (i := 116) rfl), Or.inl rfl⟩
theorem wt_658_0 : gW (.instanceMethod yX5_openBrackets) := ⟨zt3 (List.mem_of_getElem? (i := 118) rfl), Or.inl rfl⟩
theorem wt_659_0 : gW (.code yX5_openBrackets cX5_openBrackets 3 (some .int)) := ⟨zt3 (List.mem_of_getElem? (i := 119) rfl), Or.inl rfl⟩
theorem wt_660_0 : gW (.methodLink RL 89 yX10_reached) := ⟨zt3 (List.mem_of_getElem? (i := 120) rfl), Or.inl rfl⟩
theorem wt_661_0 : gW (.instanceMethod yX10_reached) := ⟨zt3 (List.mem_of_getElem? (i := 121) rfl), Or.inl rfl⟩
theorem wt_662_0 : gW (.selects RX10 yX10_reached yX10_reached) := ⟨zt3 (List.mem_of_getElem? (i := 122) rfl), Or.inl rfl⟩
theorem wt_663_0 : gW (.code yX10_reached cX10_reached 2 (some .int)) := ⟨zt3 (List.mem_of_getElem? (i := 123) rfl), Or.inl rfl⟩
theorem wt_664_0 : gW (.methodLink RX10 202 yX7_build) := ⟨zt3 (List.mem_of_getElem? (i := 124) rfl), Or.inl rfl⟩
theorem wt_665_0 : gW (.instanceMethod yX7_build) := ⟨zt3 (List.mem_of_getElem? (i := 125) rfl), Or.inl rfl⟩
theorem wt_666_0 : gW (.selects RX7 yX7_build yX7_build) := ⟨zt3 (List.mem_of_getElem? (i := 126) rfl), Or.inl rfl⟩
theorem wt_667_0 : gW (.code yX7_build cX7_build 4 none) := ⟨zt3 (List.mem_of_getElem? (i := 127) rfl), Or.inl rfl⟩
theorem wt_668_0 : gW (.methodLink RX7 46 yX7_isBuiltForBox) := ⟨zt3 (List.mem_of_getElem? (i := 128) rfl), Or.inl rfl⟩
theorem wt_670_0 : gW (.instanceMethod yX7_isBuiltForBox) := ⟨zt3 (List.mem_of_getElem? (i := 130) rfl), Or.inl rfl⟩
theorem wt_671_0 : gW (.code yX7_isBuiltForBox cX7_isBuiltForBox 2 (some .boolean)) := ⟨zt3 (List.mem_of_getElem? (i := 131) rfl), Or.inl rfl⟩
theorem wt_672_0 : gW (.methodLink RX7 55 arraycopyName) := ⟨zt3 (List.mem_of_getElem? (i := 132) rfl), Or.inl rfl⟩
theorem wt_673_0 : gW (.static arraycopyName) := ⟨zt3 (List.mem_of_getElem? (i := 133) rfl), Or.inl rfl⟩
theorem wt_674_0 : gW (.native arraycopyName) := ⟨zt3 (List.mem_of_getElem? (i := 134) rfl), Or.inl rfl⟩
theorem wt_675_0 : gW (.methodLink RX7 61 yJ7_fill_53178) := ⟨zt3 (List.mem_of_getElem? (i := 135) rfl), Or.inl rfl⟩
theorem wt_676_0 : gW (.static yJ7_fill_53178) := ⟨zt3 (List.mem_of_getElem? (i := 136) rfl), Or.inl rfl⟩
theorem wt_677_0 : gW (.code yJ7_fill_53178 cJ7_fill_53178 4 none) := ⟨zt3 (List.mem_of_getElem? (i := 137) rfl), Or.inl rfl⟩
theorem wt_678_0 : gW (.methodLink RX7 77 yX7_addParts) := ⟨zt3 (List.mem_of_getElem? (i := 138) rfl), Or.inl rfl⟩
theorem wt_680_0 : gW (.instanceMethod yX7_addParts) := ⟨zt3 (List.mem_of_getElem? (i := 140) rfl), Or.inl rfl⟩
theorem wt_681_0 : gW (.code yX7_addParts cX7_addParts 2 none) := ⟨zt3 (List.mem_of_getElem? (i := 141) rfl), Or.inl rfl⟩
theorem wt_682_0 : gW (.methodLink RX7 84 yX0_has) := ⟨zt3 (List.mem_of_getElem? (i := 142) rfl), Or.inl rfl⟩
theorem wt_683_0 : gW (.methodLink RX7 88 yX7_add) := ⟨zt3 (List.mem_of_getElem? (i := 143) rfl), Or.inl rfl⟩
theorem wt_685_0 : gW (.instanceMethod yX7_add) := ⟨zt3 (List.mem_of_getElem? (i := 145) rfl), Or.inl rfl⟩
theorem wt_686_0 : gW (.code yX7_add cX7_add 13 none) := ⟨zt3 (List.mem_of_getElem? (i := 146) rfl), Or.inl rfl⟩
theorem wt_688_0 : gW (.methodLink RX7 96 yX7_slotOf) := ⟨zt3 (List.mem_of_getElem? (i := 148) rfl), Or.inl rfl⟩
theorem wt_690_0 : gW (.instanceMethod yX7_slotOf) := ⟨zt3 (List.mem_of_getElem? (i := 150) rfl), Or.inl rfl⟩
theorem wt_691_0 : gW (.code yX7_slotOf cX7_slotOf 7 (some .int)) := ⟨zt3 (List.mem_of_getElem? (i := 151) rfl), Or.inl rfl⟩
theorem wt_692_0 : gW (.constant RX7 100 (40503)) := ⟨zt3 (List.mem_of_getElem? (i := 152) rfl), Or.inl rfl⟩
theorem wt_693_0 : gW (.methodLink RX7 80 yX7_addPairs) := ⟨zt3 (List.mem_of_getElem? (i := 153) rfl), Or.inl rfl⟩
theorem wt_695_0 : gW (.instanceMethod yX7_addPairs) := ⟨zt3 (List.mem_of_getElem? (i := 155) rfl), Or.inl rfl⟩
theorem wt_696_0 : gW (.code yX7_addPairs cX7_addPairs 7 none) := ⟨zt3 (List.mem_of_getElem? (i := 156) rfl), Or.inl rfl⟩
theorem wt_697_0 : gW (.methodLink RL 93 yX10_reach) := ⟨zt3 (List.mem_of_getElem? (i := 157) rfl), Or.inl rfl⟩
theorem wt_698_0 : gW (.instanceMethod yX10_reach) := ⟨zt3 (List.mem_of_getElem? (i := 158) rfl), Or.inl rfl⟩
theorem wt_699_0 : gW (.selects RX10 yX10_reach yX10_reach) := ⟨zt3 (List.mem_of_getElem? (i := 159) rfl), Or.inl rfl⟩
theorem wt_700_0 : gW (.code yX10_reach cX10_reach 5 (some .long)) := ⟨zt3 (List.mem_of_getElem? (i := 160) rfl), Or.inl rfl⟩
theorem wt_701_0 : gW (.methodLink RX10 209 yX7_bySize) := ⟨zt3 (List.mem_of_getElem? (i := 161) rfl), Or.inl rfl⟩
theorem wt_702_0 : gW (.instanceMethod yX7_bySize) := ⟨zt3 (List.mem_of_getElem? (i := 162) rfl), Or.inl rfl⟩
theorem wt_703_0 : gW (.selects RX7 yX7_bySize yX7_bySize) := ⟨zt3 (List.mem_of_getElem? (i := 163) rfl), Or.inl rfl⟩
theorem wt_704_0 : gW (.code yX7_bySize cX7_bySize 3 (some .int)) := ⟨zt3 (List.mem_of_getElem? (i := 164) rfl), Or.inl rfl⟩
theorem wt_705_0 : gW (.methodLink RX7 101 yX7_build) := ⟨zt3 (List.mem_of_getElem? (i := 165) rfl), Or.inl rfl⟩
theorem wt_706_0 : gW (.methodLink RX7 105 yX7_putInOrder) := ⟨zt3 (List.mem_of_getElem? (i := 166) rfl), Or.inl rfl⟩
theorem wt_708_0 : gW (.instanceMethod yX7_putInOrder) := ⟨zt3 (List.mem_of_getElem? (i := 168) rfl), Or.inl rfl⟩
theorem wt_709_0 : gW (.code yX7_putInOrder cX7_putInOrder 5 none) := ⟨zt3 (List.mem_of_getElem? (i := 169) rfl), Or.inl rfl⟩
theorem wt_710_0 : gW (.methodLink RX7 108 Lib.Math.min.name) := ⟨zt3 (List.mem_of_getElem? (i := 170) rfl), Or.inl rfl⟩
theorem wt_711_0 : gW (.static Lib.Math.min.name) := ⟨zt3 (List.mem_of_getElem? (i := 171) rfl), Or.inl rfl⟩
theorem wt_712_0 : gW (.code Lib.Math.min.name Lib.Math.min.code 2 (some .int)) := ⟨zt3 (List.mem_of_getElem? (i := 172) rfl), Or.inl rfl⟩
theorem wt_713_0 : gW (.methodLink RX7 113 yX7_merge) := ⟨zt3 (List.mem_of_getElem? (i := 173) rfl), Or.inl rfl⟩
theorem wt_715_0 : gW (.instanceMethod yX7_merge) := ⟨zt3 (List.mem_of_getElem? (i := 175) rfl), Or.inl rfl⟩
theorem wt_716_0 : gW (.code yX7_merge cX7_merge 7 none) := ⟨zt3 (List.mem_of_getElem? (i := 176) rfl), Or.inl rfl⟩
theorem wt_717_0 : gW (.methodLink RX7 117 yX7_isLess) := ⟨zt3 (List.mem_of_getElem? (i := 177) rfl), Or.inl rfl⟩
theorem wt_719_0 : gW (.instanceMethod yX7_isLess) := ⟨zt3 (List.mem_of_getElem? (i := 179) rfl), Or.inl rfl⟩
theorem wt_720_0 : gW (.code yX7_isLess cX7_isLess 3 (some .boolean)) := ⟨zt3 (List.mem_of_getElem? (i := 180) rfl), Or.inl rfl⟩
theorem wt_721_0 : gW (.constantLong RX10 212 (-2)) := ⟨zt3 (List.mem_of_getElem? (i := 181) rfl), Or.inl rfl⟩
theorem wt_722_0 : gW (.methodLink RX10 214 yX7_side) := ⟨zt3 (List.mem_of_getElem? (i := 182) rfl), Or.inl rfl⟩
theorem wt_723_0 : gW (.instanceMethod yX7_side) := ⟨zt3 (List.mem_of_getElem? (i := 183) rfl), Or.inl rfl⟩
theorem wt_724_0 : gW (.selects RX7 yX7_side yX7_side) := ⟨zt3 (List.mem_of_getElem? (i := 184) rfl), Or.inl rfl⟩
theorem wt_725_0 : gW (.code yX7_side cX7_side 3 (some .int)) := ⟨zt3 (List.mem_of_getElem? (i := 185) rfl), Or.inl rfl⟩
theorem wt_726_0 : gW (.methodLink RL 98 yX10_fewest) := ⟨zt3 (List.mem_of_getElem? (i := 186) rfl), Or.inl rfl⟩
theorem wt_727_0 : gW (.instanceMethod yX10_fewest) := ⟨zt3 (List.mem_of_getElem? (i := 187) rfl), Or.inl rfl⟩
theorem wt_728_0 : gW (.selects RX10 yX10_fewest yX10_fewest) := ⟨zt3 (List.mem_of_getElem? (i := 188) rfl), Or.inl rfl⟩
theorem wt_729_0 : gW (.code yX10_fewest cX10_fewest 4 (some .int)) := ⟨zt3 (List.mem_of_getElem? (i := 189) rfl), Or.inl rfl⟩
theorem wt_730_0 : gW (.methodLink RX10 216 yX7_indexOf) := ⟨zt3 (List.mem_of_getElem? (i := 190) rfl), Or.inl rfl⟩
theorem wt_731_0 : gW (.instanceMethod yX7_indexOf) := ⟨zt3 (List.mem_of_getElem? (i := 191) rfl), Or.inl rfl⟩
theorem wt_732_0 : gW (.selects RX7 yX7_indexOf yX7_indexOf) := ⟨zt3 (List.mem_of_getElem? (i := 192) rfl), Or.inl rfl⟩
theorem wt_733_0 : gW (.code yX7_indexOf cX7_indexOf 6 (some .int)) := ⟨zt3 (List.mem_of_getElem? (i := 193) rfl), Or.inl rfl⟩
theorem wt_734_0 : gW (.methodLink RX10 219 yX7_partsOf) := ⟨zt3 (List.mem_of_getElem? (i := 194) rfl), Or.inl rfl⟩
theorem wt_735_0 : gW (.instanceMethod yX7_partsOf) := ⟨zt3 (List.mem_of_getElem? (i := 195) rfl), Or.inl rfl⟩
theorem wt_736_0 : gW (.selects RX7 yX7_partsOf yX7_partsOf) := ⟨zt3 (List.mem_of_getElem? (i := 196) rfl), Or.inl rfl⟩
theorem wt_737_0 : gW (.code yX7_partsOf cX7_partsOf 3 (some .int)) := ⟨zt3 (List.mem_of_getElem? (i := 197) rfl), Or.inl rfl⟩
theorem wt_738_0 : gW (.methodLink RL 102 yX10_nearest) := ⟨zt3 (List.mem_of_getElem? (i := 198) rfl), Or.inl rfl⟩
theorem wt_739_0 : gW (.instanceMethod yX10_nearest) := ⟨zt3 (List.mem_of_getElem? (i := 199) rfl), Or.inl rfl⟩
theorem wt_740_0 : gW (.selects RX10 yX10_nearest yX10_nearest) := ⟨zt3 (List.mem_of_getElem? (i := 200) rfl), Or.inl rfl⟩
theorem wt_741_0 : gW (.code yX10_nearest cX10_nearest 6 (some .long)) := ⟨zt3 (List.mem_of_getElem? (i := 201) rfl), Or.inl rfl⟩
theorem wt_742_0 : gW (.methodLink RX10 222 yX7_nearestTo) := ⟨zt3 (List.mem_of_getElem? (i := 202) rfl), Or.inl rfl⟩
theorem wt_743_0 : gW (.instanceMethod yX7_nearestTo) := ⟨zt3 (List.mem_of_getElem? (i := 203) rfl), Or.inl rfl⟩
theorem wt_744_0 : gW (.selects RX7 yX7_nearestTo yX7_nearestTo) := ⟨zt3 (List.mem_of_getElem? (i := 204) rfl), Or.inl rfl⟩
theorem wt_745_0 : gW (.code yX7_nearestTo cX7_nearestTo 10 (some .int)) := ⟨zt3 (List.mem_of_getElem? (i := 205) rfl), Or.inl rfl⟩
