theorem wt_746_0 : gW (.methodLink RX7 121 Lib.MathLoose.abs_long.x) := ⟨zt3 (List.mem_of_getElem? (i := 206) rfl), Or.inl rfl⟩
theorem wt_747_0 : gW (.static Lib.MathLoose.abs_long.x) := ⟨zt3 (List.mem_of_getElem? (i := 207) rfl), Or.inl rfl⟩
theorem wt_748_0 : gW (.code Lib.MathLoose.abs_long.x Lib.MathLoose.abs_long.code 2 (some .long)) := ⟨zt3 (List.mem_of_getElem? (i := 208) rfl), Or.inl rfl⟩
theorem wt_749_0 : gW (.methodLink RX7 125 yX7_isNearer) := ⟨zt3 (List.mem_of_getElem? (i := 209) rfl), Or.inl rfl⟩
theorem wt_751_0 : gW (.instanceMethod yX7_isNearer) := ⟨zt3 (List.mem_of_getElem? (i := 211) rfl), Or.inl rfl⟩
theorem wt_752_0 : gW (.code yX7_isNearer cX7_isNearer 11 (some .boolean)) := ⟨zt3 (List.mem_of_getElem? (i := 212) rfl), Or.inl rfl⟩
theorem wt_753_0 : gW (.methodLink RX7 129 yX7_partsOf) := ⟨zt3 (List.mem_of_getElem? (i := 213) rfl), Or.inl rfl⟩
theorem wt_754_0 : gW (.methodLink RL 106 yX10_make) := ⟨zt3 (List.mem_of_getElem? (i := 214) rfl), Or.inl rfl⟩
theorem wt_755_0 : gW (.instanceMethod yX10_make) := ⟨zt3 (List.mem_of_getElem? (i := 215) rfl), Or.inl rfl⟩
theorem wt_756_0 : gW (.selects RX10 yX10_make yX10_make) := ⟨zt3 (List.mem_of_getElem? (i := 216) rfl), Or.inl rfl⟩
theorem wt_757_0 : gW (.code yX10_make cX10_make 4 (some .int)) := ⟨zt3 (List.mem_of_getElem? (i := 217) rfl), Or.inl rfl⟩
theorem wt_758_0 : gW (.methodLink RX10 228 yX6_fill) := ⟨zt3 (List.mem_of_getElem? (i := 218) rfl), Or.inl rfl⟩
theorem wt_759_0 : gW (.methodLink RL 110 yX10_points) := ⟨zt3 (List.mem_of_getElem? (i := 219) rfl), Or.inl rfl⟩
theorem wt_760_0 : gW (.instanceMethod yX10_points) := ⟨zt3 (List.mem_of_getElem? (i := 220) rfl), Or.inl rfl⟩
theorem wt_761_0 : gW (.selects RX10 yX10_points yX10_points) := ⟨zt3 (List.mem_of_getElem? (i := 221) rfl), Or.inl rfl⟩
theorem wt_762_0 : gW (.code yX10_points cX10_points 3 (some .int)) := ⟨zt3 (List.mem_of_getElem? (i := 222) rfl), Or.inl rfl⟩
theorem wt_763_0 : gW (.methodLink RL 114 yX10_edge) := ⟨zt3 (List.mem_of_getElem? (i := 223) rfl), Or.inl rfl⟩
theorem wt_764_0 : gW (.instanceMethod yX10_edge) := ⟨zt3 (List.mem_of_getElem? (i := 224) rfl), Or.inl rfl⟩
theorem wt_765_0 : gW (.selects RX10 yX10_edge yX10_edge) := ⟨zt3 (List.mem_of_getElem? (i := 225) rfl), Or.inl rfl⟩
theorem wt_766_0 : gW (.code yX10_edge cX10_edge 4 (some .int)) := ⟨zt3 (List.mem_of_getElem? (i := 226) rfl), Or.inl rfl⟩
theorem wt_767_0 : gW (.methodLink RX10 238 yX3_has) := ⟨zt3 (List.mem_of_getElem? (i := 227) rfl), Or.inl rfl⟩
theorem wt_768_0 : gW (.instanceMethod yX3_has) := ⟨zt3 (List.mem_of_getElem? (i := 228) rfl), Or.inl rfl⟩
theorem wt_769_0 : gW (.selects RX3 yX3_has yX3_has) := ⟨zt3 (List.mem_of_getElem? (i := 229) rfl), Or.inl rfl⟩
theorem wt_770_0 : gW (.code yX3_has cX3_has 2 (some .boolean)) := ⟨zt3 (List.mem_of_getElem? (i := 230) rfl), Or.inl rfl⟩
theorem wt_771_0 : gW (.methodLink RX10 239 yX3_put) := ⟨zt3 (List.mem_of_getElem? (i := 231) rfl), Or.inl rfl⟩
theorem wt_772_0 : gW (.instanceMethod yX3_put) := ⟨zt3 (List.mem_of_getElem? (i := 232) rfl), Or.inl rfl⟩
theorem wt_773_0 : gW (.selects RX3 yX3_put yX3_put) := ⟨zt3 (List.mem_of_getElem? (i := 233) rfl), Or.inl rfl⟩
theorem wt_774_0 : gW (.code yX3_put cX3_put 4 (some .int)) := ⟨zt3 (List.mem_of_getElem? (i := 234) rfl), Or.inl rfl⟩
theorem wt_775_0 : gW (.methodLink RL 118 yX10_tell) := ⟨zt3 (List.mem_of_getElem? (i := 235) rfl), Or.inl rfl⟩
theorem wt_776_0 : gW (.instanceMethod yX10_tell) := ⟨zt3 (List.mem_of_getElem? (i := 236) rfl), Or.inl rfl⟩
theorem wt_777_0 : gW (.selects RX10 yX10_tell yX10_tell) := ⟨zt3 (List.mem_of_getElem? (i := 237) rfl), Or.inl rfl⟩
theorem wt_778_0 : gW (.code yX10_tell cX10_tell 4 (some .int)) := ⟨zt3 (List.mem_of_getElem? (i := 238) rfl), Or.inl rfl⟩
theorem wt_779_0 : gW (.methodLink RX10 242 yX3_hasEdge) := ⟨zt3 (List.mem_of_getElem? (i := 239) rfl), Or.inl rfl⟩
theorem wt_780_0 : gW (.instanceMethod yX3_hasEdge) := ⟨zt4 (List.mem_of_getElem? (i := 0) rfl), Or.inl rfl⟩
theorem wt_781_0 : gW (.selects RX3 yX3_hasEdge yX3_hasEdge) := ⟨zt4 (List.mem_of_getElem? (i := 1) rfl), Or.inl rfl⟩
theorem wt_782_0 : gW (.code yX3_hasEdge cX3_hasEdge 2 (some .boolean)) := ⟨zt4 (List.mem_of_getElem? (i := 2) rfl), Or.inl rfl⟩
theorem wt_783_0 : gW (.methodLink RL 122 yX10_between) := ⟨zt4 (List.mem_of_getElem? (i := 3) rfl), Or.inl rfl⟩
theorem wt_784_0 : gW (.instanceMethod yX10_between) := ⟨zt4 (List.mem_of_getElem? (i := 4) rfl), Or.inl rfl⟩
theorem wt_785_0 : gW (.selects RX10 yX10_between yX10_between) := ⟨zt4 (List.mem_of_getElem? (i := 5) rfl), Or.inl rfl⟩
theorem wt_786_0 : gW (.code yX10_between cX10_between 4 (some .long)) := ⟨zt4 (List.mem_of_getElem? (i := 6) rfl), Or.inl rfl⟩
theorem wt_787_0 : gW (.methodLink RX10 246 yX3_measure) := ⟨zt4 (List.mem_of_getElem? (i := 7) rfl), Or.inl rfl⟩
theorem wt_788_0 : gW (.instanceMethod yX3_measure) := ⟨zt4 (List.mem_of_getElem? (i := 8) rfl), Or.inl rfl⟩
theorem wt_789_0 : gW (.selects RX3 yX3_measure yX3_measure) := ⟨zt4 (List.mem_of_getElem? (i := 9) rfl), Or.inl rfl⟩
theorem wt_790_0 : gW (.code yX3_measure cX3_measure 4 none) := ⟨zt4 (List.mem_of_getElem? (i := 10) rfl), Or.inl rfl⟩
theorem wt_791_0 : gW (.methodLink RX3 49 yX1_become) := ⟨zt4 (List.mem_of_getElem? (i := 11) rfl), Or.inl rfl⟩
theorem wt_792_0 : gW (.methodLink RX3 53 yX3_isWay) := ⟨zt4 (List.mem_of_getElem? (i := 12) rfl), Or.inl rfl⟩
theorem wt_793_0 : gW (.instanceMethod yX3_isWay) := ⟨zt4 (List.mem_of_getElem? (i := 13) rfl), Or.inl rfl⟩
theorem wt_794_0 : gW (.selects RX3 yX3_isWay yX3_isWay) := ⟨zt4 (List.mem_of_getElem? (i := 14) rfl), Or.inl rfl⟩
theorem wt_795_0 : gW (.code yX3_isWay cX3_isWay 4 (some .boolean)) := ⟨zt4 (List.mem_of_getElem? (i := 15) rfl), Or.inl rfl⟩
theorem wt_796_0 : gW (.methodLink RX3 41 yX3_closedEdges) := ⟨zt4 (List.mem_of_getElem? (i := 16) rfl), Or.inl rfl⟩
theorem wt_797_0 : gW (.instanceMethod yX3_closedEdges) := ⟨zt4 (List.mem_of_getElem? (i := 17) rfl), Or.inl rfl⟩
theorem wt_798_0 : gW (.selects RX3 yX3_closedEdges yX3_closedEdges) := ⟨zt4 (List.mem_of_getElem? (i := 18) rfl), Or.inl rfl⟩
theorem wt_799_0 : gW (.code yX3_closedEdges cX3_closedEdges 4 (some .int)) := ⟨zt4 (List.mem_of_getElem? (i := 19) rfl), Or.inl rfl⟩
theorem wt_800_0 : gW (.methodLink RX3 45 yX3_pointsFrom) := ⟨zt4 (List.mem_of_getElem? (i := 20) rfl), Or.inl rfl⟩
theorem wt_801_0 : gW (.instanceMethod yX3_pointsFrom) := ⟨zt4 (List.mem_of_getElem? (i := 21) rfl), Or.inl rfl⟩
theorem wt_802_0 : gW (.selects RX3 yX3_pointsFrom yX3_pointsFrom) := ⟨zt4 (List.mem_of_getElem? (i := 22) rfl), Or.inl rfl⟩
theorem wt_803_0 : gW (.code yX3_pointsFrom cX3_pointsFrom 7 (some .int)) := ⟨zt4 (List.mem_of_getElem? (i := 23) rfl), Or.inl rfl⟩
theorem wt_804_0 : gW (.methodLink RX3 57 yX3_measureWay) := ⟨zt4 (List.mem_of_getElem? (i := 24) rfl), Or.inl rfl⟩
theorem wt_806_0 : gW (.instanceMethod yX3_measureWay) := ⟨zt4 (List.mem_of_getElem? (i := 26) rfl), Or.inl rfl⟩
theorem wt_807_0 : gW (.code yX3_measureWay cX3_measureWay 14 none) := ⟨zt4 (List.mem_of_getElem? (i := 27) rfl), Or.inl rfl⟩
theorem wt_808_0 : gW (.methodLink RX3 61 yX3_edgesOn) := ⟨zt4 (List.mem_of_getElem? (i := 28) rfl), Or.inl rfl⟩
theorem wt_810_0 : gW (.instanceMethod yX3_edgesOn) := ⟨zt4 (List.mem_of_getElem? (i := 30) rfl), Or.inl rfl⟩
theorem wt_811_0 : gW (.code yX3_edgesOn cX3_edgesOn 5 (some .int)) := ⟨zt4 (List.mem_of_getElem? (i := 31) rfl), Or.inl rfl⟩
theorem wt_812_0 : gW (.methodLink RX3 64 yJ6_bitCount_0f7a4) := ⟨zt4 (List.mem_of_getElem? (i := 32) rfl), Or.inl rfl⟩
theorem wt_813_0 : gW (.static yJ6_bitCount_0f7a4) := ⟨zt4 (List.mem_of_getElem? (i := 33) rfl), Or.inl rfl⟩
theorem wt_814_0 : gW (.code yJ6_bitCount_0f7a4 cJ6_bitCount_0f7a4 1 (some .int)) := ⟨zt4 (List.mem_of_getElem? (i := 34) rfl), Or.inl rfl⟩
theorem wt_815_0 : gW (.constant RJ6 265 (1431655765)) := ⟨zt4 (List.mem_of_getElem? (i := 35) rfl), Or.inl rfl⟩
theorem wt_816_0 : gW (.constant RJ6 266 (858993459)) := ⟨zt4 (List.mem_of_getElem? (i := 36) rfl), Or.inl rfl⟩
theorem wt_817_0 : gW (.constant RJ6 267 (252645135)) := ⟨zt4 (List.mem_of_getElem? (i := 37) rfl), Or.inl rfl⟩
theorem wt_818_0 : gW (.methodLink RX3 69 yX3_isForest) := ⟨zt4 (List.mem_of_getElem? (i := 38) rfl), Or.inl rfl⟩
theorem wt_820_0 : gW (.instanceMethod yX3_isForest) := ⟨zt4 (List.mem_of_getElem? (i := 40) rfl), Or.inl rfl⟩
theorem wt_821_0 : gW (.code yX3_isForest cX3_isForest 5 (some .boolean)) := ⟨zt4 (List.mem_of_getElem? (i := 41) rfl), Or.inl rfl⟩
theorem wt_822_0 : gW (.methodLink RX3 77 yX3_hang) := ⟨zt4 (List.mem_of_getElem? (i := 42) rfl), Or.inl rfl⟩
theorem wt_824_0 : gW (.instanceMethod yX3_hang) := ⟨zt4 (List.mem_of_getElem? (i := 44) rfl), Or.inl rfl⟩
theorem wt_825_0 : gW (.code yX3_hang cX3_hang 4 none) := ⟨zt4 (List.mem_of_getElem? (i := 45) rfl), Or.inl rfl⟩
theorem wt_826_0 : gW (.methodLink RX3 73 yX3_ohmsOf) := ⟨zt4 (List.mem_of_getElem? (i := 46) rfl), Or.inl rfl⟩
theorem wt_828_0 : gW (.instanceMethod yX3_ohmsOf) := ⟨zt4 (List.mem_of_getElem? (i := 48) rfl), Or.inl rfl⟩
theorem wt_829_0 : gW (.code yX3_ohmsOf cX3_ohmsOf 5 (some .long)) := ⟨zt4 (List.mem_of_getElem? (i := 49) rfl), Or.inl rfl⟩
theorem wt_830_0 : gW (.methodLink RL 126 yX10_without) := ⟨zt4 (List.mem_of_getElem? (i := 50) rfl), Or.inl rfl⟩
theorem wt_831_0 : gW (.instanceMethod yX10_without) := ⟨zt4 (List.mem_of_getElem? (i := 51) rfl), Or.inl rfl⟩
theorem wt_832_0 : gW (.selects RX10 yX10_without yX10_without) := ⟨zt4 (List.mem_of_getElem? (i := 52) rfl), Or.inl rfl⟩
theorem wt_833_0 : gW (.code yX10_without cX10_without 5 (some .long)) := ⟨zt4 (List.mem_of_getElem? (i := 53) rfl), Or.inl rfl⟩
theorem wt_834_0 : gW (.methodLink RL 130 yX10_dearest) := ⟨zt4 (List.mem_of_getElem? (i := 54) rfl), Or.inl rfl⟩
theorem wt_835_0 : gW (.instanceMethod yX10_dearest) := ⟨zt4 (List.mem_of_getElem? (i := 55) rfl), Or.inl rfl⟩
theorem wt_836_0 : gW (.selects RX10 yX10_dearest yX10_dearest) := ⟨zt4 (List.mem_of_getElem? (i := 56) rfl), Or.inl rfl⟩
theorem wt_837_0 : gW (.code yX10_dearest cX10_dearest 3 (some .int)) := ⟨zt4 (List.mem_of_getElem? (i := 57) rfl), Or.inl rfl⟩
theorem wt_838_0 : gW (.methodLink RX10 250 yX3_dearestEdge) := ⟨zt4 (List.mem_of_getElem? (i := 58) rfl), Or.inl rfl⟩
theorem wt_839_0 : gW (.instanceMethod yX3_dearestEdge) := ⟨zt4 (List.mem_of_getElem? (i := 59) rfl), Or.inl rfl⟩
theorem wt_840_0 : gW (.selects RX3 yX3_dearestEdge yX3_dearestEdge) := ⟨zt4 (List.mem_of_getElem? (i := 60) rfl), Or.inl rfl⟩
theorem wt_841_0 : gW (.code yX3_dearestEdge cX3_dearestEdge 5 (some .int)) := ⟨zt4 (List.mem_of_getElem? (i := 61) rfl), Or.inl rfl⟩
theorem wt_842_0 : gW (.methodLink RX3 81 yX3_measure) := ⟨zt4 (List.mem_of_getElem? (i := 62) rfl), Or.inl rfl⟩
theorem wt_843_0 : gW (.methodLink RX3 84 yX1_against) := ⟨zt4 (List.mem_of_getElem? (i := 63) rfl), Or.inl rfl⟩
theorem wt_844_0 : gW (.methodLink RX3 88 yX1_copy) := ⟨zt4 (List.mem_of_getElem? (i := 64) rfl), Or.inl rfl⟩
theorem wt_845_0 : gW (.methodLink RL 134 yX10_bridges) := ⟨zt4 (List.mem_of_getElem? (i := 65) rfl), Or.inl rfl⟩
theorem wt_846_0 : gW (.instanceMethod yX10_bridges) := ⟨zt4 (List.mem_of_getElem? (i := 66) rfl), Or.inl rfl⟩
theorem wt_847_0 : gW (.selects RX10 yX10_bridges yX10_bridges) := ⟨zt4 (List.mem_of_getElem? (i := 67) rfl), Or.inl rfl⟩
theorem wt_848_0 : gW (.code yX10_bridges cX10_bridges 3 (some .int)) := ⟨zt4 (List.mem_of_getElem? (i := 68) rfl), Or.inl rfl⟩
theorem wt_849_0 : gW (.methodLink RX10 253 yX3_isWay) := ⟨zt4 (List.mem_of_getElem? (i := 69) rfl), Or.inl rfl⟩
theorem wt_850_0 : gW (.methodLink RX10 256 yX3_bridgesOf) := ⟨zt4 (List.mem_of_getElem? (i := 70) rfl), Or.inl rfl⟩
theorem wt_851_0 : gW (.instanceMethod yX3_bridgesOf) := ⟨zt4 (List.mem_of_getElem? (i := 71) rfl), Or.inl rfl⟩
theorem wt_852_0 : gW (.selects RX3 yX3_bridgesOf yX3_bridgesOf) := ⟨zt4 (List.mem_of_getElem? (i := 72) rfl), Or.inl rfl⟩
theorem wt_853_0 : gW (.code yX3_bridgesOf cX3_bridgesOf 5 (some .int)) := ⟨zt4 (List.mem_of_getElem? (i := 73) rfl), Or.inl rfl⟩
theorem wt_854_0 : gW (.methodLink RL 138 yX10_ways) := ⟨zt4 (List.mem_of_getElem? (i := 74) rfl), Or.inl rfl⟩
theorem wt_855_0 : gW (.instanceMethod yX10_ways) := ⟨zt4 (List.mem_of_getElem? (i := 75) rfl), Or.inl rfl⟩
theorem wt_856_0 : gW (.selects RX10 yX10_ways yX10_ways) := ⟨zt4 (List.mem_of_getElem? (i := 76) rfl), Or.inl rfl⟩
theorem wt_857_0 : gW (.code yX10_ways cX10_ways 2 (some .int)) := ⟨zt4 (List.mem_of_getElem? (i := 77) rfl), Or.inl rfl⟩
theorem wt_858_0 : gW (.methodLink RX10 259 yX3_closedEdges) := ⟨zt4 (List.mem_of_getElem? (i := 78) rfl), Or.inl rfl⟩
theorem wt_859_0 : gW (.methodLink RX10 262 yX3_pointsFrom) := ⟨zt4 (List.mem_of_getElem? (i := 79) rfl), Or.inl rfl⟩
theorem wt_860_0 : gW (.methodLink RL 142 yX10_tray) := ⟨zt4 (List.mem_of_getElem? (i := 80) rfl), Or.inl rfl⟩
theorem wt_861_0 : gW (.instanceMethod yX10_tray) := ⟨zt4 (List.mem_of_getElem? (i := 81) rfl), Or.inl rfl⟩
theorem wt_862_0 : gW (.selects RX10 yX10_tray yX10_tray) := ⟨zt4 (List.mem_of_getElem? (i := 82) rfl), Or.inl rfl⟩
theorem wt_863_0 : gW (.code yX10_tray cX10_tray 4 (some .int)) := ⟨zt4 (List.mem_of_getElem? (i := 83) rfl), Or.inl rfl⟩
theorem wt_864_0 : gW (.methodLink RX10 265 yX10_isTray) := ⟨zt4 (List.mem_of_getElem? (i := 84) rfl), Or.inl rfl⟩
theorem wt_865_0 : gW (.static yX10_isTray) := ⟨zt4 (List.mem_of_getElem? (i := 85) rfl), Or.inl rfl⟩
theorem wt_866_0 : gW (.code yX10_isTray cX10_isTray 1 (some .boolean)) := ⟨zt4 (List.mem_of_getElem? (i := 86) rfl), Or.inl rfl⟩
theorem wt_867_0 : gW (.methodLink RX10 268 yX9_become) := ⟨zt4 (List.mem_of_getElem? (i := 87) rfl), Or.inl rfl⟩
theorem wt_868_0 : gW (.instanceMethod yX9_become) := ⟨zt4 (List.mem_of_getElem? (i := 88) rfl), Or.inl rfl⟩
theorem wt_869_0 : gW (.selects RX9 yX9_become yX9_become) := ⟨zt4 (List.mem_of_getElem? (i := 89) rfl), Or.inl rfl⟩
theorem wt_870_0 : gW (.code yX9_become cX9_become 3 none) := ⟨zt4 (List.mem_of_getElem? (i := 90) rfl), Or.inl rfl⟩
theorem wt_871_0 : gW (.methodLink RX9 22 yJ7_fill_53178) := ⟨zt4 (List.mem_of_getElem? (i := 91) rfl), Or.inl rfl⟩
theorem wt_872_0 : gW (.methodLink RL 146 yX10_lay) := ⟨zt4 (List.mem_of_getElem? (i := 92) rfl), Or.inl rfl⟩
theorem wt_873_0 : gW (.instanceMethod yX10_lay) := ⟨zt4 (List.mem_of_getElem? (i := 93) rfl), Or.inl rfl⟩
theorem wt_874_0 : gW (.selects RX10 yX10_lay yX10_lay) := ⟨zt4 (List.mem_of_getElem? (i := 94) rfl), Or.inl rfl⟩
theorem wt_875_0 : gW (.code yX10_lay cX10_lay 5 (some .int)) := ⟨zt4 (List.mem_of_getElem? (i := 95) rfl), Or.inl rfl⟩
theorem wt_876_0 : gW (.methodLink RX10 272 yX9_isMissing) := ⟨zt4 (List.mem_of_getElem? (i := 96) rfl), Or.inl rfl⟩
theorem wt_877_0 : gW (.instanceMethod yX9_isMissing) := ⟨zt4 (List.mem_of_getElem? (i := 97) rfl), Or.inl rfl⟩
theorem wt_878_0 : gW (.selects RX9 yX9_isMissing yX9_isMissing) := ⟨zt4 (List.mem_of_getElem? (i := 98) rfl), Or.inl rfl⟩
theorem wt_879_0 : gW (.code yX9_isMissing cX9_isMissing 1 (some .boolean)) := ⟨zt4 (List.mem_of_getElem? (i := 99) rfl), Or.inl rfl⟩
theorem wt_880_0 : gW (.methodLink RX10 276 yX9_hasPlace) := ⟨zt4 (List.mem_of_getElem? (i := 100) rfl), Or.inl rfl⟩
theorem wt_881_0 : gW (.instanceMethod yX9_hasPlace) := ⟨zt4 (List.mem_of_getElem? (i := 101) rfl), Or.inl rfl⟩
theorem wt_882_0 : gW (.selects RX9 yX9_hasPlace yX9_hasPlace) := ⟨zt4 (List.mem_of_getElem? (i := 102) rfl), Or.inl rfl⟩
theorem wt_883_0 : gW (.code yX9_hasPlace cX9_hasPlace 2 (some .boolean)) := ⟨zt4 (List.mem_of_getElem? (i := 103) rfl), Or.inl rfl⟩
theorem wt_884_0 : gW (.methodLink RX10 279 yX9_fits) := ⟨zt4 (List.mem_of_getElem? (i := 104) rfl), Or.inl rfl⟩
theorem wt_885_0 : gW (.instanceMethod yX9_fits) := ⟨zt4 (List.mem_of_getElem? (i := 105) rfl), Or.inl rfl⟩
theorem wt_886_0 : gW (.selects RX9 yX9_fits yX9_fits) := ⟨zt4 (List.mem_of_getElem? (i := 106) rfl), Or.inl rfl⟩
theorem wt_887_0 : gW (.code yX9_fits cX9_fits 3 (some .boolean)) := ⟨zt4 (List.mem_of_getElem? (i := 107) rfl), Or.inl rfl⟩
theorem wt_888_0 : gW (.methodLink RX9 28 yX5_has) := ⟨zt4 (List.mem_of_getElem? (i := 108) rfl), Or.inl rfl⟩
theorem wt_889_0 : gW (.methodLink RL 150 yX10_at) := ⟨zt4 (List.mem_of_getElem? (i := 109) rfl), Or.inl rfl⟩
theorem wt_890_0 : gW (.instanceMethod yX10_at) := ⟨zt4 (List.mem_of_getElem? (i := 110) rfl), Or.inl rfl⟩
theorem wt_891_0 : gW (.selects RX10 yX10_at yX10_at) := ⟨zt4 (List.mem_of_getElem? (i := 111) rfl), Or.inl rfl⟩
theorem wt_892_0 : gW (.code yX10_at cX10_at 4 (some .int)) := ⟨zt4 (List.mem_of_getElem? (i := 112) rfl), Or.inl rfl⟩
theorem wt_893_0 : gW (.methodLink RL 154 yX10_shift) := ⟨zt4 (List.mem_of_getElem? (i := 113) rfl), Or.inl rfl⟩
theorem wt_894_0 : gW (.instanceMethod yX10_shift) := ⟨zt4 (List.mem_of_getElem? (i := 114) rfl), Or.inl rfl⟩
theorem wt_895_0 : gW (.selects RX10 yX10_shift yX10_shift) := ⟨zt4 (List.mem_of_getElem? (i := 115) rfl), Or.inl rfl⟩
theorem wt_896_0 : gW (.code yX10_shift cX10_shift 9 (some .int)) := ⟨zt4 (List.mem_of_getElem? (i := 116) rfl), Or.inl rfl⟩
theorem wt_897_0 : gW (.methodLink RX10 286 yX9_hasStretch) := ⟨zt4 (List.mem_of_getElem? (i := 117) rfl), Or.inl rfl⟩
theorem wt_898_0 : gW (.instanceMethod yX9_hasStretch) := ⟨zt4 (List.mem_of_getElem? (i := 118) rfl), Or.inl rfl⟩
theorem wt_899_0 : gW (.selects RX9 yX9_hasStretch yX9_hasStretch) := ⟨zt4 (List.mem_of_getElem? (i := 119) rfl), Or.inl rfl⟩
theorem wt_900_0 : gW (.code yX9_hasStretch cX9_hasStretch 3 (some .boolean)) := ⟨zt4 (List.mem_of_getElem? (i := 120) rfl), Or.inl rfl⟩
theorem wt_901_0 : gW (.methodLink RX10 289 arraycopyName) := ⟨zt4 (List.mem_of_getElem? (i := 121) rfl), Or.inl rfl⟩
theorem wt_902_0 : gW (.methodLink RL 159 yX10_image) := ⟨zt4 (List.mem_of_getElem? (i := 122) rfl), Or.inl rfl⟩
theorem wt_903_0 : gW (.instanceMethod yX10_image) := ⟨zt4 (List.mem_of_getElem? (i := 123) rfl), Or.inl rfl⟩
theorem wt_904_0 : gW (.selects RX10 yX10_image yX10_image) := ⟨zt4 (List.mem_of_getElem? (i := 124) rfl), Or.inl rfl⟩
theorem wt_905_0 : gW (.code yX10_image cX10_image 1 (some .int)) := ⟨zt4 (List.mem_of_getElem? (i := 125) rfl), Or.inl rfl⟩
theorem wt_906_0 : gW (.methodLink RX10 295 yX2_take) := ⟨zt4 (List.mem_of_getElem? (i := 126) rfl), Or.inl rfl⟩
theorem wt_907_0 : gW (.instanceMethod yX2_take) := ⟨zt4 (List.mem_of_getElem? (i := 127) rfl), Or.inl rfl⟩
theorem wt_908_0 : gW (.selects RX2 yX2_take yX2_take) := ⟨zt4 (List.mem_of_getElem? (i := 128) rfl), Or.inl rfl⟩
theorem wt_909_0 : gW (.code yX2_take cX2_take 6 none) := ⟨zt4 (List.mem_of_getElem? (i := 129) rfl), Or.inl rfl⟩
theorem wt_910_0 : gW (.methodLink RX2 39 yX0_copy) := ⟨zt4 (List.mem_of_getElem? (i := 130) rfl), Or.inl rfl⟩
theorem wt_911_0 : gW (.instanceMethod yX0_copy) := ⟨zt4 (List.mem_of_getElem? (i := 131) rfl), Or.inl rfl⟩
theorem wt_912_0 : gW (.selects RX0 yX0_copy yX0_copy) := ⟨zt4 (List.mem_of_getElem? (i := 132) rfl), Or.inl rfl⟩
theorem wt_913_0 : gW (.code yX0_copy cX0_copy 2 none) := ⟨zt4 (List.mem_of_getElem? (i := 133) rfl), Or.inl rfl⟩
theorem wt_914_0 : gW (.methodLink RX0 22 arraycopyName) := ⟨zt4 (List.mem_of_getElem? (i := 134) rfl), Or.inl rfl⟩
theorem wt_915_0 : gW (.methodLink RX2 43 yX5_copy) := ⟨zt4 (List.mem_of_getElem? (i := 135) rfl), Or.inl rfl⟩
theorem wt_916_0 : gW (.instanceMethod yX5_copy) := ⟨zt4 (List.mem_of_getElem? (i := 136) rfl), Or.inl rfl⟩
theorem wt_917_0 : gW (.selects RX5 yX5_copy yX5_copy) := ⟨zt4 (List.mem_of_getElem? (i := 137) rfl), Or.inl rfl⟩
theorem wt_918_0 : gW (.code yX5_copy cX5_copy 2 none) := ⟨zt4 (List.mem_of_getElem? (i := 138) rfl), Or.inl rfl⟩
theorem wt_919_0 : gW (.methodLink RX5 75 arraycopyName) := ⟨zt4 (List.mem_of_getElem? (i := 139) rfl), Or.inl rfl⟩
theorem wt_920_0 : gW (.methodLink RX2 46 yX3_copy) := ⟨zt4 (List.mem_of_getElem? (i := 140) rfl), Or.inl rfl⟩
theorem wt_921_0 : gW (.instanceMethod yX3_copy) := ⟨zt4 (List.mem_of_getElem? (i := 141) rfl), Or.inl rfl⟩
theorem wt_922_0 : gW (.selects RX3 yX3_copy yX3_copy) := ⟨zt4 (List.mem_of_getElem? (i := 142) rfl), Or.inl rfl⟩
theorem wt_923_0 : gW (.code yX3_copy cX3_copy 2 none) := ⟨zt4 (List.mem_of_getElem? (i := 143) rfl), Or.inl rfl⟩
theorem wt_924_0 : gW (.methodLink RX3 92 arraycopyName) := ⟨zt4 (List.mem_of_getElem? (i := 144) rfl), Or.inl rfl⟩
theorem wt_925_0 : gW (.methodLink RX2 49 yX9_copy) := ⟨zt4 (List.mem_of_getElem? (i := 145) rfl), Or.inl rfl⟩
theorem wt_926_0 : gW (.instanceMethod yX9_copy) := ⟨zt4 (List.mem_of_getElem? (i := 146) rfl), Or.inl rfl⟩
theorem wt_927_0 : gW (.selects RX9 yX9_copy yX9_copy) := ⟨zt4 (List.mem_of_getElem? (i := 147) rfl), Or.inl rfl⟩
theorem wt_928_0 : gW (.code yX9_copy cX9_copy 2 none) := ⟨zt4 (List.mem_of_getElem? (i := 148) rfl), Or.inl rfl⟩
theorem wt_929_0 : gW (.methodLink RX9 36 arraycopyName) := ⟨zt4 (List.mem_of_getElem? (i := 149) rfl), Or.inl rfl⟩
theorem wt_930_0 : gW (.methodLink RL 163 yX10_back) := ⟨zt4 (List.mem_of_getElem? (i := 150) rfl), Or.inl rfl⟩
theorem wt_931_0 : gW (.instanceMethod yX10_back) := ⟨zt4 (List.mem_of_getElem? (i := 151) rfl), Or.inl rfl⟩
theorem wt_932_0 : gW (.selects RX10 yX10_back yX10_back) := ⟨zt4 (List.mem_of_getElem? (i := 152) rfl), Or.inl rfl⟩
theorem wt_933_0 : gW (.code yX10_back cX10_back 1 (some .int)) := ⟨zt4 (List.mem_of_getElem? (i := 153) rfl), Or.inl rfl⟩
theorem wt_934_0 : gW (.methodLink RX10 305 yX2_give) := ⟨zt4 (List.mem_of_getElem? (i := 154) rfl), Or.inl rfl⟩
theorem wt_935_0 : gW (.instanceMethod yX2_give) := ⟨zt4 (List.mem_of_getElem? (i := 155) rfl), Or.inl rfl⟩
theorem wt_936_0 : gW (.selects RX2 yX2_give yX2_give) := ⟨zt4 (List.mem_of_getElem? (i := 156) rfl), Or.inl rfl⟩
theorem wt_937_0 : gW (.code yX2_give cX2_give 6 none) := ⟨zt4 (List.mem_of_getElem? (i := 157) rfl), Or.inl rfl⟩
theorem wt_938_0 : gW (.methodLink RL 167 yX10_count) := ⟨zt4 (List.mem_of_getElem? (i := 158) rfl), Or.inl rfl⟩
theorem wt_939_0 : gW (.instanceMethod yX10_count) := ⟨zt4 (List.mem_of_getElem? (i := 159) rfl), Or.inl rfl⟩
theorem wt_940_0 : gW (.selects RX10 yX10_count yX10_count) := ⟨zt4 (List.mem_of_getElem? (i := 160) rfl), Or.inl rfl⟩
theorem wt_941_0 : gW (.code yX10_count cX10_count 2 (some .int)) := ⟨zt4 (List.mem_of_getElem? (i := 161) rfl), Or.inl rfl⟩
theorem wt_942_0 : gW (.methodLink RX10 308 yX0_sortsThere) := ⟨zt4 (List.mem_of_getElem? (i := 162) rfl), Or.inl rfl⟩
theorem wt_943_0 : gW (.instanceMethod yX0_sortsThere) := ⟨zt4 (List.mem_of_getElem? (i := 163) rfl), Or.inl rfl⟩
theorem wt_944_0 : gW (.selects RX0 yX0_sortsThere yX0_sortsThere) := ⟨zt4 (List.mem_of_getElem? (i := 164) rfl), Or.inl rfl⟩
theorem wt_945_0 : gW (.code yX0_sortsThere cX0_sortsThere 3 (some .int)) := ⟨zt4 (List.mem_of_getElem? (i := 165) rfl), Or.inl rfl⟩
theorem wt_950_0 : gW (.code yX11_init cX11_init 2 none) := ⟨zt4 (List.mem_of_getElem? (i := 170) rfl), Or.inl rfl⟩
theorem wt_951_0 : gW (.methodLink RX11 3 objectInit) := ⟨zt4 (List.mem_of_getElem? (i := 171) rfl), Or.inl rfl⟩
theorem wt_952_0 : gW (.fieldLink RX11 9 "WishedResistorModel" "now" "[I") := ⟨zt4 (List.mem_of_getElem? (i := 172) rfl), Or.inl rfl⟩
theorem wt_953_0 : gW (.fieldLink RX11 15 "WishedResistorModel" "imaged" "[I") := ⟨zt4 (List.mem_of_getElem? (i := 173) rfl), Or.inl rfl⟩
theorem wt_954_0 : gW (.fieldLink RX11 323 "WishedResistorModel" "hasImage" "Z") := ⟨zt4 (List.mem_of_getElem? (i := 174) rfl), Or.inl rfl⟩
theorem wt_955_0 : gW (.fieldLink RX11 136 "WishedResistorModel" "above" "J") := ⟨zt4 (List.mem_of_getElem? (i := 175) rfl), Or.inl rfl⟩
theorem wt_956_0 : gW (.fieldLink RX11 140 "WishedResistorModel" "below" "J") := ⟨zt4 (List.mem_of_getElem? (i := 176) rfl), Or.inl rfl⟩
theorem wt_957_0 : gW (.fieldLink RX11 18 "WishedResistorModel" "valueUp" "[J") := ⟨zt4 (List.mem_of_getElem? (i := 177) rfl), Or.inl rfl⟩
theorem wt_958_0 : gW (.fieldLink RX11 22 "WishedResistorModel" "valueDown" "[J") := ⟨zt4 (List.mem_of_getElem? (i := 178) rfl), Or.inl rfl⟩
theorem wt_959_0 : gW (.fieldLink RX11 25 "WishedResistorModel" "real" "[D") := ⟨zt4 (List.mem_of_getElem? (i := 179) rfl), Or.inl rfl⟩
theorem wt_960_0 : gW (.fieldLink RX11 29 "WishedResistorModel" "brief" "[F") := ⟨zt4 (List.mem_of_getElem? (i := 180) rfl), Or.inl rfl⟩
theorem wt_961_0 : gW (.fieldLink RX11 33 "WishedResistorModel" "order" "[I") := ⟨zt4 (List.mem_of_getElem? (i := 181) rfl), Or.inl rfl⟩
theorem wt_962_0 : gW (.fieldLink RX11 182 "WishedResistorModel" "orderMany" "I") := ⟨zt4 (List.mem_of_getElem? (i := 182) rfl), Or.inl rfl⟩
theorem wt_963_0 : gW (.fieldLink RX11 36 "WishedResistorModel" "waits" "[I") := ⟨zt4 (List.mem_of_getElem? (i := 183) rfl), Or.inl rfl⟩
theorem wt_964_0 : gW (.fieldLink RX11 186 "WishedResistorModel" "waitMany" "I") := ⟨zt4 (List.mem_of_getElem? (i := 184) rfl), Or.inl rfl⟩
theorem wt_965_0 : gW (.fieldLink RX11 39 "WishedResistorModel" "floats" "[F") := ⟨zt4 (List.mem_of_getElem? (i := 185) rfl), Or.inl rfl⟩
theorem wt_966_0 : gW (.fieldLink RX11 189 "WishedResistorModel" "seed" "I") := ⟨zt4 (List.mem_of_getElem? (i := 186) rfl), Or.inl rfl⟩
theorem wt_967_0 : gW (.fieldLink RX11 42 "WishedResistorModel" "same" "[I") := ⟨zt4 (List.mem_of_getElem? (i := 187) rfl), Or.inl rfl⟩
theorem wt_968_0 : gW (.fieldLink RX11 45 "WishedResistorModel" "upOf" "[J") := ⟨zt4 (List.mem_of_getElem? (i := 188) rfl), Or.inl rfl⟩
theorem wt_969_0 : gW (.fieldLink RX11 48 "WishedResistorModel" "downOf" "[J") := ⟨zt4 (List.mem_of_getElem? (i := 189) rfl), Or.inl rfl⟩
theorem wt_970_0 : gW (.fieldLink RX11 51 "WishedResistorModel" "tape" "[I") := ⟨zt4 (List.mem_of_getElem? (i := 190) rfl), Or.inl rfl⟩
theorem wt_971_0 : gW (.fieldLink RX11 230 "WishedResistorModel" "size" "I") := ⟨zt4 (List.mem_of_getElem? (i := 191) rfl), Or.inl rfl⟩
theorem wt_972_0 : gW (.fieldLink RX11 54 "WishedResistorModel" "open" "[I") := ⟨zt4 (List.mem_of_getElem? (i := 192) rfl), Or.inl rfl⟩
theorem wt_973_0 : gW (.fieldLink RX11 233 "WishedResistorModel" "openMany" "I") := ⟨zt4 (List.mem_of_getElem? (i := 193) rfl), Or.inl rfl⟩
theorem wt_974_0 : gW (.fieldLink RX11 57 "WishedResistorModel" "made" "[I") := ⟨zt4 (List.mem_of_getElem? (i := 194) rfl), Or.inl rfl⟩
theorem wt_975_0 : gW (.fieldLink RX11 60 "WishedResistorModel" "paper" "[I") := ⟨zt4 (List.mem_of_getElem? (i := 195) rfl), Or.inl rfl⟩
theorem wt_976_0 : gW (.fieldLink RX11 247 "WishedResistorModel" "paperMany" "I") := ⟨zt4 (List.mem_of_getElem? (i := 196) rfl), Or.inl rfl⟩
theorem wt_977_0 : gW (.fieldLink RX11 63 "WishedResistorModel" "reachUp" "[J") := ⟨zt4 (List.mem_of_getElem? (i := 197) rfl), Or.inl rfl⟩
theorem wt_978_0 : gW (.fieldLink RX11 66 "WishedResistorModel" "reachDown" "[J") := ⟨zt4 (List.mem_of_getElem? (i := 198) rfl), Or.inl rfl⟩
theorem wt_979_0 : gW (.fieldLink RX11 69 "WishedResistorModel" "reachHow" "[I") := ⟨zt4 (List.mem_of_getElem? (i := 199) rfl), Or.inl rfl⟩
theorem wt_980_0 : gW (.fieldLink RX11 72 "WishedResistorModel" "reachFirst" "[I") := ⟨zt4 (List.mem_of_getElem? (i := 200) rfl), Or.inl rfl⟩
theorem wt_981_0 : gW (.fieldLink RX11 75 "WishedResistorModel" "reachSecond" "[I") := ⟨zt4 (List.mem_of_getElem? (i := 201) rfl), Or.inl rfl⟩
theorem wt_982_0 : gW (.fieldLink RX11 78 "WishedResistorModel" "begins" "[I") := ⟨zt4 (List.mem_of_getElem? (i := 202) rfl), Or.inl rfl⟩
theorem wt_983_0 : gW (.fieldLink RX11 256 "WishedResistorModel" "reachMany" "I") := ⟨zt4 (List.mem_of_getElem? (i := 203) rfl), Or.inl rfl⟩
theorem wt_984_0 : gW (.fieldLink RX11 81 "WishedResistorModel" "carried" "[I") := ⟨zt4 (List.mem_of_getElem? (i := 204) rfl), Or.inl rfl⟩
theorem wt_1052_0 : gW (.arrayClass .long) := ⟨zt5 (List.mem_of_getElem? (i := 32) rfl), Or.inr ⟨_, rfl⟩⟩
theorem wt_1053_0 : gW (.methodLink RL 17 yX11_sort) := ⟨zt5 (List.mem_of_getElem? (i := 33) rfl), Or.inl rfl⟩
theorem wt_1054_0 : gW (.instanceMethod yX11_sort) := ⟨zt5 (List.mem_of_getElem? (i := 34) rfl), Or.inl rfl⟩
theorem wt_1055_0 : gW (.selects RX11 yX11_sort yX11_sort) := ⟨zt5 (List.mem_of_getElem? (i := 35) rfl), Or.inl rfl⟩
theorem wt_1056_0 : gW (.code yX11_sort cX11_sort 5 (some .int)) := ⟨zt5 (List.mem_of_getElem? (i := 36) rfl), Or.inl rfl⟩
theorem wt_1057_0 : gW (.methodLink RX11 104 yX11_isSort) := ⟨zt5 (List.mem_of_getElem? (i := 37) rfl), Or.inl rfl⟩
theorem wt_1058_0 : gW (.static yX11_isSort) := ⟨zt5 (List.mem_of_getElem? (i := 38) rfl), Or.inl rfl⟩
theorem wt_1059_0 : gW (.code yX11_isSort cX11_isSort 1 (some .boolean)) := ⟨zt5 (List.mem_of_getElem? (i := 39) rfl), Or.inl rfl⟩
theorem wt_1060_0 : gW (.constantLong RX11 84 (3)) := ⟨zt5 (List.mem_of_getElem? (i := 40) rfl), Or.inl rfl⟩
theorem wt_1061_0 : gW (.methodLink RX11 86 yX11_in) := ⟨zt5 (List.mem_of_getElem? (i := 41) rfl), Or.inl rfl⟩
theorem wt_1062_0 : gW (.static yX11_in) := ⟨zt5 (List.mem_of_getElem? (i := 42) rfl), Or.inl rfl⟩
theorem wt_1063_0 : gW (.code yX11_in cX11_in 6 (some .boolean)) := ⟨zt5 (List.mem_of_getElem? (i := 43) rfl), Or.inl rfl⟩
theorem wt_1064_0 : gW (.constantLong RX11 108 (99)) := ⟨zt5 (List.mem_of_getElem? (i := 44) rfl), Or.inl rfl⟩
theorem wt_1065_0 : gW (.constantLong RX11 110 (50)) := ⟨zt5 (List.mem_of_getElem? (i := 45) rfl), Or.inl rfl⟩
theorem wt_1066_0 : gW (.methodLink RX11 100 yX11_found) := ⟨zt5 (List.mem_of_getElem? (i := 46) rfl), Or.inl rfl⟩
theorem wt_1068_0 : gW (.instanceMethod yX11_found) := ⟨zt5 (List.mem_of_getElem? (i := 48) rfl), Or.inl rfl⟩
theorem wt_1069_0 : gW (.code yX11_found cX11_found 5 (some .int)) := ⟨zt5 (List.mem_of_getElem? (i := 49) rfl), Or.inl rfl⟩
theorem wt_1070_0 : gW (.methodLink RX11 90 yX11_kindOf) := ⟨zt5 (List.mem_of_getElem? (i := 50) rfl), Or.inl rfl⟩
theorem wt_1072_0 : gW (.instanceMethod yX11_kindOf) := ⟨zt5 (List.mem_of_getElem? (i := 52) rfl), Or.inl rfl⟩
theorem wt_1073_0 : gW (.code yX11_kindOf cX11_kindOf 2 (some .int)) := ⟨zt5 (List.mem_of_getElem? (i := 53) rfl), Or.inl rfl⟩
theorem wt_1074_0 : gW (.methodLink RX11 94 yX11_firstOf) := ⟨zt5 (List.mem_of_getElem? (i := 54) rfl), Or.inl rfl⟩
theorem wt_1076_0 : gW (.instanceMethod yX11_firstOf) := ⟨zt5 (List.mem_of_getElem? (i := 56) rfl), Or.inl rfl⟩
theorem wt_1077_0 : gW (.code yX11_firstOf cX11_firstOf 2 (some .int)) := ⟨zt5 (List.mem_of_getElem? (i := 57) rfl), Or.inl rfl⟩
theorem wt_1078_0 : gW (.methodLink RX11 97 yX11_secondOf) := ⟨zt5 (List.mem_of_getElem? (i := 58) rfl), Or.inl rfl⟩
theorem wt_1080_0 : gW (.instanceMethod yX11_secondOf) := ⟨zt5 (List.mem_of_getElem? (i := 60) rfl), Or.inl rfl⟩
theorem wt_1081_0 : gW (.code yX11_secondOf cX11_secondOf 2 (some .int)) := ⟨zt5 (List.mem_of_getElem? (i := 61) rfl), Or.inl rfl⟩
theorem wt_1082_0 : gW (.methodLink RL 22 yX11_ofSort) := ⟨zt5 (List.mem_of_getElem? (i := 62) rfl), Or.inl rfl⟩
theorem wt_1083_0 : gW (.instanceMethod yX11_ofSort) := ⟨zt5 (List.mem_of_getElem? (i := 63) rfl), Or.inl rfl⟩
theorem wt_1084_0 : gW (.selects RX11 yX11_ofSort yX11_ofSort) := ⟨zt5 (List.mem_of_getElem? (i := 64) rfl), Or.inl rfl⟩
theorem wt_1085_0 : gW (.code yX11_ofSort cX11_ofSort 3 (some .int)) := ⟨zt5 (List.mem_of_getElem? (i := 65) rfl), Or.inl rfl⟩
theorem wt_1086_0 : gW (.constantLong RX11 112 (2)) := ⟨zt5 (List.mem_of_getElem? (i := 66) rfl), Or.inl rfl⟩
theorem wt_1087_0 : gW (.methodLink RL 27 yX11_part) := ⟨zt5 (List.mem_of_getElem? (i := 67) rfl), Or.inl rfl⟩
theorem wt_1088_0 : gW (.instanceMethod yX11_part) := ⟨zt5 (List.mem_of_getElem? (i := 68) rfl), Or.inl rfl⟩
theorem wt_1089_0 : gW (.selects RX11 yX11_part yX11_part) := ⟨zt5 (List.mem_of_getElem? (i := 69) rfl), Or.inl rfl⟩
theorem wt_1090_0 : gW (.code yX11_part cX11_part 2 (some .int)) := ⟨zt5 (List.mem_of_getElem? (i := 70) rfl), Or.inl rfl⟩
theorem wt_1091_0 : gW (.methodLink RX11 114 yX11_isThere) := ⟨zt5 (List.mem_of_getElem? (i := 71) rfl), Or.inl rfl⟩
theorem wt_1093_0 : gW (.instanceMethod yX11_isThere) := ⟨zt5 (List.mem_of_getElem? (i := 73) rfl), Or.inl rfl⟩
theorem wt_1094_0 : gW (.code yX11_isThere cX11_isThere 2 (some .boolean)) := ⟨zt5 (List.mem_of_getElem? (i := 74) rfl), Or.inl rfl⟩
theorem wt_1095_0 : gW (.methodLink RX11 117 yX11_kept) := ⟨zt5 (List.mem_of_getElem? (i := 75) rfl), Or.inl rfl⟩
theorem wt_1097_0 : gW (.instanceMethod yX11_kept) := ⟨zt5 (List.mem_of_getElem? (i := 77) rfl), Or.inl rfl⟩
theorem wt_1098_0 : gW (.code yX11_kept cX11_kept 6 (some .int)) := ⟨zt5 (List.mem_of_getElem? (i := 78) rfl), Or.inl rfl⟩
theorem wt_1099_0 : gW (.methodLink RL 31 yX11_join) := ⟨zt5 (List.mem_of_getElem? (i := 79) rfl), Or.inl rfl⟩
theorem wt_1100_0 : gW (.instanceMethod yX11_join) := ⟨zt5 (List.mem_of_getElem? (i := 80) rfl), Or.inl rfl⟩
theorem wt_1101_0 : gW (.selects RX11 yX11_join yX11_join) := ⟨zt5 (List.mem_of_getElem? (i := 81) rfl), Or.inl rfl⟩
theorem wt_1102_0 : gW (.code yX11_join cX11_join 5 (some .int)) := ⟨zt5 (List.mem_of_getElem? (i := 82) rfl), Or.inl rfl⟩
theorem wt_1103_0 : gW (.methodLink RX11 121 yX11_isNet) := ⟨zt5 (List.mem_of_getElem? (i := 83) rfl), Or.inl rfl⟩
theorem wt_1105_0 : gW (.instanceMethod yX11_isNet) := ⟨zt5 (List.mem_of_getElem? (i := 85) rfl), Or.inl rfl⟩
theorem wt_1106_0 : gW (.code yX11_isNet cX11_isNet 2 (some .boolean)) := ⟨zt5 (List.mem_of_getElem? (i := 86) rfl), Or.inl rfl⟩
theorem wt_1107_0 : gW (.methodLink RX11 124 yX11_partsOf) := ⟨zt5 (List.mem_of_getElem? (i := 87) rfl), Or.inl rfl⟩
theorem wt_1109_0 : gW (.instanceMethod yX11_partsOf) := ⟨zt5 (List.mem_of_getElem? (i := 89) rfl), Or.inl rfl⟩
theorem wt_1110_0 : gW (.code yX11_partsOf cX11_partsOf 2 (some .int)) := ⟨zt5 (List.mem_of_getElem? (i := 90) rfl), Or.inl rfl⟩
theorem wt_1111_0 : gW (.methodLink RL 35 yX11_net) := ⟨zt5 (List.mem_of_getElem? (i := 91) rfl), Or.inl rfl⟩
theorem wt_1112_0 : gW (.instanceMethod yX11_net) := ⟨zt5 (List.mem_of_getElem? (i := 92) rfl), Or.inl rfl⟩
theorem wt_1113_0 : gW (.selects RX11 yX11_net yX11_net) := ⟨zt5 (List.mem_of_getElem? (i := 93) rfl), Or.inl rfl⟩
theorem wt_1114_0 : gW (.code yX11_net cX11_net 3 (some .int)) := ⟨zt5 (List.mem_of_getElem? (i := 94) rfl), Or.inl rfl⟩
theorem wt_1115_0 : gW (.constantLong RX11 127 (4)) := ⟨zt5 (List.mem_of_getElem? (i := 95) rfl), Or.inl rfl⟩
theorem wt_1116_0 : gW (.methodLink RX11 129 yX11_usedBy) := ⟨zt5 (List.mem_of_getElem? (i := 96) rfl), Or.inl rfl⟩
theorem wt_1118_0 : gW (.instanceMethod yX11_usedBy) := ⟨zt5 (List.mem_of_getElem? (i := 98) rfl), Or.inl rfl⟩
theorem wt_1119_0 : gW (.code yX11_usedBy cX11_usedBy 4 (some .int)) := ⟨zt5 (List.mem_of_getElem? (i := 99) rfl), Or.inl rfl⟩
theorem wt_1120_0 : gW (.methodLink RL 40 yX11_value) := ⟨zt5 (List.mem_of_getElem? (i := 100) rfl), Or.inl rfl⟩
theorem wt_1121_0 : gW (.instanceMethod yX11_value) := ⟨zt5 (List.mem_of_getElem? (i := 101) rfl), Or.inl rfl⟩
theorem wt_1122_0 : gW (.selects RX11 yX11_value yX11_value) := ⟨zt5 (List.mem_of_getElem? (i := 102) rfl), Or.inl rfl⟩
theorem wt_1123_0 : gW (.code yX11_value cX11_value 3 (some .long)) := ⟨zt5 (List.mem_of_getElem? (i := 103) rfl), Or.inl rfl⟩
theorem wt_1124_0 : gW (.constantLong RX11 155 (-9223372036854775808)) := ⟨zt5 (List.mem_of_getElem? (i := 104) rfl), Or.inl rfl⟩
theorem wt_1125_0 : gW (.methodLink RX11 157 yX11_values) := ⟨zt5 (List.mem_of_getElem? (i := 105) rfl), Or.inl rfl⟩
theorem wt_1127_0 : gW (.instanceMethod yX11_values) := ⟨zt5 (List.mem_of_getElem? (i := 107) rfl), Or.inl rfl⟩
theorem wt_1128_0 : gW (.code yX11_values cX11_values 2 none) := ⟨zt5 (List.mem_of_getElem? (i := 108) rfl), Or.inl rfl⟩
theorem wt_1129_0 : gW (.methodLink RX11 147 yX11_becomes) := ⟨zt5 (List.mem_of_getElem? (i := 109) rfl), Or.inl rfl⟩
theorem wt_1131_0 : gW (.instanceMethod yX11_becomes) := ⟨zt5 (List.mem_of_getElem? (i := 111) rfl), Or.inl rfl⟩
theorem wt_1132_0 : gW (.code yX11_becomes cX11_becomes 7 none) := ⟨zt5 (List.mem_of_getElem? (i := 112) rfl), Or.inl rfl⟩
theorem wt_1133_0 : gW (.methodLink RX11 132 yX11_divisor) := ⟨zt5 (List.mem_of_getElem? (i := 113) rfl), Or.inl rfl⟩
theorem wt_1134_0 : gW (.static yX11_divisor) := ⟨zt5 (List.mem_of_getElem? (i := 114) rfl), Or.inl rfl⟩
theorem wt_1135_0 : gW (.code yX11_divisor cX11_divisor 10 (some .long)) := ⟨zt5 (List.mem_of_getElem? (i := 115) rfl), Or.inl rfl⟩
theorem wt_1136_0 : gW (.constantLong RX11 143 (1000000000)) := ⟨zt5 (List.mem_of_getElem? (i := 116) rfl), Or.inl rfl⟩
theorem wt_1137_0 : gW (.constantLong RX11 145 (-7)) := ⟨zt5 (List.mem_of_getElem? (i := 117) rfl), Or.inl rfl⟩
theorem wt_1138_0 : gW (.methodLink RX11 151 yX11_joined) := ⟨zt5 (List.mem_of_getElem? (i := 118) rfl), Or.inl rfl⟩
theorem wt_1140_0 : gW (.instanceMethod yX11_joined) := ⟨zt5 (List.mem_of_getElem? (i := 120) rfl), Or.inl rfl⟩
theorem wt_1141_0 : gW (.code yX11_joined cX11_joined 10 none) := ⟨zt5 (List.mem_of_getElem? (i := 121) rfl), Or.inl rfl⟩
theorem wt_1142_0 : gW (.methodLink RL 62 yX11_alike) := ⟨zt5 (List.mem_of_getElem? (i := 122) rfl), Or.inl rfl⟩
theorem wt_1143_0 : gW (.instanceMethod yX11_alike) := ⟨zt5 (List.mem_of_getElem? (i := 123) rfl), Or.inl rfl⟩
theorem wt_1144_0 : gW (.selects RX11 yX11_alike yX11_alike) := ⟨zt5 (List.mem_of_getElem? (i := 124) rfl), Or.inl rfl⟩
theorem wt_1145_0 : gW (.code yX11_alike cX11_alike 3 (some .int)) := ⟨zt5 (List.mem_of_getElem? (i := 125) rfl), Or.inl rfl⟩
theorem wt_1146_0 : gW (.methodLink RL 44 yX11_ends) := ⟨zt5 (List.mem_of_getElem? (i := 126) rfl), Or.inl rfl⟩
theorem wt_1147_0 : gW (.instanceMethod yX11_ends) := ⟨zt5 (List.mem_of_getElem? (i := 127) rfl), Or.inl rfl⟩
theorem wt_1148_0 : gW (.selects RX11 yX11_ends yX11_ends) := ⟨zt5 (List.mem_of_getElem? (i := 128) rfl), Or.inl rfl⟩
theorem wt_1149_0 : gW (.code yX11_ends cX11_ends 8 (some .long)) := ⟨zt5 (List.mem_of_getElem? (i := 129) rfl), Or.inl rfl⟩
theorem wt_1150_0 : gW (.methodLink RX11 162 yX11_endOf) := ⟨zt5 (List.mem_of_getElem? (i := 130) rfl), Or.inl rfl⟩
theorem wt_1152_0 : gW (.instanceMethod yX11_endOf) := ⟨zt5 (List.mem_of_getElem? (i := 132) rfl), Or.inl rfl⟩
theorem wt_1153_0 : gW (.code yX11_endOf cX11_endOf 5 (some .double)) := ⟨zt5 (List.mem_of_getElem? (i := 133) rfl), Or.inl rfl⟩
theorem wt_1154_0 : gW (.constantDouble RX11 160 (4636737291354636288)) := ⟨zt5 (List.mem_of_getElem? (i := 134) rfl), Or.inl rfl⟩
theorem wt_1155_0 : gW (.methodLink RX11 166 yJxe99ae_doubleToLongBits_ccdee) := ⟨zt5 (List.mem_of_getElem? (i := 135) rfl), Or.inl rfl⟩
theorem wt_1156_0 : gW (.static yJxe99ae_doubleToLongBits_ccdee) := ⟨zt5 (List.mem_of_getElem? (i := 136) rfl), Or.inl rfl⟩
theorem wt_1157_0 : gW (.code yJxe99ae_doubleToLongBits_ccdee cJxe99ae_doubleToLongBits_ccdee 2 (some .long)) := ⟨zt5 (List.mem_of_getElem? (i := 137) rfl), Or.inl rfl⟩
theorem wt_1158_0 : gW (.methodLink RJxe99ae 122 yJxe99ae_isNaN_b9ae7) := ⟨zt5 (List.mem_of_getElem? (i := 138) rfl), Or.inl rfl⟩
theorem wt_1159_0 : gW (.static yJxe99ae_isNaN_b9ae7) := ⟨zt5 (List.mem_of_getElem? (i := 139) rfl), Or.inl rfl⟩
theorem wt_1160_0 : gW (.code yJxe99ae_isNaN_b9ae7 cJxe99ae_isNaN_b9ae7 2 (some .boolean)) := ⟨zt5 (List.mem_of_getElem? (i := 140) rfl), Or.inl rfl⟩
theorem wt_1161_0 : gW (.methodLink RJxe99ae 134 ⟨"java/lang/Double", "doubleToRawLongBits", "(D)J"⟩) := ⟨zt5 (List.mem_of_getElem? (i := 141) rfl), Or.inl rfl⟩
theorem wt_1162_0 : gW (.static ⟨"java/lang/Double", "doubleToRawLongBits", "(D)J"⟩) := ⟨zt5 (List.mem_of_getElem? (i := 142) rfl), Or.inl rfl⟩
theorem wt_1163_0 : gW (.native ⟨"java/lang/Double", "doubleToRawLongBits", "(D)J"⟩) := ⟨zt5 (List.mem_of_getElem? (i := 143) rfl), Or.inl rfl⟩
theorem wt_1164_0 : gW (.constantLong RJxe99ae 137 (9221120237041090560)) := ⟨zt5 (List.mem_of_getElem? (i := 144) rfl), Or.inl rfl⟩
theorem wt_1165_0 : gW (.methodLink RL 49 yX11_shortly) := ⟨zt5 (List.mem_of_getElem? (i := 145) rfl), Or.inl rfl⟩
theorem wt_1166_0 : gW (.instanceMethod yX11_shortly) := ⟨zt5 (List.mem_of_getElem? (i := 146) rfl), Or.inl rfl⟩
theorem wt_1167_0 : gW (.selects RX11 yX11_shortly yX11_shortly) := ⟨zt5 (List.mem_of_getElem? (i := 147) rfl), Or.inl rfl⟩
theorem wt_1168_0 : gW (.code yX11_shortly cX11_shortly 3 (some .long)) := ⟨zt5 (List.mem_of_getElem? (i := 148) rfl), Or.inl rfl⟩
theorem wt_1169_0 : gW (.methodLink RX11 172 yX11_joinedFloats) := ⟨zt5 (List.mem_of_getElem? (i := 149) rfl), Or.inl rfl⟩
theorem wt_1170_0 : gW (.static yX11_joinedFloats) := ⟨zt5 (List.mem_of_getElem? (i := 150) rfl), Or.inl rfl⟩
theorem wt_1171_0 : gW (.code yX11_joinedFloats cX11_joinedFloats 3 (some .float)) := ⟨zt5 (List.mem_of_getElem? (i := 151) rfl), Or.inl rfl⟩
theorem wt_1172_0 : gW (.methodLink RX11 176 yJxf58ca_floatToIntBits_5c35a) := ⟨zt5 (List.mem_of_getElem? (i := 152) rfl), Or.inl rfl⟩
theorem wt_1173_0 : gW (.static yJxf58ca_floatToIntBits_5c35a) := ⟨zt5 (List.mem_of_getElem? (i := 153) rfl), Or.inl rfl⟩
theorem wt_1174_0 : gW (.code yJxf58ca_floatToIntBits_5c35a cJxf58ca_floatToIntBits_5c35a 1 (some .int)) := ⟨zt5 (List.mem_of_getElem? (i := 154) rfl), Or.inl rfl⟩
theorem wt_1175_0 : gW (.methodLink RJxf58ca 59 yJxf58ca_isNaN_12338) := ⟨zt5 (List.mem_of_getElem? (i := 155) rfl), Or.inl rfl⟩
theorem wt_1176_0 : gW (.static yJxf58ca_isNaN_12338) := ⟨zt5 (List.mem_of_getElem? (i := 156) rfl), Or.inl rfl⟩
theorem wt_1177_0 : gW (.code yJxf58ca_isNaN_12338 cJxf58ca_isNaN_12338 1 (some .boolean)) := ⟨zt5 (List.mem_of_getElem? (i := 157) rfl), Or.inl rfl⟩
theorem wt_1178_0 : gW (.methodLink RJxf58ca 74 ⟨"java/lang/Float", "floatToRawIntBits", "(F)I"⟩) := ⟨zt5 (List.mem_of_getElem? (i := 158) rfl), Or.inl rfl⟩
theorem wt_1179_0 : gW (.static ⟨"java/lang/Float", "floatToRawIntBits", "(F)I"⟩) := ⟨zt5 (List.mem_of_getElem? (i := 159) rfl), Or.inl rfl⟩
theorem wt_1180_0 : gW (.native ⟨"java/lang/Float", "floatToRawIntBits", "(F)I"⟩) := ⟨zt5 (List.mem_of_getElem? (i := 160) rfl), Or.inl rfl⟩
theorem wt_1181_0 : gW (.constant RJxf58ca 77 (2143289344)) := ⟨zt5 (List.mem_of_getElem? (i := 161) rfl), Or.inl rfl⟩
theorem wt_1182_0 : gW (.methodLink RL 53 yX11_drawn) := ⟨zt5 (List.mem_of_getElem? (i := 162) rfl), Or.inl rfl⟩
theorem wt_1183_0 : gW (.instanceMethod yX11_drawn) := ⟨zt5 (List.mem_of_getElem? (i := 163) rfl), Or.inl rfl⟩
theorem wt_1184_0 : gW (.selects RX11 yX11_drawn yX11_drawn) := ⟨zt5 (List.mem_of_getElem? (i := 164) rfl), Or.inl rfl⟩
theorem wt_1185_0 : gW (.code yX11_drawn cX11_drawn 3 (some .long)) := ⟨zt5 (List.mem_of_getElem? (i := 165) rfl), Or.inl rfl⟩
theorem wt_1186_0 : gW (.methodLink RX11 198 yX11_goes) := ⟨zt5 (List.mem_of_getElem? (i := 166) rfl), Or.inl rfl⟩
theorem wt_1188_0 : gW (.instanceMethod yX11_goes) := ⟨zt5 (List.mem_of_getElem? (i := 168) rfl), Or.inl rfl⟩
theorem wt_1189_0 : gW (.code yX11_goes cX11_goes 3 none) := ⟨zt5 (List.mem_of_getElem? (i := 169) rfl), Or.inl rfl⟩
theorem wt_1190_0 : gW (.methodLink RX11 202 yX11_draws) := ⟨zt5 (List.mem_of_getElem? (i := 170) rfl), Or.inl rfl⟩
theorem wt_1192_0 : gW (.instanceMethod yX11_draws) := ⟨zt5 (List.mem_of_getElem? (i := 172) rfl), Or.inl rfl⟩
theorem wt_1193_0 : gW (.code yX11_draws cX11_draws 4 (some .float)) := ⟨zt5 (List.mem_of_getElem? (i := 173) rfl), Or.inl rfl⟩
theorem wt_1194_0 : gW (.methodLink RX11 194 yX11_drawnPart) := ⟨zt5 (List.mem_of_getElem? (i := 174) rfl), Or.inl rfl⟩
theorem wt_1196_0 : gW (.instanceMethod yX11_drawnPart) := ⟨zt5 (List.mem_of_getElem? (i := 176) rfl), Or.inl rfl⟩
theorem wt_1197_0 : gW (.code yX11_drawnPart cX11_drawnPart 4 (some .float)) := ⟨zt5 (List.mem_of_getElem? (i := 177) rfl), Or.inl rfl⟩
theorem wt_1198_0 : gW (.constant RX11 192 (1103515245)) := ⟨zt5 (List.mem_of_getElem? (i := 178) rfl), Or.inl rfl⟩
theorem wt_1199_0 : gW (.constantFloat RX11 193 (1176256512)) := ⟨zt5 (List.mem_of_getElem? (i := 179) rfl), Or.inl rfl⟩
theorem wt_1200_0 : gW (.methodLink RL 58 yX11_within) := ⟨zt5 (List.mem_of_getElem? (i := 180) rfl), Or.inl rfl⟩
theorem wt_1201_0 : gW (.instanceMethod yX11_within) := ⟨zt5 (List.mem_of_getElem? (i := 181) rfl), Or.inl rfl⟩
theorem wt_1202_0 : gW (.selects RX11 yX11_within yX11_within) := ⟨zt5 (List.mem_of_getElem? (i := 182) rfl), Or.inl rfl⟩
theorem wt_1203_0 : gW (.code yX11_within cX11_within 11 (some .int)) := ⟨zt5 (List.mem_of_getElem? (i := 183) rfl), Or.inl rfl⟩
theorem wt_1204_0 : gW (.constantLong RX11 206 (30)) := ⟨zt5 (List.mem_of_getElem? (i := 184) rfl), Or.inl rfl⟩
theorem wt_1205_0 : gW (.methodLink RX11 208 yX11_isWish) := ⟨zt5 (List.mem_of_getElem? (i := 185) rfl), Or.inl rfl⟩
theorem wt_1206_0 : gW (.static yX11_isWish) := ⟨zt5 (List.mem_of_getElem? (i := 186) rfl), Or.inl rfl⟩
theorem wt_1207_0 : gW (.code yX11_isWish cX11_isWish 2 (some .boolean)) := ⟨zt5 (List.mem_of_getElem? (i := 187) rfl), Or.inl rfl⟩
theorem wt_1208_0 : gW (.constantLong RX11 213 (999)) := ⟨zt5 (List.mem_of_getElem? (i := 188) rfl), Or.inl rfl⟩
theorem wt_1209_0 : gW (.constantFloat RX11 212 (1120403456)) := ⟨zt5 (List.mem_of_getElem? (i := 189) rfl), Or.inl rfl⟩
theorem wt_1210_0 : gW (.methodLink RL 66 yX11_turned) := ⟨zt5 (List.mem_of_getElem? (i := 190) rfl), Or.inl rfl⟩
theorem wt_1211_0 : gW (.instanceMethod yX11_turned) := ⟨zt5 (List.mem_of_getElem? (i := 191) rfl), Or.inl rfl⟩
theorem wt_1212_0 : gW (.selects RX11 yX11_turned yX11_turned) := ⟨zt5 (List.mem_of_getElem? (i := 192) rfl), Or.inl rfl⟩
theorem wt_1213_0 : gW (.code yX11_turned cX11_turned 3 (some .int)) := ⟨zt5 (List.mem_of_getElem? (i := 193) rfl), Or.inl rfl⟩
theorem wt_1214_0 : gW (.methodLink RX11 215 yX11_laySame) := ⟨zt5 (List.mem_of_getElem? (i := 194) rfl), Or.inl rfl⟩
theorem wt_1216_0 : gW (.instanceMethod yX11_laySame) := ⟨zt5 (List.mem_of_getElem? (i := 196) rfl), Or.inl rfl⟩
theorem wt_1217_0 : gW (.code yX11_laySame cX11_laySame 7 none) := ⟨zt5 (List.mem_of_getElem? (i := 197) rfl), Or.inl rfl⟩
theorem wt_1218_0 : gW (.methodLink RL 71 yX11_fails) := ⟨zt5 (List.mem_of_getElem? (i := 198) rfl), Or.inl rfl⟩
theorem wt_1219_0 : gW (.instanceMethod yX11_fails) := ⟨zt5 (List.mem_of_getElem? (i := 199) rfl), Or.inl rfl⟩
theorem wt_1220_0 : gW (.selects RX11 yX11_fails yX11_fails) := ⟨zt5 (List.mem_of_getElem? (i := 200) rfl), Or.inl rfl⟩
theorem wt_1221_0 : gW (.code yX11_fails cX11_fails 5 (some .long)) := ⟨zt5 (List.mem_of_getElem? (i := 201) rfl), Or.inl rfl⟩
theorem wt_1222_0 : gW (.methodLink RX11 218 yX11_valueFailing) := ⟨zt5 (List.mem_of_getElem? (i := 202) rfl), Or.inl rfl⟩
theorem wt_1224_0 : gW (.instanceMethod yX11_valueFailing) := ⟨zt5 (List.mem_of_getElem? (i := 204) rfl), Or.inl rfl⟩
theorem wt_1225_0 : gW (.code yX11_valueFailing cX11_valueFailing 8 none) := ⟨zt5 (List.mem_of_getElem? (i := 205) rfl), Or.inl rfl⟩
theorem wt_1226_0 : gW (.methodLink RL 75 yX11_worst) := ⟨zt5 (List.mem_of_getElem? (i := 206) rfl), Or.inl rfl⟩
theorem wt_1227_0 : gW (.instanceMethod yX11_worst) := ⟨zt5 (List.mem_of_getElem? (i := 207) rfl), Or.inl rfl⟩
theorem wt_1228_0 : gW (.selects RX11 yX11_worst yX11_worst) := ⟨zt5 (List.mem_of_getElem? (i := 208) rfl), Or.inl rfl⟩
theorem wt_1229_0 : gW (.code yX11_worst cX11_worst 10 (some .int)) := ⟨zt5 (List.mem_of_getElem? (i := 209) rfl), Or.inl rfl⟩
theorem wt_1230_0 : gW (.methodLink RX11 222 yX11_isLess) := ⟨zt5 (List.mem_of_getElem? (i := 210) rfl), Or.inl rfl⟩
theorem wt_1231_0 : gW (.static yX11_isLess) := ⟨zt5 (List.mem_of_getElem? (i := 211) rfl), Or.inl rfl⟩
theorem wt_1232_0 : gW (.code yX11_isLess cX11_isLess 21 (some .boolean)) := ⟨zt5 (List.mem_of_getElem? (i := 212) rfl), Or.inl rfl⟩
theorem wt_1233_0 : gW (.methodLink RL 79 yX11_feed) := ⟨zt5 (List.mem_of_getElem? (i := 213) rfl), Or.inl rfl⟩
theorem wt_1234_0 : gW (.instanceMethod yX11_feed) := ⟨zt5 (List.mem_of_getElem? (i := 214) rfl), Or.inl rfl⟩
theorem wt_1235_0 : gW (.selects RX11 yX11_feed yX11_feed) := ⟨zt5 (List.mem_of_getElem? (i := 215) rfl), Or.inl rfl⟩
theorem wt_1236_0 : gW (.code yX11_feed cX11_feed 2 (some .int)) := ⟨zt5 (List.mem_of_getElem? (i := 216) rfl), Or.inl rfl⟩
theorem wt_1237_0 : gW (.constantLong RX11 226 (32)) := ⟨zt5 (List.mem_of_getElem? (i := 217) rfl), Or.inl rfl⟩
theorem wt_1238_0 : gW (.constantLong RX11 228 (126)) := ⟨zt5 (List.mem_of_getElem? (i := 218) rfl), Or.inl rfl⟩
theorem wt_1239_0 : gW (.methodLink RL 84 yX11_read) := ⟨zt5 (List.mem_of_getElem? (i := 219) rfl), Or.inl rfl⟩
theorem wt_1240_0 : gW (.instanceMethod yX11_read) := ⟨zt5 (List.mem_of_getElem? (i := 220) rfl), Or.inl rfl⟩
theorem wt_1241_0 : gW (.selects RX11 yX11_read yX11_read) := ⟨zt5 (List.mem_of_getElem? (i := 221) rfl), Or.inl rfl⟩
theorem wt_1242_0 : gW (.code yX11_read cX11_read 3 (some .int)) := ⟨zt5 (List.mem_of_getElem? (i := 222) rfl), Or.inl rfl⟩
theorem wt_1243_0 : gW (.methodLink RX11 240 yX11_faultOf) := ⟨zt5 (List.mem_of_getElem? (i := 223) rfl), Or.inl rfl⟩
theorem wt_1245_0 : gW (.instanceMethod yX11_faultOf) := ⟨zt5 (List.mem_of_getElem? (i := 225) rfl), Or.inl rfl⟩
theorem wt_1246_0 : gW (.code yX11_faultOf cX11_faultOf 7 (some .int)) := ⟨zt5 (List.mem_of_getElem? (i := 226) rfl), Or.inl rfl⟩
theorem wt_1247_0 : gW (.constantLong RX11 236 (97)) := ⟨zt5 (List.mem_of_getElem? (i := 227) rfl), Or.inl rfl⟩
theorem wt_1248_0 : gW (.constantLong RX11 238 (100)) := ⟨zt5 (List.mem_of_getElem? (i := 228) rfl), Or.inl rfl⟩
theorem wt_1249_0 : gW (.methodLink RX11 244 yX11_keeps) := ⟨zt5 (List.mem_of_getElem? (i := 229) rfl), Or.inl rfl⟩
theorem wt_1251_0 : gW (.instanceMethod yX11_keeps) := ⟨zt5 (List.mem_of_getElem? (i := 231) rfl), Or.inl rfl⟩
theorem wt_1252_0 : gW (.code yX11_keeps cX11_keeps 5 (some .int)) := ⟨zt5 (List.mem_of_getElem? (i := 232) rfl), Or.inl rfl⟩
theorem wt_1253_0 : gW (.methodLink RL 88 yX11_print) := ⟨zt5 (List.mem_of_getElem? (i := 233) rfl), Or.inl rfl⟩
theorem wt_1254_0 : gW (.instanceMethod yX11_print) := ⟨zt5 (List.mem_of_getElem? (i := 234) rfl), Or.inl rfl⟩
theorem wt_1255_0 : gW (.selects RX11 yX11_print yX11_print) := ⟨zt5 (List.mem_of_getElem? (i := 235) rfl), Or.inl rfl⟩
theorem wt_1256_0 : gW (.code yX11_print cX11_print 3 (some .int)) := ⟨zt5 (List.mem_of_getElem? (i := 236) rfl), Or.inl rfl⟩
theorem wt_1257_0 : gW (.methodLink RX11 253 yX11_printsAll) := ⟨zt5 (List.mem_of_getElem? (i := 237) rfl), Or.inl rfl⟩
theorem wt_1259_0 : gW (.instanceMethod yX11_printsAll) := ⟨zt5 (List.mem_of_getElem? (i := 239) rfl), Or.inl rfl⟩
theorem wt_1260_0 : gW (.code yX11_printsAll cX11_printsAll 3 none) := ⟨zt6 (List.mem_of_getElem? (i := 0) rfl), Or.inl rfl⟩
theorem wt_1261_0 : gW (.methodLink RX11 250 yX11_prints) := ⟨zt6 (List.mem_of_getElem? (i := 1) rfl), Or.inl rfl⟩
theorem wt_1263_0 : gW (.instanceMethod yX11_prints) := ⟨zt6 (List.mem_of_getElem? (i := 3) rfl), Or.inl rfl⟩
theorem wt_1264_0 : gW (.code yX11_prints cX11_prints 2 none) := ⟨zt6 (List.mem_of_getElem? (i := 4) rfl), Or.inl rfl⟩
theorem wt_1265_0 : gW (.methodLink RL 92 yX11_reached) := ⟨zt6 (List.mem_of_getElem? (i := 5) rfl), Or.inl rfl⟩
theorem wt_1266_0 : gW (.instanceMethod yX11_reached) := ⟨zt6 (List.mem_of_getElem? (i := 6) rfl), Or.inl rfl⟩
theorem wt_1267_0 : gW (.selects RX11 yX11_reached yX11_reached) := ⟨zt6 (List.mem_of_getElem? (i := 7) rfl), Or.inl rfl⟩
theorem wt_1268_0 : gW (.code yX11_reached cX11_reached 2 (some .int)) := ⟨zt6 (List.mem_of_getElem? (i := 8) rfl), Or.inl rfl⟩
theorem wt_1269_0 : gW (.methodLink RX11 270 yX11_layReached) := ⟨zt6 (List.mem_of_getElem? (i := 9) rfl), Or.inl rfl⟩
theorem wt_1271_0 : gW (.instanceMethod yX11_layReached) := ⟨zt6 (List.mem_of_getElem? (i := 11) rfl), Or.inl rfl⟩
theorem wt_1272_0 : gW (.code yX11_layReached cX11_layReached 6 none) := ⟨zt6 (List.mem_of_getElem? (i := 12) rfl), Or.inl rfl⟩
theorem wt_1273_0 : gW (.methodLink RX11 263 yX11_reaches) := ⟨zt6 (List.mem_of_getElem? (i := 13) rfl), Or.inl rfl⟩
theorem wt_1275_0 : gW (.instanceMethod yX11_reaches) := ⟨zt6 (List.mem_of_getElem? (i := 15) rfl), Or.inl rfl⟩
theorem wt_1276_0 : gW (.code yX11_reaches cX11_reaches 4 none) := ⟨zt6 (List.mem_of_getElem? (i := 16) rfl), Or.inl rfl⟩
theorem wt_1277_0 : gW (.methodLink RX11 259 yX11_reachedAt) := ⟨zt6 (List.mem_of_getElem? (i := 17) rfl), Or.inl rfl⟩
theorem wt_1279_0 : gW (.instanceMethod yX11_reachedAt) := ⟨zt6 (List.mem_of_getElem? (i := 19) rfl), Or.inl rfl⟩
theorem wt_1280_0 : gW (.code yX11_reachedAt cX11_reachedAt 6 (some .int)) := ⟨zt6 (List.mem_of_getElem? (i := 20) rfl), Or.inl rfl⟩
theorem wt_1281_0 : gW (.methodLink RX11 267 yX11_reachesBoth) := ⟨zt6 (List.mem_of_getElem? (i := 21) rfl), Or.inl rfl⟩
theorem wt_1283_0 : gW (.instanceMethod yX11_reachesBoth) := ⟨zt6 (List.mem_of_getElem? (i := 23) rfl), Or.inl rfl⟩
theorem wt_1284_0 : gW (.code yX11_reachesBoth cX11_reachesBoth 4 none) := ⟨zt6 (List.mem_of_getElem? (i := 24) rfl), Or.inl rfl⟩
theorem wt_1285_0 : gW (.methodLink RL 97 yX11_reach) := ⟨zt6 (List.mem_of_getElem? (i := 25) rfl), Or.inl rfl⟩
theorem wt_1286_0 : gW (.instanceMethod yX11_reach) := ⟨zt6 (List.mem_of_getElem? (i := 26) rfl), Or.inl rfl⟩
theorem wt_1287_0 : gW (.selects RX11 yX11_reach yX11_reach) := ⟨zt6 (List.mem_of_getElem? (i := 27) rfl), Or.inl rfl⟩
theorem wt_1288_0 : gW (.code yX11_reach cX11_reach 5 (some .long)) := ⟨zt6 (List.mem_of_getElem? (i := 28) rfl), Or.inl rfl⟩
theorem wt_1289_0 : gW (.methodLink RX11 273 yX11_lessThan) := ⟨zt6 (List.mem_of_getElem? (i := 29) rfl), Or.inl rfl⟩
theorem wt_1291_0 : gW (.instanceMethod yX11_lessThan) := ⟨zt6 (List.mem_of_getElem? (i := 31) rfl), Or.inl rfl⟩
theorem wt_1292_0 : gW (.code yX11_lessThan cX11_lessThan 6 (some .int)) := ⟨zt6 (List.mem_of_getElem? (i := 32) rfl), Or.inl rfl⟩
theorem wt_1293_0 : gW (.constantLong RX11 276 (-2)) := ⟨zt6 (List.mem_of_getElem? (i := 33) rfl), Or.inl rfl⟩
theorem wt_1294_0 : gW (.methodLink RL 101 yX11_fewest) := ⟨zt6 (List.mem_of_getElem? (i := 34) rfl), Or.inl rfl⟩
theorem wt_1295_0 : gW (.instanceMethod yX11_fewest) := ⟨zt6 (List.mem_of_getElem? (i := 35) rfl), Or.inl rfl⟩
theorem wt_1296_0 : gW (.selects RX11 yX11_fewest yX11_fewest) := ⟨zt6 (List.mem_of_getElem? (i := 36) rfl), Or.inl rfl⟩
theorem wt_1297_0 : gW (.code yX11_fewest cX11_fewest 4 (some .int)) := ⟨zt6 (List.mem_of_getElem? (i := 37) rfl), Or.inl rfl⟩
theorem wt_1298_0 : gW (.methodLink RX11 278 yX11_wished) := ⟨zt6 (List.mem_of_getElem? (i := 38) rfl), Or.inl rfl⟩
theorem wt_1300_0 : gW (.instanceMethod yX11_wished) := ⟨zt6 (List.mem_of_getElem? (i := 40) rfl), Or.inl rfl⟩
theorem wt_1301_0 : gW (.code yX11_wished cX11_wished 3 (some .int)) := ⟨zt6 (List.mem_of_getElem? (i := 41) rfl), Or.inl rfl⟩
theorem wt_1302_0 : gW (.methodLink RX11 282 yX11_partsOfReached) := ⟨zt6 (List.mem_of_getElem? (i := 42) rfl), Or.inl rfl⟩
theorem wt_1304_0 : gW (.instanceMethod yX11_partsOfReached) := ⟨zt6 (List.mem_of_getElem? (i := 44) rfl), Or.inl rfl⟩
theorem wt_1305_0 : gW (.code yX11_partsOfReached cX11_partsOfReached 3 (some .int)) := ⟨zt6 (List.mem_of_getElem? (i := 45) rfl), Or.inl rfl⟩
theorem wt_1306_0 : gW (.methodLink RL 105 yX11_nearest) := ⟨zt6 (List.mem_of_getElem? (i := 46) rfl), Or.inl rfl⟩
theorem wt_1307_0 : gW (.instanceMethod yX11_nearest) := ⟨zt6 (List.mem_of_getElem? (i := 47) rfl), Or.inl rfl⟩
theorem wt_1308_0 : gW (.selects RX11 yX11_nearest yX11_nearest) := ⟨zt6 (List.mem_of_getElem? (i := 48) rfl), Or.inl rfl⟩
theorem wt_1309_0 : gW (.code yX11_nearest cX11_nearest 13 (some .long)) := ⟨zt6 (List.mem_of_getElem? (i := 49) rfl), Or.inl rfl⟩
theorem wt_1310_0 : gW (.methodLink RL 109 yX11_make) := ⟨zt6 (List.mem_of_getElem? (i := 50) rfl), Or.inl rfl⟩
theorem wt_1311_0 : gW (.instanceMethod yX11_make) := ⟨zt6 (List.mem_of_getElem? (i := 51) rfl), Or.inl rfl⟩
theorem wt_1312_0 : gW (.selects RX11 yX11_make yX11_make) := ⟨zt6 (List.mem_of_getElem? (i := 52) rfl), Or.inl rfl⟩
theorem wt_1313_0 : gW (.code yX11_make cX11_make 4 (some .int)) := ⟨zt6 (List.mem_of_getElem? (i := 53) rfl), Or.inl rfl⟩
theorem wt_1314_0 : gW (.methodLink RX11 285 yX11_makes) := ⟨zt6 (List.mem_of_getElem? (i := 54) rfl), Or.inl rfl⟩
theorem wt_1316_0 : gW (.instanceMethod yX11_makes) := ⟨zt6 (List.mem_of_getElem? (i := 56) rfl), Or.inl rfl⟩
theorem wt_1317_0 : gW (.code yX11_makes cX11_makes 5 (some .int)) := ⟨zt6 (List.mem_of_getElem? (i := 57) rfl), Or.inl rfl⟩
theorem wt_1318_0 : gW (.methodLink RL 113 yX11_points) := ⟨zt6 (List.mem_of_getElem? (i := 58) rfl), Or.inl rfl⟩
theorem wt_1319_0 : gW (.instanceMethod yX11_points) := ⟨zt6 (List.mem_of_getElem? (i := 59) rfl), Or.inl rfl⟩
theorem wt_1320_0 : gW (.selects RX11 yX11_points yX11_points) := ⟨zt6 (List.mem_of_getElem? (i := 60) rfl), Or.inl rfl⟩
theorem wt_1321_0 : gW (.code yX11_points cX11_points 3 (some .int)) := ⟨zt6 (List.mem_of_getElem? (i := 61) rfl), Or.inl rfl⟩
theorem wt_1322_0 : gW (.constantLong RX11 288 (6)) := ⟨zt6 (List.mem_of_getElem? (i := 62) rfl), Or.inl rfl⟩
theorem wt_1323_0 : gW (.methodLink RL 117 yX11_edge) := ⟨zt6 (List.mem_of_getElem? (i := 63) rfl), Or.inl rfl⟩
theorem wt_1324_0 : gW (.instanceMethod yX11_edge) := ⟨zt6 (List.mem_of_getElem? (i := 64) rfl), Or.inl rfl⟩
theorem wt_1325_0 : gW (.selects RX11 yX11_edge yX11_edge) := ⟨zt6 (List.mem_of_getElem? (i := 65) rfl), Or.inl rfl⟩
theorem wt_1326_0 : gW (.code yX11_edge cX11_edge 5 (some .int)) := ⟨zt6 (List.mem_of_getElem? (i := 66) rfl), Or.inl rfl⟩
theorem wt_1327_0 : gW (.methodLink RX11 290 yX11_isPoint) := ⟨zt6 (List.mem_of_getElem? (i := 67) rfl), Or.inl rfl⟩
theorem wt_1329_0 : gW (.instanceMethod yX11_isPoint) := ⟨zt6 (List.mem_of_getElem? (i := 69) rfl), Or.inl rfl⟩
theorem wt_1330_0 : gW (.code yX11_isPoint cX11_isPoint 2 (some .boolean)) := ⟨zt6 (List.mem_of_getElem? (i := 70) rfl), Or.inl rfl⟩
theorem wt_1331_0 : gW (.methodLink RL 121 yX11_tell) := ⟨zt6 (List.mem_of_getElem? (i := 71) rfl), Or.inl rfl⟩
theorem wt_1332_0 : gW (.instanceMethod yX11_tell) := ⟨zt6 (List.mem_of_getElem? (i := 72) rfl), Or.inl rfl⟩
theorem wt_1333_0 : gW (.selects RX11 yX11_tell yX11_tell) := ⟨zt6 (List.mem_of_getElem? (i := 73) rfl), Or.inl rfl⟩
theorem wt_1334_0 : gW (.code yX11_tell cX11_tell 4 (some .int)) := ⟨zt6 (List.mem_of_getElem? (i := 74) rfl), Or.inl rfl⟩
theorem wt_1335_0 : gW (.methodLink RX11 293 yX11_isEdge) := ⟨zt6 (List.mem_of_getElem? (i := 75) rfl), Or.inl rfl⟩
theorem wt_1337_0 : gW (.instanceMethod yX11_isEdge) := ⟨zt6 (List.mem_of_getElem? (i := 77) rfl), Or.inl rfl⟩
theorem wt_1338_0 : gW (.code yX11_isEdge cX11_isEdge 2 (some .boolean)) := ⟨zt6 (List.mem_of_getElem? (i := 78) rfl), Or.inl rfl⟩
theorem wt_1339_0 : gW (.methodLink RL 125 yX11_between) := ⟨zt6 (List.mem_of_getElem? (i := 79) rfl), Or.inl rfl⟩
theorem wt_1340_0 : gW (.instanceMethod yX11_between) := ⟨zt6 (List.mem_of_getElem? (i := 80) rfl), Or.inl rfl⟩
theorem wt_1341_0 : gW (.selects RX11 yX11_between yX11_between) := ⟨zt6 (List.mem_of_getElem? (i := 81) rfl), Or.inl rfl⟩
theorem wt_1342_0 : gW (.code yX11_between cX11_between 4 (some .long)) := ⟨zt6 (List.mem_of_getElem? (i := 82) rfl), Or.inl rfl⟩
theorem wt_1343_0 : gW (.methodLink RX11 306 yX11_live) := ⟨zt6 (List.mem_of_getElem? (i := 83) rfl), Or.inl rfl⟩
theorem wt_1345_0 : gW (.instanceMethod yX11_live) := ⟨zt6 (List.mem_of_getElem? (i := 85) rfl), Or.inl rfl⟩
theorem wt_1346_0 : gW (.code yX11_live cX11_live 3 (some .int)) := ⟨zt6 (List.mem_of_getElem? (i := 86) rfl), Or.inl rfl⟩
theorem wt_1347_0 : gW (.methodLink RX11 309 yX11_between0) := ⟨zt6 (List.mem_of_getElem? (i := 87) rfl), Or.inl rfl⟩
theorem wt_1349_0 : gW (.instanceMethod yX11_between0) := ⟨zt6 (List.mem_of_getElem? (i := 89) rfl), Or.inl rfl⟩
theorem wt_1350_0 : gW (.code yX11_between0 cX11_between0 15 none) := ⟨zt6 (List.mem_of_getElem? (i := 90) rfl), Or.inl rfl⟩
theorem wt_1351_0 : gW (.methodLink RX11 296 yX11_comesTo) := ⟨zt6 (List.mem_of_getElem? (i := 91) rfl), Or.inl rfl⟩
theorem wt_1353_0 : gW (.instanceMethod yX11_comesTo) := ⟨zt6 (List.mem_of_getElem? (i := 93) rfl), Or.inl rfl⟩
theorem wt_1354_0 : gW (.code yX11_comesTo cX11_comesTo 7 (some .int)) := ⟨zt6 (List.mem_of_getElem? (i := 94) rfl), Or.inl rfl⟩
theorem wt_1355_0 : gW (.methodLink RX11 299 yX11_countOf) := ⟨zt6 (List.mem_of_getElem? (i := 95) rfl), Or.inl rfl⟩
theorem wt_1356_0 : gW (.static yX11_countOf) := ⟨zt6 (List.mem_of_getElem? (i := 96) rfl), Or.inl rfl⟩
theorem wt_1357_0 : gW (.code yX11_countOf cX11_countOf 3 (some .int)) := ⟨zt6 (List.mem_of_getElem? (i := 97) rfl), Or.inl rfl⟩
theorem wt_1358_0 : gW (.methodLink RX11 302 yX11_othersOf) := ⟨zt6 (List.mem_of_getElem? (i := 98) rfl), Or.inl rfl⟩
theorem wt_1360_0 : gW (.instanceMethod yX11_othersOf) := ⟨zt6 (List.mem_of_getElem? (i := 100) rfl), Or.inl rfl⟩
theorem wt_1361_0 : gW (.code yX11_othersOf cX11_othersOf 6 (some .long)) := ⟨zt6 (List.mem_of_getElem? (i := 101) rfl), Or.inl rfl⟩
theorem wt_1362_0 : gW (.methodLink RL 129 yX11_without) := ⟨zt6 (List.mem_of_getElem? (i := 102) rfl), Or.inl rfl⟩
theorem wt_1363_0 : gW (.instanceMethod yX11_without) := ⟨zt6 (List.mem_of_getElem? (i := 103) rfl), Or.inl rfl⟩
theorem wt_1364_0 : gW (.selects RX11 yX11_without yX11_without) := ⟨zt6 (List.mem_of_getElem? (i := 104) rfl), Or.inl rfl⟩
theorem wt_1365_0 : gW (.code yX11_without cX11_without 5 (some .long)) := ⟨zt6 (List.mem_of_getElem? (i := 105) rfl), Or.inl rfl⟩
theorem wt_1366_0 : gW (.methodLink RL 133 yX11_dearest) := ⟨zt6 (List.mem_of_getElem? (i := 106) rfl), Or.inl rfl⟩
theorem wt_1367_0 : gW (.instanceMethod yX11_dearest) := ⟨zt6 (List.mem_of_getElem? (i := 107) rfl), Or.inl rfl⟩
theorem wt_1368_0 : gW (.selects RX11 yX11_dearest yX11_dearest) := ⟨zt6 (List.mem_of_getElem? (i := 108) rfl), Or.inl rfl⟩
theorem wt_1369_0 : gW (.code yX11_dearest cX11_dearest 10 (some .int)) := ⟨zt6 (List.mem_of_getElem? (i := 109) rfl), Or.inl rfl⟩
theorem wt_1370_0 : gW (.methodLink RL 137 yX11_bridges) := ⟨zt6 (List.mem_of_getElem? (i := 110) rfl), Or.inl rfl⟩
theorem wt_1371_0 : gW (.instanceMethod yX11_bridges) := ⟨zt6 (List.mem_of_getElem? (i := 111) rfl), Or.inl rfl⟩
theorem wt_1372_0 : gW (.selects RX11 yX11_bridges yX11_bridges) := ⟨zt6 (List.mem_of_getElem? (i := 112) rfl), Or.inl rfl⟩
theorem wt_1373_0 : gW (.code yX11_bridges cX11_bridges 5 (some .int)) := ⟨zt6 (List.mem_of_getElem? (i := 113) rfl), Or.inl rfl⟩
theorem wt_1374_0 : gW (.methodLink RL 141 yX11_ways) := ⟨zt6 (List.mem_of_getElem? (i := 114) rfl), Or.inl rfl⟩
theorem wt_1375_0 : gW (.instanceMethod yX11_ways) := ⟨zt6 (List.mem_of_getElem? (i := 115) rfl), Or.inl rfl⟩
theorem wt_1376_0 : gW (.selects RX11 yX11_ways yX11_ways) := ⟨zt6 (List.mem_of_getElem? (i := 116) rfl), Or.inl rfl⟩
theorem wt_1377_0 : gW (.code yX11_ways cX11_ways 2 (some .int)) := ⟨zt6 (List.mem_of_getElem? (i := 117) rfl), Or.inl rfl⟩
theorem wt_1378_0 : gW (.methodLink RL 145 yX11_tray) := ⟨zt6 (List.mem_of_getElem? (i := 118) rfl), Or.inl rfl⟩
theorem wt_1379_0 : gW (.instanceMethod yX11_tray) := ⟨zt6 (List.mem_of_getElem? (i := 119) rfl), Or.inl rfl⟩
theorem wt_1380_0 : gW (.selects RX11 yX11_tray yX11_tray) := ⟨zt6 (List.mem_of_getElem? (i := 120) rfl), Or.inl rfl⟩
theorem wt_1381_0 : gW (.code yX11_tray cX11_tray 5 (some .int)) := ⟨zt6 (List.mem_of_getElem? (i := 121) rfl), Or.inl rfl⟩
theorem wt_1382_0 : gW (.methodLink RX11 312 yX11_isTray) := ⟨zt6 (List.mem_of_getElem? (i := 122) rfl), Or.inl rfl⟩
theorem wt_1383_0 : gW (.static yX11_isTray) := ⟨zt6 (List.mem_of_getElem? (i := 123) rfl), Or.inl rfl⟩
theorem wt_1384_0 : gW (.code yX11_isTray cX11_isTray 1 (some .boolean)) := ⟨zt6 (List.mem_of_getElem? (i := 124) rfl), Or.inl rfl⟩
theorem wt_1385_0 : gW (.constantLong RX11 315 (-1)) := ⟨zt6 (List.mem_of_getElem? (i := 125) rfl), Or.inl rfl⟩
theorem wt_1386_0 : gW (.methodLink RL 149 yX11_lay) := ⟨zt6 (List.mem_of_getElem? (i := 126) rfl), Or.inl rfl⟩
theorem wt_1387_0 : gW (.instanceMethod yX11_lay) := ⟨zt6 (List.mem_of_getElem? (i := 127) rfl), Or.inl rfl⟩
theorem wt_1388_0 : gW (.selects RX11 yX11_lay yX11_lay) := ⟨zt6 (List.mem_of_getElem? (i := 128) rfl), Or.inl rfl⟩
theorem wt_1389_0 : gW (.code yX11_lay cX11_lay 4 (some .int)) := ⟨zt6 (List.mem_of_getElem? (i := 129) rfl), Or.inl rfl⟩
theorem wt_1390_0 : gW (.methodLink RX11 317 yX11_sizeOf) := ⟨zt6 (List.mem_of_getElem? (i := 130) rfl), Or.inl rfl⟩
theorem wt_1392_0 : gW (.instanceMethod yX11_sizeOf) := ⟨zt6 (List.mem_of_getElem? (i := 132) rfl), Or.inl rfl⟩
theorem wt_1393_0 : gW (.code yX11_sizeOf cX11_sizeOf 2 (some .int)) := ⟨zt6 (List.mem_of_getElem? (i := 133) rfl), Or.inl rfl⟩
theorem wt_1394_0 : gW (.methodLink RX11 320 yX11_mayLie) := ⟨zt6 (List.mem_of_getElem? (i := 134) rfl), Or.inl rfl⟩
theorem wt_1396_0 : gW (.instanceMethod yX11_mayLie) := ⟨zt6 (List.mem_of_getElem? (i := 136) rfl), Or.inl rfl⟩
theorem wt_1397_0 : gW (.code yX11_mayLie cX11_mayLie 4 (some .boolean)) := ⟨zt6 (List.mem_of_getElem? (i := 137) rfl), Or.inl rfl⟩
theorem wt_1398_0 : gW (.methodLink RL 153 yX11_at) := ⟨zt6 (List.mem_of_getElem? (i := 138) rfl), Or.inl rfl⟩
theorem wt_1399_0 : gW (.instanceMethod yX11_at) := ⟨zt6 (List.mem_of_getElem? (i := 139) rfl), Or.inl rfl⟩
theorem wt_1400_0 : gW (.selects RX11 yX11_at yX11_at) := ⟨zt6 (List.mem_of_getElem? (i := 140) rfl), Or.inl rfl⟩
theorem wt_1401_0 : gW (.code yX11_at cX11_at 4 (some .int)) := ⟨zt6 (List.mem_of_getElem? (i := 141) rfl), Or.inl rfl⟩
theorem wt_1402_0 : gW (.methodLink RL 158 yX11_shift) := ⟨zt6 (List.mem_of_getElem? (i := 142) rfl), Or.inl rfl⟩
theorem wt_1403_0 : gW (.instanceMethod yX11_shift) := ⟨zt6 (List.mem_of_getElem? (i := 143) rfl), Or.inl rfl⟩
theorem wt_1404_0 : gW (.selects RX11 yX11_shift yX11_shift) := ⟨zt6 (List.mem_of_getElem? (i := 144) rfl), Or.inl rfl⟩
theorem wt_1405_0 : gW (.code yX11_shift cX11_shift 7 (some .int)) := ⟨zt6 (List.mem_of_getElem? (i := 145) rfl), Or.inl rfl⟩
theorem wt_1406_0 : gW (.methodLink RL 162 yX11_image) := ⟨zt6 (List.mem_of_getElem? (i := 146) rfl), Or.inl rfl⟩
theorem wt_1407_0 : gW (.instanceMethod yX11_image) := ⟨zt6 (List.mem_of_getElem? (i := 147) rfl), Or.inl rfl⟩
theorem wt_1408_0 : gW (.selects RX11 yX11_image yX11_image) := ⟨zt6 (List.mem_of_getElem? (i := 148) rfl), Or.inl rfl⟩
theorem wt_1409_0 : gW (.code yX11_image cX11_image 1 (some .int)) := ⟨zt6 (List.mem_of_getElem? (i := 149) rfl), Or.inl rfl⟩
theorem wt_1410_0 : gW (.methodLink RX11 327 yX11_copies) := ⟨zt6 (List.mem_of_getElem? (i := 150) rfl), Or.inl rfl⟩
theorem wt_1411_0 : gW (.static yX11_copies) := ⟨zt6 (List.mem_of_getElem? (i := 151) rfl), Or.inl rfl⟩
theorem wt_1412_0 : gW (.code yX11_copies cX11_copies 3 none) := ⟨zt6 (List.mem_of_getElem? (i := 152) rfl), Or.inl rfl⟩
theorem wt_1413_0 : gW (.methodLink RL 166 yX11_back) := ⟨zt6 (List.mem_of_getElem? (i := 153) rfl), Or.inl rfl⟩
theorem wt_1414_0 : gW (.instanceMethod yX11_back) := ⟨zt6 (List.mem_of_getElem? (i := 154) rfl), Or.inl rfl⟩
theorem wt_1415_0 : gW (.selects RX11 yX11_back yX11_back) := ⟨zt6 (List.mem_of_getElem? (i := 155) rfl), Or.inl rfl⟩
theorem wt_1416_0 : gW (.code yX11_back cX11_back 1 (some .int)) := ⟨zt6 (List.mem_of_getElem? (i := 156) rfl), Or.inl rfl⟩
theorem wt_1417_0 : gW (.methodLink RL 170 yX11_count) := ⟨zt6 (List.mem_of_getElem? (i := 157) rfl), Or.inl rfl⟩
theorem wt_1418_0 : gW (.instanceMethod yX11_count) := ⟨zt6 (List.mem_of_getElem? (i := 158) rfl), Or.inl rfl⟩
theorem wt_1419_0 : gW (.selects RX11 yX11_count yX11_count) := ⟨zt6 (List.mem_of_getElem? (i := 159) rfl), Or.inl rfl⟩
theorem wt_1420_0 : gW (.code yX11_count cX11_count 2 (some .int)) := ⟨zt6 (List.mem_of_getElem? (i := 160) rfl), Or.inl rfl⟩
