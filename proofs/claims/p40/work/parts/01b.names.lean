set_option maxRecDepth 100000 in
theorem tw_677 : (Cond.code yX3_menToSplit cX3_menToSplit 6 (some .int)) ∈ lw_tbl := ch_3 _ (List.mem_of_getElem? (l := tables_1_3) (i := 131) rfl)
set_option maxRecDepth 100000 in
theorem tw_678 : (Cond.methodLink RX3 89 Lib.Math.min.name) ∈ lw_tbl := ch_3 _ (List.mem_of_getElem? (l := tables_1_3) (i := 132) rfl)
set_option maxRecDepth 100000 in
theorem tw_679 : (Cond.constant RX3 88 (-1000000)) ∈ lw_tbl := ch_3 _ (List.mem_of_getElem? (l := tables_1_3) (i := 133) rfl)
set_option maxRecDepth 100000 in
theorem tw_680 : (Cond.methodLink RL 114 yX7_march) ∈ lw_tbl := ch_3 _ (List.mem_of_getElem? (l := tables_1_3) (i := 134) rfl)
set_option maxRecDepth 100000 in
theorem tw_681 : (Cond.instanceMethod yX7_march) ∈ lw_tbl := ch_3 _ (List.mem_of_getElem? (l := tables_1_3) (i := 135) rfl)
set_option maxRecDepth 100000 in
theorem tw_682 : (Cond.selects RX7 yX7_march yX7_march) ∈ lw_tbl := ch_3 _ (List.mem_of_getElem? (l := tables_1_3) (i := 136) rfl)
set_option maxRecDepth 100000 in
theorem tw_683 : (Cond.code yX7_march cX7_march 6 (some .int)) ∈ lw_tbl := ch_3 _ (List.mem_of_getElem? (l := tables_1_3) (i := 137) rfl)
set_option maxRecDepth 100000 in
theorem tw_684 : (Cond.methodLink RX7 257 yX7_hourOfLast) ∈ lw_tbl := ch_3 _ (List.mem_of_getElem? (l := tables_1_3) (i := 138) rfl)
set_option maxRecDepth 100000 in
theorem tw_686 : (Cond.instanceMethod yX7_hourOfLast) ∈ lw_tbl := ch_3 _ (List.mem_of_getElem? (l := tables_1_3) (i := 140) rfl)
set_option maxRecDepth 100000 in
theorem tw_687 : (Cond.code yX7_hourOfLast cX7_hourOfLast 7 (some .int)) ∈ lw_tbl := ch_3 _ (List.mem_of_getElem? (l := tables_1_3) (i := 141) rfl)
set_option maxRecDepth 100000 in
theorem tw_688 : (Cond.methodLink RX7 337 yX2_hourIn) ∈ lw_tbl := ch_3 _ (List.mem_of_getElem? (l := tables_1_3) (i := 142) rfl)
set_option maxRecDepth 100000 in
theorem tw_689 : (Cond.instanceMethod yX2_hourIn) ∈ lw_tbl := ch_3 _ (List.mem_of_getElem? (l := tables_1_3) (i := 143) rfl)
set_option maxRecDepth 100000 in
theorem tw_690 : (Cond.selects RX2 yX2_hourIn yX2_hourIn) ∈ lw_tbl := ch_3 _ (List.mem_of_getElem? (l := tables_1_3) (i := 144) rfl)
set_option maxRecDepth 100000 in
theorem tw_691 : (Cond.code yX2_hourIn cX2_hourIn 4 (some .int)) ∈ lw_tbl := ch_3 _ (List.mem_of_getElem? (l := tables_1_3) (i := 145) rfl)
set_option maxRecDepth 100000 in
theorem tw_692 : (Cond.methodLink RL 119 yX7_cheap) ∈ lw_tbl := ch_3 _ (List.mem_of_getElem? (l := tables_1_3) (i := 146) rfl)
set_option maxRecDepth 100000 in
theorem tw_693 : (Cond.instanceMethod yX7_cheap) ∈ lw_tbl := ch_3 _ (List.mem_of_getElem? (l := tables_1_3) (i := 147) rfl)
set_option maxRecDepth 100000 in
theorem tw_694 : (Cond.selects RX7 yX7_cheap yX7_cheap) ∈ lw_tbl := ch_3 _ (List.mem_of_getElem? (l := tables_1_3) (i := 148) rfl)
set_option maxRecDepth 100000 in
theorem tw_695 : (Cond.code yX7_cheap cX7_cheap 5 (some .int)) ∈ lw_tbl := ch_3 _ (List.mem_of_getElem? (l := tables_1_3) (i := 149) rfl)
set_option maxRecDepth 100000 in
theorem tw_696 : (Cond.methodLink RX7 261 yX2_guardsAgainst) ∈ lw_tbl := ch_3 _ (List.mem_of_getElem? (l := tables_1_3) (i := 150) rfl)
set_option maxRecDepth 100000 in
theorem tw_697 : (Cond.instanceMethod yX2_guardsAgainst) ∈ lw_tbl := ch_3 _ (List.mem_of_getElem? (l := tables_1_3) (i := 151) rfl)
set_option maxRecDepth 100000 in
theorem tw_698 : (Cond.selects RX2 yX2_guardsAgainst yX2_guardsAgainst) ∈ lw_tbl := ch_3 _ (List.mem_of_getElem? (l := tables_1_3) (i := 152) rfl)
set_option maxRecDepth 100000 in
theorem tw_699 : (Cond.code yX2_guardsAgainst cX2_guardsAgainst 5 (some .int)) ∈ lw_tbl := ch_3 _ (List.mem_of_getElem? (l := tables_1_3) (i := 153) rfl)
set_option maxRecDepth 100000 in
theorem tw_700 : (Cond.methodLink RX7 264 yX2_feeOf) ∈ lw_tbl := ch_3 _ (List.mem_of_getElem? (l := tables_1_3) (i := 154) rfl)
set_option maxRecDepth 100000 in
theorem tw_701 : (Cond.instanceMethod yX2_feeOf) ∈ lw_tbl := ch_3 _ (List.mem_of_getElem? (l := tables_1_3) (i := 155) rfl)
set_option maxRecDepth 100000 in
theorem tw_702 : (Cond.selects RX2 yX2_feeOf yX2_feeOf) ∈ lw_tbl := ch_3 _ (List.mem_of_getElem? (l := tables_1_3) (i := 156) rfl)
set_option maxRecDepth 100000 in
theorem tw_703 : (Cond.code yX2_feeOf cX2_feeOf 4 (some .int)) ∈ lw_tbl := ch_3 _ (List.mem_of_getElem? (l := tables_1_3) (i := 157) rfl)
set_option maxRecDepth 100000 in
theorem tw_704 : (Cond.methodLink RL 123 yX7_near) ∈ lw_tbl := ch_3 _ (List.mem_of_getElem? (l := tables_1_3) (i := 158) rfl)
set_option maxRecDepth 100000 in
theorem tw_705 : (Cond.instanceMethod yX7_near) ∈ lw_tbl := ch_3 _ (List.mem_of_getElem? (l := tables_1_3) (i := 159) rfl)
set_option maxRecDepth 100000 in
theorem tw_706 : (Cond.selects RX7 yX7_near yX7_near) ∈ lw_tbl := ch_3 _ (List.mem_of_getElem? (l := tables_1_3) (i := 160) rfl)
set_option maxRecDepth 100000 in
theorem tw_707 : (Cond.code yX7_near cX7_near 4 (some .int)) ∈ lw_tbl := ch_3 _ (List.mem_of_getElem? (l := tables_1_3) (i := 161) rfl)
set_option maxRecDepth 100000 in
theorem tw_708 : (Cond.methodLink RX7 267 yX2_nearestTo) ∈ lw_tbl := ch_3 _ (List.mem_of_getElem? (l := tables_1_3) (i := 162) rfl)
set_option maxRecDepth 100000 in
theorem tw_709 : (Cond.instanceMethod yX2_nearestTo) ∈ lw_tbl := ch_3 _ (List.mem_of_getElem? (l := tables_1_3) (i := 163) rfl)
set_option maxRecDepth 100000 in
theorem tw_710 : (Cond.selects RX2 yX2_nearestTo yX2_nearestTo) ∈ lw_tbl := ch_3 _ (List.mem_of_getElem? (l := tables_1_3) (i := 164) rfl)
set_option maxRecDepth 100000 in
theorem tw_711 : (Cond.code yX2_nearestTo cX2_nearestTo 5 (some .int)) ∈ lw_tbl := ch_3 _ (List.mem_of_getElem? (l := tables_1_3) (i := 165) rfl)
set_option maxRecDepth 100000 in
theorem tw_712 : (Cond.methodLink RL 127 yX7_rules) ∈ lw_tbl := ch_3 _ (List.mem_of_getElem? (l := tables_1_3) (i := 166) rfl)
set_option maxRecDepth 100000 in
theorem tw_713 : (Cond.instanceMethod yX7_rules) ∈ lw_tbl := ch_3 _ (List.mem_of_getElem? (l := tables_1_3) (i := 167) rfl)
set_option maxRecDepth 100000 in
theorem tw_714 : (Cond.selects RX7 yX7_rules yX7_rules) ∈ lw_tbl := ch_3 _ (List.mem_of_getElem? (l := tables_1_3) (i := 168) rfl)
set_option maxRecDepth 100000 in
theorem tw_715 : (Cond.code yX7_rules cX7_rules 6 (some .int)) ∈ lw_tbl := ch_3 _ (List.mem_of_getElem? (l := tables_1_3) (i := 169) rfl)
set_option maxRecDepth 100000 in
theorem tw_716 : (Cond.methodLink RX7 270 yX7_rulesThatTell) ∈ lw_tbl := ch_3 _ (List.mem_of_getElem? (l := tables_1_3) (i := 170) rfl)
set_option maxRecDepth 100000 in
theorem tw_718 : (Cond.instanceMethod yX7_rulesThatTell) ∈ lw_tbl := ch_3 _ (List.mem_of_getElem? (l := tables_1_3) (i := 172) rfl)
set_option maxRecDepth 100000 in
theorem tw_719 : (Cond.code yX7_rulesThatTell cX7_rulesThatTell 13 (some .int)) ∈ lw_tbl := ch_3 _ (List.mem_of_getElem? (l := tables_1_3) (i := 173) rfl)
set_option maxRecDepth 100000 in
theorem tw_720 : (Cond.methodLink RX7 346 yX2_secretBy) ∈ lw_tbl := ch_3 _ (List.mem_of_getElem? (l := tables_1_3) (i := 174) rfl)
set_option maxRecDepth 100000 in
theorem tw_721 : (Cond.methodLink RL 131 yX7_fits) ∈ lw_tbl := ch_3 _ (List.mem_of_getElem? (l := tables_1_3) (i := 175) rfl)
set_option maxRecDepth 100000 in
theorem tw_722 : (Cond.instanceMethod yX7_fits) ∈ lw_tbl := ch_3 _ (List.mem_of_getElem? (l := tables_1_3) (i := 176) rfl)
set_option maxRecDepth 100000 in
theorem tw_723 : (Cond.selects RX7 yX7_fits yX7_fits) ∈ lw_tbl := ch_3 _ (List.mem_of_getElem? (l := tables_1_3) (i := 177) rfl)
set_option maxRecDepth 100000 in
theorem tw_724 : (Cond.code yX7_fits cX7_fits 6 (some .int)) ∈ lw_tbl := ch_3 _ (List.mem_of_getElem? (l := tables_1_3) (i := 178) rfl)
set_option maxRecDepth 100000 in
theorem tw_725 : (Cond.methodLink RX7 274 yX7_kindsThatFit) ∈ lw_tbl := ch_3 _ (List.mem_of_getElem? (l := tables_1_3) (i := 179) rfl)
set_option maxRecDepth 100000 in
theorem tw_727 : (Cond.instanceMethod yX7_kindsThatFit) ∈ lw_tbl := ch_3 _ (List.mem_of_getElem? (l := tables_1_3) (i := 181) rfl)
set_option maxRecDepth 100000 in
theorem tw_728 : (Cond.code yX7_kindsThatFit cX7_kindsThatFit 6 (some .int)) ∈ lw_tbl := ch_3 _ (List.mem_of_getElem? (l := tables_1_3) (i := 182) rfl)
set_option maxRecDepth 100000 in
theorem tw_729 : (Cond.methodLink RX7 350 yX7_fitsTold) ∈ lw_tbl := ch_3 _ (List.mem_of_getElem? (l := tables_1_3) (i := 183) rfl)
set_option maxRecDepth 100000 in
theorem tw_731 : (Cond.instanceMethod yX7_fitsTold) ∈ lw_tbl := ch_3 _ (List.mem_of_getElem? (l := tables_1_3) (i := 185) rfl)
set_option maxRecDepth 100000 in
theorem tw_732 : (Cond.code yX7_fitsTold cX7_fitsTold 6 (some .boolean)) ∈ lw_tbl := ch_3 _ (List.mem_of_getElem? (l := tables_1_3) (i := 186) rfl)
set_option maxRecDepth 100000 in
theorem tw_733 : (Cond.methodLink RX7 354 yX2_wouldTake) ∈ lw_tbl := ch_3 _ (List.mem_of_getElem? (l := tables_1_3) (i := 187) rfl)
set_option maxRecDepth 100000 in
theorem tw_734 : (Cond.methodLink RX7 281 yX7_secretsThatFit) ∈ lw_tbl := ch_3 _ (List.mem_of_getElem? (l := tables_1_3) (i := 188) rfl)
set_option maxRecDepth 100000 in
theorem tw_736 : (Cond.instanceMethod yX7_secretsThatFit) ∈ lw_tbl := ch_3 _ (List.mem_of_getElem? (l := tables_1_3) (i := 190) rfl)
set_option maxRecDepth 100000 in
theorem tw_737 : (Cond.code yX7_secretsThatFit cX7_secretsThatFit 6 (some .int)) ∈ lw_tbl := ch_3 _ (List.mem_of_getElem? (l := tables_1_3) (i := 191) rfl)
set_option maxRecDepth 100000 in
theorem tw_738 : (Cond.methodLink RL 135 yX7_sure) ∈ lw_tbl := ch_3 _ (List.mem_of_getElem? (l := tables_1_3) (i := 192) rfl)
set_option maxRecDepth 100000 in
theorem tw_739 : (Cond.instanceMethod yX7_sure) ∈ lw_tbl := ch_3 _ (List.mem_of_getElem? (l := tables_1_3) (i := 193) rfl)
set_option maxRecDepth 100000 in
theorem tw_740 : (Cond.selects RX7 yX7_sure yX7_sure) ∈ lw_tbl := ch_3 _ (List.mem_of_getElem? (l := tables_1_3) (i := 194) rfl)
set_option maxRecDepth 100000 in
theorem tw_741 : (Cond.code yX7_sure cX7_sure 10 (some .int)) ∈ lw_tbl := ch_3 _ (List.mem_of_getElem? (l := tables_1_3) (i := 195) rfl)
set_option maxRecDepth 100000 in
theorem tw_742 : (Cond.methodLink RX7 285 yJ6_bitCount_0f7a4) ∈ lw_tbl := ch_3 _ (List.mem_of_getElem? (l := tables_1_3) (i := 196) rfl)
set_option maxRecDepth 100000 in
theorem tw_743 : (Cond.methodLink RX7 290 yX3_secretsCatching) ∈ lw_tbl := ch_3 _ (List.mem_of_getElem? (l := tables_1_3) (i := 197) rfl)
set_option maxRecDepth 100000 in
theorem tw_744 : (Cond.methodLink RX7 293 yX7_commonDivisor) ∈ lw_tbl := ch_3 _ (List.mem_of_getElem? (l := tables_1_3) (i := 198) rfl)
set_option maxRecDepth 100000 in
theorem tw_745 : (Cond.static yX7_commonDivisor) ∈ lw_tbl := ch_3 _ (List.mem_of_getElem? (l := tables_1_3) (i := 199) rfl)
set_option maxRecDepth 100000 in
theorem tw_746 : (Cond.code yX7_commonDivisor cX7_commonDivisor 3 (some .int)) ∈ lw_tbl := ch_3 _ (List.mem_of_getElem? (l := tables_1_3) (i := 200) rfl)
set_option maxRecDepth 100000 in
theorem tw_747 : (Cond.methodLink RX7 296 yX7_lowest) ∈ lw_tbl := ch_3 _ (List.mem_of_getElem? (l := tables_1_3) (i := 201) rfl)
set_option maxRecDepth 100000 in
theorem tw_748 : (Cond.static yX7_lowest) ∈ lw_tbl := ch_3 _ (List.mem_of_getElem? (l := tables_1_3) (i := 202) rfl)
set_option maxRecDepth 100000 in
theorem tw_749 : (Cond.code yX7_lowest cX7_lowest 2 (some .int)) ∈ lw_tbl := ch_3 _ (List.mem_of_getElem? (l := tables_1_3) (i := 203) rfl)
set_option maxRecDepth 100000 in
theorem tw_750 : (Cond.methodLink RL 139 yX7_drawn) ∈ lw_tbl := ch_3 _ (List.mem_of_getElem? (l := tables_1_3) (i := 204) rfl)
set_option maxRecDepth 100000 in
theorem tw_751 : (Cond.instanceMethod yX7_drawn) ∈ lw_tbl := ch_3 _ (List.mem_of_getElem? (l := tables_1_3) (i := 205) rfl)
set_option maxRecDepth 100000 in
theorem tw_752 : (Cond.selects RX7 yX7_drawn yX7_drawn) ∈ lw_tbl := ch_3 _ (List.mem_of_getElem? (l := tables_1_3) (i := 206) rfl)
set_option maxRecDepth 100000 in
theorem tw_753 : (Cond.code yX7_drawn cX7_drawn 10 (some .int)) ∈ lw_tbl := ch_3 _ (List.mem_of_getElem? (l := tables_1_3) (i := 207) rfl)
set_option maxRecDepth 100000 in
theorem tw_754 : (Cond.constant RX7 299 (999999)) ∈ lw_tbl := ch_3 _ (List.mem_of_getElem? (l := tables_1_3) (i := 208) rfl)
set_option maxRecDepth 100000 in
theorem tw_755 : (Cond.constantLong RX7 300 (16807)) ∈ lw_tbl := ch_3 _ (List.mem_of_getElem? (l := tables_1_3) (i := 209) rfl)
set_option maxRecDepth 100000 in
theorem tw_756 : (Cond.constantLong RX7 302 (2147483647)) ∈ lw_tbl := ch_3 _ (List.mem_of_getElem? (l := tables_1_3) (i := 210) rfl)
set_option maxRecDepth 100000 in
theorem tw_757 : (Cond.methodLink RX7 304 yX7_rest) ∈ lw_tbl := ch_3 _ (List.mem_of_getElem? (l := tables_1_3) (i := 211) rfl)
set_option maxRecDepth 100000 in
theorem tw_758 : (Cond.methodLink RL 143 yX7_image) ∈ lw_tbl := ch_3 _ (List.mem_of_getElem? (l := tables_1_3) (i := 212) rfl)
set_option maxRecDepth 100000 in
theorem tw_759 : (Cond.instanceMethod yX7_image) ∈ lw_tbl := ch_3 _ (List.mem_of_getElem? (l := tables_1_3) (i := 213) rfl)
set_option maxRecDepth 100000 in
theorem tw_760 : (Cond.selects RX7 yX7_image yX7_image) ∈ lw_tbl := ch_3 _ (List.mem_of_getElem? (l := tables_1_3) (i := 214) rfl)
set_option maxRecDepth 100000 in
theorem tw_761 : (Cond.code yX7_image cX7_image 2 (some .int)) ∈ lw_tbl := ch_3 _ (List.mem_of_getElem? (l := tables_1_3) (i := 215) rfl)
set_option maxRecDepth 100000 in
theorem tw_762 : (Cond.methodLink RL 147 yX7_restore) ∈ lw_tbl := ch_3 _ (List.mem_of_getElem? (l := tables_1_3) (i := 216) rfl)
set_option maxRecDepth 100000 in
theorem tw_763 : (Cond.instanceMethod yX7_restore) ∈ lw_tbl := ch_3 _ (List.mem_of_getElem? (l := tables_1_3) (i := 217) rfl)
set_option maxRecDepth 100000 in
theorem tw_764 : (Cond.selects RX7 yX7_restore yX7_restore) ∈ lw_tbl := ch_3 _ (List.mem_of_getElem? (l := tables_1_3) (i := 218) rfl)
set_option maxRecDepth 100000 in
theorem tw_765 : (Cond.code yX7_restore cX7_restore 2 (some .int)) ∈ lw_tbl := ch_3 _ (List.mem_of_getElem? (l := tables_1_3) (i := 219) rfl)
set_option maxRecDepth 100000 in
theorem tw_766 : (Cond.methodLink RL 151 yX7_kind) ∈ lw_tbl := ch_3 _ (List.mem_of_getElem? (l := tables_1_3) (i := 220) rfl)
set_option maxRecDepth 100000 in
theorem tw_767 : (Cond.instanceMethod yX7_kind) ∈ lw_tbl := ch_3 _ (List.mem_of_getElem? (l := tables_1_3) (i := 221) rfl)
set_option maxRecDepth 100000 in
theorem tw_768 : (Cond.selects RX7 yX7_kind yX7_kind) ∈ lw_tbl := ch_3 _ (List.mem_of_getElem? (l := tables_1_3) (i := 222) rfl)
set_option maxRecDepth 100000 in
theorem tw_769 : (Cond.code yX7_kind cX7_kind 2 (some .int)) ∈ lw_tbl := ch_3 _ (List.mem_of_getElem? (l := tables_1_3) (i := 223) rfl)
set_option maxRecDepth 100000 in
theorem tw_770 : (Cond.methodLink RL 155 yX7_as) ∈ lw_tbl := ch_3 _ (List.mem_of_getElem? (l := tables_1_3) (i := 224) rfl)
set_option maxRecDepth 100000 in
theorem tw_771 : (Cond.instanceMethod yX7_as) ∈ lw_tbl := ch_3 _ (List.mem_of_getElem? (l := tables_1_3) (i := 225) rfl)
set_option maxRecDepth 100000 in
theorem tw_772 : (Cond.selects RX7 yX7_as yX7_as) ∈ lw_tbl := ch_3 _ (List.mem_of_getElem? (l := tables_1_3) (i := 226) rfl)
set_option maxRecDepth 100000 in
theorem tw_773 : (Cond.code yX7_as cX7_as 3 (some .int)) ∈ lw_tbl := ch_3 _ (List.mem_of_getElem? (l := tables_1_3) (i := 227) rfl)
set_option maxRecDepth 100000 in
theorem tw_774 : (Cond.methodLink RX7 307 yX1_isA) ∈ lw_tbl := ch_3 _ (List.mem_of_getElem? (l := tables_1_3) (i := 228) rfl)
set_option maxRecDepth 100000 in
theorem tw_775 : (Cond.static yX1_isA) ∈ lw_tbl := ch_3 _ (List.mem_of_getElem? (l := tables_1_3) (i := 229) rfl)
set_option maxRecDepth 100000 in
theorem tw_776 : (Cond.code yX1_isA cX1_isA 4 (some .boolean)) ∈ lw_tbl := ch_3 _ (List.mem_of_getElem? (l := tables_1_3) (i := 230) rfl)
set_option maxRecDepth 100000 in
theorem tw_777 : (Cond.fieldLink RX1 15 "WrongWord$Asks" "NEAREST_ABOVE" "[I") ∈ lw_tbl := ch_3 _ (List.mem_of_getElem? (l := tables_1_3) (i := 231) rfl)
set_option maxRecDepth 100000 in
theorem tw_779 : (Cond.methodLink RL 159 yX7_ask) ∈ lw_tbl := ch_3 _ (List.mem_of_getElem? (l := tables_1_3) (i := 233) rfl)
set_option maxRecDepth 100000 in
theorem tw_780 : (Cond.instanceMethod yX7_ask) ∈ lw_tbl := ch_3 _ (List.mem_of_getElem? (l := tables_1_3) (i := 234) rfl)
set_option maxRecDepth 100000 in
theorem tw_781 : (Cond.selects RX7 yX7_ask yX7_ask) ∈ lw_tbl := ch_3 _ (List.mem_of_getElem? (l := tables_1_3) (i := 235) rfl)
set_option maxRecDepth 100000 in
theorem tw_782 : (Cond.code yX7_ask cX7_ask 3 (some .int)) ∈ lw_tbl := ch_3 _ (List.mem_of_getElem? (l := tables_1_3) (i := 236) rfl)
set_option maxRecDepth 100000 in
theorem tw_783 : (Cond.methodLink RX7 310 yX1_turnTo) ∈ lw_tbl := ch_3 _ (List.mem_of_getElem? (l := tables_1_3) (i := 237) rfl)
set_option maxRecDepth 100000 in
theorem tw_784 : (Cond.instanceMethod yX1_turnTo) ∈ lw_tbl := ch_3 _ (List.mem_of_getElem? (l := tables_1_3) (i := 238) rfl)
set_option maxRecDepth 100000 in
theorem tw_785 : (Cond.selects RX1 yX1_turnTo yX1_turnTo) ∈ lw_tbl := ch_3 _ (List.mem_of_getElem? (l := tables_1_3) (i := 239) rfl)
set_option maxRecDepth 100000 in
theorem tw_786 : (Cond.code yX1_turnTo cX1_turnTo 5 none) ∈ lw_tbl := ch_4 _ (List.mem_of_getElem? (l := tables_1_4) (i := 0) rfl)
set_option maxRecDepth 100000 in
theorem tw_787 : (Cond.methodLink RX7 314 yX1_answer) ∈ lw_tbl := ch_4 _ (List.mem_of_getElem? (l := tables_1_4) (i := 1) rfl)
set_option maxRecDepth 100000 in
theorem tw_788 : (Cond.instanceMethod yX1_answer) ∈ lw_tbl := ch_4 _ (List.mem_of_getElem? (l := tables_1_4) (i := 2) rfl)
set_option maxRecDepth 100000 in
theorem tw_789 : (Cond.selects RX1 yX1_answer yX1_answer) ∈ lw_tbl := ch_4 _ (List.mem_of_getElem? (l := tables_1_4) (i := 3) rfl)
set_option maxRecDepth 100000 in
theorem tw_790 : (Cond.code yX1_answer cX1_answer 2 (some .int)) ∈ lw_tbl := ch_4 _ (List.mem_of_getElem? (l := tables_1_4) (i := 4) rfl)
set_option maxRecDepth 100000 in
theorem tw_791 : (Cond.methodLink RX1 34 yX1_sizeBody) ∈ lw_tbl := ch_4 _ (List.mem_of_getElem? (l := tables_1_4) (i := 5) rfl)
set_option maxRecDepth 100000 in
theorem tw_793 : (Cond.instanceMethod yX1_sizeBody) ∈ lw_tbl := ch_4 _ (List.mem_of_getElem? (l := tables_1_4) (i := 7) rfl)
set_option maxRecDepth 100000 in
theorem tw_794 : (Cond.code yX1_sizeBody cX1_sizeBody 1 (some .int)) ∈ lw_tbl := ch_4 _ (List.mem_of_getElem? (l := tables_1_4) (i := 8) rfl)
set_option maxRecDepth 100000 in
theorem tw_795 : (Cond.fieldLink RX1 45 "WrongWord$Asks" "SIZE_BODY" "[I") ∈ lw_tbl := ch_4 _ (List.mem_of_getElem? (l := tables_1_4) (i := 9) rfl)
set_option maxRecDepth 100000 in
theorem tw_797 : (Cond.methodLink RX1 38 yX1_markBody) ∈ lw_tbl := ch_4 _ (List.mem_of_getElem? (l := tables_1_4) (i := 11) rfl)
set_option maxRecDepth 100000 in
theorem tw_799 : (Cond.instanceMethod yX1_markBody) ∈ lw_tbl := ch_4 _ (List.mem_of_getElem? (l := tables_1_4) (i := 13) rfl)
set_option maxRecDepth 100000 in
theorem tw_800 : (Cond.code yX1_markBody cX1_markBody 1 (some .int)) ∈ lw_tbl := ch_4 _ (List.mem_of_getElem? (l := tables_1_4) (i := 14) rfl)
set_option maxRecDepth 100000 in
theorem tw_801 : (Cond.fieldLink RX1 48 "WrongWord$Asks" "MARK_BODY" "[I") ∈ lw_tbl := ch_4 _ (List.mem_of_getElem? (l := tables_1_4) (i := 15) rfl)
set_option maxRecDepth 100000 in
theorem tw_803 : (Cond.methodLink RX1 41 yX1_given) ∈ lw_tbl := ch_4 _ (List.mem_of_getElem? (l := tables_1_4) (i := 17) rfl)
set_option maxRecDepth 100000 in
theorem tw_804 : (Cond.static yX1_given) ∈ lw_tbl := ch_4 _ (List.mem_of_getElem? (l := tables_1_4) (i := 18) rfl)
set_option maxRecDepth 100000 in
theorem tw_805 : (Cond.code yX1_given cX1_given 4 (some .int)) ∈ lw_tbl := ch_4 _ (List.mem_of_getElem? (l := tables_1_4) (i := 19) rfl)
set_option maxRecDepth 100000 in
theorem tw_806 : (Cond.methodLink RX1 51 yX1_leave) ∈ lw_tbl := ch_4 _ (List.mem_of_getElem? (l := tables_1_4) (i := 20) rfl)
set_option maxRecDepth 100000 in
theorem tw_808 : (Cond.instanceMethod yX1_leave) ∈ lw_tbl := ch_4 _ (List.mem_of_getElem? (l := tables_1_4) (i := 22) rfl)
set_option maxRecDepth 100000 in
theorem tw_809 : (Cond.code yX1_leave cX1_leave 2 none) ∈ lw_tbl := ch_4 _ (List.mem_of_getElem? (l := tables_1_4) (i := 23) rfl)
set_option maxRecDepth 100000 in
theorem tw_810 : (Cond.methodLink RL 163 yX7_trace) ∈ lw_tbl := ch_4 _ (List.mem_of_getElem? (l := tables_1_4) (i := 24) rfl)
set_option maxRecDepth 100000 in
theorem tw_811 : (Cond.instanceMethod yX7_trace) ∈ lw_tbl := ch_4 _ (List.mem_of_getElem? (l := tables_1_4) (i := 25) rfl)
set_option maxRecDepth 100000 in
theorem tw_812 : (Cond.selects RX7 yX7_trace yX7_trace) ∈ lw_tbl := ch_4 _ (List.mem_of_getElem? (l := tables_1_4) (i := 26) rfl)
set_option maxRecDepth 100000 in
theorem tw_813 : (Cond.code yX7_trace cX7_trace 2 (some .int)) ∈ lw_tbl := ch_4 _ (List.mem_of_getElem? (l := tables_1_4) (i := 27) rfl)
set_option maxRecDepth 100000 in
theorem tw_814 : (Cond.methodLink RL 167 yX7_count) ∈ lw_tbl := ch_4 _ (List.mem_of_getElem? (l := tables_1_4) (i := 28) rfl)
set_option maxRecDepth 100000 in
theorem tw_815 : (Cond.instanceMethod yX7_count) ∈ lw_tbl := ch_4 _ (List.mem_of_getElem? (l := tables_1_4) (i := 29) rfl)
set_option maxRecDepth 100000 in
theorem tw_816 : (Cond.selects RX7 yX7_count yX7_count) ∈ lw_tbl := ch_4 _ (List.mem_of_getElem? (l := tables_1_4) (i := 30) rfl)
set_option maxRecDepth 100000 in
theorem tw_817 : (Cond.code yX7_count cX7_count 2 (some .int)) ∈ lw_tbl := ch_4 _ (List.mem_of_getElem? (l := tables_1_4) (i := 31) rfl)
set_option maxRecDepth 100000 in
theorem tw_818 : (Cond.methodLink RX7 323 yX7_rowsThere) ∈ lw_tbl := ch_4 _ (List.mem_of_getElem? (l := tables_1_4) (i := 32) rfl)
set_option maxRecDepth 100000 in
theorem tw_820 : (Cond.instanceMethod yX7_rowsThere) ∈ lw_tbl := ch_4 _ (List.mem_of_getElem? (l := tables_1_4) (i := 34) rfl)
set_option maxRecDepth 100000 in
theorem tw_821 : (Cond.code yX7_rowsThere cX7_rowsThere 3 (some .int)) ∈ lw_tbl := ch_4 _ (List.mem_of_getElem? (l := tables_1_4) (i := 35) rfl)
set_option maxRecDepth 100000 in
theorem tw_822 : (Cond.methodLink RX7 330 yX4_tookInAll) ∈ lw_tbl := ch_4 _ (List.mem_of_getElem? (l := tables_1_4) (i := 36) rfl)
set_option maxRecDepth 100000 in
theorem tw_823 : (Cond.instanceMethod yX4_tookInAll) ∈ lw_tbl := ch_4 _ (List.mem_of_getElem? (l := tables_1_4) (i := 37) rfl)
set_option maxRecDepth 100000 in
theorem tw_824 : (Cond.selects RX4 yX4_tookInAll yX4_tookInAll) ∈ lw_tbl := ch_4 _ (List.mem_of_getElem? (l := tables_1_4) (i := 38) rfl)
set_option maxRecDepth 100000 in
theorem tw_825 : (Cond.code yX4_tookInAll cX4_tookInAll 3 (some .int)) ∈ lw_tbl := ch_4 _ (List.mem_of_getElem? (l := tables_1_4) (i := 39) rfl)
set_option maxRecDepth 100000 in
theorem tw_826 : (Cond.methodLink RL 171 yX7_status) ∈ lw_tbl := ch_4 _ (List.mem_of_getElem? (l := tables_1_4) (i := 40) rfl)
set_option maxRecDepth 100000 in
theorem tw_827 : (Cond.instanceMethod yX7_status) ∈ lw_tbl := ch_4 _ (List.mem_of_getElem? (l := tables_1_4) (i := 41) rfl)
set_option maxRecDepth 100000 in
theorem tw_828 : (Cond.selects RX7 yX7_status yX7_status) ∈ lw_tbl := ch_4 _ (List.mem_of_getElem? (l := tables_1_4) (i := 42) rfl)
set_option maxRecDepth 100000 in
theorem tw_829 : (Cond.code yX7_status cX7_status 1 (some .int)) ∈ lw_tbl := ch_4 _ (List.mem_of_getElem? (l := tables_1_4) (i := 43) rfl)
set_option maxRecDepth 100000 in
theorem tw_830 : (Cond.classLink RL 10 RX8) ∈ lw_tbl := ch_4 _ (List.mem_of_getElem? (l := tables_1_4) (i := 44) rfl)
set_option maxRecDepth 100000 in
theorem tw_831 : (Cond.instantiable RX8 23) ∈ lw_tbl := ch_4 _ (List.mem_of_getElem? (l := tables_1_4) (i := 45) rfl)
set_option maxRecDepth 100000 in
theorem tw_832 : (Cond.methodLink RL 12 yX8_init) ∈ lw_tbl := ch_4 _ (List.mem_of_getElem? (l := tables_1_4) (i := 46) rfl)
set_option maxRecDepth 100000 in
theorem tw_833 : (Cond.instanceMethod yX8_init) ∈ lw_tbl := ch_4 _ (List.mem_of_getElem? (l := tables_1_4) (i := 47) rfl)
set_option maxRecDepth 100000 in
theorem tw_834 : (Cond.code yX8_init cX8_init 2 none) ∈ lw_tbl := ch_4 _ (List.mem_of_getElem? (l := tables_1_4) (i := 48) rfl)
set_option maxRecDepth 100000 in
theorem tw_835 : (Cond.methodLink RX8 1 objectInit) ∈ lw_tbl := ch_4 _ (List.mem_of_getElem? (l := tables_1_4) (i := 49) rfl)
set_option maxRecDepth 100000 in
theorem tw_836 : (Cond.constant RX8 50 (-1000000)) ∈ lw_tbl := ch_4 _ (List.mem_of_getElem? (l := tables_1_4) (i := 50) rfl)
set_option maxRecDepth 100000 in
theorem tw_837 : (Cond.fieldLink RX8 7 "WrongWordModel" "lane" "[I") ∈ lw_tbl := ch_4 _ (List.mem_of_getElem? (l := tables_1_4) (i := 51) rfl)
set_option maxRecDepth 100000 in
theorem tw_838 : (Cond.fieldLink RX8 13 "WrongWordModel" "many" "[I") ∈ lw_tbl := ch_4 _ (List.mem_of_getElem? (l := tables_1_4) (i := 52) rfl)
set_option maxRecDepth 100000 in
theorem tw_839 : (Cond.fieldLink RX8 16 "WrongWordModel" "items" "[I") ∈ lw_tbl := ch_4 _ (List.mem_of_getElem? (l := tables_1_4) (i := 53) rfl)
set_option maxRecDepth 100000 in
theorem tw_840 : (Cond.fieldLink RX8 19 "WrongWordModel" "spare" "[I") ∈ lw_tbl := ch_4 _ (List.mem_of_getElem? (l := tables_1_4) (i := 54) rfl)
set_option maxRecDepth 100000 in
theorem tw_841 : (Cond.fieldLink RX8 51 "WrongWordModel" "status" "I") ∈ lw_tbl := ch_4 _ (List.mem_of_getElem? (l := tables_1_4) (i := 55) rfl)
set_option maxRecDepth 100000 in
theorem tw_842 : (Cond.fieldLink RX8 22 "WrongWordModel" "tape" "[I") ∈ lw_tbl := ch_4 _ (List.mem_of_getElem? (l := tables_1_4) (i := 56) rfl)
set_option maxRecDepth 100000 in
theorem tw_843 : (Cond.fieldLink RX8 82 "WrongWordModel" "taped" "I") ∈ lw_tbl := ch_4 _ (List.mem_of_getElem? (l := tables_1_4) (i := 57) rfl)
set_option maxRecDepth 100000 in
theorem tw_844 : (Cond.fieldLink RX8 108 "WrongWordModel" "faultKind" "I") ∈ lw_tbl := ch_4 _ (List.mem_of_getElem? (l := tables_1_4) (i := 58) rfl)
set_option maxRecDepth 100000 in
theorem tw_845 : (Cond.fieldLink RX8 101 "WrongWordModel" "faultPlace" "I") ∈ lw_tbl := ch_4 _ (List.mem_of_getElem? (l := tables_1_4) (i := 59) rfl)
set_option maxRecDepth 100000 in
theorem tw_846 : (Cond.fieldLink RX8 86 "WrongWordModel" "at" "I") ∈ lw_tbl := ch_4 _ (List.mem_of_getElem? (l := tables_1_4) (i := 60) rfl)
set_option maxRecDepth 100000 in
theorem tw_847 : (Cond.fieldLink RX8 89 "WrongWordModel" "start" "I") ∈ lw_tbl := ch_4 _ (List.mem_of_getElem? (l := tables_1_4) (i := 61) rfl)
set_option maxRecDepth 100000 in
theorem tw_848 : (Cond.fieldLink RX8 98 "WrongWordModel" "token" "I") ∈ lw_tbl := ch_4 _ (List.mem_of_getElem? (l := tables_1_4) (i := 62) rfl)
set_option maxRecDepth 100000 in
theorem tw_849 : (Cond.fieldLink RX8 95 "WrongWordModel" "value" "I") ∈ lw_tbl := ch_4 _ (List.mem_of_getElem? (l := tables_1_4) (i := 63) rfl)
set_option maxRecDepth 100000 in
theorem tw_850 : (Cond.fieldLink RX8 25 "WrongWordModel" "now" "[I") ∈ lw_tbl := ch_4 _ (List.mem_of_getElem? (l := tables_1_4) (i := 64) rfl)
set_option maxRecDepth 100000 in
theorem tw_851 : (Cond.fieldLink RX8 28 "WrongWordModel" "draft" "[I") ∈ lw_tbl := ch_4 _ (List.mem_of_getElem? (l := tables_1_4) (i := 65) rfl)
set_option maxRecDepth 100000 in
theorem tw_852 : (Cond.fieldLink RX8 31 "WrongWordModel" "tried" "[I") ∈ lw_tbl := ch_4 _ (List.mem_of_getElem? (l := tables_1_4) (i := 66) rfl)
set_option maxRecDepth 100000 in
theorem tw_853 : (Cond.fieldLink RX8 34 "WrongWordModel" "past" "[I") ∈ lw_tbl := ch_4 _ (List.mem_of_getElem? (l := tables_1_4) (i := 67) rfl)
set_option maxRecDepth 100000 in
theorem tw_854 : (Cond.fieldLink RX8 149 "WrongWordModel" "acts" "I") ∈ lw_tbl := ch_4 _ (List.mem_of_getElem? (l := tables_1_4) (i := 68) rfl)
set_option maxRecDepth 100000 in
theorem tw_855 : (Cond.fieldLink RX8 37 "WrongWordModel" "images" "[I") ∈ lw_tbl := ch_4 _ (List.mem_of_getElem? (l := tables_1_4) (i := 69) rfl)
set_option maxRecDepth 100000 in
theorem tw_856 : (Cond.fieldLink RX8 40 "WrongWordModel" "kept" "[Z") ∈ lw_tbl := ch_4 _ (List.mem_of_getElem? (l := tables_1_4) (i := 70) rfl)
set_option maxRecDepth 100000 in
theorem tw_857 : (Cond.fieldLink RX8 44 "WrongWordModel" "men" "[I") ∈ lw_tbl := ch_4 _ (List.mem_of_getElem? (l := tables_1_4) (i := 71) rfl)
set_option maxRecDepth 100000 in
theorem tw_858 : (Cond.fieldLink RX8 47 "WrongWordModel" "trace" "[I") ∈ lw_tbl := ch_4 _ (List.mem_of_getElem? (l := tables_1_4) (i := 72) rfl)
set_option maxRecDepth 100000 in
theorem tw_859 : (Cond.fieldLink RX8 237 "WrongWordModel" "traced" "I") ∈ lw_tbl := ch_4 _ (List.mem_of_getElem? (l := tables_1_4) (i := 73) rfl)
set_option maxRecDepth 100000 in
theorem tw_907 : (Cond.arrayClass .boolean) ∈ lw_tbl := ch_4 _ (List.mem_of_getElem? (l := tables_1_4) (i := 121) rfl)
set_option maxRecDepth 100000 in
theorem tw_908 : (Cond.methodLink RL 17 yX8_row) ∈ lw_tbl := ch_4 _ (List.mem_of_getElem? (l := tables_1_4) (i := 122) rfl)
set_option maxRecDepth 100000 in
theorem tw_909 : (Cond.instanceMethod yX8_row) ∈ lw_tbl := ch_4 _ (List.mem_of_getElem? (l := tables_1_4) (i := 123) rfl)
set_option maxRecDepth 100000 in
theorem tw_910 : (Cond.selects RX8 yX8_row yX8_row) ∈ lw_tbl := ch_4 _ (List.mem_of_getElem? (l := tables_1_4) (i := 124) rfl)
set_option maxRecDepth 100000 in
theorem tw_911 : (Cond.code yX8_row cX8_row 5 (some .int)) ∈ lw_tbl := ch_4 _ (List.mem_of_getElem? (l := tables_1_4) (i := 125) rfl)
set_option maxRecDepth 100000 in
theorem tw_912 : (Cond.methodLink RX8 60 yX8_isRow) ∈ lw_tbl := ch_4 _ (List.mem_of_getElem? (l := tables_1_4) (i := 126) rfl)
set_option maxRecDepth 100000 in
theorem tw_913 : (Cond.static yX8_isRow) ∈ lw_tbl := ch_4 _ (List.mem_of_getElem? (l := tables_1_4) (i := 127) rfl)
set_option maxRecDepth 100000 in
theorem tw_914 : (Cond.code yX8_isRow cX8_isRow 1 (some .boolean)) ∈ lw_tbl := ch_4 _ (List.mem_of_getElem? (l := tables_1_4) (i := 128) rfl)
set_option maxRecDepth 100000 in
theorem tw_915 : (Cond.methodLink RX8 56 yX8_in) ∈ lw_tbl := ch_4 _ (List.mem_of_getElem? (l := tables_1_4) (i := 129) rfl)
set_option maxRecDepth 100000 in
theorem tw_916 : (Cond.static yX8_in) ∈ lw_tbl := ch_4 _ (List.mem_of_getElem? (l := tables_1_4) (i := 130) rfl)
set_option maxRecDepth 100000 in
theorem tw_917 : (Cond.code yX8_in cX8_in 3 (some .boolean)) ∈ lw_tbl := ch_4 _ (List.mem_of_getElem? (l := tables_1_4) (i := 131) rfl)
set_option maxRecDepth 100000 in
theorem tw_918 : (Cond.constant RX8 64 (-1000001)) ∈ lw_tbl := ch_4 _ (List.mem_of_getElem? (l := tables_1_4) (i := 132) rfl)
set_option maxRecDepth 100000 in
theorem tw_919 : (Cond.methodLink RX8 65 yX8_found) ∈ lw_tbl := ch_4 _ (List.mem_of_getElem? (l := tables_1_4) (i := 133) rfl)
set_option maxRecDepth 100000 in
theorem tw_921 : (Cond.instanceMethod yX8_found) ∈ lw_tbl := ch_4 _ (List.mem_of_getElem? (l := tables_1_4) (i := 135) rfl)
set_option maxRecDepth 100000 in
theorem tw_922 : (Cond.code yX8_found cX8_found 2 (some .int)) ∈ lw_tbl := ch_4 _ (List.mem_of_getElem? (l := tables_1_4) (i := 136) rfl)
set_option maxRecDepth 100000 in
theorem tw_923 : (Cond.constant RX8 55 (-1000010)) ∈ lw_tbl := ch_4 _ (List.mem_of_getElem? (l := tables_1_4) (i := 137) rfl)
set_option maxRecDepth 100000 in
theorem tw_924 : (Cond.methodLink RX8 69 yX8_well) ∈ lw_tbl := ch_4 _ (List.mem_of_getElem? (l := tables_1_4) (i := 138) rfl)
set_option maxRecDepth 100000 in
theorem tw_926 : (Cond.instanceMethod yX8_well) ∈ lw_tbl := ch_4 _ (List.mem_of_getElem? (l := tables_1_4) (i := 140) rfl)
set_option maxRecDepth 100000 in
theorem tw_927 : (Cond.code yX8_well cX8_well 2 (some .int)) ∈ lw_tbl := ch_4 _ (List.mem_of_getElem? (l := tables_1_4) (i := 141) rfl)
set_option maxRecDepth 100000 in
theorem tw_928 : (Cond.methodLink RL 21 yX8_set) ∈ lw_tbl := ch_4 _ (List.mem_of_getElem? (l := tables_1_4) (i := 142) rfl)
set_option maxRecDepth 100000 in
theorem tw_929 : (Cond.instanceMethod yX8_set) ∈ lw_tbl := ch_4 _ (List.mem_of_getElem? (l := tables_1_4) (i := 143) rfl)
set_option maxRecDepth 100000 in
theorem tw_930 : (Cond.selects RX8 yX8_set yX8_set) ∈ lw_tbl := ch_4 _ (List.mem_of_getElem? (l := tables_1_4) (i := 144) rfl)
set_option maxRecDepth 100000 in
theorem tw_931 : (Cond.code yX8_set cX8_set 4 (some .int)) ∈ lw_tbl := ch_4 _ (List.mem_of_getElem? (l := tables_1_4) (i := 145) rfl)
set_option maxRecDepth 100000 in
theorem tw_932 : (Cond.methodLink RX8 72 yX8_isMissing) ∈ lw_tbl := ch_4 _ (List.mem_of_getElem? (l := tables_1_4) (i := 146) rfl)
set_option maxRecDepth 100000 in
theorem tw_934 : (Cond.instanceMethod yX8_isMissing) ∈ lw_tbl := ch_4 _ (List.mem_of_getElem? (l := tables_1_4) (i := 148) rfl)
set_option maxRecDepth 100000 in
theorem tw_935 : (Cond.code yX8_isMissing cX8_isMissing 2 (some .boolean)) ∈ lw_tbl := ch_4 _ (List.mem_of_getElem? (l := tables_1_4) (i := 149) rfl)
set_option maxRecDepth 100000 in
theorem tw_936 : (Cond.methodLink RX8 75 yX8_cut) ∈ lw_tbl := ch_4 _ (List.mem_of_getElem? (l := tables_1_4) (i := 150) rfl)
set_option maxRecDepth 100000 in
theorem tw_937 : (Cond.static yX8_cut) ∈ lw_tbl := ch_4 _ (List.mem_of_getElem? (l := tables_1_4) (i := 151) rfl)
set_option maxRecDepth 100000 in
theorem tw_938 : (Cond.code yX8_cut cX8_cut 2 (some .int)) ∈ lw_tbl := ch_4 _ (List.mem_of_getElem? (l := tables_1_4) (i := 152) rfl)
set_option maxRecDepth 100000 in
theorem tw_939 : (Cond.methodLink RL 26 yX8_copy) ∈ lw_tbl := ch_4 _ (List.mem_of_getElem? (l := tables_1_4) (i := 153) rfl)
set_option maxRecDepth 100000 in
theorem tw_940 : (Cond.instanceMethod yX8_copy) ∈ lw_tbl := ch_4 _ (List.mem_of_getElem? (l := tables_1_4) (i := 154) rfl)
set_option maxRecDepth 100000 in
theorem tw_941 : (Cond.selects RX8 yX8_copy yX8_copy) ∈ lw_tbl := ch_4 _ (List.mem_of_getElem? (l := tables_1_4) (i := 155) rfl)
set_option maxRecDepth 100000 in
theorem tw_942 : (Cond.code yX8_copy cX8_copy 7 (some .int)) ∈ lw_tbl := ch_4 _ (List.mem_of_getElem? (l := tables_1_4) (i := 156) rfl)
set_option maxRecDepth 100000 in
theorem tw_943 : (Cond.methodLink RX8 79 yX8_isPart) ∈ lw_tbl := ch_4 _ (List.mem_of_getElem? (l := tables_1_4) (i := 157) rfl)
set_option maxRecDepth 100000 in
theorem tw_945 : (Cond.instanceMethod yX8_isPart) ∈ lw_tbl := ch_4 _ (List.mem_of_getElem? (l := tables_1_4) (i := 159) rfl)
set_option maxRecDepth 100000 in
theorem tw_946 : (Cond.code yX8_isPart cX8_isPart 4 (some .boolean)) ∈ lw_tbl := ch_4 _ (List.mem_of_getElem? (l := tables_1_4) (i := 160) rfl)
set_option maxRecDepth 100000 in
theorem tw_947 : (Cond.methodLink RL 31 yX8_drop) ∈ lw_tbl := ch_4 _ (List.mem_of_getElem? (l := tables_1_4) (i := 161) rfl)
set_option maxRecDepth 100000 in
theorem tw_948 : (Cond.instanceMethod yX8_drop) ∈ lw_tbl := ch_4 _ (List.mem_of_getElem? (l := tables_1_4) (i := 162) rfl)
set_option maxRecDepth 100000 in
theorem tw_949 : (Cond.selects RX8 yX8_drop yX8_drop) ∈ lw_tbl := ch_4 _ (List.mem_of_getElem? (l := tables_1_4) (i := 163) rfl)
set_option maxRecDepth 100000 in
theorem tw_950 : (Cond.code yX8_drop cX8_drop 2 (some .int)) ∈ lw_tbl := ch_4 _ (List.mem_of_getElem? (l := tables_1_4) (i := 164) rfl)
set_option maxRecDepth 100000 in
theorem tw_951 : (Cond.methodLink RL 35 yX8_feed) ∈ lw_tbl := ch_4 _ (List.mem_of_getElem? (l := tables_1_4) (i := 165) rfl)
set_option maxRecDepth 100000 in
theorem tw_952 : (Cond.instanceMethod yX8_feed) ∈ lw_tbl := ch_4 _ (List.mem_of_getElem? (l := tables_1_4) (i := 166) rfl)
set_option maxRecDepth 100000 in
theorem tw_953 : (Cond.selects RX8 yX8_feed yX8_feed) ∈ lw_tbl := ch_4 _ (List.mem_of_getElem? (l := tables_1_4) (i := 167) rfl)
set_option maxRecDepth 100000 in
theorem tw_954 : (Cond.code yX8_feed cX8_feed 2 (some .int)) ∈ lw_tbl := ch_4 _ (List.mem_of_getElem? (l := tables_1_4) (i := 168) rfl)
set_option maxRecDepth 100000 in
theorem tw_955 : (Cond.constant RX8 85 (-1000003)) ∈ lw_tbl := ch_4 _ (List.mem_of_getElem? (l := tables_1_4) (i := 169) rfl)
set_option maxRecDepth 100000 in
theorem tw_956 : (Cond.methodLink RL 40 yX8_gate) ∈ lw_tbl := ch_4 _ (List.mem_of_getElem? (l := tables_1_4) (i := 170) rfl)
set_option maxRecDepth 100000 in
theorem tw_957 : (Cond.instanceMethod yX8_gate) ∈ lw_tbl := ch_4 _ (List.mem_of_getElem? (l := tables_1_4) (i := 171) rfl)
set_option maxRecDepth 100000 in
theorem tw_958 : (Cond.selects RX8 yX8_gate yX8_gate) ∈ lw_tbl := ch_4 _ (List.mem_of_getElem? (l := tables_1_4) (i := 172) rfl)
set_option maxRecDepth 100000 in
theorem tw_959 : (Cond.code yX8_gate cX8_gate 2 (some .int)) ∈ lw_tbl := ch_4 _ (List.mem_of_getElem? (l := tables_1_4) (i := 173) rfl)
set_option maxRecDepth 100000 in
theorem tw_960 : (Cond.methodLink RX8 111 yX8_advances) ∈ lw_tbl := ch_4 _ (List.mem_of_getElem? (l := tables_1_4) (i := 174) rfl)
set_option maxRecDepth 100000 in
theorem tw_962 : (Cond.instanceMethod yX8_advances) ∈ lw_tbl := ch_4 _ (List.mem_of_getElem? (l := tables_1_4) (i := 176) rfl)
set_option maxRecDepth 100000 in
theorem tw_963 : (Cond.code yX8_advances cX8_advances 2 none) ∈ lw_tbl := ch_4 _ (List.mem_of_getElem? (l := tables_1_4) (i := 177) rfl)
set_option maxRecDepth 100000 in
theorem tw_964 : (Cond.methodLink RX8 92 yX8_byteAt) ∈ lw_tbl := ch_4 _ (List.mem_of_getElem? (l := tables_1_4) (i := 178) rfl)
set_option maxRecDepth 100000 in
theorem tw_966 : (Cond.instanceMethod yX8_byteAt) ∈ lw_tbl := ch_4 _ (List.mem_of_getElem? (l := tables_1_4) (i := 180) rfl)
set_option maxRecDepth 100000 in
theorem tw_967 : (Cond.code yX8_byteAt cX8_byteAt 2 (some .int)) ∈ lw_tbl := ch_4 _ (List.mem_of_getElem? (l := tables_1_4) (i := 181) rfl)
set_option maxRecDepth 100000 in
theorem tw_968 : (Cond.methodLink RX8 114 yX8_takes) ∈ lw_tbl := ch_4 _ (List.mem_of_getElem? (l := tables_1_4) (i := 182) rfl)
set_option maxRecDepth 100000 in
theorem tw_970 : (Cond.instanceMethod yX8_takes) ∈ lw_tbl := ch_4 _ (List.mem_of_getElem? (l := tables_1_4) (i := 184) rfl)
set_option maxRecDepth 100000 in
theorem tw_971 : (Cond.code yX8_takes cX8_takes 4 (some .int)) ∈ lw_tbl := ch_4 _ (List.mem_of_getElem? (l := tables_1_4) (i := 185) rfl)
set_option maxRecDepth 100000 in
theorem tw_972 : (Cond.methodLink RX8 104 yX8_isWell) ∈ lw_tbl := ch_4 _ (List.mem_of_getElem? (l := tables_1_4) (i := 186) rfl)
set_option maxRecDepth 100000 in
theorem tw_974 : (Cond.instanceMethod yX8_isWell) ∈ lw_tbl := ch_4 _ (List.mem_of_getElem? (l := tables_1_4) (i := 188) rfl)
set_option maxRecDepth 100000 in
theorem tw_975 : (Cond.code yX8_isWell cX8_isWell 1 (some .boolean)) ∈ lw_tbl := ch_4 _ (List.mem_of_getElem? (l := tables_1_4) (i := 189) rfl)
set_option maxRecDepth 100000 in
theorem tw_976 : (Cond.methodLink RX8 118 yX8_figure) ∈ lw_tbl := ch_4 _ (List.mem_of_getElem? (l := tables_1_4) (i := 190) rfl)
set_option maxRecDepth 100000 in
theorem tw_978 : (Cond.instanceMethod yX8_figure) ∈ lw_tbl := ch_4 _ (List.mem_of_getElem? (l := tables_1_4) (i := 192) rfl)
set_option maxRecDepth 100000 in
theorem tw_979 : (Cond.code yX8_figure cX8_figure 3 (some .int)) ∈ lw_tbl := ch_4 _ (List.mem_of_getElem? (l := tables_1_4) (i := 193) rfl)
set_option maxRecDepth 100000 in
theorem tw_980 : (Cond.methodLink RX8 131 yX8_follows) ∈ lw_tbl := ch_4 _ (List.mem_of_getElem? (l := tables_1_4) (i := 194) rfl)
set_option maxRecDepth 100000 in
theorem tw_982 : (Cond.instanceMethod yX8_follows) ∈ lw_tbl := ch_4 _ (List.mem_of_getElem? (l := tables_1_4) (i := 196) rfl)
set_option maxRecDepth 100000 in
theorem tw_983 : (Cond.code yX8_follows cX8_follows 3 (some .int)) ∈ lw_tbl := ch_4 _ (List.mem_of_getElem? (l := tables_1_4) (i := 197) rfl)
set_option maxRecDepth 100000 in
theorem tw_984 : (Cond.methodLink RX8 134 yX8_must) ∈ lw_tbl := ch_4 _ (List.mem_of_getElem? (l := tables_1_4) (i := 198) rfl)
set_option maxRecDepth 100000 in
theorem tw_986 : (Cond.instanceMethod yX8_must) ∈ lw_tbl := ch_4 _ (List.mem_of_getElem? (l := tables_1_4) (i := 200) rfl)
set_option maxRecDepth 100000 in
theorem tw_987 : (Cond.code yX8_must cX8_must 2 none) ∈ lw_tbl := ch_4 _ (List.mem_of_getElem? (l := tables_1_4) (i := 201) rfl)
set_option maxRecDepth 100000 in
theorem tw_988 : (Cond.methodLink RX8 138 yX8_readsWord) ∈ lw_tbl := ch_4 _ (List.mem_of_getElem? (l := tables_1_4) (i := 202) rfl)
set_option maxRecDepth 100000 in
theorem tw_990 : (Cond.instanceMethod yX8_readsWord) ∈ lw_tbl := ch_4 _ (List.mem_of_getElem? (l := tables_1_4) (i := 204) rfl)
set_option maxRecDepth 100000 in
theorem tw_991 : (Cond.code yX8_readsWord cX8_readsWord 5 none) ∈ lw_tbl := ch_4 _ (List.mem_of_getElem? (l := tables_1_4) (i := 205) rfl)
set_option maxRecDepth 100000 in
theorem tw_992 : (Cond.methodLink RX8 121 yX8_letterOf) ∈ lw_tbl := ch_4 _ (List.mem_of_getElem? (l := tables_1_4) (i := 206) rfl)
set_option maxRecDepth 100000 in
theorem tw_994 : (Cond.instanceMethod yX8_letterOf) ∈ lw_tbl := ch_4 _ (List.mem_of_getElem? (l := tables_1_4) (i := 208) rfl)
set_option maxRecDepth 100000 in
theorem tw_995 : (Cond.code yX8_letterOf cX8_letterOf 1 (some .int)) ∈ lw_tbl := ch_4 _ (List.mem_of_getElem? (l := tables_1_4) (i := 209) rfl)
set_option maxRecDepth 100000 in
theorem tw_996 : (Cond.methodLink RX8 125 yX8_isTold) ∈ lw_tbl := ch_4 _ (List.mem_of_getElem? (l := tables_1_4) (i := 210) rfl)
set_option maxRecDepth 100000 in
theorem tw_998 : (Cond.instanceMethod yX8_isTold) ∈ lw_tbl := ch_4 _ (List.mem_of_getElem? (l := tables_1_4) (i := 212) rfl)
set_option maxRecDepth 100000 in
theorem tw_999 : (Cond.code yX8_isTold cX8_isTold 7 (some .boolean)) ∈ lw_tbl := ch_4 _ (List.mem_of_getElem? (l := tables_1_4) (i := 213) rfl)
set_option maxRecDepth 100000 in
theorem tw_1000 : (Cond.methodLink RX8 128 yX8_kindOf) ∈ lw_tbl := ch_4 _ (List.mem_of_getElem? (l := tables_1_4) (i := 214) rfl)
set_option maxRecDepth 100000 in
theorem tw_1001 : (Cond.static yX8_kindOf) ∈ lw_tbl := ch_4 _ (List.mem_of_getElem? (l := tables_1_4) (i := 215) rfl)
set_option maxRecDepth 100000 in
theorem tw_1002 : (Cond.code yX8_kindOf cX8_kindOf 1 (some .int)) ∈ lw_tbl := ch_4 _ (List.mem_of_getElem? (l := tables_1_4) (i := 216) rfl)
set_option maxRecDepth 100000 in
theorem tw_1003 : (Cond.methodLink RX8 141 yX8_readsGuard) ∈ lw_tbl := ch_4 _ (List.mem_of_getElem? (l := tables_1_4) (i := 217) rfl)
set_option maxRecDepth 100000 in
theorem tw_1005 : (Cond.instanceMethod yX8_readsGuard) ∈ lw_tbl := ch_4 _ (List.mem_of_getElem? (l := tables_1_4) (i := 219) rfl)
set_option maxRecDepth 100000 in
theorem tw_1006 : (Cond.code yX8_readsGuard cX8_readsGuard 4 none) ∈ lw_tbl := ch_4 _ (List.mem_of_getElem? (l := tables_1_4) (i := 220) rfl)
set_option maxRecDepth 100000 in
theorem tw_1007 : (Cond.constant RX8 144 (-1000100)) ∈ lw_tbl := ch_4 _ (List.mem_of_getElem? (l := tables_1_4) (i := 221) rfl)
set_option maxRecDepth 100000 in
theorem tw_1008 : (Cond.methodLink RX8 145 yX8_copies) ∈ lw_tbl := ch_4 _ (List.mem_of_getElem? (l := tables_1_4) (i := 222) rfl)
set_option maxRecDepth 100000 in
theorem tw_1009 : (Cond.static yX8_copies) ∈ lw_tbl := ch_4 _ (List.mem_of_getElem? (l := tables_1_4) (i := 223) rfl)
set_option maxRecDepth 100000 in
theorem tw_1010 : (Cond.code yX8_copies cX8_copies 5 none) ∈ lw_tbl := ch_4 _ (List.mem_of_getElem? (l := tables_1_4) (i := 224) rfl)
set_option maxRecDepth 100000 in
theorem tw_1011 : (Cond.methodLink RL 44 yX8_fault) ∈ lw_tbl := ch_4 _ (List.mem_of_getElem? (l := tables_1_4) (i := 225) rfl)
set_option maxRecDepth 100000 in
theorem tw_1012 : (Cond.instanceMethod yX8_fault) ∈ lw_tbl := ch_4 _ (List.mem_of_getElem? (l := tables_1_4) (i := 226) rfl)
set_option maxRecDepth 100000 in
theorem tw_1013 : (Cond.selects RX8 yX8_fault yX8_fault) ∈ lw_tbl := ch_4 _ (List.mem_of_getElem? (l := tables_1_4) (i := 227) rfl)
set_option maxRecDepth 100000 in
theorem tw_1014 : (Cond.code yX8_fault cX8_fault 1 (some .int)) ∈ lw_tbl := ch_4 _ (List.mem_of_getElem? (l := tables_1_4) (i := 228) rfl)
set_option maxRecDepth 100000 in
theorem tw_1015 : (Cond.methodLink RL 48 yX8_nights) ∈ lw_tbl := ch_4 _ (List.mem_of_getElem? (l := tables_1_4) (i := 229) rfl)
set_option maxRecDepth 100000 in
theorem tw_1016 : (Cond.instanceMethod yX8_nights) ∈ lw_tbl := ch_4 _ (List.mem_of_getElem? (l := tables_1_4) (i := 230) rfl)
set_option maxRecDepth 100000 in
theorem tw_1017 : (Cond.selects RX8 yX8_nights yX8_nights) ∈ lw_tbl := ch_4 _ (List.mem_of_getElem? (l := tables_1_4) (i := 231) rfl)
set_option maxRecDepth 100000 in
theorem tw_1018 : (Cond.code yX8_nights cX8_nights 3 (some .int)) ∈ lw_tbl := ch_4 _ (List.mem_of_getElem? (l := tables_1_4) (i := 232) rfl)
set_option maxRecDepth 100000 in
theorem tw_1019 : (Cond.methodLink RX8 180 yX8_isGate) ∈ lw_tbl := ch_4 _ (List.mem_of_getElem? (l := tables_1_4) (i := 233) rfl)
set_option maxRecDepth 100000 in
theorem tw_1021 : (Cond.instanceMethod yX8_isGate) ∈ lw_tbl := ch_4 _ (List.mem_of_getElem? (l := tables_1_4) (i := 235) rfl)
set_option maxRecDepth 100000 in
theorem tw_1022 : (Cond.code yX8_isGate cX8_isGate 1 (some .boolean)) ∈ lw_tbl := ch_4 _ (List.mem_of_getElem? (l := tables_1_4) (i := 236) rfl)
set_option maxRecDepth 100000 in
theorem tw_1023 : (Cond.constant RX8 183 (-1000002)) ∈ lw_tbl := ch_4 _ (List.mem_of_getElem? (l := tables_1_4) (i := 237) rfl)
set_option maxRecDepth 100000 in
theorem tw_1024 : (Cond.methodLink RX8 184 yX8_notes) ∈ lw_tbl := ch_4 _ (List.mem_of_getElem? (l := tables_1_4) (i := 238) rfl)
set_option maxRecDepth 100000 in
theorem tw_1026 : (Cond.instanceMethod yX8_notes) ∈ lw_tbl := ch_5 _ (List.mem_of_getElem? (l := tables_1_5) (i := 0) rfl)
set_option maxRecDepth 100000 in
theorem tw_1027 : (Cond.code yX8_notes cX8_notes 2 none) ∈ lw_tbl := ch_5 _ (List.mem_of_getElem? (l := tables_1_5) (i := 1) rfl)
set_option maxRecDepth 100000 in
theorem tw_1028 : (Cond.methodLink RX8 187 yX8_forgets) ∈ lw_tbl := ch_5 _ (List.mem_of_getElem? (l := tables_1_5) (i := 2) rfl)
set_option maxRecDepth 100000 in
theorem tw_1030 : (Cond.instanceMethod yX8_forgets) ∈ lw_tbl := ch_5 _ (List.mem_of_getElem? (l := tables_1_5) (i := 4) rfl)
set_option maxRecDepth 100000 in
theorem tw_1031 : (Cond.code yX8_forgets cX8_forgets 2 none) ∈ lw_tbl := ch_5 _ (List.mem_of_getElem? (l := tables_1_5) (i := 5) rfl)
set_option maxRecDepth 100000 in
theorem tw_1032 : (Cond.methodLink RX8 172 yX8_secretOf) ∈ lw_tbl := ch_5 _ (List.mem_of_getElem? (l := tables_1_5) (i := 6) rfl)
set_option maxRecDepth 100000 in
theorem tw_1033 : (Cond.static yX8_secretOf) ∈ lw_tbl := ch_5 _ (List.mem_of_getElem? (l := tables_1_5) (i := 7) rfl)
set_option maxRecDepth 100000 in
theorem tw_1034 : (Cond.code yX8_secretOf cX8_secretOf 2 (some .int)) ∈ lw_tbl := ch_5 _ (List.mem_of_getElem? (l := tables_1_5) (i := 8) rfl)
set_option maxRecDepth 100000 in
theorem tw_1035 : (Cond.methodLink RL 53 yX8_say) ∈ lw_tbl := ch_5 _ (List.mem_of_getElem? (l := tables_1_5) (i := 9) rfl)
set_option maxRecDepth 100000 in
theorem tw_1036 : (Cond.instanceMethod yX8_say) ∈ lw_tbl := ch_5 _ (List.mem_of_getElem? (l := tables_1_5) (i := 10) rfl)
set_option maxRecDepth 100000 in
theorem tw_1037 : (Cond.selects RX8 yX8_say yX8_say) ∈ lw_tbl := ch_5 _ (List.mem_of_getElem? (l := tables_1_5) (i := 11) rfl)
set_option maxRecDepth 100000 in
theorem tw_1038 : (Cond.code yX8_say cX8_say 6 (some .int)) ∈ lw_tbl := ch_5 _ (List.mem_of_getElem? (l := tables_1_5) (i := 12) rfl)
set_option maxRecDepth 100000 in
theorem tw_1039 : (Cond.methodLink RX8 190 yX8_isWord) ∈ lw_tbl := ch_5 _ (List.mem_of_getElem? (l := tables_1_5) (i := 13) rfl)
set_option maxRecDepth 100000 in
theorem tw_1041 : (Cond.instanceMethod yX8_isWord) ∈ lw_tbl := ch_5 _ (List.mem_of_getElem? (l := tables_1_5) (i := 15) rfl)
set_option maxRecDepth 100000 in
theorem tw_1042 : (Cond.code yX8_isWord cX8_isWord 2 (some .boolean)) ∈ lw_tbl := ch_5 _ (List.mem_of_getElem? (l := tables_1_5) (i := 16) rfl)
set_option maxRecDepth 100000 in
theorem tw_1043 : (Cond.methodLink RX8 193 yX8_isHour) ∈ lw_tbl := ch_5 _ (List.mem_of_getElem? (l := tables_1_5) (i := 17) rfl)
set_option maxRecDepth 100000 in
theorem tw_1044 : (Cond.static yX8_isHour) ∈ lw_tbl := ch_5 _ (List.mem_of_getElem? (l := tables_1_5) (i := 18) rfl)
set_option maxRecDepth 100000 in
theorem tw_1045 : (Cond.code yX8_isHour cX8_isHour 1 (some .boolean)) ∈ lw_tbl := ch_5 _ (List.mem_of_getElem? (l := tables_1_5) (i := 19) rfl)
set_option maxRecDepth 100000 in
theorem tw_1046 : (Cond.methodLink RX8 158 yX8_guardOn) ∈ lw_tbl := ch_5 _ (List.mem_of_getElem? (l := tables_1_5) (i := 20) rfl)
set_option maxRecDepth 100000 in
theorem tw_1048 : (Cond.instanceMethod yX8_guardOn) ∈ lw_tbl := ch_5 _ (List.mem_of_getElem? (l := tables_1_5) (i := 22) rfl)
set_option maxRecDepth 100000 in
theorem tw_1049 : (Cond.code yX8_guardOn cX8_guardOn 3 (some .int)) ∈ lw_tbl := ch_5 _ (List.mem_of_getElem? (l := tables_1_5) (i := 23) rfl)
set_option maxRecDepth 100000 in
theorem tw_1050 : (Cond.methodLink RX8 196 yX8_isTakenNow) ∈ lw_tbl := ch_5 _ (List.mem_of_getElem? (l := tables_1_5) (i := 24) rfl)
set_option maxRecDepth 100000 in
theorem tw_1052 : (Cond.instanceMethod yX8_isTakenNow) ∈ lw_tbl := ch_5 _ (List.mem_of_getElem? (l := tables_1_5) (i := 26) rfl)
set_option maxRecDepth 100000 in
theorem tw_1053 : (Cond.code yX8_isTakenNow cX8_isTakenNow 5 (some .boolean)) ∈ lw_tbl := ch_5 _ (List.mem_of_getElem? (l := tables_1_5) (i := 27) rfl)
set_option maxRecDepth 100000 in
theorem tw_1054 : (Cond.methodLink RX8 176 yX8_isTaken) ∈ lw_tbl := ch_5 _ (List.mem_of_getElem? (l := tables_1_5) (i := 28) rfl)
set_option maxRecDepth 100000 in
theorem tw_1056 : (Cond.instanceMethod yX8_isTaken) ∈ lw_tbl := ch_5 _ (List.mem_of_getElem? (l := tables_1_5) (i := 30) rfl)
set_option maxRecDepth 100000 in
theorem tw_1057 : (Cond.code yX8_isTaken cX8_isTaken 7 (some .boolean)) ∈ lw_tbl := ch_5 _ (List.mem_of_getElem? (l := tables_1_5) (i := 31) rfl)
set_option maxRecDepth 100000 in
theorem tw_1058 : (Cond.methodLink RX8 161 yX8_has) ∈ lw_tbl := ch_5 _ (List.mem_of_getElem? (l := tables_1_5) (i := 32) rfl)
set_option maxRecDepth 100000 in
theorem tw_1059 : (Cond.static yX8_has) ∈ lw_tbl := ch_5 _ (List.mem_of_getElem? (l := tables_1_5) (i := 33) rfl)
set_option maxRecDepth 100000 in
theorem tw_1060 : (Cond.code yX8_has cX8_has 2 (some .boolean)) ∈ lw_tbl := ch_5 _ (List.mem_of_getElem? (l := tables_1_5) (i := 34) rfl)
set_option maxRecDepth 100000 in
theorem tw_1061 : (Cond.methodLink RX8 165 yX8_kindIn) ∈ lw_tbl := ch_5 _ (List.mem_of_getElem? (l := tables_1_5) (i := 35) rfl)
set_option maxRecDepth 100000 in
theorem tw_1063 : (Cond.instanceMethod yX8_kindIn) ∈ lw_tbl := ch_5 _ (List.mem_of_getElem? (l := tables_1_5) (i := 37) rfl)
set_option maxRecDepth 100000 in
theorem tw_1064 : (Cond.code yX8_kindIn cX8_kindIn 2 (some .int)) ∈ lw_tbl := ch_5 _ (List.mem_of_getElem? (l := tables_1_5) (i := 38) rfl)
set_option maxRecDepth 100000 in
theorem tw_1065 : (Cond.methodLink RX8 168 yX8_takesBy) ∈ lw_tbl := ch_5 _ (List.mem_of_getElem? (l := tables_1_5) (i := 39) rfl)
set_option maxRecDepth 100000 in
theorem tw_1067 : (Cond.instanceMethod yX8_takesBy) ∈ lw_tbl := ch_5 _ (List.mem_of_getElem? (l := tables_1_5) (i := 41) rfl)
set_option maxRecDepth 100000 in
theorem tw_1068 : (Cond.code yX8_takesBy cX8_takesBy 5 (some .boolean)) ∈ lw_tbl := ch_5 _ (List.mem_of_getElem? (l := tables_1_5) (i := 42) rfl)
set_option maxRecDepth 100000 in
theorem tw_1069 : (Cond.methodLink RX8 152 yX8_distance) ∈ lw_tbl := ch_5 _ (List.mem_of_getElem? (l := tables_1_5) (i := 43) rfl)
set_option maxRecDepth 100000 in
theorem tw_1071 : (Cond.instanceMethod yX8_distance) ∈ lw_tbl := ch_5 _ (List.mem_of_getElem? (l := tables_1_5) (i := 45) rfl)
set_option maxRecDepth 100000 in
theorem tw_1072 : (Cond.code yX8_distance cX8_distance 5 (some .int)) ∈ lw_tbl := ch_5 _ (List.mem_of_getElem? (l := tables_1_5) (i := 46) rfl)
set_option maxRecDepth 100000 in
theorem tw_1073 : (Cond.methodLink RX8 155 yX8_lips) ∈ lw_tbl := ch_5 _ (List.mem_of_getElem? (l := tables_1_5) (i := 47) rfl)
set_option maxRecDepth 100000 in
theorem tw_1075 : (Cond.instanceMethod yX8_lips) ∈ lw_tbl := ch_5 _ (List.mem_of_getElem? (l := tables_1_5) (i := 49) rfl)
set_option maxRecDepth 100000 in
theorem tw_1076 : (Cond.code yX8_lips cX8_lips 5 (some .int)) ∈ lw_tbl := ch_5 _ (List.mem_of_getElem? (l := tables_1_5) (i := 50) rfl)
set_option maxRecDepth 100000 in
theorem tw_1077 : (Cond.methodLink RL 57 yX8_start) ∈ lw_tbl := ch_5 _ (List.mem_of_getElem? (l := tables_1_5) (i := 51) rfl)
set_option maxRecDepth 100000 in
theorem tw_1078 : (Cond.instanceMethod yX8_start) ∈ lw_tbl := ch_5 _ (List.mem_of_getElem? (l := tables_1_5) (i := 52) rfl)
set_option maxRecDepth 100000 in
theorem tw_1079 : (Cond.selects RX8 yX8_start yX8_start) ∈ lw_tbl := ch_5 _ (List.mem_of_getElem? (l := tables_1_5) (i := 53) rfl)
set_option maxRecDepth 100000 in
theorem tw_1080 : (Cond.code yX8_start cX8_start 3 (some .int)) ∈ lw_tbl := ch_5 _ (List.mem_of_getElem? (l := tables_1_5) (i := 54) rfl)
set_option maxRecDepth 100000 in
theorem tw_1081 : (Cond.methodLink RL 61 yX8_dismiss) ∈ lw_tbl := ch_5 _ (List.mem_of_getElem? (l := tables_1_5) (i := 55) rfl)
set_option maxRecDepth 100000 in
theorem tw_1082 : (Cond.instanceMethod yX8_dismiss) ∈ lw_tbl := ch_5 _ (List.mem_of_getElem? (l := tables_1_5) (i := 56) rfl)
set_option maxRecDepth 100000 in
theorem tw_1083 : (Cond.selects RX8 yX8_dismiss yX8_dismiss) ∈ lw_tbl := ch_5 _ (List.mem_of_getElem? (l := tables_1_5) (i := 57) rfl)
set_option maxRecDepth 100000 in
theorem tw_1084 : (Cond.code yX8_dismiss cX8_dismiss 3 (some .int)) ∈ lw_tbl := ch_5 _ (List.mem_of_getElem? (l := tables_1_5) (i := 58) rfl)
set_option maxRecDepth 100000 in
theorem tw_1085 : (Cond.methodLink RX8 199 yX8_isGuard) ∈ lw_tbl := ch_5 _ (List.mem_of_getElem? (l := tables_1_5) (i := 59) rfl)
set_option maxRecDepth 100000 in
theorem tw_1087 : (Cond.instanceMethod yX8_isGuard) ∈ lw_tbl := ch_5 _ (List.mem_of_getElem? (l := tables_1_5) (i := 61) rfl)
set_option maxRecDepth 100000 in
theorem tw_1088 : (Cond.code yX8_isGuard cX8_isGuard 2 (some .boolean)) ∈ lw_tbl := ch_5 _ (List.mem_of_getElem? (l := tables_1_5) (i := 62) rfl)
set_option maxRecDepth 100000 in
theorem tw_1089 : (Cond.methodLink RL 65 yX8_undo) ∈ lw_tbl := ch_5 _ (List.mem_of_getElem? (l := tables_1_5) (i := 63) rfl)
set_option maxRecDepth 100000 in
theorem tw_1090 : (Cond.instanceMethod yX8_undo) ∈ lw_tbl := ch_5 _ (List.mem_of_getElem? (l := tables_1_5) (i := 64) rfl)
set_option maxRecDepth 100000 in
theorem tw_1091 : (Cond.selects RX8 yX8_undo yX8_undo) ∈ lw_tbl := ch_5 _ (List.mem_of_getElem? (l := tables_1_5) (i := 65) rfl)
set_option maxRecDepth 100000 in
theorem tw_1092 : (Cond.code yX8_undo cX8_undo 1 (some .int)) ∈ lw_tbl := ch_5 _ (List.mem_of_getElem? (l := tables_1_5) (i := 66) rfl)
set_option maxRecDepth 100000 in
theorem tw_1093 : (Cond.methodLink RL 69 yX8_letter) ∈ lw_tbl := ch_5 _ (List.mem_of_getElem? (l := tables_1_5) (i := 67) rfl)
set_option maxRecDepth 100000 in
theorem tw_1094 : (Cond.instanceMethod yX8_letter) ∈ lw_tbl := ch_5 _ (List.mem_of_getElem? (l := tables_1_5) (i := 68) rfl)
set_option maxRecDepth 100000 in
theorem tw_1095 : (Cond.selects RX8 yX8_letter yX8_letter) ∈ lw_tbl := ch_5 _ (List.mem_of_getElem? (l := tables_1_5) (i := 69) rfl)
set_option maxRecDepth 100000 in
theorem tw_1096 : (Cond.code yX8_letter cX8_letter 3 (some .int)) ∈ lw_tbl := ch_5 _ (List.mem_of_getElem? (l := tables_1_5) (i := 70) rfl)
set_option maxRecDepth 100000 in
theorem tw_1097 : (Cond.methodLink RL 73 yX8_like) ∈ lw_tbl := ch_5 _ (List.mem_of_getElem? (l := tables_1_5) (i := 71) rfl)
set_option maxRecDepth 100000 in
theorem tw_1098 : (Cond.instanceMethod yX8_like) ∈ lw_tbl := ch_5 _ (List.mem_of_getElem? (l := tables_1_5) (i := 72) rfl)
set_option maxRecDepth 100000 in
theorem tw_1099 : (Cond.selects RX8 yX8_like yX8_like) ∈ lw_tbl := ch_5 _ (List.mem_of_getElem? (l := tables_1_5) (i := 73) rfl)
set_option maxRecDepth 100000 in
theorem tw_1100 : (Cond.code yX8_like cX8_like 4 (some .int)) ∈ lw_tbl := ch_5 _ (List.mem_of_getElem? (l := tables_1_5) (i := 74) rfl)
set_option maxRecDepth 100000 in
theorem tw_1101 : (Cond.methodLink RL 77 yX8_guard) ∈ lw_tbl := ch_5 _ (List.mem_of_getElem? (l := tables_1_5) (i := 75) rfl)
set_option maxRecDepth 100000 in
theorem tw_1102 : (Cond.instanceMethod yX8_guard) ∈ lw_tbl := ch_5 _ (List.mem_of_getElem? (l := tables_1_5) (i := 76) rfl)
set_option maxRecDepth 100000 in
theorem tw_1103 : (Cond.selects RX8 yX8_guard yX8_guard) ∈ lw_tbl := ch_5 _ (List.mem_of_getElem? (l := tables_1_5) (i := 77) rfl)
set_option maxRecDepth 100000 in
theorem tw_1104 : (Cond.code yX8_guard cX8_guard 3 (some .int)) ∈ lw_tbl := ch_5 _ (List.mem_of_getElem? (l := tables_1_5) (i := 78) rfl)
set_option maxRecDepth 100000 in
theorem tw_1105 : (Cond.methodLink RX8 202 yX8_hoursOf) ∈ lw_tbl := ch_5 _ (List.mem_of_getElem? (l := tables_1_5) (i := 79) rfl)
set_option maxRecDepth 100000 in
theorem tw_1107 : (Cond.instanceMethod yX8_hoursOf) ∈ lw_tbl := ch_5 _ (List.mem_of_getElem? (l := tables_1_5) (i := 81) rfl)
set_option maxRecDepth 100000 in
theorem tw_1108 : (Cond.code yX8_hoursOf cX8_hoursOf 4 (some .int)) ∈ lw_tbl := ch_5 _ (List.mem_of_getElem? (l := tables_1_5) (i := 82) rfl)
set_option maxRecDepth 100000 in
theorem tw_1109 : (Cond.methodLink RL 81 yX8_tried) ∈ lw_tbl := ch_5 _ (List.mem_of_getElem? (l := tables_1_5) (i := 83) rfl)
set_option maxRecDepth 100000 in
theorem tw_1110 : (Cond.instanceMethod yX8_tried) ∈ lw_tbl := ch_5 _ (List.mem_of_getElem? (l := tables_1_5) (i := 84) rfl)
set_option maxRecDepth 100000 in
theorem tw_1111 : (Cond.selects RX8 yX8_tried yX8_tried) ∈ lw_tbl := ch_5 _ (List.mem_of_getElem? (l := tables_1_5) (i := 85) rfl)
set_option maxRecDepth 100000 in
theorem tw_1112 : (Cond.code yX8_tried cX8_tried 4 (some .int)) ∈ lw_tbl := ch_5 _ (List.mem_of_getElem? (l := tables_1_5) (i := 86) rfl)
set_option maxRecDepth 100000 in
theorem tw_1113 : (Cond.methodLink RL 85 yX8_secret) ∈ lw_tbl := ch_5 _ (List.mem_of_getElem? (l := tables_1_5) (i := 87) rfl)
set_option maxRecDepth 100000 in
theorem tw_1114 : (Cond.instanceMethod yX8_secret) ∈ lw_tbl := ch_5 _ (List.mem_of_getElem? (l := tables_1_5) (i := 88) rfl)
set_option maxRecDepth 100000 in
theorem tw_1115 : (Cond.selects RX8 yX8_secret yX8_secret) ∈ lw_tbl := ch_5 _ (List.mem_of_getElem? (l := tables_1_5) (i := 89) rfl)
set_option maxRecDepth 100000 in
theorem tw_1116 : (Cond.code yX8_secret cX8_secret 2 (some .int)) ∈ lw_tbl := ch_5 _ (List.mem_of_getElem? (l := tables_1_5) (i := 90) rfl)
set_option maxRecDepth 100000 in
theorem tw_1117 : (Cond.methodLink RX8 205 yX8_isFar) ∈ lw_tbl := ch_5 _ (List.mem_of_getElem? (l := tables_1_5) (i := 91) rfl)
set_option maxRecDepth 100000 in
theorem tw_1118 : (Cond.static yX8_isFar) ∈ lw_tbl := ch_5 _ (List.mem_of_getElem? (l := tables_1_5) (i := 92) rfl)
set_option maxRecDepth 100000 in
theorem tw_1119 : (Cond.code yX8_isFar cX8_isFar 1 (some .boolean)) ∈ lw_tbl := ch_5 _ (List.mem_of_getElem? (l := tables_1_5) (i := 93) rfl)
set_option maxRecDepth 100000 in
theorem tw_1120 : (Cond.methodLink RL 89 yX8_taken) ∈ lw_tbl := ch_5 _ (List.mem_of_getElem? (l := tables_1_5) (i := 94) rfl)
set_option maxRecDepth 100000 in
theorem tw_1121 : (Cond.instanceMethod yX8_taken) ∈ lw_tbl := ch_5 _ (List.mem_of_getElem? (l := tables_1_5) (i := 95) rfl)
set_option maxRecDepth 100000 in
theorem tw_1122 : (Cond.selects RX8 yX8_taken yX8_taken) ∈ lw_tbl := ch_5 _ (List.mem_of_getElem? (l := tables_1_5) (i := 96) rfl)
set_option maxRecDepth 100000 in
theorem tw_1123 : (Cond.code yX8_taken cX8_taken 4 (some .int)) ∈ lw_tbl := ch_5 _ (List.mem_of_getElem? (l := tables_1_5) (i := 97) rfl)
set_option maxRecDepth 100000 in
theorem tw_1124 : (Cond.methodLink RL 93 yX8_safe) ∈ lw_tbl := ch_5 _ (List.mem_of_getElem? (l := tables_1_5) (i := 98) rfl)
set_option maxRecDepth 100000 in
theorem tw_1125 : (Cond.instanceMethod yX8_safe) ∈ lw_tbl := ch_5 _ (List.mem_of_getElem? (l := tables_1_5) (i := 99) rfl)
set_option maxRecDepth 100000 in
theorem tw_1126 : (Cond.selects RX8 yX8_safe yX8_safe) ∈ lw_tbl := ch_5 _ (List.mem_of_getElem? (l := tables_1_5) (i := 100) rfl)
set_option maxRecDepth 100000 in
theorem tw_1127 : (Cond.code yX8_safe cX8_safe 5 (some .int)) ∈ lw_tbl := ch_5 _ (List.mem_of_getElem? (l := tables_1_5) (i := 101) rfl)
set_option maxRecDepth 100000 in
theorem tw_1128 : (Cond.methodLink RL 97 yX8_open) ∈ lw_tbl := ch_5 _ (List.mem_of_getElem? (l := tables_1_5) (i := 102) rfl)
set_option maxRecDepth 100000 in
theorem tw_1129 : (Cond.instanceMethod yX8_open) ∈ lw_tbl := ch_5 _ (List.mem_of_getElem? (l := tables_1_5) (i := 103) rfl)
set_option maxRecDepth 100000 in
theorem tw_1130 : (Cond.selects RX8 yX8_open yX8_open) ∈ lw_tbl := ch_5 _ (List.mem_of_getElem? (l := tables_1_5) (i := 104) rfl)
set_option maxRecDepth 100000 in
theorem tw_1131 : (Cond.code yX8_open cX8_open 5 (some .int)) ∈ lw_tbl := ch_5 _ (List.mem_of_getElem? (l := tables_1_5) (i := 105) rfl)
set_option maxRecDepth 100000 in
theorem tw_1132 : (Cond.methodLink RX8 208 yX8_areWords) ∈ lw_tbl := ch_5 _ (List.mem_of_getElem? (l := tables_1_5) (i := 106) rfl)
set_option maxRecDepth 100000 in
theorem tw_1134 : (Cond.instanceMethod yX8_areWords) ∈ lw_tbl := ch_5 _ (List.mem_of_getElem? (l := tables_1_5) (i := 108) rfl)
set_option maxRecDepth 100000 in
theorem tw_1135 : (Cond.code yX8_areWords cX8_areWords 2 (some .boolean)) ∈ lw_tbl := ch_5 _ (List.mem_of_getElem? (l := tables_1_5) (i := 109) rfl)
set_option maxRecDepth 100000 in
theorem tw_1136 : (Cond.methodLink RX8 211 yX8_areIn) ∈ lw_tbl := ch_5 _ (List.mem_of_getElem? (l := tables_1_5) (i := 110) rfl)
set_option maxRecDepth 100000 in
theorem tw_1138 : (Cond.instanceMethod yX8_areIn) ∈ lw_tbl := ch_5 _ (List.mem_of_getElem? (l := tables_1_5) (i := 112) rfl)
set_option maxRecDepth 100000 in
theorem tw_1139 : (Cond.code yX8_areIn cX8_areIn 8 (some .boolean)) ∈ lw_tbl := ch_5 _ (List.mem_of_getElem? (l := tables_1_5) (i := 113) rfl)
set_option maxRecDepth 100000 in
theorem tw_1140 : (Cond.methodLink RL 101 yX8_next) ∈ lw_tbl := ch_5 _ (List.mem_of_getElem? (l := tables_1_5) (i := 114) rfl)
set_option maxRecDepth 100000 in
theorem tw_1141 : (Cond.instanceMethod yX8_next) ∈ lw_tbl := ch_5 _ (List.mem_of_getElem? (l := tables_1_5) (i := 115) rfl)
set_option maxRecDepth 100000 in
theorem tw_1142 : (Cond.selects RX8 yX8_next yX8_next) ∈ lw_tbl := ch_5 _ (List.mem_of_getElem? (l := tables_1_5) (i := 116) rfl)
set_option maxRecDepth 100000 in
theorem tw_1143 : (Cond.code yX8_next cX8_next 3 (some .int)) ∈ lw_tbl := ch_5 _ (List.mem_of_getElem? (l := tables_1_5) (i := 117) rfl)
set_option maxRecDepth 100000 in
theorem tw_1144 : (Cond.methodLink RL 105 yX8_agree) ∈ lw_tbl := ch_5 _ (List.mem_of_getElem? (l := tables_1_5) (i := 118) rfl)
set_option maxRecDepth 100000 in
theorem tw_1145 : (Cond.instanceMethod yX8_agree) ∈ lw_tbl := ch_5 _ (List.mem_of_getElem? (l := tables_1_5) (i := 119) rfl)
set_option maxRecDepth 100000 in
theorem tw_1146 : (Cond.selects RX8 yX8_agree yX8_agree) ∈ lw_tbl := ch_5 _ (List.mem_of_getElem? (l := tables_1_5) (i := 120) rfl)
set_option maxRecDepth 100000 in
theorem tw_1147 : (Cond.code yX8_agree cX8_agree 1 (some .int)) ∈ lw_tbl := ch_5 _ (List.mem_of_getElem? (l := tables_1_5) (i := 121) rfl)
set_option maxRecDepth 100000 in
theorem tw_1148 : (Cond.methodLink RX8 214 yX8_agreeing) ∈ lw_tbl := ch_5 _ (List.mem_of_getElem? (l := tables_1_5) (i := 122) rfl)
set_option maxRecDepth 100000 in
theorem tw_1150 : (Cond.instanceMethod yX8_agreeing) ∈ lw_tbl := ch_5 _ (List.mem_of_getElem? (l := tables_1_5) (i := 124) rfl)
set_option maxRecDepth 100000 in
theorem tw_1151 : (Cond.code yX8_agreeing cX8_agreeing 6 (some .int)) ∈ lw_tbl := ch_5 _ (List.mem_of_getElem? (l := tables_1_5) (i := 125) rfl)
set_option maxRecDepth 100000 in
theorem tw_1152 : (Cond.methodLink RL 109 yX8_man) ∈ lw_tbl := ch_5 _ (List.mem_of_getElem? (l := tables_1_5) (i := 126) rfl)
set_option maxRecDepth 100000 in
theorem tw_1153 : (Cond.instanceMethod yX8_man) ∈ lw_tbl := ch_5 _ (List.mem_of_getElem? (l := tables_1_5) (i := 127) rfl)
set_option maxRecDepth 100000 in
theorem tw_1154 : (Cond.selects RX8 yX8_man yX8_man) ∈ lw_tbl := ch_5 _ (List.mem_of_getElem? (l := tables_1_5) (i := 128) rfl)
set_option maxRecDepth 100000 in
theorem tw_1155 : (Cond.code yX8_man cX8_man 11 (some .int)) ∈ lw_tbl := ch_5 _ (List.mem_of_getElem? (l := tables_1_5) (i := 129) rfl)
set_option maxRecDepth 100000 in
theorem tw_1156 : (Cond.methodLink RX8 217 yX8_ones) ∈ lw_tbl := ch_5 _ (List.mem_of_getElem? (l := tables_1_5) (i := 130) rfl)
set_option maxRecDepth 100000 in
theorem tw_1157 : (Cond.static yX8_ones) ∈ lw_tbl := ch_5 _ (List.mem_of_getElem? (l := tables_1_5) (i := 131) rfl)
set_option maxRecDepth 100000 in
theorem tw_1158 : (Cond.code yX8_ones cX8_ones 3 (some .int)) ∈ lw_tbl := ch_5 _ (List.mem_of_getElem? (l := tables_1_5) (i := 132) rfl)
set_option maxRecDepth 100000 in
theorem tw_1159 : (Cond.methodLink RX8 220 yX8_takenOf) ∈ lw_tbl := ch_5 _ (List.mem_of_getElem? (l := tables_1_5) (i := 133) rfl)
set_option maxRecDepth 100000 in
theorem tw_1161 : (Cond.instanceMethod yX8_takenOf) ∈ lw_tbl := ch_5 _ (List.mem_of_getElem? (l := tables_1_5) (i := 135) rfl)
set_option maxRecDepth 100000 in
theorem tw_1162 : (Cond.code yX8_takenOf cX8_takenOf 6 (some .int)) ∈ lw_tbl := ch_5 _ (List.mem_of_getElem? (l := tables_1_5) (i := 136) rfl)
set_option maxRecDepth 100000 in
theorem tw_1163 : (Cond.methodLink RL 113 yX8_fewest) ∈ lw_tbl := ch_5 _ (List.mem_of_getElem? (l := tables_1_5) (i := 137) rfl)
set_option maxRecDepth 100000 in
theorem tw_1164 : (Cond.instanceMethod yX8_fewest) ∈ lw_tbl := ch_5 _ (List.mem_of_getElem? (l := tables_1_5) (i := 138) rfl)
set_option maxRecDepth 100000 in
theorem tw_1165 : (Cond.selects RX8 yX8_fewest yX8_fewest) ∈ lw_tbl := ch_5 _ (List.mem_of_getElem? (l := tables_1_5) (i := 139) rfl)
set_option maxRecDepth 100000 in
theorem tw_1166 : (Cond.code yX8_fewest cX8_fewest 3 (some .int)) ∈ lw_tbl := ch_5 _ (List.mem_of_getElem? (l := tables_1_5) (i := 140) rfl)
set_option maxRecDepth 100000 in
theorem tw_1167 : (Cond.methodLink RX8 224 yX8_menFor) ∈ lw_tbl := ch_5 _ (List.mem_of_getElem? (l := tables_1_5) (i := 141) rfl)
set_option maxRecDepth 100000 in
theorem tw_1169 : (Cond.instanceMethod yX8_menFor) ∈ lw_tbl := ch_5 _ (List.mem_of_getElem? (l := tables_1_5) (i := 143) rfl)
set_option maxRecDepth 100000 in
theorem tw_1170 : (Cond.code yX8_menFor cX8_menFor 8 (some .int)) ∈ lw_tbl := ch_5 _ (List.mem_of_getElem? (l := tables_1_5) (i := 144) rfl)
set_option maxRecDepth 100000 in
theorem tw_1171 : (Cond.methodLink RL 118 yX8_march) ∈ lw_tbl := ch_5 _ (List.mem_of_getElem? (l := tables_1_5) (i := 145) rfl)
set_option maxRecDepth 100000 in
theorem tw_1172 : (Cond.instanceMethod yX8_march) ∈ lw_tbl := ch_5 _ (List.mem_of_getElem? (l := tables_1_5) (i := 146) rfl)
set_option maxRecDepth 100000 in
theorem tw_1173 : (Cond.selects RX8 yX8_march yX8_march) ∈ lw_tbl := ch_5 _ (List.mem_of_getElem? (l := tables_1_5) (i := 147) rfl)
set_option maxRecDepth 100000 in
theorem tw_1174 : (Cond.code yX8_march cX8_march 9 (some .int)) ∈ lw_tbl := ch_5 _ (List.mem_of_getElem? (l := tables_1_5) (i := 148) rfl)
set_option maxRecDepth 100000 in
theorem tw_1175 : (Cond.methodLink RL 122 yX8_cheap) ∈ lw_tbl := ch_5 _ (List.mem_of_getElem? (l := tables_1_5) (i := 149) rfl)
set_option maxRecDepth 100000 in
theorem tw_1176 : (Cond.instanceMethod yX8_cheap) ∈ lw_tbl := ch_5 _ (List.mem_of_getElem? (l := tables_1_5) (i := 150) rfl)
set_option maxRecDepth 100000 in
theorem tw_1177 : (Cond.selects RX8 yX8_cheap yX8_cheap) ∈ lw_tbl := ch_5 _ (List.mem_of_getElem? (l := tables_1_5) (i := 151) rfl)
set_option maxRecDepth 100000 in
theorem tw_1178 : (Cond.code yX8_cheap cX8_cheap 10 (some .int)) ∈ lw_tbl := ch_5 _ (List.mem_of_getElem? (l := tables_1_5) (i := 152) rfl)
set_option maxRecDepth 100000 in
theorem tw_1179 : (Cond.methodLink RL 126 yX8_near) ∈ lw_tbl := ch_5 _ (List.mem_of_getElem? (l := tables_1_5) (i := 153) rfl)
set_option maxRecDepth 100000 in
theorem tw_1180 : (Cond.instanceMethod yX8_near) ∈ lw_tbl := ch_5 _ (List.mem_of_getElem? (l := tables_1_5) (i := 154) rfl)
set_option maxRecDepth 100000 in
theorem tw_1181 : (Cond.selects RX8 yX8_near yX8_near) ∈ lw_tbl := ch_5 _ (List.mem_of_getElem? (l := tables_1_5) (i := 155) rfl)
set_option maxRecDepth 100000 in
theorem tw_1182 : (Cond.code yX8_near cX8_near 5 (some .int)) ∈ lw_tbl := ch_5 _ (List.mem_of_getElem? (l := tables_1_5) (i := 156) rfl)
set_option maxRecDepth 100000 in
theorem tw_1183 : (Cond.methodLink RL 130 yX8_rules) ∈ lw_tbl := ch_5 _ (List.mem_of_getElem? (l := tables_1_5) (i := 157) rfl)
set_option maxRecDepth 100000 in
theorem tw_1184 : (Cond.instanceMethod yX8_rules) ∈ lw_tbl := ch_5 _ (List.mem_of_getElem? (l := tables_1_5) (i := 158) rfl)
set_option maxRecDepth 100000 in
theorem tw_1185 : (Cond.selects RX8 yX8_rules yX8_rules) ∈ lw_tbl := ch_5 _ (List.mem_of_getElem? (l := tables_1_5) (i := 159) rfl)
set_option maxRecDepth 100000 in
theorem tw_1186 : (Cond.code yX8_rules cX8_rules 9 (some .int)) ∈ lw_tbl := ch_5 _ (List.mem_of_getElem? (l := tables_1_5) (i := 160) rfl)
set_option maxRecDepth 100000 in
theorem tw_1187 : (Cond.methodLink RL 134 yX8_fits) ∈ lw_tbl := ch_5 _ (List.mem_of_getElem? (l := tables_1_5) (i := 161) rfl)
set_option maxRecDepth 100000 in
theorem tw_1188 : (Cond.instanceMethod yX8_fits) ∈ lw_tbl := ch_5 _ (List.mem_of_getElem? (l := tables_1_5) (i := 162) rfl)
set_option maxRecDepth 100000 in
theorem tw_1189 : (Cond.selects RX8 yX8_fits yX8_fits) ∈ lw_tbl := ch_5 _ (List.mem_of_getElem? (l := tables_1_5) (i := 163) rfl)
set_option maxRecDepth 100000 in
theorem tw_1190 : (Cond.code yX8_fits cX8_fits 8 (some .int)) ∈ lw_tbl := ch_5 _ (List.mem_of_getElem? (l := tables_1_5) (i := 164) rfl)
set_option maxRecDepth 100000 in
theorem tw_1191 : (Cond.methodLink RX8 227 yX8_takesSo) ∈ lw_tbl := ch_5 _ (List.mem_of_getElem? (l := tables_1_5) (i := 165) rfl)
set_option maxRecDepth 100000 in
theorem tw_1193 : (Cond.instanceMethod yX8_takesSo) ∈ lw_tbl := ch_5 _ (List.mem_of_getElem? (l := tables_1_5) (i := 167) rfl)
set_option maxRecDepth 100000 in
theorem tw_1194 : (Cond.code yX8_takesSo cX8_takesSo 6 (some .boolean)) ∈ lw_tbl := ch_5 _ (List.mem_of_getElem? (l := tables_1_5) (i := 168) rfl)
set_option maxRecDepth 100000 in
theorem tw_1195 : (Cond.methodLink RL 138 yX8_sure) ∈ lw_tbl := ch_5 _ (List.mem_of_getElem? (l := tables_1_5) (i := 169) rfl)
set_option maxRecDepth 100000 in
theorem tw_1196 : (Cond.instanceMethod yX8_sure) ∈ lw_tbl := ch_5 _ (List.mem_of_getElem? (l := tables_1_5) (i := 170) rfl)
set_option maxRecDepth 100000 in
theorem tw_1197 : (Cond.selects RX8 yX8_sure yX8_sure) ∈ lw_tbl := ch_5 _ (List.mem_of_getElem? (l := tables_1_5) (i := 171) rfl)
set_option maxRecDepth 100000 in
theorem tw_1198 : (Cond.code yX8_sure cX8_sure 12 (some .int)) ∈ lw_tbl := ch_5 _ (List.mem_of_getElem? (l := tables_1_5) (i := 172) rfl)
set_option maxRecDepth 100000 in
theorem tw_1199 : (Cond.methodLink RL 142 yX8_drawn) ∈ lw_tbl := ch_5 _ (List.mem_of_getElem? (l := tables_1_5) (i := 173) rfl)
set_option maxRecDepth 100000 in
theorem tw_1200 : (Cond.instanceMethod yX8_drawn) ∈ lw_tbl := ch_5 _ (List.mem_of_getElem? (l := tables_1_5) (i := 174) rfl)
set_option maxRecDepth 100000 in
theorem tw_1201 : (Cond.selects RX8 yX8_drawn yX8_drawn) ∈ lw_tbl := ch_5 _ (List.mem_of_getElem? (l := tables_1_5) (i := 175) rfl)
set_option maxRecDepth 100000 in
theorem tw_1202 : (Cond.code yX8_drawn cX8_drawn 11 (some .int)) ∈ lw_tbl := ch_5 _ (List.mem_of_getElem? (l := tables_1_5) (i := 176) rfl)
set_option maxRecDepth 100000 in
theorem tw_1203 : (Cond.constant RX8 230 (999999)) ∈ lw_tbl := ch_5 _ (List.mem_of_getElem? (l := tables_1_5) (i := 177) rfl)
set_option maxRecDepth 100000 in
theorem tw_1204 : (Cond.constantLong RX8 231 (16807)) ∈ lw_tbl := ch_5 _ (List.mem_of_getElem? (l := tables_1_5) (i := 178) rfl)
set_option maxRecDepth 100000 in
theorem tw_1205 : (Cond.constantLong RX8 233 (2147483647)) ∈ lw_tbl := ch_5 _ (List.mem_of_getElem? (l := tables_1_5) (i := 179) rfl)
set_option maxRecDepth 100000 in
theorem tw_1206 : (Cond.constantLong RX8 235 (6)) ∈ lw_tbl := ch_5 _ (List.mem_of_getElem? (l := tables_1_5) (i := 180) rfl)
set_option maxRecDepth 100000 in
theorem tw_1207 : (Cond.methodLink RL 146 yX8_image) ∈ lw_tbl := ch_5 _ (List.mem_of_getElem? (l := tables_1_5) (i := 181) rfl)
set_option maxRecDepth 100000 in
theorem tw_1208 : (Cond.instanceMethod yX8_image) ∈ lw_tbl := ch_5 _ (List.mem_of_getElem? (l := tables_1_5) (i := 182) rfl)
set_option maxRecDepth 100000 in
theorem tw_1209 : (Cond.selects RX8 yX8_image yX8_image) ∈ lw_tbl := ch_5 _ (List.mem_of_getElem? (l := tables_1_5) (i := 183) rfl)
set_option maxRecDepth 100000 in
theorem tw_1210 : (Cond.code yX8_image cX8_image 2 (some .int)) ∈ lw_tbl := ch_5 _ (List.mem_of_getElem? (l := tables_1_5) (i := 184) rfl)
set_option maxRecDepth 100000 in
theorem tw_1211 : (Cond.methodLink RL 150 yX8_restore) ∈ lw_tbl := ch_5 _ (List.mem_of_getElem? (l := tables_1_5) (i := 185) rfl)
set_option maxRecDepth 100000 in
theorem tw_1212 : (Cond.instanceMethod yX8_restore) ∈ lw_tbl := ch_5 _ (List.mem_of_getElem? (l := tables_1_5) (i := 186) rfl)
set_option maxRecDepth 100000 in
theorem tw_1213 : (Cond.selects RX8 yX8_restore yX8_restore) ∈ lw_tbl := ch_5 _ (List.mem_of_getElem? (l := tables_1_5) (i := 187) rfl)
set_option maxRecDepth 100000 in
theorem tw_1214 : (Cond.code yX8_restore cX8_restore 2 (some .int)) ∈ lw_tbl := ch_5 _ (List.mem_of_getElem? (l := tables_1_5) (i := 188) rfl)
set_option maxRecDepth 100000 in
theorem tw_1215 : (Cond.methodLink RL 154 yX8_kind) ∈ lw_tbl := ch_5 _ (List.mem_of_getElem? (l := tables_1_5) (i := 189) rfl)
set_option maxRecDepth 100000 in
theorem tw_1216 : (Cond.instanceMethod yX8_kind) ∈ lw_tbl := ch_5 _ (List.mem_of_getElem? (l := tables_1_5) (i := 190) rfl)
set_option maxRecDepth 100000 in
theorem tw_1217 : (Cond.selects RX8 yX8_kind yX8_kind) ∈ lw_tbl := ch_5 _ (List.mem_of_getElem? (l := tables_1_5) (i := 191) rfl)
set_option maxRecDepth 100000 in
theorem tw_1218 : (Cond.code yX8_kind cX8_kind 2 (some .int)) ∈ lw_tbl := ch_5 _ (List.mem_of_getElem? (l := tables_1_5) (i := 192) rfl)
set_option maxRecDepth 100000 in
theorem tw_1219 : (Cond.methodLink RL 158 yX8_as) ∈ lw_tbl := ch_5 _ (List.mem_of_getElem? (l := tables_1_5) (i := 193) rfl)
set_option maxRecDepth 100000 in
theorem tw_1220 : (Cond.instanceMethod yX8_as) ∈ lw_tbl := ch_5 _ (List.mem_of_getElem? (l := tables_1_5) (i := 194) rfl)
set_option maxRecDepth 100000 in
theorem tw_1221 : (Cond.selects RX8 yX8_as yX8_as) ∈ lw_tbl := ch_5 _ (List.mem_of_getElem? (l := tables_1_5) (i := 195) rfl)
set_option maxRecDepth 100000 in
theorem tw_1222 : (Cond.code yX8_as cX8_as 5 (some .int)) ∈ lw_tbl := ch_5 _ (List.mem_of_getElem? (l := tables_1_5) (i := 196) rfl)
set_option maxRecDepth 100000 in
theorem tw_1223 : (Cond.methodLink RL 162 yX8_ask) ∈ lw_tbl := ch_5 _ (List.mem_of_getElem? (l := tables_1_5) (i := 197) rfl)
set_option maxRecDepth 100000 in
theorem tw_1224 : (Cond.instanceMethod yX8_ask) ∈ lw_tbl := ch_5 _ (List.mem_of_getElem? (l := tables_1_5) (i := 198) rfl)
set_option maxRecDepth 100000 in
theorem tw_1225 : (Cond.selects RX8 yX8_ask yX8_ask) ∈ lw_tbl := ch_5 _ (List.mem_of_getElem? (l := tables_1_5) (i := 199) rfl)
set_option maxRecDepth 100000 in
theorem tw_1226 : (Cond.code yX8_ask cX8_ask 4 (some .int)) ∈ lw_tbl := ch_5 _ (List.mem_of_getElem? (l := tables_1_5) (i := 200) rfl)
set_option maxRecDepth 100000 in
theorem tw_1227 : (Cond.methodLink RX8 247 yX8_deafSize) ∈ lw_tbl := ch_5 _ (List.mem_of_getElem? (l := tables_1_5) (i := 201) rfl)
set_option maxRecDepth 100000 in
theorem tw_1229 : (Cond.instanceMethod yX8_deafSize) ∈ lw_tbl := ch_5 _ (List.mem_of_getElem? (l := tables_1_5) (i := 203) rfl)
set_option maxRecDepth 100000 in
theorem tw_1230 : (Cond.code yX8_deafSize cX8_deafSize 4 (some .int)) ∈ lw_tbl := ch_5 _ (List.mem_of_getElem? (l := tables_1_5) (i := 204) rfl)
set_option maxRecDepth 100000 in
theorem tw_1231 : (Cond.methodLink RX8 240 yX8_begins) ∈ lw_tbl := ch_5 _ (List.mem_of_getElem? (l := tables_1_5) (i := 205) rfl)
set_option maxRecDepth 100000 in
theorem tw_1233 : (Cond.instanceMethod yX8_begins) ∈ lw_tbl := ch_5 _ (List.mem_of_getElem? (l := tables_1_5) (i := 207) rfl)
set_option maxRecDepth 100000 in
theorem tw_1234 : (Cond.code yX8_begins cX8_begins 2 none) ∈ lw_tbl := ch_5 _ (List.mem_of_getElem? (l := tables_1_5) (i := 208) rfl)
set_option maxRecDepth 100000 in
theorem tw_1235 : (Cond.methodLink RX8 250 yX8_keenSize) ∈ lw_tbl := ch_5 _ (List.mem_of_getElem? (l := tables_1_5) (i := 209) rfl)
set_option maxRecDepth 100000 in
theorem tw_1237 : (Cond.instanceMethod yX8_keenSize) ∈ lw_tbl := ch_5 _ (List.mem_of_getElem? (l := tables_1_5) (i := 211) rfl)
set_option maxRecDepth 100000 in
theorem tw_1238 : (Cond.code yX8_keenSize cX8_keenSize 4 (some .int)) ∈ lw_tbl := ch_5 _ (List.mem_of_getElem? (l := tables_1_5) (i := 212) rfl)
set_option maxRecDepth 100000 in
theorem tw_1239 : (Cond.methodLink RX8 244 yX8_keenMark) ∈ lw_tbl := ch_5 _ (List.mem_of_getElem? (l := tables_1_5) (i := 213) rfl)
set_option maxRecDepth 100000 in
theorem tw_1241 : (Cond.instanceMethod yX8_keenMark) ∈ lw_tbl := ch_5 _ (List.mem_of_getElem? (l := tables_1_5) (i := 215) rfl)
set_option maxRecDepth 100000 in
theorem tw_1242 : (Cond.code yX8_keenMark cX8_keenMark 4 (some .int)) ∈ lw_tbl := ch_5 _ (List.mem_of_getElem? (l := tables_1_5) (i := 216) rfl)
set_option maxRecDepth 100000 in
theorem tw_1243 : (Cond.methodLink RX8 253 yX8_deafMark) ∈ lw_tbl := ch_5 _ (List.mem_of_getElem? (l := tables_1_5) (i := 217) rfl)
set_option maxRecDepth 100000 in
theorem tw_1245 : (Cond.instanceMethod yX8_deafMark) ∈ lw_tbl := ch_5 _ (List.mem_of_getElem? (l := tables_1_5) (i := 219) rfl)
set_option maxRecDepth 100000 in
theorem tw_1246 : (Cond.code yX8_deafMark cX8_deafMark 2 (some .int)) ∈ lw_tbl := ch_5 _ (List.mem_of_getElem? (l := tables_1_5) (i := 220) rfl)
set_option maxRecDepth 100000 in
theorem tw_1247 : (Cond.methodLink RL 166 yX8_trace) ∈ lw_tbl := ch_5 _ (List.mem_of_getElem? (l := tables_1_5) (i := 221) rfl)
set_option maxRecDepth 100000 in
theorem tw_1248 : (Cond.instanceMethod yX8_trace) ∈ lw_tbl := ch_5 _ (List.mem_of_getElem? (l := tables_1_5) (i := 222) rfl)
set_option maxRecDepth 100000 in
theorem tw_1249 : (Cond.selects RX8 yX8_trace yX8_trace) ∈ lw_tbl := ch_5 _ (List.mem_of_getElem? (l := tables_1_5) (i := 223) rfl)
set_option maxRecDepth 100000 in
theorem tw_1250 : (Cond.code yX8_trace cX8_trace 2 (some .int)) ∈ lw_tbl := ch_5 _ (List.mem_of_getElem? (l := tables_1_5) (i := 224) rfl)
set_option maxRecDepth 100000 in
theorem tw_1251 : (Cond.methodLink RL 170 yX8_count) ∈ lw_tbl := ch_5 _ (List.mem_of_getElem? (l := tables_1_5) (i := 225) rfl)
set_option maxRecDepth 100000 in
theorem tw_1252 : (Cond.instanceMethod yX8_count) ∈ lw_tbl := ch_5 _ (List.mem_of_getElem? (l := tables_1_5) (i := 226) rfl)
set_option maxRecDepth 100000 in
theorem tw_1253 : (Cond.selects RX8 yX8_count yX8_count) ∈ lw_tbl := ch_5 _ (List.mem_of_getElem? (l := tables_1_5) (i := 227) rfl)
set_option maxRecDepth 100000 in
theorem tw_1254 : (Cond.code yX8_count cX8_count 4 (some .int)) ∈ lw_tbl := ch_5 _ (List.mem_of_getElem? (l := tables_1_5) (i := 228) rfl)
set_option maxRecDepth 100000 in
theorem tw_1255 : (Cond.methodLink RL 174 yX8_status) ∈ lw_tbl := ch_5 _ (List.mem_of_getElem? (l := tables_1_5) (i := 229) rfl)
set_option maxRecDepth 100000 in
theorem tw_1256 : (Cond.instanceMethod yX8_status) ∈ lw_tbl := ch_5 _ (List.mem_of_getElem? (l := tables_1_5) (i := 230) rfl)
set_option maxRecDepth 100000 in
theorem tw_1257 : (Cond.selects RX8 yX8_status yX8_status) ∈ lw_tbl := ch_5 _ (List.mem_of_getElem? (l := tables_1_5) (i := 231) rfl)
set_option maxRecDepth 100000 in
theorem tw_1258 : (Cond.code yX8_status cX8_status 1 (some .int)) ∈ lw_tbl := ch_5 _ (List.mem_of_getElem? (l := tables_1_5) (i := 232) rfl)
theorem it_b0 : ∀ w ∈ bkV RX0 25 RX4 yX4_become, w ∈ lw_tbl := List.forall_mem_cons.mpr ⟨tw_476, List.forall_mem_cons.mpr ⟨tw_451, List.forall_mem_cons.mpr ⟨tw_452, List.forall_mem_cons.mpr ⟨tw_70, fun _ h => absurd h List.not_mem_nil⟩⟩⟩⟩
theorem it_b1 : ∀ w ∈ bkV RX1 34 RX1 yX1_sizeBody, w ∈ lw_tbl := List.forall_mem_cons.mpr ⟨tw_791, List.forall_mem_cons.mpr ⟨tw_793, List.forall_mem_cons.mpr ⟨tw_23, List.forall_mem_cons.mpr ⟨tw_73, fun _ h => absurd h List.not_mem_nil⟩⟩⟩⟩
theorem it_b2 : ∀ w ∈ bkV RX1 38 RX1 yX1_markBody, w ∈ lw_tbl := List.forall_mem_cons.mpr ⟨tw_797, List.forall_mem_cons.mpr ⟨tw_799, List.forall_mem_cons.mpr ⟨tw_24, List.forall_mem_cons.mpr ⟨tw_73, fun _ h => absurd h List.not_mem_nil⟩⟩⟩⟩
theorem it_b3 : ∀ w ∈ bkS RX1 41 yX1_given, w ∈ lw_tbl := List.forall_mem_cons.mpr ⟨tw_803, List.forall_mem_cons.mpr ⟨tw_804, List.forall_mem_cons.mpr ⟨tw_73, fun _ h => absurd h List.not_mem_nil⟩⟩⟩
theorem it_b4 : ∀ w ∈ bkV RX1 51 RX1 yX1_leave, w ∈ lw_tbl := List.forall_mem_cons.mpr ⟨tw_806, List.forall_mem_cons.mpr ⟨tw_808, List.forall_mem_cons.mpr ⟨tw_25, List.forall_mem_cons.mpr ⟨tw_73, fun _ h => absurd h List.not_mem_nil⟩⟩⟩⟩
theorem it_b5 : ∀ w ∈ bkV RX2 34 RX4 yX4_become, w ∈ lw_tbl := List.forall_mem_cons.mpr ⟨tw_450, List.forall_mem_cons.mpr ⟨tw_451, List.forall_mem_cons.mpr ⟨tw_452, List.forall_mem_cons.mpr ⟨tw_70, fun _ h => absurd h List.not_mem_nil⟩⟩⟩⟩
theorem it_b6 : ∀ w ∈ bkV RX2 61 RX2 yX2_secretBy, w ∈ lw_tbl := List.forall_mem_cons.mpr ⟨tw_488, List.forall_mem_cons.mpr ⟨tw_489, List.forall_mem_cons.mpr ⟨tw_490, List.forall_mem_cons.mpr ⟨tw_69, fun _ h => absurd h List.not_mem_nil⟩⟩⟩⟩
theorem it_b7 : ∀ w ∈ bkV RX2 68 RX2 yX2_distance, w ∈ lw_tbl := List.forall_mem_cons.mpr ⟨tw_529, List.forall_mem_cons.mpr ⟨tw_429, List.forall_mem_cons.mpr ⟨tw_430, List.forall_mem_cons.mpr ⟨tw_69, fun _ h => absurd h List.not_mem_nil⟩⟩⟩⟩
theorem it_b8 : ∀ w ∈ bkV RX2 71 RX2 yX2_lips, w ∈ lw_tbl := List.forall_mem_cons.mpr ⟨tw_530, List.forall_mem_cons.mpr ⟨tw_531, List.forall_mem_cons.mpr ⟨tw_532, List.forall_mem_cons.mpr ⟨tw_69, fun _ h => absurd h List.not_mem_nil⟩⟩⟩⟩
theorem it_b9 : ∀ w ∈ bkV RX2 74 RX2 yX2_guardOn, w ∈ lw_tbl := List.forall_mem_cons.mpr ⟨tw_520, List.forall_mem_cons.mpr ⟨tw_508, List.forall_mem_cons.mpr ⟨tw_509, List.forall_mem_cons.mpr ⟨tw_69, fun _ h => absurd h List.not_mem_nil⟩⟩⟩⟩
theorem it_b10 : ∀ w ∈ bkV RX2 77 RX2 yX2_isThere, w ∈ lw_tbl := List.forall_mem_cons.mpr ⟨tw_521, List.forall_mem_cons.mpr ⟨tw_522, List.forall_mem_cons.mpr ⟨tw_523, List.forall_mem_cons.mpr ⟨tw_69, fun _ h => absurd h List.not_mem_nil⟩⟩⟩⟩
theorem it_b11 : ∀ w ∈ bkV RX2 81 RX2 yX2_wouldTake, w ∈ lw_tbl := List.forall_mem_cons.mpr ⟨tw_525, List.forall_mem_cons.mpr ⟨tw_526, List.forall_mem_cons.mpr ⟨tw_527, List.forall_mem_cons.mpr ⟨tw_69, fun _ h => absurd h List.not_mem_nil⟩⟩⟩⟩
theorem it_b12 : ∀ w ∈ bkV RX2 85 RX2 yX2_secretIn, w ∈ lw_tbl := List.forall_mem_cons.mpr ⟨tw_515, List.forall_mem_cons.mpr ⟨tw_485, List.forall_mem_cons.mpr ⟨tw_486, List.forall_mem_cons.mpr ⟨tw_69, fun _ h => absurd h List.not_mem_nil⟩⟩⟩⟩
theorem it_b13 : ∀ w ∈ bkV RX2 89 RX2 yX2_catchesIf, w ∈ lw_tbl := List.forall_mem_cons.mpr ⟨tw_516, List.forall_mem_cons.mpr ⟨tw_517, List.forall_mem_cons.mpr ⟨tw_518, List.forall_mem_cons.mpr ⟨tw_69, fun _ h => absurd h List.not_mem_nil⟩⟩⟩⟩
theorem it_b14 : ∀ w ∈ bkV RX2 96 RX2 yX2_catches, w ∈ lw_tbl := List.forall_mem_cons.mpr ⟨tw_607, List.forall_mem_cons.mpr ⟨tw_512, List.forall_mem_cons.mpr ⟨tw_513, List.forall_mem_cons.mpr ⟨tw_69, fun _ h => absurd h List.not_mem_nil⟩⟩⟩⟩
theorem it_b15 : ∀ w ∈ bkV RX2 100 RX2 yX2_wordsIn, w ∈ lw_tbl := List.forall_mem_cons.mpr ⟨tw_620, List.forall_mem_cons.mpr ⟨tw_604, List.forall_mem_cons.mpr ⟨tw_605, List.forall_mem_cons.mpr ⟨tw_69, fun _ h => absurd h List.not_mem_nil⟩⟩⟩⟩
theorem it_b16 : ∀ w ∈ bkS RX3 24 yX3_agreesWithTries, w ∈ lw_tbl := List.forall_mem_cons.mpr ⟨tw_637, List.forall_mem_cons.mpr ⟨tw_638, List.forall_mem_cons.mpr ⟨tw_72, fun _ h => absurd h List.not_mem_nil⟩⟩⟩
theorem it_b17 : ∀ w ∈ bkV RX3 56 RX2 yX2_wouldTake, w ∈ lw_tbl := List.forall_mem_cons.mpr ⟨tw_640, List.forall_mem_cons.mpr ⟨tw_526, List.forall_mem_cons.mpr ⟨tw_527, List.forall_mem_cons.mpr ⟨tw_69, fun _ h => absurd h List.not_mem_nil⟩⟩⟩⟩
theorem it_b18 : ∀ w ∈ bkV RX3 63 RX2 yX2_catchesIf, w ∈ lw_tbl := List.forall_mem_cons.mpr ⟨tw_655, List.forall_mem_cons.mpr ⟨tw_517, List.forall_mem_cons.mpr ⟨tw_518, List.forall_mem_cons.mpr ⟨tw_69, fun _ h => absurd h List.not_mem_nil⟩⟩⟩⟩
theorem it_b19 : ∀ w ∈ bkS RX3 66 yX3_secretsCatching, w ∈ lw_tbl := List.forall_mem_cons.mpr ⟨tw_652, List.forall_mem_cons.mpr ⟨tw_653, List.forall_mem_cons.mpr ⟨tw_72, fun _ h => absurd h List.not_mem_nil⟩⟩⟩
theorem it_b20 : ∀ w ∈ bkS RX3 70 yJ6_bitCount_0f7a4, w ∈ lw_tbl := List.forall_mem_cons.mpr ⟨tw_656, List.forall_mem_cons.mpr ⟨tw_657, List.forall_mem_cons.mpr ⟨tw_78, fun _ h => absurd h List.not_mem_nil⟩⟩⟩
theorem it_b21 : ∀ w ∈ bkS RX3 82 yX3_leftAtWorst, w ∈ lw_tbl := List.forall_mem_cons.mpr ⟨tw_649, List.forall_mem_cons.mpr ⟨tw_650, List.forall_mem_cons.mpr ⟨tw_72, fun _ h => absurd h List.not_mem_nil⟩⟩⟩
theorem it_b22 : ∀ w ∈ bkV RX3 85 RX3 yX3_menToSplit, w ∈ lw_tbl := List.forall_mem_cons.mpr ⟨tw_674, List.forall_mem_cons.mpr ⟨tw_676, List.forall_mem_cons.mpr ⟨tw_17, List.forall_mem_cons.mpr ⟨tw_72, fun _ h => absurd h List.not_mem_nil⟩⟩⟩⟩
theorem it_b23 : ∀ w ∈ bkV RX5 22 RX5 yX5_reaches, w ∈ lw_tbl := List.forall_mem_cons.mpr ⟨tw_360, List.forall_mem_cons.mpr ⟨tw_361, List.forall_mem_cons.mpr ⟨tw_362, List.forall_mem_cons.mpr ⟨tw_74, fun _ h => absurd h List.not_mem_nil⟩⟩⟩⟩
theorem it_b24 : ∀ w ∈ bkV RX6 35 RX6 yX6_readLaw, w ∈ lw_tbl := List.forall_mem_cons.mpr ⟨tw_397, List.forall_mem_cons.mpr ⟨tw_399, List.forall_mem_cons.mpr ⟨tw_3, List.forall_mem_cons.mpr ⟨tw_68, fun _ h => absurd h List.not_mem_nil⟩⟩⟩⟩
theorem it_b25 : ∀ w ∈ bkV RX6 39 RX6 yX6_readWord, w ∈ lw_tbl := List.forall_mem_cons.mpr ⟨tw_420, List.forall_mem_cons.mpr ⟨tw_422, List.forall_mem_cons.mpr ⟨tw_8, List.forall_mem_cons.mpr ⟨tw_68, fun _ h => absurd h List.not_mem_nil⟩⟩⟩⟩
theorem it_b26 : ∀ w ∈ bkV RX6 42 RX6 yX6_here, w ∈ lw_tbl := List.forall_mem_cons.mpr ⟨tw_405, List.forall_mem_cons.mpr ⟨tw_407, List.forall_mem_cons.mpr ⟨tw_5, List.forall_mem_cons.mpr ⟨tw_68, fun _ h => absurd h List.not_mem_nil⟩⟩⟩⟩
theorem it_b27 : ∀ w ∈ bkV RX6 46 RX6 yX6_readGuard, w ∈ lw_tbl := List.forall_mem_cons.mpr ⟨tw_432, List.forall_mem_cons.mpr ⟨tw_434, List.forall_mem_cons.mpr ⟨tw_10, List.forall_mem_cons.mpr ⟨tw_68, fun _ h => absurd h List.not_mem_nil⟩⟩⟩⟩
theorem it_b28 : ∀ w ∈ bkV RX6 53 RX4 yX4_begin, w ∈ lw_tbl := List.forall_mem_cons.mpr ⟨tw_440, List.forall_mem_cons.mpr ⟨tw_441, List.forall_mem_cons.mpr ⟨tw_442, List.forall_mem_cons.mpr ⟨tw_70, fun _ h => absurd h List.not_mem_nil⟩⟩⟩⟩
theorem it_b29 : ∀ w ∈ bkV RX6 59 RX6 yX6_readSign, w ∈ lw_tbl := List.forall_mem_cons.mpr ⟨tw_401, List.forall_mem_cons.mpr ⟨tw_403, List.forall_mem_cons.mpr ⟨tw_4, List.forall_mem_cons.mpr ⟨tw_68, fun _ h => absurd h List.not_mem_nil⟩⟩⟩⟩
theorem it_b30 : ∀ w ∈ bkV RX6 63 RX6 yX6_readNumber, w ∈ lw_tbl := List.forall_mem_cons.mpr ⟨tw_413, List.forall_mem_cons.mpr ⟨tw_415, List.forall_mem_cons.mpr ⟨tw_7, List.forall_mem_cons.mpr ⟨tw_68, fun _ h => absurd h List.not_mem_nil⟩⟩⟩⟩
theorem it_b31 : ∀ w ∈ bkV RX6 78 RX6 yX6_faulty, w ∈ lw_tbl := List.forall_mem_cons.mpr ⟨tw_409, List.forall_mem_cons.mpr ⟨tw_411, List.forall_mem_cons.mpr ⟨tw_6, List.forall_mem_cons.mpr ⟨tw_68, fun _ h => absurd h List.not_mem_nil⟩⟩⟩⟩
theorem it_b32 : ∀ w ∈ bkV RX6 84 RX6 yX6_wasTold, w ∈ lw_tbl := List.forall_mem_cons.mpr ⟨tw_424, List.forall_mem_cons.mpr ⟨tw_426, List.forall_mem_cons.mpr ⟨tw_9, List.forall_mem_cons.mpr ⟨tw_68, fun _ h => absurd h List.not_mem_nil⟩⟩⟩⟩
theorem it_b33 : ∀ w ∈ bkV RX6 87 RX2 yX2_distance, w ∈ lw_tbl := List.forall_mem_cons.mpr ⟨tw_428, List.forall_mem_cons.mpr ⟨tw_429, List.forall_mem_cons.mpr ⟨tw_430, List.forall_mem_cons.mpr ⟨tw_69, fun _ h => absurd h List.not_mem_nil⟩⟩⟩⟩
theorem it_b34 : ∀ w ∈ bkS RX6 91 yX6_kindOf, w ∈ lw_tbl := List.forall_mem_cons.mpr ⟨tw_436, List.forall_mem_cons.mpr ⟨tw_437, List.forall_mem_cons.mpr ⟨tw_68, fun _ h => absurd h List.not_mem_nil⟩⟩⟩
theorem it_b35 : ∀ w ∈ bkS RX6 102 yX6_isFigure, w ∈ lw_tbl := List.forall_mem_cons.mpr ⟨tw_417, List.forall_mem_cons.mpr ⟨tw_418, List.forall_mem_cons.mpr ⟨tw_68, fun _ h => absurd h List.not_mem_nil⟩⟩⟩
theorem it_b36 : ∀ w ∈ bkV RX7 55 RX7 yX7_isRow, w ∈ lw_tbl := List.forall_mem_cons.mpr ⟨tw_334, List.forall_mem_cons.mpr ⟨tw_336, List.forall_mem_cons.mpr ⟨tw_0, List.forall_mem_cons.mpr ⟨tw_67, fun _ h => absurd h List.not_mem_nil⟩⟩⟩⟩
theorem it_b37 : ∀ w ∈ bkV RX7 60 RX7 yX7_found, w ∈ lw_tbl := List.forall_mem_cons.mpr ⟨tw_339, List.forall_mem_cons.mpr ⟨tw_341, List.forall_mem_cons.mpr ⟨tw_1, List.forall_mem_cons.mpr ⟨tw_67, fun _ h => absurd h List.not_mem_nil⟩⟩⟩⟩
theorem it_b38 : ∀ w ∈ bkV RX7 64 RX5 yX5_make, w ∈ lw_tbl := List.forall_mem_cons.mpr ⟨tw_344, List.forall_mem_cons.mpr ⟨tw_345, List.forall_mem_cons.mpr ⟨tw_346, List.forall_mem_cons.mpr ⟨tw_74, fun _ h => absurd h List.not_mem_nil⟩⟩⟩⟩
theorem it_b39 : ∀ w ∈ bkV RX7 68 RX7 yX7_unfound, w ∈ lw_tbl := List.forall_mem_cons.mpr ⟨tw_348, List.forall_mem_cons.mpr ⟨tw_350, List.forall_mem_cons.mpr ⟨tw_2, List.forall_mem_cons.mpr ⟨tw_67, fun _ h => absurd h List.not_mem_nil⟩⟩⟩⟩
theorem it_b40 : ∀ w ∈ bkV RX7 71 RX5 yX5_findingOf, w ∈ lw_tbl := List.forall_mem_cons.mpr ⟨tw_356, List.forall_mem_cons.mpr ⟨tw_357, List.forall_mem_cons.mpr ⟨tw_358, List.forall_mem_cons.mpr ⟨tw_74, fun _ h => absurd h List.not_mem_nil⟩⟩⟩⟩
theorem it_b41 : ∀ w ∈ bkV RX7 75 RX5 yX5_put, w ∈ lw_tbl := List.forall_mem_cons.mpr ⟨tw_364, List.forall_mem_cons.mpr ⟨tw_365, List.forall_mem_cons.mpr ⟨tw_366, List.forall_mem_cons.mpr ⟨tw_74, fun _ h => absurd h List.not_mem_nil⟩⟩⟩⟩
theorem it_b42 : ∀ w ∈ bkV RX7 82 RX5 yX5_reaches, w ∈ lw_tbl := List.forall_mem_cons.mpr ⟨tw_372, List.forall_mem_cons.mpr ⟨tw_361, List.forall_mem_cons.mpr ⟨tw_362, List.forall_mem_cons.mpr ⟨tw_74, fun _ h => absurd h List.not_mem_nil⟩⟩⟩⟩
theorem it_b43 : ∀ w ∈ bkV RX7 99 RX6 yX6_append, w ∈ lw_tbl := List.forall_mem_cons.mpr ⟨tw_384, List.forall_mem_cons.mpr ⟨tw_385, List.forall_mem_cons.mpr ⟨tw_386, List.forall_mem_cons.mpr ⟨tw_68, fun _ h => absurd h List.not_mem_nil⟩⟩⟩⟩
theorem it_b44 : ∀ w ∈ bkV RX7 106 RX6 yX6_read, w ∈ lw_tbl := List.forall_mem_cons.mpr ⟨tw_393, List.forall_mem_cons.mpr ⟨tw_394, List.forall_mem_cons.mpr ⟨tw_395, List.forall_mem_cons.mpr ⟨tw_68, fun _ h => absurd h List.not_mem_nil⟩⟩⟩⟩
theorem it_b45 : ∀ w ∈ bkV RX7 123 RX2 yX2_become, w ∈ lw_tbl := List.forall_mem_cons.mpr ⟨tw_445, List.forall_mem_cons.mpr ⟨tw_446, List.forall_mem_cons.mpr ⟨tw_447, List.forall_mem_cons.mpr ⟨tw_69, fun _ h => absurd h List.not_mem_nil⟩⟩⟩⟩
theorem it_b46 : ∀ w ∈ bkV RX7 127 RX0 yX0_forget, w ∈ lw_tbl := List.forall_mem_cons.mpr ⟨tw_455, List.forall_mem_cons.mpr ⟨tw_456, List.forall_mem_cons.mpr ⟨tw_457, List.forall_mem_cons.mpr ⟨tw_71, fun _ h => absurd h List.not_mem_nil⟩⟩⟩⟩
theorem it_b47 : ∀ w ∈ bkV RX7 133 RX7 yX7_noGate, w ∈ lw_tbl := List.forall_mem_cons.mpr ⟨tw_467, List.forall_mem_cons.mpr ⟨tw_469, List.forall_mem_cons.mpr ⟨tw_11, List.forall_mem_cons.mpr ⟨tw_67, fun _ h => absurd h List.not_mem_nil⟩⟩⟩⟩
theorem it_b48 : ∀ w ∈ bkV RX7 146 RX0 yX0_keep, w ∈ lw_tbl := List.forall_mem_cons.mpr ⟨tw_472, List.forall_mem_cons.mpr ⟨tw_473, List.forall_mem_cons.mpr ⟨tw_474, List.forall_mem_cons.mpr ⟨tw_71, fun _ h => absurd h List.not_mem_nil⟩⟩⟩⟩
theorem it_b49 : ∀ w ∈ bkV RX7 150 RX4 yX4_goBy, w ∈ lw_tbl := List.forall_mem_cons.mpr ⟨tw_480, List.forall_mem_cons.mpr ⟨tw_481, List.forall_mem_cons.mpr ⟨tw_482, List.forall_mem_cons.mpr ⟨tw_70, fun _ h => absurd h List.not_mem_nil⟩⟩⟩⟩
theorem it_b50 : ∀ w ∈ bkV RX7 153 RX2 yX2_secretIn, w ∈ lw_tbl := List.forall_mem_cons.mpr ⟨tw_484, List.forall_mem_cons.mpr ⟨tw_485, List.forall_mem_cons.mpr ⟨tw_486, List.forall_mem_cons.mpr ⟨tw_69, fun _ h => absurd h List.not_mem_nil⟩⟩⟩⟩
theorem it_b51 : ∀ w ∈ bkV RX7 156 RX7 yX7_isWord, w ∈ lw_tbl := List.forall_mem_cons.mpr ⟨tw_499, List.forall_mem_cons.mpr ⟨tw_501, List.forall_mem_cons.mpr ⟨tw_12, List.forall_mem_cons.mpr ⟨tw_67, fun _ h => absurd h List.not_mem_nil⟩⟩⟩⟩
theorem it_b52 : ∀ w ∈ bkV RX7 159 RX7 yX7_isHour, w ∈ lw_tbl := List.forall_mem_cons.mpr ⟨tw_503, List.forall_mem_cons.mpr ⟨tw_505, List.forall_mem_cons.mpr ⟨tw_13, List.forall_mem_cons.mpr ⟨tw_67, fun _ h => absurd h List.not_mem_nil⟩⟩⟩⟩
theorem it_b53 : ∀ w ∈ bkV RX7 165 RX2 yX2_guardOn, w ∈ lw_tbl := List.forall_mem_cons.mpr ⟨tw_507, List.forall_mem_cons.mpr ⟨tw_508, List.forall_mem_cons.mpr ⟨tw_509, List.forall_mem_cons.mpr ⟨tw_69, fun _ h => absurd h List.not_mem_nil⟩⟩⟩⟩
theorem it_b54 : ∀ w ∈ bkV RX7 168 RX2 yX2_catches, w ∈ lw_tbl := List.forall_mem_cons.mpr ⟨tw_511, List.forall_mem_cons.mpr ⟨tw_512, List.forall_mem_cons.mpr ⟨tw_513, List.forall_mem_cons.mpr ⟨tw_69, fun _ h => absurd h List.not_mem_nil⟩⟩⟩⟩
theorem it_b55 : ∀ w ∈ bkV RX7 172 RX2 yX2_isThere, w ∈ lw_tbl := List.forall_mem_cons.mpr ⟨tw_534, List.forall_mem_cons.mpr ⟨tw_522, List.forall_mem_cons.mpr ⟨tw_523, List.forall_mem_cons.mpr ⟨tw_69, fun _ h => absurd h List.not_mem_nil⟩⟩⟩⟩
theorem it_b56 : ∀ w ∈ bkV RX7 176 RX4 yX4_addTry, w ∈ lw_tbl := List.forall_mem_cons.mpr ⟨tw_536, List.forall_mem_cons.mpr ⟨tw_537, List.forall_mem_cons.mpr ⟨tw_538, List.forall_mem_cons.mpr ⟨tw_70, fun _ h => absurd h List.not_mem_nil⟩⟩⟩⟩
theorem it_b57 : ∀ w ∈ bkS RX7 180 yX7_bit, w ∈ lw_tbl := List.forall_mem_cons.mpr ⟨tw_543, List.forall_mem_cons.mpr ⟨tw_541, List.forall_mem_cons.mpr ⟨tw_67, fun _ h => absurd h List.not_mem_nil⟩⟩⟩
theorem it_b58 : ∀ w ∈ bkV RX7 187 RX7 yX7_isGuard, w ∈ lw_tbl := List.forall_mem_cons.mpr ⟨tw_552, List.forall_mem_cons.mpr ⟨tw_554, List.forall_mem_cons.mpr ⟨tw_14, List.forall_mem_cons.mpr ⟨tw_67, fun _ h => absurd h List.not_mem_nil⟩⟩⟩⟩
theorem it_b59 : ∀ w ∈ bkV RX7 193 RX0 yX0_takeBack, w ∈ lw_tbl := List.forall_mem_cons.mpr ⟨tw_560, List.forall_mem_cons.mpr ⟨tw_561, List.forall_mem_cons.mpr ⟨tw_562, List.forall_mem_cons.mpr ⟨tw_71, fun _ h => absurd h List.not_mem_nil⟩⟩⟩⟩
theorem it_b60 : ∀ w ∈ bkV RX7 203 RX2 yX2_distance, w ∈ lw_tbl := List.forall_mem_cons.mpr ⟨tw_572, List.forall_mem_cons.mpr ⟨tw_429, List.forall_mem_cons.mpr ⟨tw_430, List.forall_mem_cons.mpr ⟨tw_69, fun _ h => absurd h List.not_mem_nil⟩⟩⟩⟩
theorem it_b61 : ∀ w ∈ bkV RX7 206 RX2 yX2_lips, w ∈ lw_tbl := List.forall_mem_cons.mpr ⟨tw_573, List.forall_mem_cons.mpr ⟨tw_531, List.forall_mem_cons.mpr ⟨tw_532, List.forall_mem_cons.mpr ⟨tw_69, fun _ h => absurd h List.not_mem_nil⟩⟩⟩⟩
theorem it_b62 : ∀ w ∈ bkV RX7 215 RX2 yX2_hoursOf, w ∈ lw_tbl := List.forall_mem_cons.mpr ⟨tw_578, List.forall_mem_cons.mpr ⟨tw_579, List.forall_mem_cons.mpr ⟨tw_580, List.forall_mem_cons.mpr ⟨tw_69, fun _ h => absurd h List.not_mem_nil⟩⟩⟩⟩
theorem it_b63 : ∀ w ∈ bkV RX7 227 RX7 yX7_isAhead, w ∈ lw_tbl := List.forall_mem_cons.mpr ⟨tw_591, List.forall_mem_cons.mpr ⟨tw_593, List.forall_mem_cons.mpr ⟨tw_15, List.forall_mem_cons.mpr ⟨tw_67, fun _ h => absurd h List.not_mem_nil⟩⟩⟩⟩
theorem it_b64 : ∀ w ∈ bkV RX7 230 RX2 yX2_wordsIn, w ∈ lw_tbl := List.forall_mem_cons.mpr ⟨tw_603, List.forall_mem_cons.mpr ⟨tw_604, List.forall_mem_cons.mpr ⟨tw_605, List.forall_mem_cons.mpr ⟨tw_69, fun _ h => absurd h List.not_mem_nil⟩⟩⟩⟩
theorem it_b65 : ∀ w ∈ bkV RX7 233 RX7 yX7_areWords, w ∈ lw_tbl := List.forall_mem_cons.mpr ⟨tw_612, List.forall_mem_cons.mpr ⟨tw_614, List.forall_mem_cons.mpr ⟨tw_16, List.forall_mem_cons.mpr ⟨tw_67, fun _ h => absurd h List.not_mem_nil⟩⟩⟩⟩
theorem it_b66 : ∀ w ∈ bkV RX7 236 RX2 yX2_hoursOpen, w ∈ lw_tbl := List.forall_mem_cons.mpr ⟨tw_616, List.forall_mem_cons.mpr ⟨tw_617, List.forall_mem_cons.mpr ⟨tw_618, List.forall_mem_cons.mpr ⟨tw_69, fun _ h => absurd h List.not_mem_nil⟩⟩⟩⟩
theorem it_b67 : ∀ w ∈ bkV RX7 239 RX2 yX2_nightsUntil, w ∈ lw_tbl := List.forall_mem_cons.mpr ⟨tw_625, List.forall_mem_cons.mpr ⟨tw_626, List.forall_mem_cons.mpr ⟨tw_627, List.forall_mem_cons.mpr ⟨tw_69, fun _ h => absurd h List.not_mem_nil⟩⟩⟩⟩
theorem it_b68 : ∀ w ∈ bkS RX7 242 yX3_agreeing, w ∈ lw_tbl := List.forall_mem_cons.mpr ⟨tw_634, List.forall_mem_cons.mpr ⟨tw_635, List.forall_mem_cons.mpr ⟨tw_72, fun _ h => absurd h List.not_mem_nil⟩⟩⟩
theorem it_b69 : ∀ w ∈ bkS RX7 246 yX3_bestTry, w ∈ lw_tbl := List.forall_mem_cons.mpr ⟨tw_646, List.forall_mem_cons.mpr ⟨tw_647, List.forall_mem_cons.mpr ⟨tw_72, fun _ h => absurd h List.not_mem_nil⟩⟩⟩
theorem it_b70 : ∀ w ∈ bkS RX7 250 yX3_leftAtWorst, w ∈ lw_tbl := List.forall_mem_cons.mpr ⟨tw_665, List.forall_mem_cons.mpr ⟨tw_650, List.forall_mem_cons.mpr ⟨tw_72, fun _ h => absurd h List.not_mem_nil⟩⟩⟩
theorem it_b71 : ∀ w ∈ bkV RX7 254 RX3 yX3_fewestMen, w ∈ lw_tbl := List.forall_mem_cons.mpr ⟨tw_670, List.forall_mem_cons.mpr ⟨tw_671, List.forall_mem_cons.mpr ⟨tw_672, List.forall_mem_cons.mpr ⟨tw_72, fun _ h => absurd h List.not_mem_nil⟩⟩⟩⟩
theorem it_b72 : ∀ w ∈ bkV RX7 257 RX7 yX7_hourOfLast, w ∈ lw_tbl := List.forall_mem_cons.mpr ⟨tw_684, List.forall_mem_cons.mpr ⟨tw_686, List.forall_mem_cons.mpr ⟨tw_18, List.forall_mem_cons.mpr ⟨tw_67, fun _ h => absurd h List.not_mem_nil⟩⟩⟩⟩
theorem it_b73 : ∀ w ∈ bkV RX7 261 RX2 yX2_guardsAgainst, w ∈ lw_tbl := List.forall_mem_cons.mpr ⟨tw_696, List.forall_mem_cons.mpr ⟨tw_697, List.forall_mem_cons.mpr ⟨tw_698, List.forall_mem_cons.mpr ⟨tw_69, fun _ h => absurd h List.not_mem_nil⟩⟩⟩⟩
theorem it_b74 : ∀ w ∈ bkV RX7 264 RX2 yX2_feeOf, w ∈ lw_tbl := List.forall_mem_cons.mpr ⟨tw_700, List.forall_mem_cons.mpr ⟨tw_701, List.forall_mem_cons.mpr ⟨tw_702, List.forall_mem_cons.mpr ⟨tw_69, fun _ h => absurd h List.not_mem_nil⟩⟩⟩⟩
theorem it_b75 : ∀ w ∈ bkV RX7 267 RX2 yX2_nearestTo, w ∈ lw_tbl := List.forall_mem_cons.mpr ⟨tw_708, List.forall_mem_cons.mpr ⟨tw_709, List.forall_mem_cons.mpr ⟨tw_710, List.forall_mem_cons.mpr ⟨tw_69, fun _ h => absurd h List.not_mem_nil⟩⟩⟩⟩
theorem it_b76 : ∀ w ∈ bkV RX7 270 RX7 yX7_rulesThatTell, w ∈ lw_tbl := List.forall_mem_cons.mpr ⟨tw_716, List.forall_mem_cons.mpr ⟨tw_718, List.forall_mem_cons.mpr ⟨tw_19, List.forall_mem_cons.mpr ⟨tw_67, fun _ h => absurd h List.not_mem_nil⟩⟩⟩⟩
theorem it_b77 : ∀ w ∈ bkV RX7 274 RX7 yX7_kindsThatFit, w ∈ lw_tbl := List.forall_mem_cons.mpr ⟨tw_725, List.forall_mem_cons.mpr ⟨tw_727, List.forall_mem_cons.mpr ⟨tw_20, List.forall_mem_cons.mpr ⟨tw_67, fun _ h => absurd h List.not_mem_nil⟩⟩⟩⟩
theorem it_b78 : ∀ w ∈ bkV RX7 281 RX7 yX7_secretsThatFit, w ∈ lw_tbl := List.forall_mem_cons.mpr ⟨tw_734, List.forall_mem_cons.mpr ⟨tw_736, List.forall_mem_cons.mpr ⟨tw_22, List.forall_mem_cons.mpr ⟨tw_67, fun _ h => absurd h List.not_mem_nil⟩⟩⟩⟩
theorem it_b79 : ∀ w ∈ bkS RX7 285 yJ6_bitCount_0f7a4, w ∈ lw_tbl := List.forall_mem_cons.mpr ⟨tw_742, List.forall_mem_cons.mpr ⟨tw_657, List.forall_mem_cons.mpr ⟨tw_78, fun _ h => absurd h List.not_mem_nil⟩⟩⟩
theorem it_b80 : ∀ w ∈ bkS RX7 290 yX3_secretsCatching, w ∈ lw_tbl := List.forall_mem_cons.mpr ⟨tw_743, List.forall_mem_cons.mpr ⟨tw_653, List.forall_mem_cons.mpr ⟨tw_72, fun _ h => absurd h List.not_mem_nil⟩⟩⟩
theorem it_b81 : ∀ w ∈ bkS RX7 293 yX7_commonDivisor, w ∈ lw_tbl := List.forall_mem_cons.mpr ⟨tw_744, List.forall_mem_cons.mpr ⟨tw_745, List.forall_mem_cons.mpr ⟨tw_67, fun _ h => absurd h List.not_mem_nil⟩⟩⟩
theorem it_b82 : ∀ w ∈ bkS RX7 296 yX7_lowest, w ∈ lw_tbl := List.forall_mem_cons.mpr ⟨tw_747, List.forall_mem_cons.mpr ⟨tw_748, List.forall_mem_cons.mpr ⟨tw_67, fun _ h => absurd h List.not_mem_nil⟩⟩⟩
theorem it_b83 : ∀ w ∈ bkS RX7 304 yX7_rest, w ∈ lw_tbl := List.forall_mem_cons.mpr ⟨tw_757, List.forall_mem_cons.mpr ⟨tw_493, List.forall_mem_cons.mpr ⟨tw_67, fun _ h => absurd h List.not_mem_nil⟩⟩⟩
theorem it_b84 : ∀ w ∈ bkS RX7 307 yX1_isA, w ∈ lw_tbl := List.forall_mem_cons.mpr ⟨tw_774, List.forall_mem_cons.mpr ⟨tw_775, List.forall_mem_cons.mpr ⟨tw_73, fun _ h => absurd h List.not_mem_nil⟩⟩⟩
theorem it_b85 : ∀ w ∈ bkV RX7 310 RX1 yX1_turnTo, w ∈ lw_tbl := List.forall_mem_cons.mpr ⟨tw_783, List.forall_mem_cons.mpr ⟨tw_784, List.forall_mem_cons.mpr ⟨tw_785, List.forall_mem_cons.mpr ⟨tw_73, fun _ h => absurd h List.not_mem_nil⟩⟩⟩⟩
theorem it_b86 : ∀ w ∈ bkV RX7 314 RX1 yX1_answer, w ∈ lw_tbl := List.forall_mem_cons.mpr ⟨tw_787, List.forall_mem_cons.mpr ⟨tw_788, List.forall_mem_cons.mpr ⟨tw_789, List.forall_mem_cons.mpr ⟨tw_73, fun _ h => absurd h List.not_mem_nil⟩⟩⟩⟩
theorem it_b87 : ∀ w ∈ bkV RX7 323 RX7 yX7_rowsThere, w ∈ lw_tbl := List.forall_mem_cons.mpr ⟨tw_818, List.forall_mem_cons.mpr ⟨tw_820, List.forall_mem_cons.mpr ⟨tw_26, List.forall_mem_cons.mpr ⟨tw_67, fun _ h => absurd h List.not_mem_nil⟩⟩⟩⟩
theorem it_b88 : ∀ w ∈ bkV RX7 330 RX4 yX4_tookInAll, w ∈ lw_tbl := List.forall_mem_cons.mpr ⟨tw_822, List.forall_mem_cons.mpr ⟨tw_823, List.forall_mem_cons.mpr ⟨tw_824, List.forall_mem_cons.mpr ⟨tw_70, fun _ h => absurd h List.not_mem_nil⟩⟩⟩⟩
theorem it_b89 : ∀ w ∈ bkV RX7 337 RX2 yX2_hourIn, w ∈ lw_tbl := List.forall_mem_cons.mpr ⟨tw_688, List.forall_mem_cons.mpr ⟨tw_689, List.forall_mem_cons.mpr ⟨tw_690, List.forall_mem_cons.mpr ⟨tw_69, fun _ h => absurd h List.not_mem_nil⟩⟩⟩⟩
theorem it_b90 : ∀ w ∈ bkV RX7 346 RX2 yX2_secretBy, w ∈ lw_tbl := List.forall_mem_cons.mpr ⟨tw_720, List.forall_mem_cons.mpr ⟨tw_489, List.forall_mem_cons.mpr ⟨tw_490, List.forall_mem_cons.mpr ⟨tw_69, fun _ h => absurd h List.not_mem_nil⟩⟩⟩⟩
theorem it_b91 : ∀ w ∈ bkV RX7 350 RX7 yX7_fitsTold, w ∈ lw_tbl := List.forall_mem_cons.mpr ⟨tw_729, List.forall_mem_cons.mpr ⟨tw_731, List.forall_mem_cons.mpr ⟨tw_21, List.forall_mem_cons.mpr ⟨tw_67, fun _ h => absurd h List.not_mem_nil⟩⟩⟩⟩
theorem it_b92 : ∀ w ∈ bkV RX7 354 RX2 yX2_wouldTake, w ∈ lw_tbl := List.forall_mem_cons.mpr ⟨tw_733, List.forall_mem_cons.mpr ⟨tw_526, List.forall_mem_cons.mpr ⟨tw_527, List.forall_mem_cons.mpr ⟨tw_69, fun _ h => absurd h List.not_mem_nil⟩⟩⟩⟩
theorem it_b93 : ∀ w ∈ bkS RX8 56 yX8_in, w ∈ lw_tbl := List.forall_mem_cons.mpr ⟨tw_915, List.forall_mem_cons.mpr ⟨tw_916, List.forall_mem_cons.mpr ⟨tw_75, fun _ h => absurd h List.not_mem_nil⟩⟩⟩
theorem it_b94 : ∀ w ∈ bkS RX8 60 yX8_isRow, w ∈ lw_tbl := List.forall_mem_cons.mpr ⟨tw_912, List.forall_mem_cons.mpr ⟨tw_913, List.forall_mem_cons.mpr ⟨tw_75, fun _ h => absurd h List.not_mem_nil⟩⟩⟩
theorem it_b95 : ∀ w ∈ bkV RX8 65 RX8 yX8_found, w ∈ lw_tbl := List.forall_mem_cons.mpr ⟨tw_919, List.forall_mem_cons.mpr ⟨tw_921, List.forall_mem_cons.mpr ⟨tw_27, List.forall_mem_cons.mpr ⟨tw_75, fun _ h => absurd h List.not_mem_nil⟩⟩⟩⟩
theorem it_b96 : ∀ w ∈ bkV RX8 69 RX8 yX8_well, w ∈ lw_tbl := List.forall_mem_cons.mpr ⟨tw_924, List.forall_mem_cons.mpr ⟨tw_926, List.forall_mem_cons.mpr ⟨tw_28, List.forall_mem_cons.mpr ⟨tw_75, fun _ h => absurd h List.not_mem_nil⟩⟩⟩⟩
theorem it_b97 : ∀ w ∈ bkV RX8 72 RX8 yX8_isMissing, w ∈ lw_tbl := List.forall_mem_cons.mpr ⟨tw_932, List.forall_mem_cons.mpr ⟨tw_934, List.forall_mem_cons.mpr ⟨tw_29, List.forall_mem_cons.mpr ⟨tw_75, fun _ h => absurd h List.not_mem_nil⟩⟩⟩⟩
theorem it_b98 : ∀ w ∈ bkS RX8 75 yX8_cut, w ∈ lw_tbl := List.forall_mem_cons.mpr ⟨tw_936, List.forall_mem_cons.mpr ⟨tw_937, List.forall_mem_cons.mpr ⟨tw_75, fun _ h => absurd h List.not_mem_nil⟩⟩⟩
theorem it_b99 : ∀ w ∈ bkV RX8 79 RX8 yX8_isPart, w ∈ lw_tbl := List.forall_mem_cons.mpr ⟨tw_943, List.forall_mem_cons.mpr ⟨tw_945, List.forall_mem_cons.mpr ⟨tw_30, List.forall_mem_cons.mpr ⟨tw_75, fun _ h => absurd h List.not_mem_nil⟩⟩⟩⟩
theorem it_b100 : ∀ w ∈ bkV RX8 92 RX8 yX8_byteAt, w ∈ lw_tbl := List.forall_mem_cons.mpr ⟨tw_964, List.forall_mem_cons.mpr ⟨tw_966, List.forall_mem_cons.mpr ⟨tw_32, List.forall_mem_cons.mpr ⟨tw_75, fun _ h => absurd h List.not_mem_nil⟩⟩⟩⟩
theorem it_b101 : ∀ w ∈ bkV RX8 104 RX8 yX8_isWell, w ∈ lw_tbl := List.forall_mem_cons.mpr ⟨tw_972, List.forall_mem_cons.mpr ⟨tw_974, List.forall_mem_cons.mpr ⟨tw_34, List.forall_mem_cons.mpr ⟨tw_75, fun _ h => absurd h List.not_mem_nil⟩⟩⟩⟩
theorem it_b102 : ∀ w ∈ bkV RX8 111 RX8 yX8_advances, w ∈ lw_tbl := List.forall_mem_cons.mpr ⟨tw_960, List.forall_mem_cons.mpr ⟨tw_962, List.forall_mem_cons.mpr ⟨tw_31, List.forall_mem_cons.mpr ⟨tw_75, fun _ h => absurd h List.not_mem_nil⟩⟩⟩⟩
theorem it_b103 : ∀ w ∈ bkV RX8 114 RX8 yX8_takes, w ∈ lw_tbl := List.forall_mem_cons.mpr ⟨tw_968, List.forall_mem_cons.mpr ⟨tw_970, List.forall_mem_cons.mpr ⟨tw_33, List.forall_mem_cons.mpr ⟨tw_75, fun _ h => absurd h List.not_mem_nil⟩⟩⟩⟩
theorem it_b104 : ∀ w ∈ bkV RX8 118 RX8 yX8_figure, w ∈ lw_tbl := List.forall_mem_cons.mpr ⟨tw_976, List.forall_mem_cons.mpr ⟨tw_978, List.forall_mem_cons.mpr ⟨tw_35, List.forall_mem_cons.mpr ⟨tw_75, fun _ h => absurd h List.not_mem_nil⟩⟩⟩⟩
theorem it_b105 : ∀ w ∈ bkV RX8 121 RX8 yX8_letterOf, w ∈ lw_tbl := List.forall_mem_cons.mpr ⟨tw_992, List.forall_mem_cons.mpr ⟨tw_994, List.forall_mem_cons.mpr ⟨tw_39, List.forall_mem_cons.mpr ⟨tw_75, fun _ h => absurd h List.not_mem_nil⟩⟩⟩⟩
theorem it_b106 : ∀ w ∈ bkV RX8 125 RX8 yX8_isTold, w ∈ lw_tbl := List.forall_mem_cons.mpr ⟨tw_996, List.forall_mem_cons.mpr ⟨tw_998, List.forall_mem_cons.mpr ⟨tw_40, List.forall_mem_cons.mpr ⟨tw_75, fun _ h => absurd h List.not_mem_nil⟩⟩⟩⟩
theorem it_b107 : ∀ w ∈ bkS RX8 128 yX8_kindOf, w ∈ lw_tbl := List.forall_mem_cons.mpr ⟨tw_1000, List.forall_mem_cons.mpr ⟨tw_1001, List.forall_mem_cons.mpr ⟨tw_75, fun _ h => absurd h List.not_mem_nil⟩⟩⟩
theorem it_b108 : ∀ w ∈ bkV RX8 131 RX8 yX8_follows, w ∈ lw_tbl := List.forall_mem_cons.mpr ⟨tw_980, List.forall_mem_cons.mpr ⟨tw_982, List.forall_mem_cons.mpr ⟨tw_36, List.forall_mem_cons.mpr ⟨tw_75, fun _ h => absurd h List.not_mem_nil⟩⟩⟩⟩
theorem it_b109 : ∀ w ∈ bkV RX8 134 RX8 yX8_must, w ∈ lw_tbl := List.forall_mem_cons.mpr ⟨tw_984, List.forall_mem_cons.mpr ⟨tw_986, List.forall_mem_cons.mpr ⟨tw_37, List.forall_mem_cons.mpr ⟨tw_75, fun _ h => absurd h List.not_mem_nil⟩⟩⟩⟩
theorem it_b110 : ∀ w ∈ bkV RX8 138 RX8 yX8_readsWord, w ∈ lw_tbl := List.forall_mem_cons.mpr ⟨tw_988, List.forall_mem_cons.mpr ⟨tw_990, List.forall_mem_cons.mpr ⟨tw_38, List.forall_mem_cons.mpr ⟨tw_75, fun _ h => absurd h List.not_mem_nil⟩⟩⟩⟩
theorem it_b111 : ∀ w ∈ bkV RX8 141 RX8 yX8_readsGuard, w ∈ lw_tbl := List.forall_mem_cons.mpr ⟨tw_1003, List.forall_mem_cons.mpr ⟨tw_1005, List.forall_mem_cons.mpr ⟨tw_41, List.forall_mem_cons.mpr ⟨tw_75, fun _ h => absurd h List.not_mem_nil⟩⟩⟩⟩
theorem it_b112 : ∀ w ∈ bkS RX8 145 yX8_copies, w ∈ lw_tbl := List.forall_mem_cons.mpr ⟨tw_1008, List.forall_mem_cons.mpr ⟨tw_1009, List.forall_mem_cons.mpr ⟨tw_75, fun _ h => absurd h List.not_mem_nil⟩⟩⟩
theorem it_b113 : ∀ w ∈ bkV RX8 152 RX8 yX8_distance, w ∈ lw_tbl := List.forall_mem_cons.mpr ⟨tw_1069, List.forall_mem_cons.mpr ⟨tw_1071, List.forall_mem_cons.mpr ⟨tw_51, List.forall_mem_cons.mpr ⟨tw_75, fun _ h => absurd h List.not_mem_nil⟩⟩⟩⟩
theorem it_b114 : ∀ w ∈ bkV RX8 155 RX8 yX8_lips, w ∈ lw_tbl := List.forall_mem_cons.mpr ⟨tw_1073, List.forall_mem_cons.mpr ⟨tw_1075, List.forall_mem_cons.mpr ⟨tw_52, List.forall_mem_cons.mpr ⟨tw_75, fun _ h => absurd h List.not_mem_nil⟩⟩⟩⟩
theorem it_b115 : ∀ w ∈ bkV RX8 158 RX8 yX8_guardOn, w ∈ lw_tbl := List.forall_mem_cons.mpr ⟨tw_1046, List.forall_mem_cons.mpr ⟨tw_1048, List.forall_mem_cons.mpr ⟨tw_46, List.forall_mem_cons.mpr ⟨tw_75, fun _ h => absurd h List.not_mem_nil⟩⟩⟩⟩
theorem it_b116 : ∀ w ∈ bkS RX8 161 yX8_has, w ∈ lw_tbl := List.forall_mem_cons.mpr ⟨tw_1058, List.forall_mem_cons.mpr ⟨tw_1059, List.forall_mem_cons.mpr ⟨tw_75, fun _ h => absurd h List.not_mem_nil⟩⟩⟩
theorem it_b117 : ∀ w ∈ bkV RX8 165 RX8 yX8_kindIn, w ∈ lw_tbl := List.forall_mem_cons.mpr ⟨tw_1061, List.forall_mem_cons.mpr ⟨tw_1063, List.forall_mem_cons.mpr ⟨tw_49, List.forall_mem_cons.mpr ⟨tw_75, fun _ h => absurd h List.not_mem_nil⟩⟩⟩⟩
theorem it_b118 : ∀ w ∈ bkV RX8 168 RX8 yX8_takesBy, w ∈ lw_tbl := List.forall_mem_cons.mpr ⟨tw_1065, List.forall_mem_cons.mpr ⟨tw_1067, List.forall_mem_cons.mpr ⟨tw_50, List.forall_mem_cons.mpr ⟨tw_75, fun _ h => absurd h List.not_mem_nil⟩⟩⟩⟩
theorem it_b119 : ∀ w ∈ bkS RX8 172 yX8_secretOf, w ∈ lw_tbl := List.forall_mem_cons.mpr ⟨tw_1032, List.forall_mem_cons.mpr ⟨tw_1033, List.forall_mem_cons.mpr ⟨tw_75, fun _ h => absurd h List.not_mem_nil⟩⟩⟩
theorem it_b120 : ∀ w ∈ bkV RX8 176 RX8 yX8_isTaken, w ∈ lw_tbl := List.forall_mem_cons.mpr ⟨tw_1054, List.forall_mem_cons.mpr ⟨tw_1056, List.forall_mem_cons.mpr ⟨tw_48, List.forall_mem_cons.mpr ⟨tw_75, fun _ h => absurd h List.not_mem_nil⟩⟩⟩⟩
theorem it_b121 : ∀ w ∈ bkV RX8 180 RX8 yX8_isGate, w ∈ lw_tbl := List.forall_mem_cons.mpr ⟨tw_1019, List.forall_mem_cons.mpr ⟨tw_1021, List.forall_mem_cons.mpr ⟨tw_42, List.forall_mem_cons.mpr ⟨tw_75, fun _ h => absurd h List.not_mem_nil⟩⟩⟩⟩
theorem it_b122 : ∀ w ∈ bkV RX8 184 RX8 yX8_notes, w ∈ lw_tbl := List.forall_mem_cons.mpr ⟨tw_1024, List.forall_mem_cons.mpr ⟨tw_1026, List.forall_mem_cons.mpr ⟨tw_43, List.forall_mem_cons.mpr ⟨tw_75, fun _ h => absurd h List.not_mem_nil⟩⟩⟩⟩
theorem it_b123 : ∀ w ∈ bkV RX8 187 RX8 yX8_forgets, w ∈ lw_tbl := List.forall_mem_cons.mpr ⟨tw_1028, List.forall_mem_cons.mpr ⟨tw_1030, List.forall_mem_cons.mpr ⟨tw_44, List.forall_mem_cons.mpr ⟨tw_75, fun _ h => absurd h List.not_mem_nil⟩⟩⟩⟩
theorem it_b124 : ∀ w ∈ bkV RX8 190 RX8 yX8_isWord, w ∈ lw_tbl := List.forall_mem_cons.mpr ⟨tw_1039, List.forall_mem_cons.mpr ⟨tw_1041, List.forall_mem_cons.mpr ⟨tw_45, List.forall_mem_cons.mpr ⟨tw_75, fun _ h => absurd h List.not_mem_nil⟩⟩⟩⟩
theorem it_b125 : ∀ w ∈ bkS RX8 193 yX8_isHour, w ∈ lw_tbl := List.forall_mem_cons.mpr ⟨tw_1043, List.forall_mem_cons.mpr ⟨tw_1044, List.forall_mem_cons.mpr ⟨tw_75, fun _ h => absurd h List.not_mem_nil⟩⟩⟩
theorem it_b126 : ∀ w ∈ bkV RX8 196 RX8 yX8_isTakenNow, w ∈ lw_tbl := List.forall_mem_cons.mpr ⟨tw_1050, List.forall_mem_cons.mpr ⟨tw_1052, List.forall_mem_cons.mpr ⟨tw_47, List.forall_mem_cons.mpr ⟨tw_75, fun _ h => absurd h List.not_mem_nil⟩⟩⟩⟩
theorem it_b127 : ∀ w ∈ bkV RX8 199 RX8 yX8_isGuard, w ∈ lw_tbl := List.forall_mem_cons.mpr ⟨tw_1085, List.forall_mem_cons.mpr ⟨tw_1087, List.forall_mem_cons.mpr ⟨tw_53, List.forall_mem_cons.mpr ⟨tw_75, fun _ h => absurd h List.not_mem_nil⟩⟩⟩⟩
theorem it_b128 : ∀ w ∈ bkV RX8 202 RX8 yX8_hoursOf, w ∈ lw_tbl := List.forall_mem_cons.mpr ⟨tw_1105, List.forall_mem_cons.mpr ⟨tw_1107, List.forall_mem_cons.mpr ⟨tw_54, List.forall_mem_cons.mpr ⟨tw_75, fun _ h => absurd h List.not_mem_nil⟩⟩⟩⟩
theorem it_b129 : ∀ w ∈ bkS RX8 205 yX8_isFar, w ∈ lw_tbl := List.forall_mem_cons.mpr ⟨tw_1117, List.forall_mem_cons.mpr ⟨tw_1118, List.forall_mem_cons.mpr ⟨tw_75, fun _ h => absurd h List.not_mem_nil⟩⟩⟩
theorem it_b130 : ∀ w ∈ bkV RX8 208 RX8 yX8_areWords, w ∈ lw_tbl := List.forall_mem_cons.mpr ⟨tw_1132, List.forall_mem_cons.mpr ⟨tw_1134, List.forall_mem_cons.mpr ⟨tw_55, List.forall_mem_cons.mpr ⟨tw_75, fun _ h => absurd h List.not_mem_nil⟩⟩⟩⟩
theorem it_b131 : ∀ w ∈ bkV RX8 211 RX8 yX8_areIn, w ∈ lw_tbl := List.forall_mem_cons.mpr ⟨tw_1136, List.forall_mem_cons.mpr ⟨tw_1138, List.forall_mem_cons.mpr ⟨tw_56, List.forall_mem_cons.mpr ⟨tw_75, fun _ h => absurd h List.not_mem_nil⟩⟩⟩⟩
theorem it_b132 : ∀ w ∈ bkV RX8 214 RX8 yX8_agreeing, w ∈ lw_tbl := List.forall_mem_cons.mpr ⟨tw_1148, List.forall_mem_cons.mpr ⟨tw_1150, List.forall_mem_cons.mpr ⟨tw_57, List.forall_mem_cons.mpr ⟨tw_75, fun _ h => absurd h List.not_mem_nil⟩⟩⟩⟩
theorem it_b133 : ∀ w ∈ bkS RX8 217 yX8_ones, w ∈ lw_tbl := List.forall_mem_cons.mpr ⟨tw_1156, List.forall_mem_cons.mpr ⟨tw_1157, List.forall_mem_cons.mpr ⟨tw_75, fun _ h => absurd h List.not_mem_nil⟩⟩⟩
theorem it_b134 : ∀ w ∈ bkV RX8 220 RX8 yX8_takenOf, w ∈ lw_tbl := List.forall_mem_cons.mpr ⟨tw_1159, List.forall_mem_cons.mpr ⟨tw_1161, List.forall_mem_cons.mpr ⟨tw_58, List.forall_mem_cons.mpr ⟨tw_75, fun _ h => absurd h List.not_mem_nil⟩⟩⟩⟩
theorem it_b135 : ∀ w ∈ bkV RX8 224 RX8 yX8_menFor, w ∈ lw_tbl := List.forall_mem_cons.mpr ⟨tw_1167, List.forall_mem_cons.mpr ⟨tw_1169, List.forall_mem_cons.mpr ⟨tw_59, List.forall_mem_cons.mpr ⟨tw_75, fun _ h => absurd h List.not_mem_nil⟩⟩⟩⟩
theorem it_b136 : ∀ w ∈ bkV RX8 227 RX8 yX8_takesSo, w ∈ lw_tbl := List.forall_mem_cons.mpr ⟨tw_1191, List.forall_mem_cons.mpr ⟨tw_1193, List.forall_mem_cons.mpr ⟨tw_60, List.forall_mem_cons.mpr ⟨tw_75, fun _ h => absurd h List.not_mem_nil⟩⟩⟩⟩
theorem it_b137 : ∀ w ∈ bkV RX8 240 RX8 yX8_begins, w ∈ lw_tbl := List.forall_mem_cons.mpr ⟨tw_1231, List.forall_mem_cons.mpr ⟨tw_1233, List.forall_mem_cons.mpr ⟨tw_62, List.forall_mem_cons.mpr ⟨tw_75, fun _ h => absurd h List.not_mem_nil⟩⟩⟩⟩
theorem it_b138 : ∀ w ∈ bkV RX8 244 RX8 yX8_keenMark, w ∈ lw_tbl := List.forall_mem_cons.mpr ⟨tw_1239, List.forall_mem_cons.mpr ⟨tw_1241, List.forall_mem_cons.mpr ⟨tw_64, List.forall_mem_cons.mpr ⟨tw_75, fun _ h => absurd h List.not_mem_nil⟩⟩⟩⟩
theorem it_b139 : ∀ w ∈ bkV RX8 247 RX8 yX8_deafSize, w ∈ lw_tbl := List.forall_mem_cons.mpr ⟨tw_1227, List.forall_mem_cons.mpr ⟨tw_1229, List.forall_mem_cons.mpr ⟨tw_61, List.forall_mem_cons.mpr ⟨tw_75, fun _ h => absurd h List.not_mem_nil⟩⟩⟩⟩
theorem it_b140 : ∀ w ∈ bkV RX8 250 RX8 yX8_keenSize, w ∈ lw_tbl := List.forall_mem_cons.mpr ⟨tw_1235, List.forall_mem_cons.mpr ⟨tw_1237, List.forall_mem_cons.mpr ⟨tw_63, List.forall_mem_cons.mpr ⟨tw_75, fun _ h => absurd h List.not_mem_nil⟩⟩⟩⟩
theorem it_b141 : ∀ w ∈ bkV RX8 253 RX8 yX8_deafMark, w ∈ lw_tbl := List.forall_mem_cons.mpr ⟨tw_1243, List.forall_mem_cons.mpr ⟨tw_1245, List.forall_mem_cons.mpr ⟨tw_65, List.forall_mem_cons.mpr ⟨tw_75, fun _ h => absurd h List.not_mem_nil⟩⟩⟩⟩
theorem it_b142 : ∀ w ∈ bkV RL 13 RX7 yX7_row, w ∈ lw_tbl := List.forall_mem_cons.mpr ⟨tw_330, List.forall_mem_cons.mpr ⟨tw_331, List.forall_mem_cons.mpr ⟨tw_332, List.forall_mem_cons.mpr ⟨tw_67, fun _ h => absurd h List.not_mem_nil⟩⟩⟩⟩
theorem it_b143 : ∀ w ∈ bkV RL 17 RX8 yX8_row, w ∈ lw_tbl := List.forall_mem_cons.mpr ⟨tw_908, List.forall_mem_cons.mpr ⟨tw_909, List.forall_mem_cons.mpr ⟨tw_910, List.forall_mem_cons.mpr ⟨tw_75, fun _ h => absurd h List.not_mem_nil⟩⟩⟩⟩
theorem it_b144 : ∀ w ∈ bkV RL 18 RX7 yX7_set, w ∈ lw_tbl := List.forall_mem_cons.mpr ⟨tw_352, List.forall_mem_cons.mpr ⟨tw_353, List.forall_mem_cons.mpr ⟨tw_354, List.forall_mem_cons.mpr ⟨tw_67, fun _ h => absurd h List.not_mem_nil⟩⟩⟩⟩
theorem it_b145 : ∀ w ∈ bkV RL 21 RX8 yX8_set, w ∈ lw_tbl := List.forall_mem_cons.mpr ⟨tw_928, List.forall_mem_cons.mpr ⟨tw_929, List.forall_mem_cons.mpr ⟨tw_930, List.forall_mem_cons.mpr ⟨tw_75, fun _ h => absurd h List.not_mem_nil⟩⟩⟩⟩
theorem it_b146 : ∀ w ∈ bkV RL 22 RX7 yX7_copy, w ∈ lw_tbl := List.forall_mem_cons.mpr ⟨tw_368, List.forall_mem_cons.mpr ⟨tw_369, List.forall_mem_cons.mpr ⟨tw_370, List.forall_mem_cons.mpr ⟨tw_67, fun _ h => absurd h List.not_mem_nil⟩⟩⟩⟩
theorem it_b147 : ∀ w ∈ bkV RL 26 RX8 yX8_copy, w ∈ lw_tbl := List.forall_mem_cons.mpr ⟨tw_939, List.forall_mem_cons.mpr ⟨tw_940, List.forall_mem_cons.mpr ⟨tw_941, List.forall_mem_cons.mpr ⟨tw_75, fun _ h => absurd h List.not_mem_nil⟩⟩⟩⟩
theorem it_b148 : ∀ w ∈ bkV RL 27 RX7 yX7_drop, w ∈ lw_tbl := List.forall_mem_cons.mpr ⟨tw_376, List.forall_mem_cons.mpr ⟨tw_377, List.forall_mem_cons.mpr ⟨tw_378, List.forall_mem_cons.mpr ⟨tw_67, fun _ h => absurd h List.not_mem_nil⟩⟩⟩⟩
theorem it_b149 : ∀ w ∈ bkV RL 31 RX8 yX8_drop, w ∈ lw_tbl := List.forall_mem_cons.mpr ⟨tw_947, List.forall_mem_cons.mpr ⟨tw_948, List.forall_mem_cons.mpr ⟨tw_949, List.forall_mem_cons.mpr ⟨tw_75, fun _ h => absurd h List.not_mem_nil⟩⟩⟩⟩
theorem it_b150 : ∀ w ∈ bkV RL 32 RX7 yX7_feed, w ∈ lw_tbl := List.forall_mem_cons.mpr ⟨tw_380, List.forall_mem_cons.mpr ⟨tw_381, List.forall_mem_cons.mpr ⟨tw_382, List.forall_mem_cons.mpr ⟨tw_67, fun _ h => absurd h List.not_mem_nil⟩⟩⟩⟩
theorem it_b151 : ∀ w ∈ bkV RL 35 RX8 yX8_feed, w ∈ lw_tbl := List.forall_mem_cons.mpr ⟨tw_951, List.forall_mem_cons.mpr ⟨tw_952, List.forall_mem_cons.mpr ⟨tw_953, List.forall_mem_cons.mpr ⟨tw_75, fun _ h => absurd h List.not_mem_nil⟩⟩⟩⟩
theorem it_b152 : ∀ w ∈ bkV RL 36 RX7 yX7_gate, w ∈ lw_tbl := List.forall_mem_cons.mpr ⟨tw_389, List.forall_mem_cons.mpr ⟨tw_390, List.forall_mem_cons.mpr ⟨tw_391, List.forall_mem_cons.mpr ⟨tw_67, fun _ h => absurd h List.not_mem_nil⟩⟩⟩⟩
theorem it_b153 : ∀ w ∈ bkV RL 40 RX8 yX8_gate, w ∈ lw_tbl := List.forall_mem_cons.mpr ⟨tw_956, List.forall_mem_cons.mpr ⟨tw_957, List.forall_mem_cons.mpr ⟨tw_958, List.forall_mem_cons.mpr ⟨tw_75, fun _ h => absurd h List.not_mem_nil⟩⟩⟩⟩
theorem it_b154 : ∀ w ∈ bkV RL 41 RX7 yX7_fault, w ∈ lw_tbl := List.forall_mem_cons.mpr ⟨tw_459, List.forall_mem_cons.mpr ⟨tw_460, List.forall_mem_cons.mpr ⟨tw_461, List.forall_mem_cons.mpr ⟨tw_67, fun _ h => absurd h List.not_mem_nil⟩⟩⟩⟩
theorem it_b155 : ∀ w ∈ bkV RL 44 RX8 yX8_fault, w ∈ lw_tbl := List.forall_mem_cons.mpr ⟨tw_1011, List.forall_mem_cons.mpr ⟨tw_1012, List.forall_mem_cons.mpr ⟨tw_1013, List.forall_mem_cons.mpr ⟨tw_75, fun _ h => absurd h List.not_mem_nil⟩⟩⟩⟩
theorem it_b156 : ∀ w ∈ bkV RL 45 RX7 yX7_nights, w ∈ lw_tbl := List.forall_mem_cons.mpr ⟨tw_463, List.forall_mem_cons.mpr ⟨tw_464, List.forall_mem_cons.mpr ⟨tw_465, List.forall_mem_cons.mpr ⟨tw_67, fun _ h => absurd h List.not_mem_nil⟩⟩⟩⟩
theorem it_b157 : ∀ w ∈ bkV RL 48 RX8 yX8_nights, w ∈ lw_tbl := List.forall_mem_cons.mpr ⟨tw_1015, List.forall_mem_cons.mpr ⟨tw_1016, List.forall_mem_cons.mpr ⟨tw_1017, List.forall_mem_cons.mpr ⟨tw_75, fun _ h => absurd h List.not_mem_nil⟩⟩⟩⟩
theorem it_b158 : ∀ w ∈ bkV RL 49 RX7 yX7_say, w ∈ lw_tbl := List.forall_mem_cons.mpr ⟨tw_495, List.forall_mem_cons.mpr ⟨tw_496, List.forall_mem_cons.mpr ⟨tw_497, List.forall_mem_cons.mpr ⟨tw_67, fun _ h => absurd h List.not_mem_nil⟩⟩⟩⟩
theorem it_b159 : ∀ w ∈ bkV RL 53 RX8 yX8_say, w ∈ lw_tbl := List.forall_mem_cons.mpr ⟨tw_1035, List.forall_mem_cons.mpr ⟨tw_1036, List.forall_mem_cons.mpr ⟨tw_1037, List.forall_mem_cons.mpr ⟨tw_75, fun _ h => absurd h List.not_mem_nil⟩⟩⟩⟩
theorem it_b160 : ∀ w ∈ bkV RL 54 RX7 yX7_start, w ∈ lw_tbl := List.forall_mem_cons.mpr ⟨tw_544, List.forall_mem_cons.mpr ⟨tw_545, List.forall_mem_cons.mpr ⟨tw_546, List.forall_mem_cons.mpr ⟨tw_67, fun _ h => absurd h List.not_mem_nil⟩⟩⟩⟩
theorem it_b161 : ∀ w ∈ bkV RL 57 RX8 yX8_start, w ∈ lw_tbl := List.forall_mem_cons.mpr ⟨tw_1077, List.forall_mem_cons.mpr ⟨tw_1078, List.forall_mem_cons.mpr ⟨tw_1079, List.forall_mem_cons.mpr ⟨tw_75, fun _ h => absurd h List.not_mem_nil⟩⟩⟩⟩
theorem it_b162 : ∀ w ∈ bkV RL 58 RX7 yX7_dismiss, w ∈ lw_tbl := List.forall_mem_cons.mpr ⟨tw_548, List.forall_mem_cons.mpr ⟨tw_549, List.forall_mem_cons.mpr ⟨tw_550, List.forall_mem_cons.mpr ⟨tw_67, fun _ h => absurd h List.not_mem_nil⟩⟩⟩⟩
theorem it_b163 : ∀ w ∈ bkV RL 61 RX8 yX8_dismiss, w ∈ lw_tbl := List.forall_mem_cons.mpr ⟨tw_1081, List.forall_mem_cons.mpr ⟨tw_1082, List.forall_mem_cons.mpr ⟨tw_1083, List.forall_mem_cons.mpr ⟨tw_75, fun _ h => absurd h List.not_mem_nil⟩⟩⟩⟩
theorem it_b164 : ∀ w ∈ bkV RL 62 RX7 yX7_undo, w ∈ lw_tbl := List.forall_mem_cons.mpr ⟨tw_556, List.forall_mem_cons.mpr ⟨tw_557, List.forall_mem_cons.mpr ⟨tw_558, List.forall_mem_cons.mpr ⟨tw_67, fun _ h => absurd h List.not_mem_nil⟩⟩⟩⟩
theorem it_b165 : ∀ w ∈ bkV RL 65 RX8 yX8_undo, w ∈ lw_tbl := List.forall_mem_cons.mpr ⟨tw_1089, List.forall_mem_cons.mpr ⟨tw_1090, List.forall_mem_cons.mpr ⟨tw_1091, List.forall_mem_cons.mpr ⟨tw_75, fun _ h => absurd h List.not_mem_nil⟩⟩⟩⟩
theorem it_b166 : ∀ w ∈ bkV RL 66 RX7 yX7_letter, w ∈ lw_tbl := List.forall_mem_cons.mpr ⟨tw_564, List.forall_mem_cons.mpr ⟨tw_565, List.forall_mem_cons.mpr ⟨tw_566, List.forall_mem_cons.mpr ⟨tw_67, fun _ h => absurd h List.not_mem_nil⟩⟩⟩⟩
theorem it_b167 : ∀ w ∈ bkV RL 69 RX8 yX8_letter, w ∈ lw_tbl := List.forall_mem_cons.mpr ⟨tw_1093, List.forall_mem_cons.mpr ⟨tw_1094, List.forall_mem_cons.mpr ⟨tw_1095, List.forall_mem_cons.mpr ⟨tw_75, fun _ h => absurd h List.not_mem_nil⟩⟩⟩⟩
theorem it_b168 : ∀ w ∈ bkV RL 70 RX7 yX7_like, w ∈ lw_tbl := List.forall_mem_cons.mpr ⟨tw_568, List.forall_mem_cons.mpr ⟨tw_569, List.forall_mem_cons.mpr ⟨tw_570, List.forall_mem_cons.mpr ⟨tw_67, fun _ h => absurd h List.not_mem_nil⟩⟩⟩⟩
theorem it_b169 : ∀ w ∈ bkV RL 73 RX8 yX8_like, w ∈ lw_tbl := List.forall_mem_cons.mpr ⟨tw_1097, List.forall_mem_cons.mpr ⟨tw_1098, List.forall_mem_cons.mpr ⟨tw_1099, List.forall_mem_cons.mpr ⟨tw_75, fun _ h => absurd h List.not_mem_nil⟩⟩⟩⟩
theorem it_b170 : ∀ w ∈ bkV RL 74 RX7 yX7_guard, w ∈ lw_tbl := List.forall_mem_cons.mpr ⟨tw_574, List.forall_mem_cons.mpr ⟨tw_575, List.forall_mem_cons.mpr ⟨tw_576, List.forall_mem_cons.mpr ⟨tw_67, fun _ h => absurd h List.not_mem_nil⟩⟩⟩⟩
theorem it_b171 : ∀ w ∈ bkV RL 77 RX8 yX8_guard, w ∈ lw_tbl := List.forall_mem_cons.mpr ⟨tw_1101, List.forall_mem_cons.mpr ⟨tw_1102, List.forall_mem_cons.mpr ⟨tw_1103, List.forall_mem_cons.mpr ⟨tw_75, fun _ h => absurd h List.not_mem_nil⟩⟩⟩⟩
theorem it_b172 : ∀ w ∈ bkV RL 78 RX7 yX7_tried, w ∈ lw_tbl := List.forall_mem_cons.mpr ⟨tw_583, List.forall_mem_cons.mpr ⟨tw_584, List.forall_mem_cons.mpr ⟨tw_585, List.forall_mem_cons.mpr ⟨tw_67, fun _ h => absurd h List.not_mem_nil⟩⟩⟩⟩
theorem it_b173 : ∀ w ∈ bkV RL 81 RX8 yX8_tried, w ∈ lw_tbl := List.forall_mem_cons.mpr ⟨tw_1109, List.forall_mem_cons.mpr ⟨tw_1110, List.forall_mem_cons.mpr ⟨tw_1111, List.forall_mem_cons.mpr ⟨tw_75, fun _ h => absurd h List.not_mem_nil⟩⟩⟩⟩
theorem it_b174 : ∀ w ∈ bkV RL 82 RX7 yX7_secret, w ∈ lw_tbl := List.forall_mem_cons.mpr ⟨tw_587, List.forall_mem_cons.mpr ⟨tw_588, List.forall_mem_cons.mpr ⟨tw_589, List.forall_mem_cons.mpr ⟨tw_67, fun _ h => absurd h List.not_mem_nil⟩⟩⟩⟩
theorem it_b175 : ∀ w ∈ bkV RL 85 RX8 yX8_secret, w ∈ lw_tbl := List.forall_mem_cons.mpr ⟨tw_1113, List.forall_mem_cons.mpr ⟨tw_1114, List.forall_mem_cons.mpr ⟨tw_1115, List.forall_mem_cons.mpr ⟨tw_75, fun _ h => absurd h List.not_mem_nil⟩⟩⟩⟩
theorem it_b176 : ∀ w ∈ bkV RL 86 RX7 yX7_taken, w ∈ lw_tbl := List.forall_mem_cons.mpr ⟨tw_595, List.forall_mem_cons.mpr ⟨tw_596, List.forall_mem_cons.mpr ⟨tw_597, List.forall_mem_cons.mpr ⟨tw_67, fun _ h => absurd h List.not_mem_nil⟩⟩⟩⟩
theorem it_b177 : ∀ w ∈ bkV RL 89 RX8 yX8_taken, w ∈ lw_tbl := List.forall_mem_cons.mpr ⟨tw_1120, List.forall_mem_cons.mpr ⟨tw_1121, List.forall_mem_cons.mpr ⟨tw_1122, List.forall_mem_cons.mpr ⟨tw_75, fun _ h => absurd h List.not_mem_nil⟩⟩⟩⟩
theorem it_b178 : ∀ w ∈ bkV RL 90 RX7 yX7_safe, w ∈ lw_tbl := List.forall_mem_cons.mpr ⟨tw_599, List.forall_mem_cons.mpr ⟨tw_600, List.forall_mem_cons.mpr ⟨tw_601, List.forall_mem_cons.mpr ⟨tw_67, fun _ h => absurd h List.not_mem_nil⟩⟩⟩⟩
theorem it_b179 : ∀ w ∈ bkV RL 93 RX8 yX8_safe, w ∈ lw_tbl := List.forall_mem_cons.mpr ⟨tw_1124, List.forall_mem_cons.mpr ⟨tw_1125, List.forall_mem_cons.mpr ⟨tw_1126, List.forall_mem_cons.mpr ⟨tw_75, fun _ h => absurd h List.not_mem_nil⟩⟩⟩⟩
theorem it_b180 : ∀ w ∈ bkV RL 94 RX7 yX7_open, w ∈ lw_tbl := List.forall_mem_cons.mpr ⟨tw_608, List.forall_mem_cons.mpr ⟨tw_609, List.forall_mem_cons.mpr ⟨tw_610, List.forall_mem_cons.mpr ⟨tw_67, fun _ h => absurd h List.not_mem_nil⟩⟩⟩⟩
theorem it_b181 : ∀ w ∈ bkV RL 97 RX8 yX8_open, w ∈ lw_tbl := List.forall_mem_cons.mpr ⟨tw_1128, List.forall_mem_cons.mpr ⟨tw_1129, List.forall_mem_cons.mpr ⟨tw_1130, List.forall_mem_cons.mpr ⟨tw_75, fun _ h => absurd h List.not_mem_nil⟩⟩⟩⟩
theorem it_b182 : ∀ w ∈ bkV RL 98 RX7 yX7_next, w ∈ lw_tbl := List.forall_mem_cons.mpr ⟨tw_621, List.forall_mem_cons.mpr ⟨tw_622, List.forall_mem_cons.mpr ⟨tw_623, List.forall_mem_cons.mpr ⟨tw_67, fun _ h => absurd h List.not_mem_nil⟩⟩⟩⟩
theorem it_b183 : ∀ w ∈ bkV RL 101 RX8 yX8_next, w ∈ lw_tbl := List.forall_mem_cons.mpr ⟨tw_1140, List.forall_mem_cons.mpr ⟨tw_1141, List.forall_mem_cons.mpr ⟨tw_1142, List.forall_mem_cons.mpr ⟨tw_75, fun _ h => absurd h List.not_mem_nil⟩⟩⟩⟩
theorem it_b184 : ∀ w ∈ bkV RL 102 RX7 yX7_agree, w ∈ lw_tbl := List.forall_mem_cons.mpr ⟨tw_630, List.forall_mem_cons.mpr ⟨tw_631, List.forall_mem_cons.mpr ⟨tw_632, List.forall_mem_cons.mpr ⟨tw_67, fun _ h => absurd h List.not_mem_nil⟩⟩⟩⟩
theorem it_b185 : ∀ w ∈ bkV RL 105 RX8 yX8_agree, w ∈ lw_tbl := List.forall_mem_cons.mpr ⟨tw_1144, List.forall_mem_cons.mpr ⟨tw_1145, List.forall_mem_cons.mpr ⟨tw_1146, List.forall_mem_cons.mpr ⟨tw_75, fun _ h => absurd h List.not_mem_nil⟩⟩⟩⟩
theorem it_b186 : ∀ w ∈ bkV RL 106 RX7 yX7_man, w ∈ lw_tbl := List.forall_mem_cons.mpr ⟨tw_642, List.forall_mem_cons.mpr ⟨tw_643, List.forall_mem_cons.mpr ⟨tw_644, List.forall_mem_cons.mpr ⟨tw_67, fun _ h => absurd h List.not_mem_nil⟩⟩⟩⟩
theorem it_b187 : ∀ w ∈ bkV RL 109 RX8 yX8_man, w ∈ lw_tbl := List.forall_mem_cons.mpr ⟨tw_1152, List.forall_mem_cons.mpr ⟨tw_1153, List.forall_mem_cons.mpr ⟨tw_1154, List.forall_mem_cons.mpr ⟨tw_75, fun _ h => absurd h List.not_mem_nil⟩⟩⟩⟩
theorem it_b188 : ∀ w ∈ bkV RL 110 RX7 yX7_fewest, w ∈ lw_tbl := List.forall_mem_cons.mpr ⟨tw_666, List.forall_mem_cons.mpr ⟨tw_667, List.forall_mem_cons.mpr ⟨tw_668, List.forall_mem_cons.mpr ⟨tw_67, fun _ h => absurd h List.not_mem_nil⟩⟩⟩⟩
theorem it_b189 : ∀ w ∈ bkV RL 113 RX8 yX8_fewest, w ∈ lw_tbl := List.forall_mem_cons.mpr ⟨tw_1163, List.forall_mem_cons.mpr ⟨tw_1164, List.forall_mem_cons.mpr ⟨tw_1165, List.forall_mem_cons.mpr ⟨tw_75, fun _ h => absurd h List.not_mem_nil⟩⟩⟩⟩
theorem it_b190 : ∀ w ∈ bkV RL 114 RX7 yX7_march, w ∈ lw_tbl := List.forall_mem_cons.mpr ⟨tw_680, List.forall_mem_cons.mpr ⟨tw_681, List.forall_mem_cons.mpr ⟨tw_682, List.forall_mem_cons.mpr ⟨tw_67, fun _ h => absurd h List.not_mem_nil⟩⟩⟩⟩
theorem it_b191 : ∀ w ∈ bkV RL 118 RX8 yX8_march, w ∈ lw_tbl := List.forall_mem_cons.mpr ⟨tw_1171, List.forall_mem_cons.mpr ⟨tw_1172, List.forall_mem_cons.mpr ⟨tw_1173, List.forall_mem_cons.mpr ⟨tw_75, fun _ h => absurd h List.not_mem_nil⟩⟩⟩⟩
theorem it_b192 : ∀ w ∈ bkV RL 119 RX7 yX7_cheap, w ∈ lw_tbl := List.forall_mem_cons.mpr ⟨tw_692, List.forall_mem_cons.mpr ⟨tw_693, List.forall_mem_cons.mpr ⟨tw_694, List.forall_mem_cons.mpr ⟨tw_67, fun _ h => absurd h List.not_mem_nil⟩⟩⟩⟩
theorem it_b193 : ∀ w ∈ bkV RL 122 RX8 yX8_cheap, w ∈ lw_tbl := List.forall_mem_cons.mpr ⟨tw_1175, List.forall_mem_cons.mpr ⟨tw_1176, List.forall_mem_cons.mpr ⟨tw_1177, List.forall_mem_cons.mpr ⟨tw_75, fun _ h => absurd h List.not_mem_nil⟩⟩⟩⟩
theorem it_b194 : ∀ w ∈ bkV RL 123 RX7 yX7_near, w ∈ lw_tbl := List.forall_mem_cons.mpr ⟨tw_704, List.forall_mem_cons.mpr ⟨tw_705, List.forall_mem_cons.mpr ⟨tw_706, List.forall_mem_cons.mpr ⟨tw_67, fun _ h => absurd h List.not_mem_nil⟩⟩⟩⟩
theorem it_b195 : ∀ w ∈ bkV RL 126 RX8 yX8_near, w ∈ lw_tbl := List.forall_mem_cons.mpr ⟨tw_1179, List.forall_mem_cons.mpr ⟨tw_1180, List.forall_mem_cons.mpr ⟨tw_1181, List.forall_mem_cons.mpr ⟨tw_75, fun _ h => absurd h List.not_mem_nil⟩⟩⟩⟩
theorem it_b196 : ∀ w ∈ bkV RL 127 RX7 yX7_rules, w ∈ lw_tbl := List.forall_mem_cons.mpr ⟨tw_712, List.forall_mem_cons.mpr ⟨tw_713, List.forall_mem_cons.mpr ⟨tw_714, List.forall_mem_cons.mpr ⟨tw_67, fun _ h => absurd h List.not_mem_nil⟩⟩⟩⟩
theorem it_b197 : ∀ w ∈ bkV RL 130 RX8 yX8_rules, w ∈ lw_tbl := List.forall_mem_cons.mpr ⟨tw_1183, List.forall_mem_cons.mpr ⟨tw_1184, List.forall_mem_cons.mpr ⟨tw_1185, List.forall_mem_cons.mpr ⟨tw_75, fun _ h => absurd h List.not_mem_nil⟩⟩⟩⟩
theorem it_b198 : ∀ w ∈ bkV RL 131 RX7 yX7_fits, w ∈ lw_tbl := List.forall_mem_cons.mpr ⟨tw_721, List.forall_mem_cons.mpr ⟨tw_722, List.forall_mem_cons.mpr ⟨tw_723, List.forall_mem_cons.mpr ⟨tw_67, fun _ h => absurd h List.not_mem_nil⟩⟩⟩⟩
theorem it_b199 : ∀ w ∈ bkV RL 134 RX8 yX8_fits, w ∈ lw_tbl := List.forall_mem_cons.mpr ⟨tw_1187, List.forall_mem_cons.mpr ⟨tw_1188, List.forall_mem_cons.mpr ⟨tw_1189, List.forall_mem_cons.mpr ⟨tw_75, fun _ h => absurd h List.not_mem_nil⟩⟩⟩⟩
theorem it_b200 : ∀ w ∈ bkV RL 135 RX7 yX7_sure, w ∈ lw_tbl := List.forall_mem_cons.mpr ⟨tw_738, List.forall_mem_cons.mpr ⟨tw_739, List.forall_mem_cons.mpr ⟨tw_740, List.forall_mem_cons.mpr ⟨tw_67, fun _ h => absurd h List.not_mem_nil⟩⟩⟩⟩
theorem it_b201 : ∀ w ∈ bkV RL 138 RX8 yX8_sure, w ∈ lw_tbl := List.forall_mem_cons.mpr ⟨tw_1195, List.forall_mem_cons.mpr ⟨tw_1196, List.forall_mem_cons.mpr ⟨tw_1197, List.forall_mem_cons.mpr ⟨tw_75, fun _ h => absurd h List.not_mem_nil⟩⟩⟩⟩
theorem it_b202 : ∀ w ∈ bkV RL 139 RX7 yX7_drawn, w ∈ lw_tbl := List.forall_mem_cons.mpr ⟨tw_750, List.forall_mem_cons.mpr ⟨tw_751, List.forall_mem_cons.mpr ⟨tw_752, List.forall_mem_cons.mpr ⟨tw_67, fun _ h => absurd h List.not_mem_nil⟩⟩⟩⟩
theorem it_b203 : ∀ w ∈ bkV RL 142 RX8 yX8_drawn, w ∈ lw_tbl := List.forall_mem_cons.mpr ⟨tw_1199, List.forall_mem_cons.mpr ⟨tw_1200, List.forall_mem_cons.mpr ⟨tw_1201, List.forall_mem_cons.mpr ⟨tw_75, fun _ h => absurd h List.not_mem_nil⟩⟩⟩⟩
theorem it_b204 : ∀ w ∈ bkV RL 143 RX7 yX7_image, w ∈ lw_tbl := List.forall_mem_cons.mpr ⟨tw_758, List.forall_mem_cons.mpr ⟨tw_759, List.forall_mem_cons.mpr ⟨tw_760, List.forall_mem_cons.mpr ⟨tw_67, fun _ h => absurd h List.not_mem_nil⟩⟩⟩⟩
theorem it_b205 : ∀ w ∈ bkV RL 146 RX8 yX8_image, w ∈ lw_tbl := List.forall_mem_cons.mpr ⟨tw_1207, List.forall_mem_cons.mpr ⟨tw_1208, List.forall_mem_cons.mpr ⟨tw_1209, List.forall_mem_cons.mpr ⟨tw_75, fun _ h => absurd h List.not_mem_nil⟩⟩⟩⟩
theorem it_b206 : ∀ w ∈ bkV RL 147 RX7 yX7_restore, w ∈ lw_tbl := List.forall_mem_cons.mpr ⟨tw_762, List.forall_mem_cons.mpr ⟨tw_763, List.forall_mem_cons.mpr ⟨tw_764, List.forall_mem_cons.mpr ⟨tw_67, fun _ h => absurd h List.not_mem_nil⟩⟩⟩⟩
theorem it_b207 : ∀ w ∈ bkV RL 150 RX8 yX8_restore, w ∈ lw_tbl := List.forall_mem_cons.mpr ⟨tw_1211, List.forall_mem_cons.mpr ⟨tw_1212, List.forall_mem_cons.mpr ⟨tw_1213, List.forall_mem_cons.mpr ⟨tw_75, fun _ h => absurd h List.not_mem_nil⟩⟩⟩⟩
theorem it_b208 : ∀ w ∈ bkV RL 151 RX7 yX7_kind, w ∈ lw_tbl := List.forall_mem_cons.mpr ⟨tw_766, List.forall_mem_cons.mpr ⟨tw_767, List.forall_mem_cons.mpr ⟨tw_768, List.forall_mem_cons.mpr ⟨tw_67, fun _ h => absurd h List.not_mem_nil⟩⟩⟩⟩
theorem it_b209 : ∀ w ∈ bkV RL 154 RX8 yX8_kind, w ∈ lw_tbl := List.forall_mem_cons.mpr ⟨tw_1215, List.forall_mem_cons.mpr ⟨tw_1216, List.forall_mem_cons.mpr ⟨tw_1217, List.forall_mem_cons.mpr ⟨tw_75, fun _ h => absurd h List.not_mem_nil⟩⟩⟩⟩
theorem it_b210 : ∀ w ∈ bkV RL 155 RX7 yX7_as, w ∈ lw_tbl := List.forall_mem_cons.mpr ⟨tw_770, List.forall_mem_cons.mpr ⟨tw_771, List.forall_mem_cons.mpr ⟨tw_772, List.forall_mem_cons.mpr ⟨tw_67, fun _ h => absurd h List.not_mem_nil⟩⟩⟩⟩
theorem it_b211 : ∀ w ∈ bkV RL 158 RX8 yX8_as, w ∈ lw_tbl := List.forall_mem_cons.mpr ⟨tw_1219, List.forall_mem_cons.mpr ⟨tw_1220, List.forall_mem_cons.mpr ⟨tw_1221, List.forall_mem_cons.mpr ⟨tw_75, fun _ h => absurd h List.not_mem_nil⟩⟩⟩⟩
theorem it_b212 : ∀ w ∈ bkV RL 159 RX7 yX7_ask, w ∈ lw_tbl := List.forall_mem_cons.mpr ⟨tw_779, List.forall_mem_cons.mpr ⟨tw_780, List.forall_mem_cons.mpr ⟨tw_781, List.forall_mem_cons.mpr ⟨tw_67, fun _ h => absurd h List.not_mem_nil⟩⟩⟩⟩
theorem it_b213 : ∀ w ∈ bkV RL 162 RX8 yX8_ask, w ∈ lw_tbl := List.forall_mem_cons.mpr ⟨tw_1223, List.forall_mem_cons.mpr ⟨tw_1224, List.forall_mem_cons.mpr ⟨tw_1225, List.forall_mem_cons.mpr ⟨tw_75, fun _ h => absurd h List.not_mem_nil⟩⟩⟩⟩
theorem it_b214 : ∀ w ∈ bkV RL 163 RX7 yX7_trace, w ∈ lw_tbl := List.forall_mem_cons.mpr ⟨tw_810, List.forall_mem_cons.mpr ⟨tw_811, List.forall_mem_cons.mpr ⟨tw_812, List.forall_mem_cons.mpr ⟨tw_67, fun _ h => absurd h List.not_mem_nil⟩⟩⟩⟩
theorem it_b215 : ∀ w ∈ bkV RL 166 RX8 yX8_trace, w ∈ lw_tbl := List.forall_mem_cons.mpr ⟨tw_1247, List.forall_mem_cons.mpr ⟨tw_1248, List.forall_mem_cons.mpr ⟨tw_1249, List.forall_mem_cons.mpr ⟨tw_75, fun _ h => absurd h List.not_mem_nil⟩⟩⟩⟩
theorem it_b216 : ∀ w ∈ bkV RL 167 RX7 yX7_count, w ∈ lw_tbl := List.forall_mem_cons.mpr ⟨tw_814, List.forall_mem_cons.mpr ⟨tw_815, List.forall_mem_cons.mpr ⟨tw_816, List.forall_mem_cons.mpr ⟨tw_67, fun _ h => absurd h List.not_mem_nil⟩⟩⟩⟩
theorem it_b217 : ∀ w ∈ bkV RL 170 RX8 yX8_count, w ∈ lw_tbl := List.forall_mem_cons.mpr ⟨tw_1251, List.forall_mem_cons.mpr ⟨tw_1252, List.forall_mem_cons.mpr ⟨tw_1253, List.forall_mem_cons.mpr ⟨tw_75, fun _ h => absurd h List.not_mem_nil⟩⟩⟩⟩
theorem it_b218 : ∀ w ∈ bkV RL 171 RX7 yX7_status, w ∈ lw_tbl := List.forall_mem_cons.mpr ⟨tw_826, List.forall_mem_cons.mpr ⟨tw_827, List.forall_mem_cons.mpr ⟨tw_828, List.forall_mem_cons.mpr ⟨tw_67, fun _ h => absurd h List.not_mem_nil⟩⟩⟩⟩
theorem it_b219 : ∀ w ∈ bkV RL 174 RX8 yX8_status, w ∈ lw_tbl := List.forall_mem_cons.mpr ⟨tw_1255, List.forall_mem_cons.mpr ⟨tw_1256, List.forall_mem_cons.mpr ⟨tw_1257, List.forall_mem_cons.mpr ⟨tw_75, fun _ h => absurd h List.not_mem_nil⟩⟩⟩⟩
def wsX4_init_o : List Cond := ([Cond.methodLink RX4 3 objectInit, Cond.instanceMethod objectInit, Cond.code objectInit ⟨#[0xb1]⟩ 1 none, Cond.arrayClass .int, Cond.fieldLink RX4 9 "WrongWord$Moment" "took" "[I", Cond.fieldLink RX4 15 "WrongWord$Moment" "triedWord" "[I", Cond.fieldLink RX4 18 "WrongWord$Moment" "triedGuard" "[I", Cond.fieldLink RX4 21 "WrongWord$Moment" "triedTaken" "[I"] : List Cond)
def wsX4_init : List Cond := .code yX4_init cX4_init 1 none :: (wsX4_init_o ++ (wsX40 ++ ([] : List Cond)))
theorem itX4_init_o : ∀ w ∈ wsX4_init_o, w ∈ lw_tbl := List.forall_mem_cons.mpr ⟨tw_106, List.forall_mem_cons.mpr ⟨tw_85, List.forall_mem_cons.mpr ⟨tw_86, List.forall_mem_cons.mpr ⟨tw_149, List.forall_mem_cons.mpr ⟨tw_107, List.forall_mem_cons.mpr ⟨tw_109, List.forall_mem_cons.mpr ⟨tw_112, List.forall_mem_cons.mpr ⟨tw_115, fun _ h => absurd h List.not_mem_nil⟩⟩⟩⟩⟩⟩⟩⟩
theorem itX4_init : ∀ w ∈ wsX4_init, w ∈ lw_tbl := List.forall_mem_cons.mpr ⟨tw_105, List.forall_mem_append.mpr ⟨itX4_init_o, List.forall_mem_append.mpr ⟨itX40, fun _ h => absurd h List.not_mem_nil⟩⟩⟩
set_option maxRecDepth 100000 in
theorem gdX4_init_o : ∀ w ∈ wsX4_init_o, goodWord w = true := gd_o (by decide +kernel)
set_option maxRecDepth 100000 in
theorem gdX4_init : ∀ w ∈ wsX4_init, goodWord w = true := List.forall_mem_cons.mpr ⟨by decide +kernel, List.forall_mem_append.mpr ⟨gdX4_init_o, List.forall_mem_append.mpr ⟨gdX40, fun _ h => absurd h List.not_mem_nil⟩⟩⟩
def wsX0_init_o : List Cond := ([Cond.methodLink RX0 3 objectInit, Cond.classLink RX0 9 RX4, Cond.fieldLink RX0 11 "WrongWord$Acts" "ahead" "[LWrongWord$Moment;", Cond.instantiable RX4 8, Cond.initialized RX4, Cond.instanceMethod yX4_init] : List Cond)
def wsX0_init : List Cond := .code yX0_init cX0_init 2 none :: (wsX0_init_o ++ (wsX00 ++ (wsX40 ++ (wsX4_init ++ ([] : List Cond)))))
theorem itX0_init_o : ∀ w ∈ wsX0_init_o, w ∈ lw_tbl := List.forall_mem_cons.mpr ⟨tw_228, List.forall_mem_cons.mpr ⟨tw_229, List.forall_mem_cons.mpr ⟨tw_232, List.forall_mem_cons.mpr ⟨tw_102, List.forall_mem_cons.mpr ⟨tw_70, List.forall_mem_cons.mpr ⟨tw_104, fun _ h => absurd h List.not_mem_nil⟩⟩⟩⟩⟩⟩
theorem itX0_init : ∀ w ∈ wsX0_init, w ∈ lw_tbl := List.forall_mem_cons.mpr ⟨tw_227, List.forall_mem_append.mpr ⟨itX0_init_o, List.forall_mem_append.mpr ⟨itX00, List.forall_mem_append.mpr ⟨itX40, List.forall_mem_append.mpr ⟨itX4_init, fun _ h => absurd h List.not_mem_nil⟩⟩⟩⟩⟩
set_option maxRecDepth 100000 in
theorem gdX0_init_o : ∀ w ∈ wsX0_init_o, goodWord w = true := gd_o (by decide +kernel)
set_option maxRecDepth 100000 in
theorem gdX0_init : ∀ w ∈ wsX0_init, goodWord w = true := List.forall_mem_cons.mpr ⟨by decide +kernel, List.forall_mem_append.mpr ⟨gdX0_init_o, List.forall_mem_append.mpr ⟨gdX00, List.forall_mem_append.mpr ⟨gdX40, List.forall_mem_append.mpr ⟨gdX4_init, fun _ h => absurd h List.not_mem_nil⟩⟩⟩⟩⟩
def wsX0_forget_o : List Cond := ([Cond.fieldLink RX0 18 "WrongWord$Acts" "kept" "I"] : List Cond)
def wsX0_forget : List Cond := .code yX0_forget cX0_forget 1 none :: (wsX0_forget_o ++ (wsX00 ++ ([] : List Cond)))
theorem itX0_forget_o : ∀ w ∈ wsX0_forget_o, w ∈ lw_tbl := List.forall_mem_cons.mpr ⟨tw_234, fun _ h => absurd h List.not_mem_nil⟩
theorem itX0_forget : ∀ w ∈ wsX0_forget, w ∈ lw_tbl := List.forall_mem_cons.mpr ⟨tw_458, List.forall_mem_append.mpr ⟨itX0_forget_o, List.forall_mem_append.mpr ⟨itX00, fun _ h => absurd h List.not_mem_nil⟩⟩⟩
set_option maxRecDepth 100000 in
theorem gdX0_forget_o : ∀ w ∈ wsX0_forget_o, goodWord w = true := gd_o (by decide +kernel)
set_option maxRecDepth 100000 in
theorem gdX0_forget : ∀ w ∈ wsX0_forget, goodWord w = true := List.forall_mem_cons.mpr ⟨by decide +kernel, List.forall_mem_append.mpr ⟨gdX0_forget_o, List.forall_mem_append.mpr ⟨gdX00, fun _ h => absurd h List.not_mem_nil⟩⟩⟩
def wsX4_become_o : List Cond := ([Cond.fieldLink RX4 24 "WrongWord$Moment" "night" "I", Cond.fieldLink RX4 34 "WrongWord$Moment" "start" "I", Cond.fieldLink RX4 28 "WrongWord$Moment" "there" "I", Cond.fieldLink RX4 31 "WrongWord$Moment" "tries" "I", Cond.fieldLink RX4 9 "WrongWord$Moment" "took" "[I", Cond.methodLink RX4 37 arraycopyName, Cond.native arraycopyName, Cond.static arraycopyName, Cond.initialized "java/lang/System", Cond.fieldLink RX4 15 "WrongWord$Moment" "triedWord" "[I", Cond.fieldLink RX4 18 "WrongWord$Moment" "triedGuard" "[I", Cond.fieldLink RX4 21 "WrongWord$Moment" "triedTaken" "[I"] : List Cond)
def wsX4_become : List Cond := .code yX4_become cX4_become 2 none :: (wsX4_become_o ++ (wsX40 ++ ([] : List Cond)))
theorem itX4_become_o : ∀ w ∈ wsX4_become_o, w ∈ lw_tbl := List.forall_mem_cons.mpr ⟨tw_118, List.forall_mem_cons.mpr ⟨tw_122, List.forall_mem_cons.mpr ⟨tw_126, List.forall_mem_cons.mpr ⟨tw_129, List.forall_mem_cons.mpr ⟨tw_107, List.forall_mem_cons.mpr ⟨tw_454, List.forall_mem_cons.mpr ⟨tw_375, List.forall_mem_cons.mpr ⟨tw_374, List.forall_mem_cons.mpr ⟨tw_76, List.forall_mem_cons.mpr ⟨tw_109, List.forall_mem_cons.mpr ⟨tw_112, List.forall_mem_cons.mpr ⟨tw_115, fun _ h => absurd h List.not_mem_nil⟩⟩⟩⟩⟩⟩⟩⟩⟩⟩⟩⟩
theorem itX4_become : ∀ w ∈ wsX4_become, w ∈ lw_tbl := List.forall_mem_cons.mpr ⟨tw_453, List.forall_mem_append.mpr ⟨itX4_become_o, List.forall_mem_append.mpr ⟨itX40, fun _ h => absurd h List.not_mem_nil⟩⟩⟩
set_option maxRecDepth 100000 in
theorem gdX4_become_o : ∀ w ∈ wsX4_become_o, goodWord w = true := gd_o (by decide +kernel)
set_option maxRecDepth 100000 in
theorem gdX4_become : ∀ w ∈ wsX4_become, goodWord w = true := List.forall_mem_cons.mpr ⟨by decide +kernel, List.forall_mem_append.mpr ⟨gdX4_become_o, List.forall_mem_append.mpr ⟨gdX40, fun _ h => absurd h List.not_mem_nil⟩⟩⟩
def wsX0_keep_o : List Cond := ([Cond.fieldLink RX0 11 "WrongWord$Acts" "ahead" "[LWrongWord$Moment;", Cond.fieldLink RX0 22 "WrongWord$Acts" "at" "I", Cond.fieldLink RX0 18 "WrongWord$Acts" "kept" "I", Cond.methodLink RX0 29 Lib.Math.min.name, Cond.static Lib.Math.min.name, Cond.initialized "java/lang/Math", Cond.code Lib.Math.min.name Lib.Math.min.code 2 (some .int)] : List Cond)
def wsX0_keep : List Cond := .code yX0_keep cX0_keep 2 none :: (wsX0_keep_o ++ ((bkV RX0 25 RX4 yX4_become) ++ (wsX00 ++ (wsX40 ++ (wsX4_become ++ ([] : List Cond))))))
theorem itX0_keep_o : ∀ w ∈ wsX0_keep_o, w ∈ lw_tbl := List.forall_mem_cons.mpr ⟨tw_232, List.forall_mem_cons.mpr ⟨tw_233, List.forall_mem_cons.mpr ⟨tw_234, List.forall_mem_cons.mpr ⟨tw_477, List.forall_mem_cons.mpr ⟨tw_478, List.forall_mem_cons.mpr ⟨tw_77, List.forall_mem_cons.mpr ⟨tw_479, fun _ h => absurd h List.not_mem_nil⟩⟩⟩⟩⟩⟩⟩
theorem itX0_keep : ∀ w ∈ wsX0_keep, w ∈ lw_tbl := List.forall_mem_cons.mpr ⟨tw_475, List.forall_mem_append.mpr ⟨itX0_keep_o, List.forall_mem_append.mpr ⟨it_b0, List.forall_mem_append.mpr ⟨itX00, List.forall_mem_append.mpr ⟨itX40, List.forall_mem_append.mpr ⟨itX4_become, fun _ h => absurd h List.not_mem_nil⟩⟩⟩⟩⟩⟩
set_option maxRecDepth 100000 in
theorem gdX0_keep_o : ∀ w ∈ wsX0_keep_o, goodWord w = true := gd_o (by decide +kernel)
set_option maxRecDepth 100000 in
theorem gdX0_keep : ∀ w ∈ wsX0_keep, goodWord w = true := List.forall_mem_cons.mpr ⟨by decide +kernel, List.forall_mem_append.mpr ⟨gdX0_keep_o, List.forall_mem_append.mpr ⟨gd_bV _ _ _ _, List.forall_mem_append.mpr ⟨gdX00, List.forall_mem_append.mpr ⟨gdX40, List.forall_mem_append.mpr ⟨gdX4_become, fun _ h => absurd h List.not_mem_nil⟩⟩⟩⟩⟩⟩
def wsX0_takeBack_o : List Cond := ([Cond.fieldLink RX0 18 "WrongWord$Acts" "kept" "I", Cond.fieldLink RX0 22 "WrongWord$Acts" "at" "I", Cond.fieldLink RX0 11 "WrongWord$Acts" "ahead" "[LWrongWord$Moment;"] : List Cond)
def wsX0_takeBack : List Cond := .code yX0_takeBack cX0_takeBack 2 (some .boolean) :: (wsX0_takeBack_o ++ ((bkV RX0 25 RX4 yX4_become) ++ (wsX00 ++ (wsX40 ++ (wsX4_become ++ ([] : List Cond))))))
theorem itX0_takeBack_o : ∀ w ∈ wsX0_takeBack_o, w ∈ lw_tbl := List.forall_mem_cons.mpr ⟨tw_234, List.forall_mem_cons.mpr ⟨tw_233, List.forall_mem_cons.mpr ⟨tw_232, fun _ h => absurd h List.not_mem_nil⟩⟩⟩
theorem itX0_takeBack : ∀ w ∈ wsX0_takeBack, w ∈ lw_tbl := List.forall_mem_cons.mpr ⟨tw_563, List.forall_mem_append.mpr ⟨itX0_takeBack_o, List.forall_mem_append.mpr ⟨it_b0, List.forall_mem_append.mpr ⟨itX00, List.forall_mem_append.mpr ⟨itX40, List.forall_mem_append.mpr ⟨itX4_become, fun _ h => absurd h List.not_mem_nil⟩⟩⟩⟩⟩⟩
set_option maxRecDepth 100000 in
theorem gdX0_takeBack_o : ∀ w ∈ wsX0_takeBack_o, goodWord w = true := gd_o (by decide +kernel)
set_option maxRecDepth 100000 in
theorem gdX0_takeBack : ∀ w ∈ wsX0_takeBack, goodWord w = true := List.forall_mem_cons.mpr ⟨by decide +kernel, List.forall_mem_append.mpr ⟨gdX0_takeBack_o, List.forall_mem_append.mpr ⟨gd_bV _ _ _ _, List.forall_mem_append.mpr ⟨gdX00, List.forall_mem_append.mpr ⟨gdX40, List.forall_mem_append.mpr ⟨gdX4_become, fun _ h => absurd h List.not_mem_nil⟩⟩⟩⟩⟩⟩
def wsX1_init_o : List Cond := ([Cond.methodLink RX1 3 objectInit, Cond.instanceMethod objectInit, Cond.code objectInit ⟨#[0xb1]⟩ 1 none, Cond.arrayClass .int, Cond.fieldLink RX1 11 "WrongWord$Asks" "bodies" "[I"] : List Cond)
def wsX1_init : List Cond := .code yX1_init cX1_init 1 none :: (wsX1_init_o ++ (wsX10 ++ ([] : List Cond)))
theorem itX1_init_o : ∀ w ∈ wsX1_init_o, w ∈ lw_tbl := List.forall_mem_cons.mpr ⟨tw_262, List.forall_mem_cons.mpr ⟨tw_85, List.forall_mem_cons.mpr ⟨tw_86, List.forall_mem_cons.mpr ⟨tw_149, List.forall_mem_cons.mpr ⟨tw_263, fun _ h => absurd h List.not_mem_nil⟩⟩⟩⟩⟩
theorem itX1_init : ∀ w ∈ wsX1_init, w ∈ lw_tbl := List.forall_mem_cons.mpr ⟨tw_261, List.forall_mem_append.mpr ⟨itX1_init_o, List.forall_mem_append.mpr ⟨itX10, fun _ h => absurd h List.not_mem_nil⟩⟩⟩
set_option maxRecDepth 100000 in
theorem gdX1_init_o : ∀ w ∈ wsX1_init_o, goodWord w = true := gd_o (by decide +kernel)
set_option maxRecDepth 100000 in
theorem gdX1_init : ∀ w ∈ wsX1_init, goodWord w = true := List.forall_mem_cons.mpr ⟨by decide +kernel, List.forall_mem_append.mpr ⟨gdX1_init_o, List.forall_mem_append.mpr ⟨gdX10, fun _ h => absurd h List.not_mem_nil⟩⟩⟩
def wsX1_isA_o : List Cond := ([Cond.fieldLink RX1 15 "WrongWord$Asks" "NEAREST_ABOVE" "[I"] : List Cond)
def wsX1_isA : List Cond := .code yX1_isA cX1_isA 4 (some .boolean) :: (wsX1_isA_o ++ ([] : List Cond))
theorem itX1_isA_o : ∀ w ∈ wsX1_isA_o, w ∈ lw_tbl := List.forall_mem_cons.mpr ⟨tw_777, fun _ h => absurd h List.not_mem_nil⟩
theorem itX1_isA : ∀ w ∈ wsX1_isA, w ∈ lw_tbl := List.forall_mem_cons.mpr ⟨tw_776, List.forall_mem_append.mpr ⟨itX1_isA_o, fun _ h => absurd h List.not_mem_nil⟩⟩
set_option maxRecDepth 100000 in
theorem gdX1_isA_o : ∀ w ∈ wsX1_isA_o, goodWord w = true := gd_o (by decide +kernel)
set_option maxRecDepth 100000 in
theorem gdX1_isA : ∀ w ∈ wsX1_isA, goodWord w = true := List.forall_mem_cons.mpr ⟨by decide +kernel, List.forall_mem_append.mpr ⟨gdX1_isA_o, fun _ h => absurd h List.not_mem_nil⟩⟩
def wsX1_turnTo_o : List Cond := ([Cond.fieldLink RX1 18 "WrongWord$Asks" "number" "I", Cond.fieldLink RX1 22 "WrongWord$Asks" "kind" "I", Cond.fieldLink RX1 25 "WrongWord$Asks" "fee" "I", Cond.fieldLink RX1 28 "WrongWord$Asks" "took" "I", Cond.fieldLink RX1 31 "WrongWord$Asks" "begun" "I"] : List Cond)
def wsX1_turnTo : List Cond := .code yX1_turnTo cX1_turnTo 5 none :: (wsX1_turnTo_o ++ (wsX10 ++ ([] : List Cond)))
theorem itX1_turnTo_o : ∀ w ∈ wsX1_turnTo_o, w ∈ lw_tbl := List.forall_mem_cons.mpr ⟨tw_267, List.forall_mem_cons.mpr ⟨tw_268, List.forall_mem_cons.mpr ⟨tw_269, List.forall_mem_cons.mpr ⟨tw_270, List.forall_mem_cons.mpr ⟨tw_265, fun _ h => absurd h List.not_mem_nil⟩⟩⟩⟩⟩
theorem itX1_turnTo : ∀ w ∈ wsX1_turnTo, w ∈ lw_tbl := List.forall_mem_cons.mpr ⟨tw_786, List.forall_mem_append.mpr ⟨itX1_turnTo_o, List.forall_mem_append.mpr ⟨itX10, fun _ h => absurd h List.not_mem_nil⟩⟩⟩
set_option maxRecDepth 100000 in
theorem gdX1_turnTo_o : ∀ w ∈ wsX1_turnTo_o, goodWord w = true := gd_o (by decide +kernel)
set_option maxRecDepth 100000 in
theorem gdX1_turnTo : ∀ w ∈ wsX1_turnTo, goodWord w = true := List.forall_mem_cons.mpr ⟨by decide +kernel, List.forall_mem_append.mpr ⟨gdX1_turnTo_o, List.forall_mem_append.mpr ⟨gdX10, fun _ h => absurd h List.not_mem_nil⟩⟩⟩
def wsX1_sizeBody_o : List Cond := ([Cond.fieldLink RX1 45 "WrongWord$Asks" "SIZE_BODY" "[I", Cond.fieldLink RX1 22 "WrongWord$Asks" "kind" "I"] : List Cond)
def wsX1_sizeBody : List Cond := .code yX1_sizeBody cX1_sizeBody 1 (some .int) :: (wsX1_sizeBody_o ++ (wsX10 ++ ([] : List Cond)))
theorem itX1_sizeBody_o : ∀ w ∈ wsX1_sizeBody_o, w ∈ lw_tbl := List.forall_mem_cons.mpr ⟨tw_795, List.forall_mem_cons.mpr ⟨tw_268, fun _ h => absurd h List.not_mem_nil⟩⟩
theorem itX1_sizeBody : ∀ w ∈ wsX1_sizeBody, w ∈ lw_tbl := List.forall_mem_cons.mpr ⟨tw_794, List.forall_mem_append.mpr ⟨itX1_sizeBody_o, List.forall_mem_append.mpr ⟨itX10, fun _ h => absurd h List.not_mem_nil⟩⟩⟩
set_option maxRecDepth 100000 in
theorem gdX1_sizeBody_o : ∀ w ∈ wsX1_sizeBody_o, goodWord w = true := gd_o (by decide +kernel)
set_option maxRecDepth 100000 in
theorem gdX1_sizeBody : ∀ w ∈ wsX1_sizeBody, goodWord w = true := List.forall_mem_cons.mpr ⟨by decide +kernel, List.forall_mem_append.mpr ⟨gdX1_sizeBody_o, List.forall_mem_append.mpr ⟨gdX10, fun _ h => absurd h List.not_mem_nil⟩⟩⟩
def wsX1_markBody_o : List Cond := ([Cond.fieldLink RX1 48 "WrongWord$Asks" "MARK_BODY" "[I", Cond.fieldLink RX1 22 "WrongWord$Asks" "kind" "I"] : List Cond)
def wsX1_markBody : List Cond := .code yX1_markBody cX1_markBody 1 (some .int) :: (wsX1_markBody_o ++ (wsX10 ++ ([] : List Cond)))
theorem itX1_markBody_o : ∀ w ∈ wsX1_markBody_o, w ∈ lw_tbl := List.forall_mem_cons.mpr ⟨tw_801, List.forall_mem_cons.mpr ⟨tw_268, fun _ h => absurd h List.not_mem_nil⟩⟩
theorem itX1_markBody : ∀ w ∈ wsX1_markBody, w ∈ lw_tbl := List.forall_mem_cons.mpr ⟨tw_800, List.forall_mem_append.mpr ⟨itX1_markBody_o, List.forall_mem_append.mpr ⟨itX10, fun _ h => absurd h List.not_mem_nil⟩⟩⟩
set_option maxRecDepth 100000 in
theorem gdX1_markBody_o : ∀ w ∈ wsX1_markBody_o, goodWord w = true := gd_o (by decide +kernel)
set_option maxRecDepth 100000 in
theorem gdX1_markBody : ∀ w ∈ wsX1_markBody, goodWord w = true := List.forall_mem_cons.mpr ⟨by decide +kernel, List.forall_mem_append.mpr ⟨gdX1_markBody_o, List.forall_mem_append.mpr ⟨gdX10, fun _ h => absurd h List.not_mem_nil⟩⟩⟩
def wsX1_leave_o : List Cond := ([Cond.fieldLink RX1 31 "WrongWord$Asks" "begun" "I", Cond.fieldLink RX1 11 "WrongWord$Asks" "bodies" "[I"] : List Cond)
def wsX1_leave : List Cond := .code yX1_leave cX1_leave 2 none :: (wsX1_leave_o ++ (wsX10 ++ ([] : List Cond)))
theorem itX1_leave_o : ∀ w ∈ wsX1_leave_o, w ∈ lw_tbl := List.forall_mem_cons.mpr ⟨tw_265, List.forall_mem_cons.mpr ⟨tw_263, fun _ h => absurd h List.not_mem_nil⟩⟩
theorem itX1_leave : ∀ w ∈ wsX1_leave, w ∈ lw_tbl := List.forall_mem_cons.mpr ⟨tw_809, List.forall_mem_append.mpr ⟨itX1_leave_o, List.forall_mem_append.mpr ⟨itX10, fun _ h => absurd h List.not_mem_nil⟩⟩⟩
set_option maxRecDepth 100000 in
theorem gdX1_leave_o : ∀ w ∈ wsX1_leave_o, goodWord w = true := gd_o (by decide +kernel)
set_option maxRecDepth 100000 in
theorem gdX1_leave : ∀ w ∈ wsX1_leave, goodWord w = true := List.forall_mem_cons.mpr ⟨by decide +kernel, List.forall_mem_append.mpr ⟨gdX1_leave_o, List.forall_mem_append.mpr ⟨gdX10, fun _ h => absurd h List.not_mem_nil⟩⟩⟩
def wsX1_given_o : List Cond := ([Cond.fieldLink RX1 25 "WrongWord$Asks" "fee" "I", Cond.fieldLink RX1 18 "WrongWord$Asks" "number" "I", Cond.fieldLink RX1 28 "WrongWord$Asks" "took" "I", Cond.fieldLink RX1 31 "WrongWord$Asks" "begun" "I", Cond.fieldLink RX1 11 "WrongWord$Asks" "bodies" "[I", Cond.fieldLink RX1 48 "WrongWord$Asks" "MARK_BODY" "[I", Cond.fieldLink RX1 22 "WrongWord$Asks" "kind" "I", Cond.fieldLink RX1 45 "WrongWord$Asks" "SIZE_BODY" "[I"] : List Cond)
def wsX1_given : List Cond := .code yX1_given cX1_given 4 (some .int) :: (wsX1_given_o ++ ((bkV RX1 51 RX1 yX1_leave) ++ ((bkS RX1 41 yX1_given) ++ ((bkV RX1 38 RX1 yX1_markBody) ++ ((bkV RX1 34 RX1 yX1_sizeBody) ++ (wsX10 ++ (wsX1_leave ++ (wsX1_markBody ++ (wsX1_sizeBody ++ ([] : List Cond))))))))))
theorem itX1_given_o : ∀ w ∈ wsX1_given_o, w ∈ lw_tbl := List.forall_mem_cons.mpr ⟨tw_269, List.forall_mem_cons.mpr ⟨tw_267, List.forall_mem_cons.mpr ⟨tw_270, List.forall_mem_cons.mpr ⟨tw_265, List.forall_mem_cons.mpr ⟨tw_263, List.forall_mem_cons.mpr ⟨tw_801, List.forall_mem_cons.mpr ⟨tw_268, List.forall_mem_cons.mpr ⟨tw_795, fun _ h => absurd h List.not_mem_nil⟩⟩⟩⟩⟩⟩⟩⟩
theorem itX1_given : ∀ w ∈ wsX1_given, w ∈ lw_tbl := List.forall_mem_cons.mpr ⟨tw_805, List.forall_mem_append.mpr ⟨itX1_given_o, List.forall_mem_append.mpr ⟨it_b4, List.forall_mem_append.mpr ⟨it_b3, List.forall_mem_append.mpr ⟨it_b2, List.forall_mem_append.mpr ⟨it_b1, List.forall_mem_append.mpr ⟨itX10, List.forall_mem_append.mpr ⟨itX1_leave, List.forall_mem_append.mpr ⟨itX1_markBody, List.forall_mem_append.mpr ⟨itX1_sizeBody, fun _ h => absurd h List.not_mem_nil⟩⟩⟩⟩⟩⟩⟩⟩⟩⟩
set_option maxRecDepth 100000 in
theorem gdX1_given_o : ∀ w ∈ wsX1_given_o, goodWord w = true := gd_o (by decide +kernel)
set_option maxRecDepth 100000 in
theorem gdX1_given : ∀ w ∈ wsX1_given, goodWord w = true := List.forall_mem_cons.mpr ⟨by decide +kernel, List.forall_mem_append.mpr ⟨gdX1_given_o, List.forall_mem_append.mpr ⟨gd_bV _ _ _ _, List.forall_mem_append.mpr ⟨gd_bS _ _ _, List.forall_mem_append.mpr ⟨gd_bV _ _ _ _, List.forall_mem_append.mpr ⟨gd_bV _ _ _ _, List.forall_mem_append.mpr ⟨gdX10, List.forall_mem_append.mpr ⟨gdX1_leave, List.forall_mem_append.mpr ⟨gdX1_markBody, List.forall_mem_append.mpr ⟨gdX1_sizeBody, fun _ h => absurd h List.not_mem_nil⟩⟩⟩⟩⟩⟩⟩⟩⟩⟩
def wsX1_answer_o : List Cond := ([Cond.fieldLink RX1 45 "WrongWord$Asks" "SIZE_BODY" "[I", Cond.fieldLink RX1 22 "WrongWord$Asks" "kind" "I", Cond.fieldLink RX1 48 "WrongWord$Asks" "MARK_BODY" "[I", Cond.fieldLink RX1 25 "WrongWord$Asks" "fee" "I", Cond.fieldLink RX1 18 "WrongWord$Asks" "number" "I", Cond.fieldLink RX1 28 "WrongWord$Asks" "took" "I", Cond.methodLink RX1 51 yX1_leave, Cond.selects RX1 yX1_leave yX1_leave, Cond.fieldLink RX1 31 "WrongWord$Asks" "begun" "I", Cond.fieldLink RX1 11 "WrongWord$Asks" "bodies" "[I"] : List Cond)
def wsX1_answer : List Cond := .code yX1_answer cX1_answer 2 (some .int) :: (wsX1_answer_o ++ ((bkV RX1 34 RX1 yX1_sizeBody) ++ ((bkV RX1 38 RX1 yX1_markBody) ++ ((bkS RX1 41 yX1_given) ++ (wsX10 ++ (wsX1_sizeBody ++ (wsX1_markBody ++ (wsX1_given ++ ([] : List Cond)))))))))
theorem itX1_answer_o : ∀ w ∈ wsX1_answer_o, w ∈ lw_tbl := List.forall_mem_cons.mpr ⟨tw_795, List.forall_mem_cons.mpr ⟨tw_268, List.forall_mem_cons.mpr ⟨tw_801, List.forall_mem_cons.mpr ⟨tw_269, List.forall_mem_cons.mpr ⟨tw_267, List.forall_mem_cons.mpr ⟨tw_270, List.forall_mem_cons.mpr ⟨tw_806, List.forall_mem_cons.mpr ⟨tw_25, List.forall_mem_cons.mpr ⟨tw_265, List.forall_mem_cons.mpr ⟨tw_263, fun _ h => absurd h List.not_mem_nil⟩⟩⟩⟩⟩⟩⟩⟩⟩⟩
theorem itX1_answer : ∀ w ∈ wsX1_answer, w ∈ lw_tbl := List.forall_mem_cons.mpr ⟨tw_790, List.forall_mem_append.mpr ⟨itX1_answer_o, List.forall_mem_append.mpr ⟨it_b1, List.forall_mem_append.mpr ⟨it_b2, List.forall_mem_append.mpr ⟨it_b3, List.forall_mem_append.mpr ⟨itX10, List.forall_mem_append.mpr ⟨itX1_sizeBody, List.forall_mem_append.mpr ⟨itX1_markBody, List.forall_mem_append.mpr ⟨itX1_given, fun _ h => absurd h List.not_mem_nil⟩⟩⟩⟩⟩⟩⟩⟩⟩
set_option maxRecDepth 100000 in
theorem gdX1_answer_o : ∀ w ∈ wsX1_answer_o, goodWord w = true := gd_o (by decide +kernel)
set_option maxRecDepth 100000 in
theorem gdX1_answer : ∀ w ∈ wsX1_answer, goodWord w = true := List.forall_mem_cons.mpr ⟨by decide +kernel, List.forall_mem_append.mpr ⟨gdX1_answer_o, List.forall_mem_append.mpr ⟨gd_bV _ _ _ _, List.forall_mem_append.mpr ⟨gd_bV _ _ _ _, List.forall_mem_append.mpr ⟨gd_bS _ _ _, List.forall_mem_append.mpr ⟨gdX10, List.forall_mem_append.mpr ⟨gdX1_sizeBody, List.forall_mem_append.mpr ⟨gdX1_markBody, List.forall_mem_append.mpr ⟨gdX1_given, fun _ h => absurd h List.not_mem_nil⟩⟩⟩⟩⟩⟩⟩⟩⟩
def wsX2_init_o : List Cond := ([Cond.methodLink RX2 3 objectInit, Cond.fieldLink RX2 9 "WrongWord$Gate" "letters" "[I", Cond.fieldLink RX2 15 "WrongWord$Gate" "kinds" "[I", Cond.fieldLink RX2 18 "WrongWord$Gate" "fees" "[I", Cond.classLink RX2 21 RX4, Cond.instantiable RX4 8, Cond.initialized RX4, Cond.fieldLink RX2 24 "WrongWord$Gate" "now" "LWrongWord$Moment;", Cond.instanceMethod yX4_init] : List Cond)
def wsX2_init : List Cond := .code yX2_init cX2_init 1 none :: (wsX2_init_o ++ (wsX20 ++ (wsX40 ++ (wsX4_init ++ ([] : List Cond)))))
theorem itX2_init_o : ∀ w ∈ wsX2_init_o, w ∈ lw_tbl := List.forall_mem_cons.mpr ⟨tw_100, List.forall_mem_cons.mpr ⟨tw_150, List.forall_mem_cons.mpr ⟨tw_153, List.forall_mem_cons.mpr ⟨tw_157, List.forall_mem_cons.mpr ⟨tw_101, List.forall_mem_cons.mpr ⟨tw_102, List.forall_mem_cons.mpr ⟨tw_70, List.forall_mem_cons.mpr ⟨tw_160, List.forall_mem_cons.mpr ⟨tw_104, fun _ h => absurd h List.not_mem_nil⟩⟩⟩⟩⟩⟩⟩⟩⟩
theorem itX2_init : ∀ w ∈ wsX2_init, w ∈ lw_tbl := List.forall_mem_cons.mpr ⟨tw_99, List.forall_mem_append.mpr ⟨itX2_init_o, List.forall_mem_append.mpr ⟨itX20, List.forall_mem_append.mpr ⟨itX40, List.forall_mem_append.mpr ⟨itX4_init, fun _ h => absurd h List.not_mem_nil⟩⟩⟩⟩⟩
set_option maxRecDepth 100000 in
theorem gdX2_init_o : ∀ w ∈ wsX2_init_o, goodWord w = true := gd_o (by decide +kernel)
set_option maxRecDepth 100000 in
theorem gdX2_init : ∀ w ∈ wsX2_init, goodWord w = true := List.forall_mem_cons.mpr ⟨by decide +kernel, List.forall_mem_append.mpr ⟨gdX2_init_o, List.forall_mem_append.mpr ⟨gdX20, List.forall_mem_append.mpr ⟨gdX40, List.forall_mem_append.mpr ⟨gdX4_init, fun _ h => absurd h List.not_mem_nil⟩⟩⟩⟩⟩
def wsX2_become_o : List Cond := ([Cond.fieldLink RX2 9 "WrongWord$Gate" "letters" "[I", Cond.methodLink RX2 28 arraycopyName, Cond.fieldLink RX2 15 "WrongWord$Gate" "kinds" "[I", Cond.fieldLink RX2 18 "WrongWord$Gate" "fees" "[I", Cond.fieldLink RX2 24 "WrongWord$Gate" "now" "LWrongWord$Moment;", Cond.fieldLink RX2 38 "WrongWord$Gate" "step" "I", Cond.fieldLink RX2 42 "WrongWord$Gate" "shrove" "I", Cond.fieldLink RX2 45 "WrongWord$Gate" "words" "I", Cond.fieldLink RX2 48 "WrongWord$Gate" "guards" "I"] : List Cond)
def wsX2_become : List Cond := .code yX2_become cX2_become 2 none :: (wsX2_become_o ++ ((bkV RX2 34 RX4 yX4_become) ++ (wsX20 ++ (wsX40 ++ (wsX4_become ++ ([] : List Cond))))))
theorem itX2_become_o : ∀ w ∈ wsX2_become_o, w ∈ lw_tbl := List.forall_mem_cons.mpr ⟨tw_150, List.forall_mem_cons.mpr ⟨tw_449, List.forall_mem_cons.mpr ⟨tw_153, List.forall_mem_cons.mpr ⟨tw_157, List.forall_mem_cons.mpr ⟨tw_160, List.forall_mem_cons.mpr ⟨tw_164, List.forall_mem_cons.mpr ⟨tw_167, List.forall_mem_cons.mpr ⟨tw_171, List.forall_mem_cons.mpr ⟨tw_174, fun _ h => absurd h List.not_mem_nil⟩⟩⟩⟩⟩⟩⟩⟩⟩
theorem itX2_become : ∀ w ∈ wsX2_become, w ∈ lw_tbl := List.forall_mem_cons.mpr ⟨tw_448, List.forall_mem_append.mpr ⟨itX2_become_o, List.forall_mem_append.mpr ⟨it_b5, List.forall_mem_append.mpr ⟨itX20, List.forall_mem_append.mpr ⟨itX40, List.forall_mem_append.mpr ⟨itX4_become, fun _ h => absurd h List.not_mem_nil⟩⟩⟩⟩⟩⟩
set_option maxRecDepth 100000 in
theorem gdX2_become_o : ∀ w ∈ wsX2_become_o, goodWord w = true := gd_o (by decide +kernel)
set_option maxRecDepth 100000 in
theorem gdX2_become : ∀ w ∈ wsX2_become, goodWord w = true := List.forall_mem_cons.mpr ⟨by decide +kernel, List.forall_mem_append.mpr ⟨gdX2_become_o, List.forall_mem_append.mpr ⟨gd_bV _ _ _ _, List.forall_mem_append.mpr ⟨gdX20, List.forall_mem_append.mpr ⟨gdX40, List.forall_mem_append.mpr ⟨gdX4_become, fun _ h => absurd h List.not_mem_nil⟩⟩⟩⟩⟩⟩
def wsX7_rest_o : List Cond := ([] : List Cond)
def wsX7_rest : List Cond := .code yX7_rest cX7_rest 2 (some .int) :: (wsX7_rest_o ++ ([] : List Cond))
theorem itX7_rest_o : ∀ w ∈ wsX7_rest_o, w ∈ lw_tbl := fun _ h => absurd h List.not_mem_nil
theorem itX7_rest : ∀ w ∈ wsX7_rest, w ∈ lw_tbl := List.forall_mem_cons.mpr ⟨tw_494, List.forall_mem_append.mpr ⟨itX7_rest_o, fun _ h => absurd h List.not_mem_nil⟩⟩
set_option maxRecDepth 100000 in
theorem gdX7_rest_o : ∀ w ∈ wsX7_rest_o, goodWord w = true := gd_o (by decide +kernel)
set_option maxRecDepth 100000 in
theorem gdX7_rest : ∀ w ∈ wsX7_rest, goodWord w = true := List.forall_mem_cons.mpr ⟨by decide +kernel, List.forall_mem_append.mpr ⟨gdX7_rest_o, fun _ h => absurd h List.not_mem_nil⟩⟩
def wsX2_secretBy_o : List Cond := ([Cond.fieldLink RX2 45 "WrongWord$Gate" "words" "I", Cond.static yX7_rest, Cond.initialized RX7] : List Cond)
def wsX2_secretBy : List Cond := .code yX2_secretBy cX2_secretBy 5 (some .int) :: (wsX2_secretBy_o ++ (wsX20 ++ (wsX7_rest ++ ([] : List Cond))))
theorem itX2_secretBy_o : ∀ w ∈ wsX2_secretBy_o, w ∈ lw_tbl := List.forall_mem_cons.mpr ⟨tw_171, List.forall_mem_cons.mpr ⟨tw_493, List.forall_mem_cons.mpr ⟨tw_67, fun _ h => absurd h List.not_mem_nil⟩⟩⟩
theorem itX2_secretBy : ∀ w ∈ wsX2_secretBy, w ∈ lw_tbl := List.forall_mem_cons.mpr ⟨tw_491, List.forall_mem_append.mpr ⟨itX2_secretBy_o, List.forall_mem_append.mpr ⟨itX20, List.forall_mem_append.mpr ⟨itX7_rest, fun _ h => absurd h List.not_mem_nil⟩⟩⟩⟩
set_option maxRecDepth 100000 in
theorem gdX2_secretBy_o : ∀ w ∈ wsX2_secretBy_o, goodWord w = true := gd_o (by decide +kernel)
set_option maxRecDepth 100000 in
theorem gdX2_secretBy : ∀ w ∈ wsX2_secretBy, goodWord w = true := List.forall_mem_cons.mpr ⟨by decide +kernel, List.forall_mem_append.mpr ⟨gdX2_secretBy_o, List.forall_mem_append.mpr ⟨gdX20, List.forall_mem_append.mpr ⟨gdX7_rest, fun _ h => absurd h List.not_mem_nil⟩⟩⟩⟩
def wsX2_secretIn_o : List Cond := ([Cond.fieldLink RX2 24 "WrongWord$Gate" "now" "LWrongWord$Moment;", Cond.fieldLink RX2 55 "WrongWord$Moment" "start" "I", Cond.fieldLink RX2 38 "WrongWord$Gate" "step" "I", Cond.fieldLink RX2 42 "WrongWord$Gate" "shrove" "I", Cond.fieldLink RX2 58 "WrongWord$Moment" "night" "I", Cond.fieldLink RX2 45 "WrongWord$Gate" "words" "I"] : List Cond)
def wsX2_secretIn : List Cond := .code yX2_secretIn cX2_secretIn 2 (some .int) :: (wsX2_secretIn_o ++ ((bkV RX2 61 RX2 yX2_secretBy) ++ (wsX20 ++ (wsX40 ++ (wsX2_secretBy ++ ([] : List Cond))))))
theorem itX2_secretIn_o : ∀ w ∈ wsX2_secretIn_o, w ∈ lw_tbl := List.forall_mem_cons.mpr ⟨tw_160, List.forall_mem_cons.mpr ⟨tw_123, List.forall_mem_cons.mpr ⟨tw_164, List.forall_mem_cons.mpr ⟨tw_167, List.forall_mem_cons.mpr ⟨tw_120, List.forall_mem_cons.mpr ⟨tw_171, fun _ h => absurd h List.not_mem_nil⟩⟩⟩⟩⟩⟩
theorem itX2_secretIn : ∀ w ∈ wsX2_secretIn, w ∈ lw_tbl := List.forall_mem_cons.mpr ⟨tw_487, List.forall_mem_append.mpr ⟨itX2_secretIn_o, List.forall_mem_append.mpr ⟨it_b6, List.forall_mem_append.mpr ⟨itX20, List.forall_mem_append.mpr ⟨itX40, List.forall_mem_append.mpr ⟨itX2_secretBy, fun _ h => absurd h List.not_mem_nil⟩⟩⟩⟩⟩⟩
set_option maxRecDepth 100000 in
theorem gdX2_secretIn_o : ∀ w ∈ wsX2_secretIn_o, goodWord w = true := gd_o (by decide +kernel)
set_option maxRecDepth 100000 in
theorem gdX2_secretIn : ∀ w ∈ wsX2_secretIn, goodWord w = true := List.forall_mem_cons.mpr ⟨by decide +kernel, List.forall_mem_append.mpr ⟨gdX2_secretIn_o, List.forall_mem_append.mpr ⟨gd_bV _ _ _ _, List.forall_mem_append.mpr ⟨gdX20, List.forall_mem_append.mpr ⟨gdX40, List.forall_mem_append.mpr ⟨gdX2_secretBy, fun _ h => absurd h List.not_mem_nil⟩⟩⟩⟩⟩⟩
def wsX2_distance_o : List Cond := ([Cond.fieldLink RX2 9 "WrongWord$Gate" "letters" "[I"] : List Cond)
def wsX2_distance : List Cond := .code yX2_distance cX2_distance 5 (some .int) :: (wsX2_distance_o ++ (wsX20 ++ ([] : List Cond)))
theorem itX2_distance_o : ∀ w ∈ wsX2_distance_o, w ∈ lw_tbl := List.forall_mem_cons.mpr ⟨tw_150, fun _ h => absurd h List.not_mem_nil⟩
theorem itX2_distance : ∀ w ∈ wsX2_distance, w ∈ lw_tbl := List.forall_mem_cons.mpr ⟨tw_431, List.forall_mem_append.mpr ⟨itX2_distance_o, List.forall_mem_append.mpr ⟨itX20, fun _ h => absurd h List.not_mem_nil⟩⟩⟩
set_option maxRecDepth 100000 in
theorem gdX2_distance_o : ∀ w ∈ wsX2_distance_o, goodWord w = true := gd_o (by decide +kernel)
set_option maxRecDepth 100000 in
theorem gdX2_distance : ∀ w ∈ wsX2_distance, goodWord w = true := List.forall_mem_cons.mpr ⟨by decide +kernel, List.forall_mem_append.mpr ⟨gdX2_distance_o, List.forall_mem_append.mpr ⟨gdX20, fun _ h => absurd h List.not_mem_nil⟩⟩⟩
def wsX2_lips_o : List Cond := ([Cond.fieldLink RX2 9 "WrongWord$Gate" "letters" "[I"] : List Cond)
def wsX2_lips : List Cond := .code yX2_lips cX2_lips 5 (some .int) :: (wsX2_lips_o ++ (wsX20 ++ ([] : List Cond)))
theorem itX2_lips_o : ∀ w ∈ wsX2_lips_o, w ∈ lw_tbl := List.forall_mem_cons.mpr ⟨tw_150, fun _ h => absurd h List.not_mem_nil⟩
theorem itX2_lips : ∀ w ∈ wsX2_lips, w ∈ lw_tbl := List.forall_mem_cons.mpr ⟨tw_533, List.forall_mem_append.mpr ⟨itX2_lips_o, List.forall_mem_append.mpr ⟨itX20, fun _ h => absurd h List.not_mem_nil⟩⟩⟩
set_option maxRecDepth 100000 in
theorem gdX2_lips_o : ∀ w ∈ wsX2_lips_o, goodWord w = true := gd_o (by decide +kernel)
set_option maxRecDepth 100000 in
theorem gdX2_lips : ∀ w ∈ wsX2_lips, goodWord w = true := List.forall_mem_cons.mpr ⟨by decide +kernel, List.forall_mem_append.mpr ⟨gdX2_lips_o, List.forall_mem_append.mpr ⟨gdX20, fun _ h => absurd h List.not_mem_nil⟩⟩⟩
def wsX2_guardOn_o : List Cond := ([Cond.fieldLink RX2 48 "WrongWord$Gate" "guards" "I", Cond.static yX7_rest, Cond.initialized RX7] : List Cond)
def wsX2_guardOn : List Cond := .code yX2_guardOn cX2_guardOn 3 (some .int) :: (wsX2_guardOn_o ++ (wsX20 ++ (wsX7_rest ++ ([] : List Cond))))
theorem itX2_guardOn_o : ∀ w ∈ wsX2_guardOn_o, w ∈ lw_tbl := List.forall_mem_cons.mpr ⟨tw_174, List.forall_mem_cons.mpr ⟨tw_493, List.forall_mem_cons.mpr ⟨tw_67, fun _ h => absurd h List.not_mem_nil⟩⟩⟩
theorem itX2_guardOn : ∀ w ∈ wsX2_guardOn, w ∈ lw_tbl := List.forall_mem_cons.mpr ⟨tw_510, List.forall_mem_append.mpr ⟨itX2_guardOn_o, List.forall_mem_append.mpr ⟨itX20, List.forall_mem_append.mpr ⟨itX7_rest, fun _ h => absurd h List.not_mem_nil⟩⟩⟩⟩
set_option maxRecDepth 100000 in
theorem gdX2_guardOn_o : ∀ w ∈ wsX2_guardOn_o, goodWord w = true := gd_o (by decide +kernel)
set_option maxRecDepth 100000 in
theorem gdX2_guardOn : ∀ w ∈ wsX2_guardOn, goodWord w = true := List.forall_mem_cons.mpr ⟨by decide +kernel, List.forall_mem_append.mpr ⟨gdX2_guardOn_o, List.forall_mem_append.mpr ⟨gdX20, List.forall_mem_append.mpr ⟨gdX7_rest, fun _ h => absurd h List.not_mem_nil⟩⟩⟩⟩
def wsX2_isThere_o : List Cond := ([Cond.fieldLink RX2 24 "WrongWord$Gate" "now" "LWrongWord$Moment;", Cond.fieldLink RX2 65 "WrongWord$Moment" "there" "I"] : List Cond)
def wsX2_isThere : List Cond := .code yX2_isThere cX2_isThere 2 (some .boolean) :: (wsX2_isThere_o ++ (wsX20 ++ (wsX40 ++ ([] : List Cond))))
theorem itX2_isThere_o : ∀ w ∈ wsX2_isThere_o, w ∈ lw_tbl := List.forall_mem_cons.mpr ⟨tw_160, List.forall_mem_cons.mpr ⟨tw_127, fun _ h => absurd h List.not_mem_nil⟩⟩
theorem itX2_isThere : ∀ w ∈ wsX2_isThere, w ∈ lw_tbl := List.forall_mem_cons.mpr ⟨tw_524, List.forall_mem_append.mpr ⟨itX2_isThere_o, List.forall_mem_append.mpr ⟨itX20, List.forall_mem_append.mpr ⟨itX40, fun _ h => absurd h List.not_mem_nil⟩⟩⟩⟩
set_option maxRecDepth 100000 in
theorem gdX2_isThere_o : ∀ w ∈ wsX2_isThere_o, goodWord w = true := gd_o (by decide +kernel)
set_option maxRecDepth 100000 in
theorem gdX2_isThere : ∀ w ∈ wsX2_isThere, goodWord w = true := List.forall_mem_cons.mpr ⟨by decide +kernel, List.forall_mem_append.mpr ⟨gdX2_isThere_o, List.forall_mem_append.mpr ⟨gdX20, List.forall_mem_append.mpr ⟨gdX40, fun _ h => absurd h List.not_mem_nil⟩⟩⟩⟩
def wsX2_wouldTake_o : List Cond := ([Cond.fieldLink RX2 9 "WrongWord$Gate" "letters" "[I"] : List Cond)
def wsX2_wouldTake : List Cond := .code yX2_wouldTake cX2_wouldTake 5 (some .boolean) :: (wsX2_wouldTake_o ++ ((bkV RX2 68 RX2 yX2_distance) ++ ((bkV RX2 71 RX2 yX2_lips) ++ (wsX20 ++ (wsX2_distance ++ (wsX2_lips ++ ([] : List Cond)))))))
theorem itX2_wouldTake_o : ∀ w ∈ wsX2_wouldTake_o, w ∈ lw_tbl := List.forall_mem_cons.mpr ⟨tw_150, fun _ h => absurd h List.not_mem_nil⟩
theorem itX2_wouldTake : ∀ w ∈ wsX2_wouldTake, w ∈ lw_tbl := List.forall_mem_cons.mpr ⟨tw_528, List.forall_mem_append.mpr ⟨itX2_wouldTake_o, List.forall_mem_append.mpr ⟨it_b7, List.forall_mem_append.mpr ⟨it_b8, List.forall_mem_append.mpr ⟨itX20, List.forall_mem_append.mpr ⟨itX2_distance, List.forall_mem_append.mpr ⟨itX2_lips, fun _ h => absurd h List.not_mem_nil⟩⟩⟩⟩⟩⟩⟩
set_option maxRecDepth 100000 in
theorem gdX2_wouldTake_o : ∀ w ∈ wsX2_wouldTake_o, goodWord w = true := gd_o (by decide +kernel)
set_option maxRecDepth 100000 in
theorem gdX2_wouldTake : ∀ w ∈ wsX2_wouldTake, goodWord w = true := List.forall_mem_cons.mpr ⟨by decide +kernel, List.forall_mem_append.mpr ⟨gdX2_wouldTake_o, List.forall_mem_append.mpr ⟨gd_bV _ _ _ _, List.forall_mem_append.mpr ⟨gd_bV _ _ _ _, List.forall_mem_append.mpr ⟨gdX20, List.forall_mem_append.mpr ⟨gdX2_distance, List.forall_mem_append.mpr ⟨gdX2_lips, fun _ h => absurd h List.not_mem_nil⟩⟩⟩⟩⟩⟩⟩
def wsX2_catchesIf_o : List Cond := ([Cond.fieldLink RX2 15 "WrongWord$Gate" "kinds" "[I", Cond.fieldLink RX2 48 "WrongWord$Gate" "guards" "I", Cond.fieldLink RX2 24 "WrongWord$Gate" "now" "LWrongWord$Moment;", Cond.fieldLink RX2 65 "WrongWord$Moment" "there" "I", Cond.methodLink RX2 68 yX2_distance, Cond.selects RX2 yX2_distance yX2_distance, Cond.fieldLink RX2 9 "WrongWord$Gate" "letters" "[I", Cond.methodLink RX2 71 yX2_lips, Cond.selects RX2 yX2_lips yX2_lips] : List Cond)
def wsX2_catchesIf : List Cond := .code yX2_catchesIf cX2_catchesIf 6 (some .boolean) :: (wsX2_catchesIf_o ++ ((bkV RX2 74 RX2 yX2_guardOn) ++ ((bkV RX2 77 RX2 yX2_isThere) ++ ((bkV RX2 81 RX2 yX2_wouldTake) ++ (wsX20 ++ (wsX40 ++ (wsX2_guardOn ++ (wsX2_isThere ++ (wsX2_wouldTake ++ ([] : List Cond))))))))))
theorem itX2_catchesIf_o : ∀ w ∈ wsX2_catchesIf_o, w ∈ lw_tbl := List.forall_mem_cons.mpr ⟨tw_153, List.forall_mem_cons.mpr ⟨tw_174, List.forall_mem_cons.mpr ⟨tw_160, List.forall_mem_cons.mpr ⟨tw_127, List.forall_mem_cons.mpr ⟨tw_529, List.forall_mem_cons.mpr ⟨tw_430, List.forall_mem_cons.mpr ⟨tw_150, List.forall_mem_cons.mpr ⟨tw_530, List.forall_mem_cons.mpr ⟨tw_532, fun _ h => absurd h List.not_mem_nil⟩⟩⟩⟩⟩⟩⟩⟩⟩
theorem itX2_catchesIf : ∀ w ∈ wsX2_catchesIf, w ∈ lw_tbl := List.forall_mem_cons.mpr ⟨tw_519, List.forall_mem_append.mpr ⟨itX2_catchesIf_o, List.forall_mem_append.mpr ⟨it_b9, List.forall_mem_append.mpr ⟨it_b10, List.forall_mem_append.mpr ⟨it_b11, List.forall_mem_append.mpr ⟨itX20, List.forall_mem_append.mpr ⟨itX40, List.forall_mem_append.mpr ⟨itX2_guardOn, List.forall_mem_append.mpr ⟨itX2_isThere, List.forall_mem_append.mpr ⟨itX2_wouldTake, fun _ h => absurd h List.not_mem_nil⟩⟩⟩⟩⟩⟩⟩⟩⟩⟩
set_option maxRecDepth 100000 in
theorem gdX2_catchesIf_o : ∀ w ∈ wsX2_catchesIf_o, goodWord w = true := gd_o (by decide +kernel)
set_option maxRecDepth 100000 in
theorem gdX2_catchesIf : ∀ w ∈ wsX2_catchesIf, goodWord w = true := List.forall_mem_cons.mpr ⟨by decide +kernel, List.forall_mem_append.mpr ⟨gdX2_catchesIf_o, List.forall_mem_append.mpr ⟨gd_bV _ _ _ _, List.forall_mem_append.mpr ⟨gd_bV _ _ _ _, List.forall_mem_append.mpr ⟨gd_bV _ _ _ _, List.forall_mem_append.mpr ⟨gdX20, List.forall_mem_append.mpr ⟨gdX40, List.forall_mem_append.mpr ⟨gdX2_guardOn, List.forall_mem_append.mpr ⟨gdX2_isThere, List.forall_mem_append.mpr ⟨gdX2_wouldTake, fun _ h => absurd h List.not_mem_nil⟩⟩⟩⟩⟩⟩⟩⟩⟩⟩
def wsX2_catches_o : List Cond := ([Cond.fieldLink RX2 24 "WrongWord$Gate" "now" "LWrongWord$Moment;", Cond.fieldLink RX2 58 "WrongWord$Moment" "night" "I", Cond.fieldLink RX2 55 "WrongWord$Moment" "start" "I", Cond.fieldLink RX2 38 "WrongWord$Gate" "step" "I", Cond.fieldLink RX2 42 "WrongWord$Gate" "shrove" "I", Cond.methodLink RX2 61 yX2_secretBy, Cond.selects RX2 yX2_secretBy yX2_secretBy, Cond.fieldLink RX2 45 "WrongWord$Gate" "words" "I", Cond.fieldLink RX2 15 "WrongWord$Gate" "kinds" "[I", Cond.methodLink RX2 74 yX2_guardOn, Cond.selects RX2 yX2_guardOn yX2_guardOn, Cond.fieldLink RX2 48 "WrongWord$Gate" "guards" "I", Cond.methodLink RX2 77 yX2_isThere, Cond.selects RX2 yX2_isThere yX2_isThere, Cond.fieldLink RX2 65 "WrongWord$Moment" "there" "I", Cond.methodLink RX2 81 yX2_wouldTake, Cond.selects RX2 yX2_wouldTake yX2_wouldTake, Cond.methodLink RX2 68 yX2_distance, Cond.selects RX2 yX2_distance yX2_distance, Cond.fieldLink RX2 9 "WrongWord$Gate" "letters" "[I", Cond.methodLink RX2 71 yX2_lips, Cond.selects RX2 yX2_lips yX2_lips] : List Cond)
def wsX2_catches : List Cond := .code yX2_catches cX2_catches 4 (some .boolean) :: (wsX2_catches_o ++ ((bkV RX2 85 RX2 yX2_secretIn) ++ ((bkV RX2 89 RX2 yX2_catchesIf) ++ (wsX20 ++ (wsX40 ++ (wsX2_secretIn ++ (wsX2_catchesIf ++ ([] : List Cond))))))))
theorem itX2_catches_o : ∀ w ∈ wsX2_catches_o, w ∈ lw_tbl := List.forall_mem_cons.mpr ⟨tw_160, List.forall_mem_cons.mpr ⟨tw_120, List.forall_mem_cons.mpr ⟨tw_123, List.forall_mem_cons.mpr ⟨tw_164, List.forall_mem_cons.mpr ⟨tw_167, List.forall_mem_cons.mpr ⟨tw_488, List.forall_mem_cons.mpr ⟨tw_490, List.forall_mem_cons.mpr ⟨tw_171, List.forall_mem_cons.mpr ⟨tw_153, List.forall_mem_cons.mpr ⟨tw_520, List.forall_mem_cons.mpr ⟨tw_509, List.forall_mem_cons.mpr ⟨tw_174, List.forall_mem_cons.mpr ⟨tw_521, List.forall_mem_cons.mpr ⟨tw_523, List.forall_mem_cons.mpr ⟨tw_127, List.forall_mem_cons.mpr ⟨tw_525, List.forall_mem_cons.mpr ⟨tw_527, List.forall_mem_cons.mpr ⟨tw_529, List.forall_mem_cons.mpr ⟨tw_430, List.forall_mem_cons.mpr ⟨tw_150, List.forall_mem_cons.mpr ⟨tw_530, List.forall_mem_cons.mpr ⟨tw_532, fun _ h => absurd h List.not_mem_nil⟩⟩⟩⟩⟩⟩⟩⟩⟩⟩⟩⟩⟩⟩⟩⟩⟩⟩⟩⟩⟩⟩
theorem itX2_catches : ∀ w ∈ wsX2_catches, w ∈ lw_tbl := List.forall_mem_cons.mpr ⟨tw_514, List.forall_mem_append.mpr ⟨itX2_catches_o, List.forall_mem_append.mpr ⟨it_b12, List.forall_mem_append.mpr ⟨it_b13, List.forall_mem_append.mpr ⟨itX20, List.forall_mem_append.mpr ⟨itX40, List.forall_mem_append.mpr ⟨itX2_secretIn, List.forall_mem_append.mpr ⟨itX2_catchesIf, fun _ h => absurd h List.not_mem_nil⟩⟩⟩⟩⟩⟩⟩⟩
set_option maxRecDepth 100000 in
theorem gdX2_catches_o : ∀ w ∈ wsX2_catches_o, goodWord w = true := gd_o (by decide +kernel)
set_option maxRecDepth 100000 in
theorem gdX2_catches : ∀ w ∈ wsX2_catches, goodWord w = true := List.forall_mem_cons.mpr ⟨by decide +kernel, List.forall_mem_append.mpr ⟨gdX2_catches_o, List.forall_mem_append.mpr ⟨gd_bV _ _ _ _, List.forall_mem_append.mpr ⟨gd_bV _ _ _ _, List.forall_mem_append.mpr ⟨gdX20, List.forall_mem_append.mpr ⟨gdX40, List.forall_mem_append.mpr ⟨gdX2_secretIn, List.forall_mem_append.mpr ⟨gdX2_catchesIf, fun _ h => absurd h List.not_mem_nil⟩⟩⟩⟩⟩⟩⟩⟩
def wsX7_bit_o : List Cond := ([] : List Cond)
def wsX7_bit : List Cond := .code yX7_bit cX7_bit 1 (some .int) :: (wsX7_bit_o ++ ([] : List Cond))
theorem itX7_bit_o : ∀ w ∈ wsX7_bit_o, w ∈ lw_tbl := fun _ h => absurd h List.not_mem_nil
theorem itX7_bit : ∀ w ∈ wsX7_bit, w ∈ lw_tbl := List.forall_mem_cons.mpr ⟨tw_542, List.forall_mem_append.mpr ⟨itX7_bit_o, fun _ h => absurd h List.not_mem_nil⟩⟩
set_option maxRecDepth 100000 in
theorem gdX7_bit_o : ∀ w ∈ wsX7_bit_o, goodWord w = true := gd_o (by decide +kernel)
set_option maxRecDepth 100000 in
theorem gdX7_bit : ∀ w ∈ wsX7_bit, goodWord w = true := List.forall_mem_cons.mpr ⟨by decide +kernel, List.forall_mem_append.mpr ⟨gdX7_bit_o, fun _ h => absurd h List.not_mem_nil⟩⟩
def wsX2_hoursOf_o : List Cond := ([Cond.fieldLink RX2 24 "WrongWord$Gate" "now" "LWrongWord$Moment;", Cond.fieldLink RX2 58 "WrongWord$Moment" "night" "I", Cond.fieldLink RX2 48 "WrongWord$Gate" "guards" "I", Cond.static yX7_bit] : List Cond)
def wsX2_hoursOf : List Cond := .code yX2_hoursOf cX2_hoursOf 4 (some .int) :: (wsX2_hoursOf_o ++ ((bkV RX2 74 RX2 yX2_guardOn) ++ (wsX20 ++ (wsX40 ++ (wsX2_guardOn ++ (wsX7_bit ++ ([] : List Cond)))))))
theorem itX2_hoursOf_o : ∀ w ∈ wsX2_hoursOf_o, w ∈ lw_tbl := List.forall_mem_cons.mpr ⟨tw_160, List.forall_mem_cons.mpr ⟨tw_120, List.forall_mem_cons.mpr ⟨tw_174, List.forall_mem_cons.mpr ⟨tw_541, fun _ h => absurd h List.not_mem_nil⟩⟩⟩⟩
theorem itX2_hoursOf : ∀ w ∈ wsX2_hoursOf, w ∈ lw_tbl := List.forall_mem_cons.mpr ⟨tw_581, List.forall_mem_append.mpr ⟨itX2_hoursOf_o, List.forall_mem_append.mpr ⟨it_b9, List.forall_mem_append.mpr ⟨itX20, List.forall_mem_append.mpr ⟨itX40, List.forall_mem_append.mpr ⟨itX2_guardOn, List.forall_mem_append.mpr ⟨itX7_bit, fun _ h => absurd h List.not_mem_nil⟩⟩⟩⟩⟩⟩⟩
set_option maxRecDepth 100000 in
theorem gdX2_hoursOf_o : ∀ w ∈ wsX2_hoursOf_o, goodWord w = true := gd_o (by decide +kernel)
set_option maxRecDepth 100000 in
theorem gdX2_hoursOf : ∀ w ∈ wsX2_hoursOf, goodWord w = true := List.forall_mem_cons.mpr ⟨by decide +kernel, List.forall_mem_append.mpr ⟨gdX2_hoursOf_o, List.forall_mem_append.mpr ⟨gd_bV _ _ _ _, List.forall_mem_append.mpr ⟨gdX20, List.forall_mem_append.mpr ⟨gdX40, List.forall_mem_append.mpr ⟨gdX2_guardOn, List.forall_mem_append.mpr ⟨gdX7_bit, fun _ h => absurd h List.not_mem_nil⟩⟩⟩⟩⟩⟩⟩
def wsX2_wordsIn_o : List Cond := ([Cond.fieldLink RX2 45 "WrongWord$Gate" "words" "I", Cond.fieldLink RX2 24 "WrongWord$Gate" "now" "LWrongWord$Moment;", Cond.fieldLink RX2 58 "WrongWord$Moment" "night" "I", Cond.methodLink RX2 85 yX2_secretIn, Cond.selects RX2 yX2_secretIn yX2_secretIn, Cond.fieldLink RX2 55 "WrongWord$Moment" "start" "I", Cond.fieldLink RX2 38 "WrongWord$Gate" "step" "I", Cond.fieldLink RX2 42 "WrongWord$Gate" "shrove" "I", Cond.methodLink RX2 61 yX2_secretBy, Cond.selects RX2 yX2_secretBy yX2_secretBy, Cond.methodLink RX2 89 yX2_catchesIf, Cond.selects RX2 yX2_catchesIf yX2_catchesIf, Cond.fieldLink RX2 15 "WrongWord$Gate" "kinds" "[I", Cond.methodLink RX2 74 yX2_guardOn, Cond.selects RX2 yX2_guardOn yX2_guardOn, Cond.fieldLink RX2 48 "WrongWord$Gate" "guards" "I", Cond.methodLink RX2 77 yX2_isThere, Cond.selects RX2 yX2_isThere yX2_isThere, Cond.fieldLink RX2 65 "WrongWord$Moment" "there" "I", Cond.methodLink RX2 81 yX2_wouldTake, Cond.selects RX2 yX2_wouldTake yX2_wouldTake, Cond.methodLink RX2 68 yX2_distance, Cond.selects RX2 yX2_distance yX2_distance, Cond.fieldLink RX2 9 "WrongWord$Gate" "letters" "[I", Cond.methodLink RX2 71 yX2_lips, Cond.selects RX2 yX2_lips yX2_lips, Cond.static yX7_bit] : List Cond)
def wsX2_wordsIn : List Cond := .code yX2_wordsIn cX2_wordsIn 5 (some .int) :: (wsX2_wordsIn_o ++ ((bkV RX2 96 RX2 yX2_catches) ++ (wsX20 ++ (wsX40 ++ (wsX2_catches ++ (wsX7_bit ++ ([] : List Cond)))))))
theorem itX2_wordsIn_o : ∀ w ∈ wsX2_wordsIn_o, w ∈ lw_tbl := List.forall_mem_cons.mpr ⟨tw_171, List.forall_mem_cons.mpr ⟨tw_160, List.forall_mem_cons.mpr ⟨tw_120, List.forall_mem_cons.mpr ⟨tw_515, List.forall_mem_cons.mpr ⟨tw_486, List.forall_mem_cons.mpr ⟨tw_123, List.forall_mem_cons.mpr ⟨tw_164, List.forall_mem_cons.mpr ⟨tw_167, List.forall_mem_cons.mpr ⟨tw_488, List.forall_mem_cons.mpr ⟨tw_490, List.forall_mem_cons.mpr ⟨tw_516, List.forall_mem_cons.mpr ⟨tw_518, List.forall_mem_cons.mpr ⟨tw_153, List.forall_mem_cons.mpr ⟨tw_520, List.forall_mem_cons.mpr ⟨tw_509, List.forall_mem_cons.mpr ⟨tw_174, List.forall_mem_cons.mpr ⟨tw_521, List.forall_mem_cons.mpr ⟨tw_523, List.forall_mem_cons.mpr ⟨tw_127, List.forall_mem_cons.mpr ⟨tw_525, List.forall_mem_cons.mpr ⟨tw_527, List.forall_mem_cons.mpr ⟨tw_529, List.forall_mem_cons.mpr ⟨tw_430, List.forall_mem_cons.mpr ⟨tw_150, List.forall_mem_cons.mpr ⟨tw_530, List.forall_mem_cons.mpr ⟨tw_532, List.forall_mem_cons.mpr ⟨tw_541, fun _ h => absurd h List.not_mem_nil⟩⟩⟩⟩⟩⟩⟩⟩⟩⟩⟩⟩⟩⟩⟩⟩⟩⟩⟩⟩⟩⟩⟩⟩⟩⟩⟩
theorem itX2_wordsIn : ∀ w ∈ wsX2_wordsIn, w ∈ lw_tbl := List.forall_mem_cons.mpr ⟨tw_606, List.forall_mem_append.mpr ⟨itX2_wordsIn_o, List.forall_mem_append.mpr ⟨it_b14, List.forall_mem_append.mpr ⟨itX20, List.forall_mem_append.mpr ⟨itX40, List.forall_mem_append.mpr ⟨itX2_catches, List.forall_mem_append.mpr ⟨itX7_bit, fun _ h => absurd h List.not_mem_nil⟩⟩⟩⟩⟩⟩⟩
set_option maxRecDepth 100000 in
theorem gdX2_wordsIn_o : ∀ w ∈ wsX2_wordsIn_o, goodWord w = true := gd_o (by decide +kernel)
set_option maxRecDepth 100000 in
theorem gdX2_wordsIn : ∀ w ∈ wsX2_wordsIn, goodWord w = true := List.forall_mem_cons.mpr ⟨by decide +kernel, List.forall_mem_append.mpr ⟨gdX2_wordsIn_o, List.forall_mem_append.mpr ⟨gd_bV _ _ _ _, List.forall_mem_append.mpr ⟨gdX20, List.forall_mem_append.mpr ⟨gdX40, List.forall_mem_append.mpr ⟨gdX2_catches, List.forall_mem_append.mpr ⟨gdX7_bit, fun _ h => absurd h List.not_mem_nil⟩⟩⟩⟩⟩⟩⟩
def wsX2_hoursOpen_o : List Cond := ([Cond.fieldLink RX2 45 "WrongWord$Gate" "words" "I", Cond.methodLink RX2 96 yX2_catches, Cond.selects RX2 yX2_catches yX2_catches, Cond.fieldLink RX2 24 "WrongWord$Gate" "now" "LWrongWord$Moment;", Cond.fieldLink RX2 58 "WrongWord$Moment" "night" "I", Cond.methodLink RX2 85 yX2_secretIn, Cond.selects RX2 yX2_secretIn yX2_secretIn, Cond.fieldLink RX2 55 "WrongWord$Moment" "start" "I", Cond.fieldLink RX2 38 "WrongWord$Gate" "step" "I", Cond.fieldLink RX2 42 "WrongWord$Gate" "shrove" "I", Cond.methodLink RX2 61 yX2_secretBy, Cond.selects RX2 yX2_secretBy yX2_secretBy, Cond.methodLink RX2 89 yX2_catchesIf, Cond.selects RX2 yX2_catchesIf yX2_catchesIf, Cond.fieldLink RX2 15 "WrongWord$Gate" "kinds" "[I", Cond.methodLink RX2 74 yX2_guardOn, Cond.selects RX2 yX2_guardOn yX2_guardOn, Cond.fieldLink RX2 48 "WrongWord$Gate" "guards" "I", Cond.methodLink RX2 77 yX2_isThere, Cond.selects RX2 yX2_isThere yX2_isThere, Cond.fieldLink RX2 65 "WrongWord$Moment" "there" "I", Cond.methodLink RX2 81 yX2_wouldTake, Cond.selects RX2 yX2_wouldTake yX2_wouldTake, Cond.methodLink RX2 68 yX2_distance, Cond.selects RX2 yX2_distance yX2_distance, Cond.fieldLink RX2 9 "WrongWord$Gate" "letters" "[I", Cond.methodLink RX2 71 yX2_lips, Cond.selects RX2 yX2_lips yX2_lips, Cond.static yX7_bit] : List Cond)
def wsX2_hoursOpen : List Cond := .code yX2_hoursOpen cX2_hoursOpen 5 (some .int) :: (wsX2_hoursOpen_o ++ ((bkV RX2 100 RX2 yX2_wordsIn) ++ (wsX20 ++ (wsX40 ++ (wsX2_wordsIn ++ (wsX7_bit ++ ([] : List Cond)))))))
theorem itX2_hoursOpen_o : ∀ w ∈ wsX2_hoursOpen_o, w ∈ lw_tbl := List.forall_mem_cons.mpr ⟨tw_171, List.forall_mem_cons.mpr ⟨tw_607, List.forall_mem_cons.mpr ⟨tw_513, List.forall_mem_cons.mpr ⟨tw_160, List.forall_mem_cons.mpr ⟨tw_120, List.forall_mem_cons.mpr ⟨tw_515, List.forall_mem_cons.mpr ⟨tw_486, List.forall_mem_cons.mpr ⟨tw_123, List.forall_mem_cons.mpr ⟨tw_164, List.forall_mem_cons.mpr ⟨tw_167, List.forall_mem_cons.mpr ⟨tw_488, List.forall_mem_cons.mpr ⟨tw_490, List.forall_mem_cons.mpr ⟨tw_516, List.forall_mem_cons.mpr ⟨tw_518, List.forall_mem_cons.mpr ⟨tw_153, List.forall_mem_cons.mpr ⟨tw_520, List.forall_mem_cons.mpr ⟨tw_509, List.forall_mem_cons.mpr ⟨tw_174, List.forall_mem_cons.mpr ⟨tw_521, List.forall_mem_cons.mpr ⟨tw_523, List.forall_mem_cons.mpr ⟨tw_127, List.forall_mem_cons.mpr ⟨tw_525, List.forall_mem_cons.mpr ⟨tw_527, List.forall_mem_cons.mpr ⟨tw_529, List.forall_mem_cons.mpr ⟨tw_430, List.forall_mem_cons.mpr ⟨tw_150, List.forall_mem_cons.mpr ⟨tw_530, List.forall_mem_cons.mpr ⟨tw_532, List.forall_mem_cons.mpr ⟨tw_541, fun _ h => absurd h List.not_mem_nil⟩⟩⟩⟩⟩⟩⟩⟩⟩⟩⟩⟩⟩⟩⟩⟩⟩⟩⟩⟩⟩⟩⟩⟩⟩⟩⟩⟩⟩
theorem itX2_hoursOpen : ∀ w ∈ wsX2_hoursOpen, w ∈ lw_tbl := List.forall_mem_cons.mpr ⟨tw_619, List.forall_mem_append.mpr ⟨itX2_hoursOpen_o, List.forall_mem_append.mpr ⟨it_b15, List.forall_mem_append.mpr ⟨itX20, List.forall_mem_append.mpr ⟨itX40, List.forall_mem_append.mpr ⟨itX2_wordsIn, List.forall_mem_append.mpr ⟨itX7_bit, fun _ h => absurd h List.not_mem_nil⟩⟩⟩⟩⟩⟩⟩
set_option maxRecDepth 100000 in
theorem gdX2_hoursOpen_o : ∀ w ∈ wsX2_hoursOpen_o, goodWord w = true := gd_o (by decide +kernel)
set_option maxRecDepth 100000 in
theorem gdX2_hoursOpen : ∀ w ∈ wsX2_hoursOpen, goodWord w = true := List.forall_mem_cons.mpr ⟨by decide +kernel, List.forall_mem_append.mpr ⟨gdX2_hoursOpen_o, List.forall_mem_append.mpr ⟨gd_bV _ _ _ _, List.forall_mem_append.mpr ⟨gdX20, List.forall_mem_append.mpr ⟨gdX40, List.forall_mem_append.mpr ⟨gdX2_wordsIn, List.forall_mem_append.mpr ⟨gdX7_bit, fun _ h => absurd h List.not_mem_nil⟩⟩⟩⟩⟩⟩⟩
def wsX2_nightsUntil_o : List Cond := ([Cond.constant RX2 103 (-1000000), Cond.fieldLink RX2 24 "WrongWord$Gate" "now" "LWrongWord$Moment;", Cond.fieldLink RX2 55 "WrongWord$Moment" "start" "I", Cond.fieldLink RX2 38 "WrongWord$Gate" "step" "I", Cond.fieldLink RX2 42 "WrongWord$Gate" "shrove" "I", Cond.fieldLink RX2 58 "WrongWord$Moment" "night" "I", Cond.methodLink RX2 61 yX2_secretBy, Cond.selects RX2 yX2_secretBy yX2_secretBy, Cond.fieldLink RX2 45 "WrongWord$Gate" "words" "I"] : List Cond)
def wsX2_nightsUntil : List Cond := .code yX2_nightsUntil cX2_nightsUntil 3 (some .int) :: (wsX2_nightsUntil_o ++ ((bkV RX2 85 RX2 yX2_secretIn) ++ (wsX20 ++ (wsX40 ++ (wsX2_secretIn ++ ([] : List Cond))))))
theorem itX2_nightsUntil_o : ∀ w ∈ wsX2_nightsUntil_o, w ∈ lw_tbl := List.forall_mem_cons.mpr ⟨tw_629, List.forall_mem_cons.mpr ⟨tw_160, List.forall_mem_cons.mpr ⟨tw_123, List.forall_mem_cons.mpr ⟨tw_164, List.forall_mem_cons.mpr ⟨tw_167, List.forall_mem_cons.mpr ⟨tw_120, List.forall_mem_cons.mpr ⟨tw_488, List.forall_mem_cons.mpr ⟨tw_490, List.forall_mem_cons.mpr ⟨tw_171, fun _ h => absurd h List.not_mem_nil⟩⟩⟩⟩⟩⟩⟩⟩⟩
theorem itX2_nightsUntil : ∀ w ∈ wsX2_nightsUntil, w ∈ lw_tbl := List.forall_mem_cons.mpr ⟨tw_628, List.forall_mem_append.mpr ⟨itX2_nightsUntil_o, List.forall_mem_append.mpr ⟨it_b12, List.forall_mem_append.mpr ⟨itX20, List.forall_mem_append.mpr ⟨itX40, List.forall_mem_append.mpr ⟨itX2_secretIn, fun _ h => absurd h List.not_mem_nil⟩⟩⟩⟩⟩⟩
set_option maxRecDepth 100000 in
theorem gdX2_nightsUntil_o : ∀ w ∈ wsX2_nightsUntil_o, goodWord w = true := gd_o (by decide +kernel)
set_option maxRecDepth 100000 in
theorem gdX2_nightsUntil : ∀ w ∈ wsX2_nightsUntil, goodWord w = true := List.forall_mem_cons.mpr ⟨by decide +kernel, List.forall_mem_append.mpr ⟨gdX2_nightsUntil_o, List.forall_mem_append.mpr ⟨gd_bV _ _ _ _, List.forall_mem_append.mpr ⟨gdX20, List.forall_mem_append.mpr ⟨gdX40, List.forall_mem_append.mpr ⟨gdX2_secretIn, fun _ h => absurd h List.not_mem_nil⟩⟩⟩⟩⟩⟩
def wsX2_hourIn_o : List Cond := ([Cond.constant RX2 103 (-1000000), Cond.fieldLink RX2 24 "WrongWord$Gate" "now" "LWrongWord$Moment;", Cond.fieldLink RX2 58 "WrongWord$Moment" "night" "I", Cond.methodLink RX2 85 yX2_secretIn, Cond.selects RX2 yX2_secretIn yX2_secretIn, Cond.fieldLink RX2 55 "WrongWord$Moment" "start" "I", Cond.fieldLink RX2 38 "WrongWord$Gate" "step" "I", Cond.fieldLink RX2 42 "WrongWord$Gate" "shrove" "I", Cond.methodLink RX2 61 yX2_secretBy, Cond.selects RX2 yX2_secretBy yX2_secretBy, Cond.fieldLink RX2 45 "WrongWord$Gate" "words" "I", Cond.methodLink RX2 89 yX2_catchesIf, Cond.selects RX2 yX2_catchesIf yX2_catchesIf, Cond.fieldLink RX2 15 "WrongWord$Gate" "kinds" "[I", Cond.methodLink RX2 74 yX2_guardOn, Cond.selects RX2 yX2_guardOn yX2_guardOn, Cond.fieldLink RX2 48 "WrongWord$Gate" "guards" "I", Cond.methodLink RX2 77 yX2_isThere, Cond.selects RX2 yX2_isThere yX2_isThere, Cond.fieldLink RX2 65 "WrongWord$Moment" "there" "I", Cond.methodLink RX2 81 yX2_wouldTake, Cond.selects RX2 yX2_wouldTake yX2_wouldTake, Cond.methodLink RX2 68 yX2_distance, Cond.selects RX2 yX2_distance yX2_distance, Cond.fieldLink RX2 9 "WrongWord$Gate" "letters" "[I", Cond.methodLink RX2 71 yX2_lips, Cond.selects RX2 yX2_lips yX2_lips] : List Cond)
def wsX2_hourIn : List Cond := .code yX2_hourIn cX2_hourIn 4 (some .int) :: (wsX2_hourIn_o ++ ((bkV RX2 96 RX2 yX2_catches) ++ (wsX20 ++ (wsX40 ++ (wsX2_catches ++ ([] : List Cond))))))
theorem itX2_hourIn_o : ∀ w ∈ wsX2_hourIn_o, w ∈ lw_tbl := List.forall_mem_cons.mpr ⟨tw_629, List.forall_mem_cons.mpr ⟨tw_160, List.forall_mem_cons.mpr ⟨tw_120, List.forall_mem_cons.mpr ⟨tw_515, List.forall_mem_cons.mpr ⟨tw_486, List.forall_mem_cons.mpr ⟨tw_123, List.forall_mem_cons.mpr ⟨tw_164, List.forall_mem_cons.mpr ⟨tw_167, List.forall_mem_cons.mpr ⟨tw_488, List.forall_mem_cons.mpr ⟨tw_490, List.forall_mem_cons.mpr ⟨tw_171, List.forall_mem_cons.mpr ⟨tw_516, List.forall_mem_cons.mpr ⟨tw_518, List.forall_mem_cons.mpr ⟨tw_153, List.forall_mem_cons.mpr ⟨tw_520, List.forall_mem_cons.mpr ⟨tw_509, List.forall_mem_cons.mpr ⟨tw_174, List.forall_mem_cons.mpr ⟨tw_521, List.forall_mem_cons.mpr ⟨tw_523, List.forall_mem_cons.mpr ⟨tw_127, List.forall_mem_cons.mpr ⟨tw_525, List.forall_mem_cons.mpr ⟨tw_527, List.forall_mem_cons.mpr ⟨tw_529, List.forall_mem_cons.mpr ⟨tw_430, List.forall_mem_cons.mpr ⟨tw_150, List.forall_mem_cons.mpr ⟨tw_530, List.forall_mem_cons.mpr ⟨tw_532, fun _ h => absurd h List.not_mem_nil⟩⟩⟩⟩⟩⟩⟩⟩⟩⟩⟩⟩⟩⟩⟩⟩⟩⟩⟩⟩⟩⟩⟩⟩⟩⟩⟩
theorem itX2_hourIn : ∀ w ∈ wsX2_hourIn, w ∈ lw_tbl := List.forall_mem_cons.mpr ⟨tw_691, List.forall_mem_append.mpr ⟨itX2_hourIn_o, List.forall_mem_append.mpr ⟨it_b14, List.forall_mem_append.mpr ⟨itX20, List.forall_mem_append.mpr ⟨itX40, List.forall_mem_append.mpr ⟨itX2_catches, fun _ h => absurd h List.not_mem_nil⟩⟩⟩⟩⟩⟩
set_option maxRecDepth 100000 in
theorem gdX2_hourIn_o : ∀ w ∈ wsX2_hourIn_o, goodWord w = true := gd_o (by decide +kernel)
set_option maxRecDepth 100000 in
theorem gdX2_hourIn : ∀ w ∈ wsX2_hourIn, goodWord w = true := List.forall_mem_cons.mpr ⟨by decide +kernel, List.forall_mem_append.mpr ⟨gdX2_hourIn_o, List.forall_mem_append.mpr ⟨gd_bV _ _ _ _, List.forall_mem_append.mpr ⟨gdX20, List.forall_mem_append.mpr ⟨gdX40, List.forall_mem_append.mpr ⟨gdX2_catches, fun _ h => absurd h List.not_mem_nil⟩⟩⟩⟩⟩⟩
def wsX2_guardsAgainst_o : List Cond := ([Cond.fieldLink RX2 24 "WrongWord$Gate" "now" "LWrongWord$Moment;", Cond.fieldLink RX2 58 "WrongWord$Moment" "night" "I", Cond.fieldLink RX2 45 "WrongWord$Gate" "words" "I", Cond.methodLink RX2 96 yX2_catches, Cond.selects RX2 yX2_catches yX2_catches, Cond.methodLink RX2 85 yX2_secretIn, Cond.selects RX2 yX2_secretIn yX2_secretIn, Cond.fieldLink RX2 55 "WrongWord$Moment" "start" "I", Cond.fieldLink RX2 38 "WrongWord$Gate" "step" "I", Cond.fieldLink RX2 42 "WrongWord$Gate" "shrove" "I", Cond.methodLink RX2 61 yX2_secretBy, Cond.selects RX2 yX2_secretBy yX2_secretBy, Cond.methodLink RX2 89 yX2_catchesIf, Cond.selects RX2 yX2_catchesIf yX2_catchesIf, Cond.fieldLink RX2 15 "WrongWord$Gate" "kinds" "[I", Cond.fieldLink RX2 48 "WrongWord$Gate" "guards" "I", Cond.methodLink RX2 77 yX2_isThere, Cond.selects RX2 yX2_isThere yX2_isThere, Cond.fieldLink RX2 65 "WrongWord$Moment" "there" "I", Cond.methodLink RX2 81 yX2_wouldTake, Cond.selects RX2 yX2_wouldTake yX2_wouldTake, Cond.methodLink RX2 68 yX2_distance, Cond.selects RX2 yX2_distance yX2_distance, Cond.fieldLink RX2 9 "WrongWord$Gate" "letters" "[I", Cond.methodLink RX2 71 yX2_lips, Cond.selects RX2 yX2_lips yX2_lips] : List Cond)
def wsX2_guardsAgainst : List Cond := .code yX2_guardsAgainst cX2_guardsAgainst 5 (some .int) :: (wsX2_guardsAgainst_o ++ ((bkV RX2 100 RX2 yX2_wordsIn) ++ ((bkV RX2 74 RX2 yX2_guardOn) ++ (wsX20 ++ (wsX40 ++ (wsX2_wordsIn ++ (wsX2_guardOn ++ ([] : List Cond))))))))
theorem itX2_guardsAgainst_o : ∀ w ∈ wsX2_guardsAgainst_o, w ∈ lw_tbl := List.forall_mem_cons.mpr ⟨tw_160, List.forall_mem_cons.mpr ⟨tw_120, List.forall_mem_cons.mpr ⟨tw_171, List.forall_mem_cons.mpr ⟨tw_607, List.forall_mem_cons.mpr ⟨tw_513, List.forall_mem_cons.mpr ⟨tw_515, List.forall_mem_cons.mpr ⟨tw_486, List.forall_mem_cons.mpr ⟨tw_123, List.forall_mem_cons.mpr ⟨tw_164, List.forall_mem_cons.mpr ⟨tw_167, List.forall_mem_cons.mpr ⟨tw_488, List.forall_mem_cons.mpr ⟨tw_490, List.forall_mem_cons.mpr ⟨tw_516, List.forall_mem_cons.mpr ⟨tw_518, List.forall_mem_cons.mpr ⟨tw_153, List.forall_mem_cons.mpr ⟨tw_174, List.forall_mem_cons.mpr ⟨tw_521, List.forall_mem_cons.mpr ⟨tw_523, List.forall_mem_cons.mpr ⟨tw_127, List.forall_mem_cons.mpr ⟨tw_525, List.forall_mem_cons.mpr ⟨tw_527, List.forall_mem_cons.mpr ⟨tw_529, List.forall_mem_cons.mpr ⟨tw_430, List.forall_mem_cons.mpr ⟨tw_150, List.forall_mem_cons.mpr ⟨tw_530, List.forall_mem_cons.mpr ⟨tw_532, fun _ h => absurd h List.not_mem_nil⟩⟩⟩⟩⟩⟩⟩⟩⟩⟩⟩⟩⟩⟩⟩⟩⟩⟩⟩⟩⟩⟩⟩⟩⟩⟩
theorem itX2_guardsAgainst : ∀ w ∈ wsX2_guardsAgainst, w ∈ lw_tbl := List.forall_mem_cons.mpr ⟨tw_699, List.forall_mem_append.mpr ⟨itX2_guardsAgainst_o, List.forall_mem_append.mpr ⟨it_b15, List.forall_mem_append.mpr ⟨it_b9, List.forall_mem_append.mpr ⟨itX20, List.forall_mem_append.mpr ⟨itX40, List.forall_mem_append.mpr ⟨itX2_wordsIn, List.forall_mem_append.mpr ⟨itX2_guardOn, fun _ h => absurd h List.not_mem_nil⟩⟩⟩⟩⟩⟩⟩⟩
set_option maxRecDepth 100000 in
theorem gdX2_guardsAgainst_o : ∀ w ∈ wsX2_guardsAgainst_o, goodWord w = true := gd_o (by decide +kernel)
set_option maxRecDepth 100000 in
theorem gdX2_guardsAgainst : ∀ w ∈ wsX2_guardsAgainst, goodWord w = true := List.forall_mem_cons.mpr ⟨by decide +kernel, List.forall_mem_append.mpr ⟨gdX2_guardsAgainst_o, List.forall_mem_append.mpr ⟨gd_bV _ _ _ _, List.forall_mem_append.mpr ⟨gd_bV _ _ _ _, List.forall_mem_append.mpr ⟨gdX20, List.forall_mem_append.mpr ⟨gdX40, List.forall_mem_append.mpr ⟨gdX2_wordsIn, List.forall_mem_append.mpr ⟨gdX2_guardOn, fun _ h => absurd h List.not_mem_nil⟩⟩⟩⟩⟩⟩⟩⟩
def wsX2_feeOf_o : List Cond := ([Cond.fieldLink RX2 48 "WrongWord$Gate" "guards" "I", Cond.fieldLink RX2 18 "WrongWord$Gate" "fees" "[I"] : List Cond)
def wsX2_feeOf : List Cond := .code yX2_feeOf cX2_feeOf 4 (some .int) :: (wsX2_feeOf_o ++ (wsX20 ++ ([] : List Cond)))
theorem itX2_feeOf_o : ∀ w ∈ wsX2_feeOf_o, w ∈ lw_tbl := List.forall_mem_cons.mpr ⟨tw_174, List.forall_mem_cons.mpr ⟨tw_157, fun _ h => absurd h List.not_mem_nil⟩⟩
theorem itX2_feeOf : ∀ w ∈ wsX2_feeOf, w ∈ lw_tbl := List.forall_mem_cons.mpr ⟨tw_703, List.forall_mem_append.mpr ⟨itX2_feeOf_o, List.forall_mem_append.mpr ⟨itX20, fun _ h => absurd h List.not_mem_nil⟩⟩⟩
set_option maxRecDepth 100000 in
theorem gdX2_feeOf_o : ∀ w ∈ wsX2_feeOf_o, goodWord w = true := gd_o (by decide +kernel)
set_option maxRecDepth 100000 in
theorem gdX2_feeOf : ∀ w ∈ wsX2_feeOf, goodWord w = true := List.forall_mem_cons.mpr ⟨by decide +kernel, List.forall_mem_append.mpr ⟨gdX2_feeOf_o, List.forall_mem_append.mpr ⟨gdX20, fun _ h => absurd h List.not_mem_nil⟩⟩⟩
def wsX2_nearestTo_o : List Cond := ([Cond.constant RX2 103 (-1000000), Cond.fieldLink RX2 45 "WrongWord$Gate" "words" "I", Cond.fieldLink RX2 9 "WrongWord$Gate" "letters" "[I"] : List Cond)
def wsX2_nearestTo : List Cond := .code yX2_nearestTo cX2_nearestTo 5 (some .int) :: (wsX2_nearestTo_o ++ ((bkV RX2 68 RX2 yX2_distance) ++ (wsX20 ++ (wsX2_distance ++ ([] : List Cond)))))
theorem itX2_nearestTo_o : ∀ w ∈ wsX2_nearestTo_o, w ∈ lw_tbl := List.forall_mem_cons.mpr ⟨tw_629, List.forall_mem_cons.mpr ⟨tw_171, List.forall_mem_cons.mpr ⟨tw_150, fun _ h => absurd h List.not_mem_nil⟩⟩⟩
theorem itX2_nearestTo : ∀ w ∈ wsX2_nearestTo, w ∈ lw_tbl := List.forall_mem_cons.mpr ⟨tw_711, List.forall_mem_append.mpr ⟨itX2_nearestTo_o, List.forall_mem_append.mpr ⟨it_b7, List.forall_mem_append.mpr ⟨itX20, List.forall_mem_append.mpr ⟨itX2_distance, fun _ h => absurd h List.not_mem_nil⟩⟩⟩⟩⟩
set_option maxRecDepth 100000 in
theorem gdX2_nearestTo_o : ∀ w ∈ wsX2_nearestTo_o, goodWord w = true := gd_o (by decide +kernel)
set_option maxRecDepth 100000 in
theorem gdX2_nearestTo : ∀ w ∈ wsX2_nearestTo, goodWord w = true := List.forall_mem_cons.mpr ⟨by decide +kernel, List.forall_mem_append.mpr ⟨gdX2_nearestTo_o, List.forall_mem_append.mpr ⟨gd_bV _ _ _ _, List.forall_mem_append.mpr ⟨gdX20, List.forall_mem_append.mpr ⟨gdX2_distance, fun _ h => absurd h List.not_mem_nil⟩⟩⟩⟩⟩
def wsX3_init_o : List Cond := ([Cond.methodLink RX3 3 objectInit, Cond.instanceMethod objectInit, Cond.code objectInit ⟨#[0xb1]⟩ 1 none, Cond.arrayClass .int, Cond.fieldLink RX3 9 "WrongWord$Guesses" "catching" "[I", Cond.fieldLink RX3 15 "WrongWord$Guesses" "menFor" "[I"] : List Cond)
def wsX3_init : List Cond := .code yX3_init cX3_init 1 none :: (wsX3_init_o ++ (wsX30 ++ ([] : List Cond)))
theorem itX3_init_o : ∀ w ∈ wsX3_init_o, w ∈ lw_tbl := List.forall_mem_cons.mpr ⟨tw_249, List.forall_mem_cons.mpr ⟨tw_85, List.forall_mem_cons.mpr ⟨tw_86, List.forall_mem_cons.mpr ⟨tw_149, List.forall_mem_cons.mpr ⟨tw_250, List.forall_mem_cons.mpr ⟨tw_251, fun _ h => absurd h List.not_mem_nil⟩⟩⟩⟩⟩⟩
theorem itX3_init : ∀ w ∈ wsX3_init, w ∈ lw_tbl := List.forall_mem_cons.mpr ⟨tw_248, List.forall_mem_append.mpr ⟨itX3_init_o, List.forall_mem_append.mpr ⟨itX30, fun _ h => absurd h List.not_mem_nil⟩⟩⟩
set_option maxRecDepth 100000 in
theorem gdX3_init_o : ∀ w ∈ wsX3_init_o, goodWord w = true := gd_o (by decide +kernel)
set_option maxRecDepth 100000 in
theorem gdX3_init : ∀ w ∈ wsX3_init, goodWord w = true := List.forall_mem_cons.mpr ⟨by decide +kernel, List.forall_mem_append.mpr ⟨gdX3_init_o, List.forall_mem_append.mpr ⟨gdX30, fun _ h => absurd h List.not_mem_nil⟩⟩⟩
def wsX3_agreesWithTries_o : List Cond := ([Cond.fieldLink RX3 32 "WrongWord$Gate" "now" "LWrongWord$Moment;", Cond.fieldLink RX3 36 "WrongWord$Moment" "tries" "I", Cond.fieldLink RX3 41 "WrongWord$Moment" "triedGuard" "[I", Cond.fieldLink RX3 44 "WrongWord$Gate" "guards" "I", Cond.fieldLink RX3 47 "WrongWord$Gate" "kinds" "[I", Cond.fieldLink RX3 50 "WrongWord$Moment" "triedWord" "[I", Cond.fieldLink RX3 53 "WrongWord$Moment" "night" "I", Cond.fieldLink RX3 60 "WrongWord$Moment" "triedTaken" "[I", Cond.static yX7_bit, Cond.initialized RX7] : List Cond)
def wsX3_agreesWithTries : List Cond := .code yX3_agreesWithTries cX3_agreesWithTries 6 (some .boolean) :: (wsX3_agreesWithTries_o ++ ((bkV RX3 56 RX2 yX2_wouldTake) ++ (wsX20 ++ (wsX40 ++ (wsX2_wouldTake ++ (wsX7_bit ++ ([] : List Cond)))))))
theorem itX3_agreesWithTries_o : ∀ w ∈ wsX3_agreesWithTries_o, w ∈ lw_tbl := List.forall_mem_cons.mpr ⟨tw_161, List.forall_mem_cons.mpr ⟨tw_130, List.forall_mem_cons.mpr ⟨tw_113, List.forall_mem_cons.mpr ⟨tw_176, List.forall_mem_cons.mpr ⟨tw_154, List.forall_mem_cons.mpr ⟨tw_110, List.forall_mem_cons.mpr ⟨tw_119, List.forall_mem_cons.mpr ⟨tw_116, List.forall_mem_cons.mpr ⟨tw_541, List.forall_mem_cons.mpr ⟨tw_67, fun _ h => absurd h List.not_mem_nil⟩⟩⟩⟩⟩⟩⟩⟩⟩⟩
theorem itX3_agreesWithTries : ∀ w ∈ wsX3_agreesWithTries, w ∈ lw_tbl := List.forall_mem_cons.mpr ⟨tw_639, List.forall_mem_append.mpr ⟨itX3_agreesWithTries_o, List.forall_mem_append.mpr ⟨it_b17, List.forall_mem_append.mpr ⟨itX20, List.forall_mem_append.mpr ⟨itX40, List.forall_mem_append.mpr ⟨itX2_wouldTake, List.forall_mem_append.mpr ⟨itX7_bit, fun _ h => absurd h List.not_mem_nil⟩⟩⟩⟩⟩⟩⟩
set_option maxRecDepth 100000 in
theorem gdX3_agreesWithTries_o : ∀ w ∈ wsX3_agreesWithTries_o, goodWord w = true := gd_o (by decide +kernel)
set_option maxRecDepth 100000 in
theorem gdX3_agreesWithTries : ∀ w ∈ wsX3_agreesWithTries, goodWord w = true := List.forall_mem_cons.mpr ⟨by decide +kernel, List.forall_mem_append.mpr ⟨gdX3_agreesWithTries_o, List.forall_mem_append.mpr ⟨gd_bV _ _ _ _, List.forall_mem_append.mpr ⟨gdX20, List.forall_mem_append.mpr ⟨gdX40, List.forall_mem_append.mpr ⟨gdX2_wouldTake, List.forall_mem_append.mpr ⟨gdX7_bit, fun _ h => absurd h List.not_mem_nil⟩⟩⟩⟩⟩⟩⟩
def wsX3_agreeing_o : List Cond := ([Cond.fieldLink RX3 18 "WrongWord$Gate" "words" "I", Cond.fieldLink RX3 32 "WrongWord$Gate" "now" "LWrongWord$Moment;", Cond.fieldLink RX3 36 "WrongWord$Moment" "tries" "I", Cond.fieldLink RX3 41 "WrongWord$Moment" "triedGuard" "[I", Cond.fieldLink RX3 44 "WrongWord$Gate" "guards" "I", Cond.fieldLink RX3 47 "WrongWord$Gate" "kinds" "[I", Cond.fieldLink RX3 50 "WrongWord$Moment" "triedWord" "[I", Cond.fieldLink RX3 53 "WrongWord$Moment" "night" "I", Cond.fieldLink RX3 60 "WrongWord$Moment" "triedTaken" "[I", Cond.methodLink RX3 56 yX2_wouldTake, Cond.static yX7_bit] : List Cond)
def wsX3_agreeing : List Cond := .code yX3_agreeing cX3_agreeing 3 (some .int) :: (wsX3_agreeing_o ++ ((bkS RX3 24 yX3_agreesWithTries) ++ (wsX20 ++ (wsX40 ++ (wsX3_agreesWithTries ++ (wsX7_bit ++ ([] : List Cond)))))))
theorem itX3_agreeing_o : ∀ w ∈ wsX3_agreeing_o, w ∈ lw_tbl := List.forall_mem_cons.mpr ⟨tw_170, List.forall_mem_cons.mpr ⟨tw_161, List.forall_mem_cons.mpr ⟨tw_130, List.forall_mem_cons.mpr ⟨tw_113, List.forall_mem_cons.mpr ⟨tw_176, List.forall_mem_cons.mpr ⟨tw_154, List.forall_mem_cons.mpr ⟨tw_110, List.forall_mem_cons.mpr ⟨tw_119, List.forall_mem_cons.mpr ⟨tw_116, List.forall_mem_cons.mpr ⟨tw_640, List.forall_mem_cons.mpr ⟨tw_541, fun _ h => absurd h List.not_mem_nil⟩⟩⟩⟩⟩⟩⟩⟩⟩⟩⟩
theorem itX3_agreeing : ∀ w ∈ wsX3_agreeing, w ∈ lw_tbl := List.forall_mem_cons.mpr ⟨tw_636, List.forall_mem_append.mpr ⟨itX3_agreeing_o, List.forall_mem_append.mpr ⟨it_b16, List.forall_mem_append.mpr ⟨itX20, List.forall_mem_append.mpr ⟨itX40, List.forall_mem_append.mpr ⟨itX3_agreesWithTries, List.forall_mem_append.mpr ⟨itX7_bit, fun _ h => absurd h List.not_mem_nil⟩⟩⟩⟩⟩⟩⟩
set_option maxRecDepth 100000 in
theorem gdX3_agreeing_o : ∀ w ∈ wsX3_agreeing_o, goodWord w = true := gd_o (by decide +kernel)
set_option maxRecDepth 100000 in
theorem gdX3_agreeing : ∀ w ∈ wsX3_agreeing, goodWord w = true := List.forall_mem_cons.mpr ⟨by decide +kernel, List.forall_mem_append.mpr ⟨gdX3_agreeing_o, List.forall_mem_append.mpr ⟨gd_bS _ _ _, List.forall_mem_append.mpr ⟨gdX20, List.forall_mem_append.mpr ⟨gdX40, List.forall_mem_append.mpr ⟨gdX3_agreesWithTries, List.forall_mem_append.mpr ⟨gdX7_bit, fun _ h => absurd h List.not_mem_nil⟩⟩⟩⟩⟩⟩⟩
def wsX3_secretsCatching_o : List Cond := ([Cond.fieldLink RX3 18 "WrongWord$Gate" "words" "I", Cond.fieldLink RX3 32 "WrongWord$Gate" "now" "LWrongWord$Moment;", Cond.fieldLink RX3 53 "WrongWord$Moment" "night" "I", Cond.static yX7_bit] : List Cond)
def wsX3_secretsCatching : List Cond := .code yX3_secretsCatching cX3_secretsCatching 5 (some .int) :: (wsX3_secretsCatching_o ++ ((bkV RX3 63 RX2 yX2_catchesIf) ++ (wsX20 ++ (wsX40 ++ (wsX2_catchesIf ++ (wsX7_bit ++ ([] : List Cond)))))))
theorem itX3_secretsCatching_o : ∀ w ∈ wsX3_secretsCatching_o, w ∈ lw_tbl := List.forall_mem_cons.mpr ⟨tw_170, List.forall_mem_cons.mpr ⟨tw_161, List.forall_mem_cons.mpr ⟨tw_119, List.forall_mem_cons.mpr ⟨tw_541, fun _ h => absurd h List.not_mem_nil⟩⟩⟩⟩
theorem itX3_secretsCatching : ∀ w ∈ wsX3_secretsCatching, w ∈ lw_tbl := List.forall_mem_cons.mpr ⟨tw_654, List.forall_mem_append.mpr ⟨itX3_secretsCatching_o, List.forall_mem_append.mpr ⟨it_b18, List.forall_mem_append.mpr ⟨itX20, List.forall_mem_append.mpr ⟨itX40, List.forall_mem_append.mpr ⟨itX2_catchesIf, List.forall_mem_append.mpr ⟨itX7_bit, fun _ h => absurd h List.not_mem_nil⟩⟩⟩⟩⟩⟩⟩
set_option maxRecDepth 100000 in
theorem gdX3_secretsCatching_o : ∀ w ∈ wsX3_secretsCatching_o, goodWord w = true := gd_o (by decide +kernel)
set_option maxRecDepth 100000 in
theorem gdX3_secretsCatching : ∀ w ∈ wsX3_secretsCatching, goodWord w = true := List.forall_mem_cons.mpr ⟨by decide +kernel, List.forall_mem_append.mpr ⟨gdX3_secretsCatching_o, List.forall_mem_append.mpr ⟨gd_bV _ _ _ _, List.forall_mem_append.mpr ⟨gdX20, List.forall_mem_append.mpr ⟨gdX40, List.forall_mem_append.mpr ⟨gdX2_catchesIf, List.forall_mem_append.mpr ⟨gdX7_bit, fun _ h => absurd h List.not_mem_nil⟩⟩⟩⟩⟩⟩⟩
def wsJ6_bitCount_0f7a4_o : List Cond := ([Cond.constant RJ6 265 (1431655765), Cond.constant RJ6 266 (858993459), Cond.constant RJ6 267 (252645135)] : List Cond)
def wsJ6_bitCount_0f7a4 : List Cond := .code yJ6_bitCount_0f7a4 cJ6_bitCount_0f7a4 1 (some .int) :: (wsJ6_bitCount_0f7a4_o ++ ([] : List Cond))
theorem itJ6_bitCount_0f7a4_o : ∀ w ∈ wsJ6_bitCount_0f7a4_o, w ∈ lw_tbl := List.forall_mem_cons.mpr ⟨tw_659, List.forall_mem_cons.mpr ⟨tw_660, List.forall_mem_cons.mpr ⟨tw_661, fun _ h => absurd h List.not_mem_nil⟩⟩⟩
theorem itJ6_bitCount_0f7a4 : ∀ w ∈ wsJ6_bitCount_0f7a4, w ∈ lw_tbl := List.forall_mem_cons.mpr ⟨tw_658, List.forall_mem_append.mpr ⟨itJ6_bitCount_0f7a4_o, fun _ h => absurd h List.not_mem_nil⟩⟩
set_option maxRecDepth 100000 in
theorem gdJ6_bitCount_0f7a4_o : ∀ w ∈ wsJ6_bitCount_0f7a4_o, goodWord w = true := gd_o (by decide +kernel)
set_option maxRecDepth 100000 in
theorem gdJ6_bitCount_0f7a4 : ∀ w ∈ wsJ6_bitCount_0f7a4, goodWord w = true := List.forall_mem_cons.mpr ⟨by decide +kernel, List.forall_mem_append.mpr ⟨gdJ6_bitCount_0f7a4_o, fun _ h => absurd h List.not_mem_nil⟩⟩
def wsX3_leftAtWorst_o : List Cond := ([Cond.methodLink RX3 76 Lib.Math.max.name, Cond.static Lib.Math.max.name, Cond.initialized "java/lang/Math", Cond.code Lib.Math.max.name Lib.Math.max.code 2 (some .int), Cond.fieldLink RX3 18 "WrongWord$Gate" "words" "I", Cond.fieldLink RX3 32 "WrongWord$Gate" "now" "LWrongWord$Moment;", Cond.fieldLink RX3 53 "WrongWord$Moment" "night" "I", Cond.methodLink RX3 63 yX2_catchesIf] : List Cond)
def wsX3_leftAtWorst : List Cond := .code yX3_leftAtWorst cX3_leftAtWorst 4 (some .int) :: (wsX3_leftAtWorst_o ++ ((bkS RX3 66 yX3_secretsCatching) ++ ((bkS RX3 70 yJ6_bitCount_0f7a4) ++ (wsX20 ++ (wsX40 ++ (wsX3_secretsCatching ++ (wsJ6_bitCount_0f7a4 ++ ([] : List Cond))))))))
theorem itX3_leftAtWorst_o : ∀ w ∈ wsX3_leftAtWorst_o, w ∈ lw_tbl := List.forall_mem_cons.mpr ⟨tw_662, List.forall_mem_cons.mpr ⟨tw_663, List.forall_mem_cons.mpr ⟨tw_77, List.forall_mem_cons.mpr ⟨tw_664, List.forall_mem_cons.mpr ⟨tw_170, List.forall_mem_cons.mpr ⟨tw_161, List.forall_mem_cons.mpr ⟨tw_119, List.forall_mem_cons.mpr ⟨tw_655, fun _ h => absurd h List.not_mem_nil⟩⟩⟩⟩⟩⟩⟩⟩
theorem itX3_leftAtWorst : ∀ w ∈ wsX3_leftAtWorst, w ∈ lw_tbl := List.forall_mem_cons.mpr ⟨tw_651, List.forall_mem_append.mpr ⟨itX3_leftAtWorst_o, List.forall_mem_append.mpr ⟨it_b19, List.forall_mem_append.mpr ⟨it_b20, List.forall_mem_append.mpr ⟨itX20, List.forall_mem_append.mpr ⟨itX40, List.forall_mem_append.mpr ⟨itX3_secretsCatching, List.forall_mem_append.mpr ⟨itJ6_bitCount_0f7a4, fun _ h => absurd h List.not_mem_nil⟩⟩⟩⟩⟩⟩⟩⟩
set_option maxRecDepth 100000 in
theorem gdX3_leftAtWorst_o : ∀ w ∈ wsX3_leftAtWorst_o, goodWord w = true := gd_o (by decide +kernel)
set_option maxRecDepth 100000 in
theorem gdX3_leftAtWorst : ∀ w ∈ wsX3_leftAtWorst, goodWord w = true := List.forall_mem_cons.mpr ⟨by decide +kernel, List.forall_mem_append.mpr ⟨gdX3_leftAtWorst_o, List.forall_mem_append.mpr ⟨gd_bS _ _ _, List.forall_mem_append.mpr ⟨gd_bS _ _ _, List.forall_mem_append.mpr ⟨gdX20, List.forall_mem_append.mpr ⟨gdX40, List.forall_mem_append.mpr ⟨gdX3_secretsCatching, List.forall_mem_append.mpr ⟨gdJ6_bitCount_0f7a4, fun _ h => absurd h List.not_mem_nil⟩⟩⟩⟩⟩⟩⟩⟩
def wsX3_bestTry_o : List Cond := ([Cond.fieldLink RX3 18 "WrongWord$Gate" "words" "I", Cond.methodLink RX3 76 Lib.Math.max.name, Cond.methodLink RX3 66 yX3_secretsCatching, Cond.fieldLink RX3 32 "WrongWord$Gate" "now" "LWrongWord$Moment;", Cond.fieldLink RX3 53 "WrongWord$Moment" "night" "I", Cond.methodLink RX3 63 yX2_catchesIf, Cond.methodLink RX3 70 yJ6_bitCount_0f7a4] : List Cond)
def wsX3_bestTry : List Cond := .code yX3_bestTry cX3_bestTry 6 (some .int) :: (wsX3_bestTry_o ++ ((bkS RX3 82 yX3_leftAtWorst) ++ (wsX20 ++ (wsX40 ++ (wsX3_leftAtWorst ++ ([] : List Cond))))))
theorem itX3_bestTry_o : ∀ w ∈ wsX3_bestTry_o, w ∈ lw_tbl := List.forall_mem_cons.mpr ⟨tw_170, List.forall_mem_cons.mpr ⟨tw_662, List.forall_mem_cons.mpr ⟨tw_652, List.forall_mem_cons.mpr ⟨tw_161, List.forall_mem_cons.mpr ⟨tw_119, List.forall_mem_cons.mpr ⟨tw_655, List.forall_mem_cons.mpr ⟨tw_656, fun _ h => absurd h List.not_mem_nil⟩⟩⟩⟩⟩⟩⟩
theorem itX3_bestTry : ∀ w ∈ wsX3_bestTry, w ∈ lw_tbl := List.forall_mem_cons.mpr ⟨tw_648, List.forall_mem_append.mpr ⟨itX3_bestTry_o, List.forall_mem_append.mpr ⟨it_b21, List.forall_mem_append.mpr ⟨itX20, List.forall_mem_append.mpr ⟨itX40, List.forall_mem_append.mpr ⟨itX3_leftAtWorst, fun _ h => absurd h List.not_mem_nil⟩⟩⟩⟩⟩⟩
set_option maxRecDepth 100000 in
theorem gdX3_bestTry_o : ∀ w ∈ wsX3_bestTry_o, goodWord w = true := gd_o (by decide +kernel)
set_option maxRecDepth 100000 in
theorem gdX3_bestTry : ∀ w ∈ wsX3_bestTry, goodWord w = true := List.forall_mem_cons.mpr ⟨by decide +kernel, List.forall_mem_append.mpr ⟨gdX3_bestTry_o, List.forall_mem_append.mpr ⟨gd_bS _ _ _, List.forall_mem_append.mpr ⟨gdX20, List.forall_mem_append.mpr ⟨gdX40, List.forall_mem_append.mpr ⟨gdX3_leftAtWorst, fun _ h => absurd h List.not_mem_nil⟩⟩⟩⟩⟩⟩
def wsX3_menToSplit_o : List Cond := ([Cond.fieldLink RX3 9 "WrongWord$Guesses" "catching" "[I", Cond.fieldLink RX3 15 "WrongWord$Guesses" "menFor" "[I", Cond.methodLink RX3 76 Lib.Math.max.name, Cond.static Lib.Math.max.name, Cond.initialized "java/lang/Math", Cond.code Lib.Math.max.name Lib.Math.max.code 2 (some .int), Cond.methodLink RX3 89 Lib.Math.min.name, Cond.static Lib.Math.min.name, Cond.code Lib.Math.min.name Lib.Math.min.code 2 (some .int)] : List Cond)
def wsX3_menToSplit : List Cond := .code yX3_menToSplit cX3_menToSplit 6 (some .int) :: (wsX3_menToSplit_o ++ (wsX30 ++ ([] : List Cond)))
theorem itX3_menToSplit_o : ∀ w ∈ wsX3_menToSplit_o, w ∈ lw_tbl := List.forall_mem_cons.mpr ⟨tw_250, List.forall_mem_cons.mpr ⟨tw_251, List.forall_mem_cons.mpr ⟨tw_662, List.forall_mem_cons.mpr ⟨tw_663, List.forall_mem_cons.mpr ⟨tw_77, List.forall_mem_cons.mpr ⟨tw_664, List.forall_mem_cons.mpr ⟨tw_678, List.forall_mem_cons.mpr ⟨tw_478, List.forall_mem_cons.mpr ⟨tw_479, fun _ h => absurd h List.not_mem_nil⟩⟩⟩⟩⟩⟩⟩⟩⟩
theorem itX3_menToSplit : ∀ w ∈ wsX3_menToSplit, w ∈ lw_tbl := List.forall_mem_cons.mpr ⟨tw_677, List.forall_mem_append.mpr ⟨itX3_menToSplit_o, List.forall_mem_append.mpr ⟨itX30, fun _ h => absurd h List.not_mem_nil⟩⟩⟩
set_option maxRecDepth 100000 in
theorem gdX3_menToSplit_o : ∀ w ∈ wsX3_menToSplit_o, goodWord w = true := gd_o (by decide +kernel)
set_option maxRecDepth 100000 in
theorem gdX3_menToSplit : ∀ w ∈ wsX3_menToSplit, goodWord w = true := List.forall_mem_cons.mpr ⟨by decide +kernel, List.forall_mem_append.mpr ⟨gdX3_menToSplit_o, List.forall_mem_append.mpr ⟨gdX30, fun _ h => absurd h List.not_mem_nil⟩⟩⟩
def wsX3_fewestMen_o : List Cond := ([Cond.fieldLink RX3 18 "WrongWord$Gate" "words" "I", Cond.fieldLink RX3 9 "WrongWord$Guesses" "catching" "[I", Cond.fieldLink RX3 15 "WrongWord$Guesses" "menFor" "[I", Cond.constant RX3 88 (-1000000), Cond.fieldLink RX3 32 "WrongWord$Gate" "now" "LWrongWord$Moment;", Cond.fieldLink RX3 53 "WrongWord$Moment" "night" "I", Cond.methodLink RX3 63 yX2_catchesIf, Cond.methodLink RX3 76 Lib.Math.max.name, Cond.methodLink RX3 89 Lib.Math.min.name] : List Cond)
def wsX3_fewestMen : List Cond := .code yX3_fewestMen cX3_fewestMen 5 (some .int) :: (wsX3_fewestMen_o ++ ((bkS RX3 66 yX3_secretsCatching) ++ ((bkS RX3 70 yJ6_bitCount_0f7a4) ++ ((bkV RX3 85 RX3 yX3_menToSplit) ++ (wsX20 ++ (wsX30 ++ (wsX40 ++ (wsX3_secretsCatching ++ (wsJ6_bitCount_0f7a4 ++ (wsX3_menToSplit ++ ([] : List Cond)))))))))))
theorem itX3_fewestMen_o : ∀ w ∈ wsX3_fewestMen_o, w ∈ lw_tbl := List.forall_mem_cons.mpr ⟨tw_170, List.forall_mem_cons.mpr ⟨tw_250, List.forall_mem_cons.mpr ⟨tw_251, List.forall_mem_cons.mpr ⟨tw_679, List.forall_mem_cons.mpr ⟨tw_161, List.forall_mem_cons.mpr ⟨tw_119, List.forall_mem_cons.mpr ⟨tw_655, List.forall_mem_cons.mpr ⟨tw_662, List.forall_mem_cons.mpr ⟨tw_678, fun _ h => absurd h List.not_mem_nil⟩⟩⟩⟩⟩⟩⟩⟩⟩
theorem itX3_fewestMen : ∀ w ∈ wsX3_fewestMen, w ∈ lw_tbl := List.forall_mem_cons.mpr ⟨tw_673, List.forall_mem_append.mpr ⟨itX3_fewestMen_o, List.forall_mem_append.mpr ⟨it_b19, List.forall_mem_append.mpr ⟨it_b20, List.forall_mem_append.mpr ⟨it_b22, List.forall_mem_append.mpr ⟨itX20, List.forall_mem_append.mpr ⟨itX30, List.forall_mem_append.mpr ⟨itX40, List.forall_mem_append.mpr ⟨itX3_secretsCatching, List.forall_mem_append.mpr ⟨itJ6_bitCount_0f7a4, List.forall_mem_append.mpr ⟨itX3_menToSplit, fun _ h => absurd h List.not_mem_nil⟩⟩⟩⟩⟩⟩⟩⟩⟩⟩⟩
set_option maxRecDepth 100000 in
theorem gdX3_fewestMen_o : ∀ w ∈ wsX3_fewestMen_o, goodWord w = true := gd_o (by decide +kernel)
set_option maxRecDepth 100000 in
theorem gdX3_fewestMen : ∀ w ∈ wsX3_fewestMen, goodWord w = true := List.forall_mem_cons.mpr ⟨by decide +kernel, List.forall_mem_append.mpr ⟨gdX3_fewestMen_o, List.forall_mem_append.mpr ⟨gd_bS _ _ _, List.forall_mem_append.mpr ⟨gd_bS _ _ _, List.forall_mem_append.mpr ⟨gd_bV _ _ _ _, List.forall_mem_append.mpr ⟨gdX20, List.forall_mem_append.mpr ⟨gdX30, List.forall_mem_append.mpr ⟨gdX40, List.forall_mem_append.mpr ⟨gdX3_secretsCatching, List.forall_mem_append.mpr ⟨gdJ6_bitCount_0f7a4, List.forall_mem_append.mpr ⟨gdX3_menToSplit, fun _ h => absurd h List.not_mem_nil⟩⟩⟩⟩⟩⟩⟩⟩⟩⟩⟩
def wsX4_begin_o : List Cond := ([Cond.fieldLink RX4 24 "WrongWord$Moment" "night" "I", Cond.fieldLink RX4 28 "WrongWord$Moment" "there" "I", Cond.fieldLink RX4 31 "WrongWord$Moment" "tries" "I", Cond.fieldLink RX4 9 "WrongWord$Moment" "took" "[I"] : List Cond)
def wsX4_begin : List Cond := .code yX4_begin cX4_begin 3 none :: (wsX4_begin_o ++ (wsX40 ++ ([] : List Cond)))
theorem itX4_begin_o : ∀ w ∈ wsX4_begin_o, w ∈ lw_tbl := List.forall_mem_cons.mpr ⟨tw_118, List.forall_mem_cons.mpr ⟨tw_126, List.forall_mem_cons.mpr ⟨tw_129, List.forall_mem_cons.mpr ⟨tw_107, fun _ h => absurd h List.not_mem_nil⟩⟩⟩⟩
theorem itX4_begin : ∀ w ∈ wsX4_begin, w ∈ lw_tbl := List.forall_mem_cons.mpr ⟨tw_443, List.forall_mem_append.mpr ⟨itX4_begin_o, List.forall_mem_append.mpr ⟨itX40, fun _ h => absurd h List.not_mem_nil⟩⟩⟩
set_option maxRecDepth 100000 in
theorem gdX4_begin_o : ∀ w ∈ wsX4_begin_o, goodWord w = true := gd_o (by decide +kernel)
set_option maxRecDepth 100000 in
theorem gdX4_begin : ∀ w ∈ wsX4_begin, goodWord w = true := List.forall_mem_cons.mpr ⟨by decide +kernel, List.forall_mem_append.mpr ⟨gdX4_begin_o, List.forall_mem_append.mpr ⟨gdX40, fun _ h => absurd h List.not_mem_nil⟩⟩⟩
def wsX4_goBy_o : List Cond := ([Cond.fieldLink RX4 24 "WrongWord$Moment" "night" "I", Cond.fieldLink RX4 31 "WrongWord$Moment" "tries" "I"] : List Cond)
def wsX4_goBy : List Cond := .code yX4_goBy cX4_goBy 1 none :: (wsX4_goBy_o ++ (wsX40 ++ ([] : List Cond)))
theorem itX4_goBy_o : ∀ w ∈ wsX4_goBy_o, w ∈ lw_tbl := List.forall_mem_cons.mpr ⟨tw_118, List.forall_mem_cons.mpr ⟨tw_129, fun _ h => absurd h List.not_mem_nil⟩⟩
theorem itX4_goBy : ∀ w ∈ wsX4_goBy, w ∈ lw_tbl := List.forall_mem_cons.mpr ⟨tw_483, List.forall_mem_append.mpr ⟨itX4_goBy_o, List.forall_mem_append.mpr ⟨itX40, fun _ h => absurd h List.not_mem_nil⟩⟩⟩
set_option maxRecDepth 100000 in
theorem gdX4_goBy_o : ∀ w ∈ wsX4_goBy_o, goodWord w = true := gd_o (by decide +kernel)
set_option maxRecDepth 100000 in
theorem gdX4_goBy : ∀ w ∈ wsX4_goBy, goodWord w = true := List.forall_mem_cons.mpr ⟨by decide +kernel, List.forall_mem_append.mpr ⟨gdX4_goBy_o, List.forall_mem_append.mpr ⟨gdX40, fun _ h => absurd h List.not_mem_nil⟩⟩⟩
def wsX4_addTry_o : List Cond := ([Cond.fieldLink RX4 31 "WrongWord$Moment" "tries" "I", Cond.fieldLink RX4 15 "WrongWord$Moment" "triedWord" "[I", Cond.fieldLink RX4 18 "WrongWord$Moment" "triedGuard" "[I", Cond.fieldLink RX4 21 "WrongWord$Moment" "triedTaken" "[I", Cond.fieldLink RX4 9 "WrongWord$Moment" "took" "[I", Cond.static yX7_bit, Cond.initialized RX7] : List Cond)
def wsX4_addTry : List Cond := .code yX4_addTry cX4_addTry 4 none :: (wsX4_addTry_o ++ (wsX40 ++ (wsX7_bit ++ ([] : List Cond))))
theorem itX4_addTry_o : ∀ w ∈ wsX4_addTry_o, w ∈ lw_tbl := List.forall_mem_cons.mpr ⟨tw_129, List.forall_mem_cons.mpr ⟨tw_109, List.forall_mem_cons.mpr ⟨tw_112, List.forall_mem_cons.mpr ⟨tw_115, List.forall_mem_cons.mpr ⟨tw_107, List.forall_mem_cons.mpr ⟨tw_541, List.forall_mem_cons.mpr ⟨tw_67, fun _ h => absurd h List.not_mem_nil⟩⟩⟩⟩⟩⟩⟩
theorem itX4_addTry : ∀ w ∈ wsX4_addTry, w ∈ lw_tbl := List.forall_mem_cons.mpr ⟨tw_539, List.forall_mem_append.mpr ⟨itX4_addTry_o, List.forall_mem_append.mpr ⟨itX40, List.forall_mem_append.mpr ⟨itX7_bit, fun _ h => absurd h List.not_mem_nil⟩⟩⟩⟩
set_option maxRecDepth 100000 in
theorem gdX4_addTry_o : ∀ w ∈ wsX4_addTry_o, goodWord w = true := gd_o (by decide +kernel)
set_option maxRecDepth 100000 in
theorem gdX4_addTry : ∀ w ∈ wsX4_addTry, goodWord w = true := List.forall_mem_cons.mpr ⟨by decide +kernel, List.forall_mem_append.mpr ⟨gdX4_addTry_o, List.forall_mem_append.mpr ⟨gdX40, List.forall_mem_append.mpr ⟨gdX7_bit, fun _ h => absurd h List.not_mem_nil⟩⟩⟩⟩
def wsX4_tookInAll_o : List Cond := ([Cond.fieldLink RX4 9 "WrongWord$Moment" "took" "[I"] : List Cond)
def wsX4_tookInAll : List Cond := .code yX4_tookInAll cX4_tookInAll 3 (some .int) :: (wsX4_tookInAll_o ++ (wsX40 ++ ([] : List Cond)))
theorem itX4_tookInAll_o : ∀ w ∈ wsX4_tookInAll_o, w ∈ lw_tbl := List.forall_mem_cons.mpr ⟨tw_107, fun _ h => absurd h List.not_mem_nil⟩
theorem itX4_tookInAll : ∀ w ∈ wsX4_tookInAll, w ∈ lw_tbl := List.forall_mem_cons.mpr ⟨tw_825, List.forall_mem_append.mpr ⟨itX4_tookInAll_o, List.forall_mem_append.mpr ⟨itX40, fun _ h => absurd h List.not_mem_nil⟩⟩⟩
set_option maxRecDepth 100000 in
theorem gdX4_tookInAll_o : ∀ w ∈ wsX4_tookInAll_o, goodWord w = true := gd_o (by decide +kernel)
set_option maxRecDepth 100000 in
theorem gdX4_tookInAll : ∀ w ∈ wsX4_tookInAll, goodWord w = true := List.forall_mem_cons.mpr ⟨by decide +kernel, List.forall_mem_append.mpr ⟨gdX4_tookInAll_o, List.forall_mem_append.mpr ⟨gdX40, fun _ h => absurd h List.not_mem_nil⟩⟩⟩
def wsX5_init_o : List Cond := ([Cond.methodLink RX5 3 objectInit, Cond.instanceMethod objectInit, Cond.code objectInit ⟨#[0xb1]⟩ 1 none, Cond.arrayClass .int, Cond.fieldLink RX5 9 "WrongWord$Row" "items" "[I", Cond.fieldLink RX5 15 "WrongWord$Row" "lane" "I"] : List Cond)
def wsX5_init : List Cond := .code yX5_init cX5_init 1 none :: (wsX5_init_o ++ (wsX50 ++ ([] : List Cond)))
theorem itX5_init_o : ∀ w ∈ wsX5_init_o, w ∈ lw_tbl := List.forall_mem_cons.mpr ⟨tw_288, List.forall_mem_cons.mpr ⟨tw_85, List.forall_mem_cons.mpr ⟨tw_86, List.forall_mem_cons.mpr ⟨tw_149, List.forall_mem_cons.mpr ⟨tw_289, List.forall_mem_cons.mpr ⟨tw_291, fun _ h => absurd h List.not_mem_nil⟩⟩⟩⟩⟩⟩
theorem itX5_init : ∀ w ∈ wsX5_init, w ∈ lw_tbl := List.forall_mem_cons.mpr ⟨tw_287, List.forall_mem_append.mpr ⟨itX5_init_o, List.forall_mem_append.mpr ⟨itX50, fun _ h => absurd h List.not_mem_nil⟩⟩⟩
set_option maxRecDepth 100000 in
theorem gdX5_init_o : ∀ w ∈ wsX5_init_o, goodWord w = true := gd_o (by decide +kernel)
set_option maxRecDepth 100000 in
theorem gdX5_init : ∀ w ∈ wsX5_init, goodWord w = true := List.forall_mem_cons.mpr ⟨by decide +kernel, List.forall_mem_append.mpr ⟨gdX5_init_o, List.forall_mem_append.mpr ⟨gdX50, fun _ h => absurd h List.not_mem_nil⟩⟩⟩
def wsX5_make_o : List Cond := ([Cond.fieldLink RX5 15 "WrongWord$Row" "lane" "I", Cond.fieldLink RX5 19 "WrongWord$Row" "size" "I", Cond.fieldLink RX5 9 "WrongWord$Row" "items" "[I"] : List Cond)
def wsX5_make : List Cond := .code yX5_make cX5_make 4 none :: (wsX5_make_o ++ (wsX50 ++ ([] : List Cond)))
theorem itX5_make_o : ∀ w ∈ wsX5_make_o, w ∈ lw_tbl := List.forall_mem_cons.mpr ⟨tw_291, List.forall_mem_cons.mpr ⟨tw_293, List.forall_mem_cons.mpr ⟨tw_289, fun _ h => absurd h List.not_mem_nil⟩⟩⟩
theorem itX5_make : ∀ w ∈ wsX5_make, w ∈ lw_tbl := List.forall_mem_cons.mpr ⟨tw_347, List.forall_mem_append.mpr ⟨itX5_make_o, List.forall_mem_append.mpr ⟨itX50, fun _ h => absurd h List.not_mem_nil⟩⟩⟩
set_option maxRecDepth 100000 in
theorem gdX5_make_o : ∀ w ∈ wsX5_make_o, goodWord w = true := gd_o (by decide +kernel)
set_option maxRecDepth 100000 in
theorem gdX5_make : ∀ w ∈ wsX5_make, goodWord w = true := List.forall_mem_cons.mpr ⟨by decide +kernel, List.forall_mem_append.mpr ⟨gdX5_make_o, List.forall_mem_append.mpr ⟨gdX50, fun _ h => absurd h List.not_mem_nil⟩⟩⟩
def wsX5_reaches_o : List Cond := ([Cond.fieldLink RX5 19 "WrongWord$Row" "size" "I"] : List Cond)
def wsX5_reaches : List Cond := .code yX5_reaches cX5_reaches 3 (some .boolean) :: (wsX5_reaches_o ++ (wsX50 ++ ([] : List Cond)))
theorem itX5_reaches_o : ∀ w ∈ wsX5_reaches_o, w ∈ lw_tbl := List.forall_mem_cons.mpr ⟨tw_293, fun _ h => absurd h List.not_mem_nil⟩
theorem itX5_reaches : ∀ w ∈ wsX5_reaches, w ∈ lw_tbl := List.forall_mem_cons.mpr ⟨tw_363, List.forall_mem_append.mpr ⟨itX5_reaches_o, List.forall_mem_append.mpr ⟨itX50, fun _ h => absurd h List.not_mem_nil⟩⟩⟩
set_option maxRecDepth 100000 in
theorem gdX5_reaches_o : ∀ w ∈ wsX5_reaches_o, goodWord w = true := gd_o (by decide +kernel)
set_option maxRecDepth 100000 in
theorem gdX5_reaches : ∀ w ∈ wsX5_reaches, goodWord w = true := List.forall_mem_cons.mpr ⟨by decide +kernel, List.forall_mem_append.mpr ⟨gdX5_reaches_o, List.forall_mem_append.mpr ⟨gdX50, fun _ h => absurd h List.not_mem_nil⟩⟩⟩
def wsX5_findingOf_o : List Cond := ([Cond.fieldLink RX5 15 "WrongWord$Row" "lane" "I", Cond.fieldLink RX5 19 "WrongWord$Row" "size" "I"] : List Cond)
def wsX5_findingOf : List Cond := .code yX5_findingOf cX5_findingOf 3 (some .int) :: (wsX5_findingOf_o ++ ((bkV RX5 22 RX5 yX5_reaches) ++ (wsX50 ++ (wsX5_reaches ++ ([] : List Cond)))))
theorem itX5_findingOf_o : ∀ w ∈ wsX5_findingOf_o, w ∈ lw_tbl := List.forall_mem_cons.mpr ⟨tw_291, List.forall_mem_cons.mpr ⟨tw_293, fun _ h => absurd h List.not_mem_nil⟩⟩
theorem itX5_findingOf : ∀ w ∈ wsX5_findingOf, w ∈ lw_tbl := List.forall_mem_cons.mpr ⟨tw_359, List.forall_mem_append.mpr ⟨itX5_findingOf_o, List.forall_mem_append.mpr ⟨it_b23, List.forall_mem_append.mpr ⟨itX50, List.forall_mem_append.mpr ⟨itX5_reaches, fun _ h => absurd h List.not_mem_nil⟩⟩⟩⟩⟩
set_option maxRecDepth 100000 in
theorem gdX5_findingOf_o : ∀ w ∈ wsX5_findingOf_o, goodWord w = true := gd_o (by decide +kernel)
set_option maxRecDepth 100000 in
theorem gdX5_findingOf : ∀ w ∈ wsX5_findingOf, goodWord w = true := List.forall_mem_cons.mpr ⟨by decide +kernel, List.forall_mem_append.mpr ⟨gdX5_findingOf_o, List.forall_mem_append.mpr ⟨gd_bV _ _ _ _, List.forall_mem_append.mpr ⟨gdX50, List.forall_mem_append.mpr ⟨gdX5_reaches, fun _ h => absurd h List.not_mem_nil⟩⟩⟩⟩⟩
def wsX5_put_o : List Cond := ([Cond.fieldLink RX5 9 "WrongWord$Row" "items" "[I", Cond.fieldLink RX5 15 "WrongWord$Row" "lane" "I"] : List Cond)
def wsX5_put : List Cond := .code yX5_put cX5_put 3 (some .int) :: (wsX5_put_o ++ (wsX50 ++ ([] : List Cond)))
theorem itX5_put_o : ∀ w ∈ wsX5_put_o, w ∈ lw_tbl := List.forall_mem_cons.mpr ⟨tw_289, List.forall_mem_cons.mpr ⟨tw_291, fun _ h => absurd h List.not_mem_nil⟩⟩
theorem itX5_put : ∀ w ∈ wsX5_put, w ∈ lw_tbl := List.forall_mem_cons.mpr ⟨tw_367, List.forall_mem_append.mpr ⟨itX5_put_o, List.forall_mem_append.mpr ⟨itX50, fun _ h => absurd h List.not_mem_nil⟩⟩⟩
set_option maxRecDepth 100000 in
theorem gdX5_put_o : ∀ w ∈ wsX5_put_o, goodWord w = true := gd_o (by decide +kernel)
set_option maxRecDepth 100000 in
theorem gdX5_put : ∀ w ∈ wsX5_put, goodWord w = true := List.forall_mem_cons.mpr ⟨by decide +kernel, List.forall_mem_append.mpr ⟨gdX5_put_o, List.forall_mem_append.mpr ⟨gdX50, fun _ h => absurd h List.not_mem_nil⟩⟩⟩
def wsX6_init_o : List Cond := ([Cond.methodLink RX6 3 objectInit, Cond.fieldLink RX6 9 "WrongWord$Tape" "bytes" "[I", Cond.classLink RX6 15 RX2, Cond.instantiable RX2 8, Cond.initialized RX2, Cond.fieldLink RX6 18 "WrongWord$Tape" "draft" "LWrongWord$Gate;", Cond.instanceMethod yX2_init] : List Cond)
def wsX6_init : List Cond := .code yX6_init cX6_init 1 none :: (wsX6_init_o ++ (wsX60 ++ (wsX20 ++ (wsX40 ++ (wsX2_init ++ ([] : List Cond))))))
theorem itX6_init_o : ∀ w ∈ wsX6_init_o, w ∈ lw_tbl := List.forall_mem_cons.mpr ⟨tw_94, List.forall_mem_cons.mpr ⟨tw_195, List.forall_mem_cons.mpr ⟨tw_95, List.forall_mem_cons.mpr ⟨tw_96, List.forall_mem_cons.mpr ⟨tw_69, List.forall_mem_cons.mpr ⟨tw_196, List.forall_mem_cons.mpr ⟨tw_98, fun _ h => absurd h List.not_mem_nil⟩⟩⟩⟩⟩⟩⟩
theorem itX6_init : ∀ w ∈ wsX6_init, w ∈ lw_tbl := List.forall_mem_cons.mpr ⟨tw_93, List.forall_mem_append.mpr ⟨itX6_init_o, List.forall_mem_append.mpr ⟨itX60, List.forall_mem_append.mpr ⟨itX20, List.forall_mem_append.mpr ⟨itX40, List.forall_mem_append.mpr ⟨itX2_init, fun _ h => absurd h List.not_mem_nil⟩⟩⟩⟩⟩⟩
set_option maxRecDepth 100000 in
theorem gdX6_init_o : ∀ w ∈ wsX6_init_o, goodWord w = true := gd_o (by decide +kernel)
set_option maxRecDepth 100000 in
theorem gdX6_init : ∀ w ∈ wsX6_init, goodWord w = true := List.forall_mem_cons.mpr ⟨by decide +kernel, List.forall_mem_append.mpr ⟨gdX6_init_o, List.forall_mem_append.mpr ⟨gdX60, List.forall_mem_append.mpr ⟨gdX20, List.forall_mem_append.mpr ⟨gdX40, List.forall_mem_append.mpr ⟨gdX2_init, fun _ h => absurd h List.not_mem_nil⟩⟩⟩⟩⟩⟩
def wsX6_append_o : List Cond := ([Cond.fieldLink RX6 22 "WrongWord$Tape" "length" "I", Cond.fieldLink RX6 9 "WrongWord$Tape" "bytes" "[I"] : List Cond)
def wsX6_append : List Cond := .code yX6_append cX6_append 2 (some .boolean) :: (wsX6_append_o ++ (wsX60 ++ ([] : List Cond)))
theorem itX6_append_o : ∀ w ∈ wsX6_append_o, w ∈ lw_tbl := List.forall_mem_cons.mpr ⟨tw_198, List.forall_mem_cons.mpr ⟨tw_195, fun _ h => absurd h List.not_mem_nil⟩⟩
theorem itX6_append : ∀ w ∈ wsX6_append, w ∈ lw_tbl := List.forall_mem_cons.mpr ⟨tw_387, List.forall_mem_append.mpr ⟨itX6_append_o, List.forall_mem_append.mpr ⟨itX60, fun _ h => absurd h List.not_mem_nil⟩⟩⟩
set_option maxRecDepth 100000 in
theorem gdX6_append_o : ∀ w ∈ wsX6_append_o, goodWord w = true := gd_o (by decide +kernel)
set_option maxRecDepth 100000 in
theorem gdX6_append : ∀ w ∈ wsX6_append, goodWord w = true := List.forall_mem_cons.mpr ⟨by decide +kernel, List.forall_mem_append.mpr ⟨gdX6_append_o, List.forall_mem_append.mpr ⟨gdX60, fun _ h => absurd h List.not_mem_nil⟩⟩⟩
def wsX6_here_o : List Cond := ([Cond.fieldLink RX6 26 "WrongWord$Tape" "at" "I", Cond.fieldLink RX6 22 "WrongWord$Tape" "length" "I", Cond.fieldLink RX6 9 "WrongWord$Tape" "bytes" "[I"] : List Cond)
def wsX6_here : List Cond := .code yX6_here cX6_here 1 (some .int) :: (wsX6_here_o ++ (wsX60 ++ ([] : List Cond)))
theorem itX6_here_o : ∀ w ∈ wsX6_here_o, w ∈ lw_tbl := List.forall_mem_cons.mpr ⟨tw_204, List.forall_mem_cons.mpr ⟨tw_198, List.forall_mem_cons.mpr ⟨tw_195, fun _ h => absurd h List.not_mem_nil⟩⟩⟩
theorem itX6_here : ∀ w ∈ wsX6_here, w ∈ lw_tbl := List.forall_mem_cons.mpr ⟨tw_408, List.forall_mem_append.mpr ⟨itX6_here_o, List.forall_mem_append.mpr ⟨itX60, fun _ h => absurd h List.not_mem_nil⟩⟩⟩
set_option maxRecDepth 100000 in
theorem gdX6_here_o : ∀ w ∈ wsX6_here_o, goodWord w = true := gd_o (by decide +kernel)
set_option maxRecDepth 100000 in
theorem gdX6_here : ∀ w ∈ wsX6_here, goodWord w = true := List.forall_mem_cons.mpr ⟨by decide +kernel, List.forall_mem_append.mpr ⟨gdX6_here_o, List.forall_mem_append.mpr ⟨gdX60, fun _ h => absurd h List.not_mem_nil⟩⟩⟩
def wsX6_faulty_o : List Cond := ([Cond.fieldLink RX6 105 "WrongWord$Tape" "fault" "I", Cond.fieldLink RX6 26 "WrongWord$Tape" "at" "I", Cond.fieldLink RX6 108 "WrongWord$Tape" "place" "I"] : List Cond)
def wsX6_faulty : List Cond := .code yX6_faulty cX6_faulty 2 (some .boolean) :: (wsX6_faulty_o ++ (wsX60 ++ ([] : List Cond)))
theorem itX6_faulty_o : ∀ w ∈ wsX6_faulty_o, w ∈ lw_tbl := List.forall_mem_cons.mpr ⟨tw_201, List.forall_mem_cons.mpr ⟨tw_204, List.forall_mem_cons.mpr ⟨tw_203, fun _ h => absurd h List.not_mem_nil⟩⟩⟩
theorem itX6_faulty : ∀ w ∈ wsX6_faulty, w ∈ lw_tbl := List.forall_mem_cons.mpr ⟨tw_412, List.forall_mem_append.mpr ⟨itX6_faulty_o, List.forall_mem_append.mpr ⟨itX60, fun _ h => absurd h List.not_mem_nil⟩⟩⟩
set_option maxRecDepth 100000 in
theorem gdX6_faulty_o : ∀ w ∈ wsX6_faulty_o, goodWord w = true := gd_o (by decide +kernel)
set_option maxRecDepth 100000 in
theorem gdX6_faulty : ∀ w ∈ wsX6_faulty, goodWord w = true := List.forall_mem_cons.mpr ⟨by decide +kernel, List.forall_mem_append.mpr ⟨gdX6_faulty_o, List.forall_mem_append.mpr ⟨gdX60, fun _ h => absurd h List.not_mem_nil⟩⟩⟩
def wsX6_readSign_o : List Cond := ([Cond.fieldLink RX6 26 "WrongWord$Tape" "at" "I", Cond.fieldLink RX6 22 "WrongWord$Tape" "length" "I", Cond.fieldLink RX6 9 "WrongWord$Tape" "bytes" "[I", Cond.fieldLink RX6 105 "WrongWord$Tape" "fault" "I", Cond.fieldLink RX6 108 "WrongWord$Tape" "place" "I"] : List Cond)
def wsX6_readSign : List Cond := .code yX6_readSign cX6_readSign 2 (some .boolean) :: (wsX6_readSign_o ++ ((bkV RX6 42 RX6 yX6_here) ++ ((bkV RX6 78 RX6 yX6_faulty) ++ (wsX60 ++ (wsX6_here ++ (wsX6_faulty ++ ([] : List Cond)))))))
theorem itX6_readSign_o : ∀ w ∈ wsX6_readSign_o, w ∈ lw_tbl := List.forall_mem_cons.mpr ⟨tw_204, List.forall_mem_cons.mpr ⟨tw_198, List.forall_mem_cons.mpr ⟨tw_195, List.forall_mem_cons.mpr ⟨tw_201, List.forall_mem_cons.mpr ⟨tw_203, fun _ h => absurd h List.not_mem_nil⟩⟩⟩⟩⟩
theorem itX6_readSign : ∀ w ∈ wsX6_readSign, w ∈ lw_tbl := List.forall_mem_cons.mpr ⟨tw_404, List.forall_mem_append.mpr ⟨itX6_readSign_o, List.forall_mem_append.mpr ⟨it_b26, List.forall_mem_append.mpr ⟨it_b31, List.forall_mem_append.mpr ⟨itX60, List.forall_mem_append.mpr ⟨itX6_here, List.forall_mem_append.mpr ⟨itX6_faulty, fun _ h => absurd h List.not_mem_nil⟩⟩⟩⟩⟩⟩⟩
set_option maxRecDepth 100000 in
theorem gdX6_readSign_o : ∀ w ∈ wsX6_readSign_o, goodWord w = true := gd_o (by decide +kernel)
set_option maxRecDepth 100000 in
theorem gdX6_readSign : ∀ w ∈ wsX6_readSign, goodWord w = true := List.forall_mem_cons.mpr ⟨by decide +kernel, List.forall_mem_append.mpr ⟨gdX6_readSign_o, List.forall_mem_append.mpr ⟨gd_bV _ _ _ _, List.forall_mem_append.mpr ⟨gd_bV _ _ _ _, List.forall_mem_append.mpr ⟨gdX60, List.forall_mem_append.mpr ⟨gdX6_here, List.forall_mem_append.mpr ⟨gdX6_faulty, fun _ h => absurd h List.not_mem_nil⟩⟩⟩⟩⟩⟩⟩
def wsX6_isFigure_o : List Cond := ([] : List Cond)
def wsX6_isFigure : List Cond := .code yX6_isFigure cX6_isFigure 1 (some .boolean) :: (wsX6_isFigure_o ++ ([] : List Cond))
theorem itX6_isFigure_o : ∀ w ∈ wsX6_isFigure_o, w ∈ lw_tbl := fun _ h => absurd h List.not_mem_nil
theorem itX6_isFigure : ∀ w ∈ wsX6_isFigure, w ∈ lw_tbl := List.forall_mem_cons.mpr ⟨tw_419, List.forall_mem_append.mpr ⟨itX6_isFigure_o, fun _ h => absurd h List.not_mem_nil⟩⟩
set_option maxRecDepth 100000 in
theorem gdX6_isFigure_o : ∀ w ∈ wsX6_isFigure_o, goodWord w = true := gd_o (by decide +kernel)
set_option maxRecDepth 100000 in
theorem gdX6_isFigure : ∀ w ∈ wsX6_isFigure, goodWord w = true := List.forall_mem_cons.mpr ⟨by decide +kernel, List.forall_mem_append.mpr ⟨gdX6_isFigure_o, fun _ h => absurd h List.not_mem_nil⟩⟩
def wsX6_readNumber_o : List Cond := ([Cond.fieldLink RX6 66 "WrongWord$Tape" "value" "I", Cond.fieldLink RX6 26 "WrongWord$Tape" "at" "I", Cond.fieldLink RX6 22 "WrongWord$Tape" "length" "I", Cond.fieldLink RX6 9 "WrongWord$Tape" "bytes" "[I", Cond.fieldLink RX6 105 "WrongWord$Tape" "fault" "I", Cond.fieldLink RX6 108 "WrongWord$Tape" "place" "I"] : List Cond)
def wsX6_readNumber : List Cond := .code yX6_readNumber cX6_readNumber 4 (some .boolean) :: (wsX6_readNumber_o ++ ((bkS RX6 102 yX6_isFigure) ++ ((bkV RX6 78 RX6 yX6_faulty) ++ (wsX60 ++ (wsX6_isFigure ++ (wsX6_faulty ++ ([] : List Cond)))))))
theorem itX6_readNumber_o : ∀ w ∈ wsX6_readNumber_o, w ∈ lw_tbl := List.forall_mem_cons.mpr ⟨tw_205, List.forall_mem_cons.mpr ⟨tw_204, List.forall_mem_cons.mpr ⟨tw_198, List.forall_mem_cons.mpr ⟨tw_195, List.forall_mem_cons.mpr ⟨tw_201, List.forall_mem_cons.mpr ⟨tw_203, fun _ h => absurd h List.not_mem_nil⟩⟩⟩⟩⟩⟩
theorem itX6_readNumber : ∀ w ∈ wsX6_readNumber, w ∈ lw_tbl := List.forall_mem_cons.mpr ⟨tw_416, List.forall_mem_append.mpr ⟨itX6_readNumber_o, List.forall_mem_append.mpr ⟨it_b35, List.forall_mem_append.mpr ⟨it_b31, List.forall_mem_append.mpr ⟨itX60, List.forall_mem_append.mpr ⟨itX6_isFigure, List.forall_mem_append.mpr ⟨itX6_faulty, fun _ h => absurd h List.not_mem_nil⟩⟩⟩⟩⟩⟩⟩
set_option maxRecDepth 100000 in
theorem gdX6_readNumber_o : ∀ w ∈ wsX6_readNumber_o, goodWord w = true := gd_o (by decide +kernel)
set_option maxRecDepth 100000 in
theorem gdX6_readNumber : ∀ w ∈ wsX6_readNumber, goodWord w = true := List.forall_mem_cons.mpr ⟨by decide +kernel, List.forall_mem_append.mpr ⟨gdX6_readNumber_o, List.forall_mem_append.mpr ⟨gd_bS _ _ _, List.forall_mem_append.mpr ⟨gd_bV _ _ _ _, List.forall_mem_append.mpr ⟨gdX60, List.forall_mem_append.mpr ⟨gdX6_isFigure, List.forall_mem_append.mpr ⟨gdX6_faulty, fun _ h => absurd h List.not_mem_nil⟩⟩⟩⟩⟩⟩⟩
def wsX6_readLaw_o : List Cond := ([Cond.fieldLink RX6 18 "WrongWord$Tape" "draft" "LWrongWord$Gate;", Cond.fieldLink RX6 49 "WrongWord$Gate" "now" "LWrongWord$Moment;", Cond.fieldLink RX6 66 "WrongWord$Tape" "value" "I", Cond.fieldLink RX6 69 "WrongWord$Moment" "start" "I", Cond.fieldLink RX6 72 "WrongWord$Gate" "step" "I", Cond.fieldLink RX6 75 "WrongWord$Gate" "shrove" "I", Cond.fieldLink RX6 26 "WrongWord$Tape" "at" "I", Cond.methodLink RX6 42 yX6_here, Cond.selects RX6 yX6_here yX6_here, Cond.fieldLink RX6 22 "WrongWord$Tape" "length" "I", Cond.fieldLink RX6 9 "WrongWord$Tape" "bytes" "[I", Cond.methodLink RX6 78 yX6_faulty, Cond.selects RX6 yX6_faulty yX6_faulty, Cond.fieldLink RX6 105 "WrongWord$Tape" "fault" "I", Cond.fieldLink RX6 108 "WrongWord$Tape" "place" "I", Cond.methodLink RX6 102 yX6_isFigure] : List Cond)
def wsX6_readLaw : List Cond := .code yX6_readLaw cX6_readLaw 1 (some .boolean) :: (wsX6_readLaw_o ++ ((bkV RX6 59 RX6 yX6_readSign) ++ ((bkV RX6 63 RX6 yX6_readNumber) ++ (wsX60 ++ (wsX20 ++ (wsX40 ++ (wsX6_readSign ++ (wsX6_readNumber ++ ([] : List Cond)))))))))
theorem itX6_readLaw_o : ∀ w ∈ wsX6_readLaw_o, w ∈ lw_tbl := List.forall_mem_cons.mpr ⟨tw_196, List.forall_mem_cons.mpr ⟨tw_162, List.forall_mem_cons.mpr ⟨tw_205, List.forall_mem_cons.mpr ⟨tw_124, List.forall_mem_cons.mpr ⟨tw_165, List.forall_mem_cons.mpr ⟨tw_168, List.forall_mem_cons.mpr ⟨tw_204, List.forall_mem_cons.mpr ⟨tw_405, List.forall_mem_cons.mpr ⟨tw_5, List.forall_mem_cons.mpr ⟨tw_198, List.forall_mem_cons.mpr ⟨tw_195, List.forall_mem_cons.mpr ⟨tw_409, List.forall_mem_cons.mpr ⟨tw_6, List.forall_mem_cons.mpr ⟨tw_201, List.forall_mem_cons.mpr ⟨tw_203, List.forall_mem_cons.mpr ⟨tw_417, fun _ h => absurd h List.not_mem_nil⟩⟩⟩⟩⟩⟩⟩⟩⟩⟩⟩⟩⟩⟩⟩⟩
theorem itX6_readLaw : ∀ w ∈ wsX6_readLaw, w ∈ lw_tbl := List.forall_mem_cons.mpr ⟨tw_400, List.forall_mem_append.mpr ⟨itX6_readLaw_o, List.forall_mem_append.mpr ⟨it_b29, List.forall_mem_append.mpr ⟨it_b30, List.forall_mem_append.mpr ⟨itX60, List.forall_mem_append.mpr ⟨itX20, List.forall_mem_append.mpr ⟨itX40, List.forall_mem_append.mpr ⟨itX6_readSign, List.forall_mem_append.mpr ⟨itX6_readNumber, fun _ h => absurd h List.not_mem_nil⟩⟩⟩⟩⟩⟩⟩⟩⟩
set_option maxRecDepth 100000 in
theorem gdX6_readLaw_o : ∀ w ∈ wsX6_readLaw_o, goodWord w = true := gd_o (by decide +kernel)
set_option maxRecDepth 100000 in
theorem gdX6_readLaw : ∀ w ∈ wsX6_readLaw, goodWord w = true := List.forall_mem_cons.mpr ⟨by decide +kernel, List.forall_mem_append.mpr ⟨gdX6_readLaw_o, List.forall_mem_append.mpr ⟨gd_bV _ _ _ _, List.forall_mem_append.mpr ⟨gd_bV _ _ _ _, List.forall_mem_append.mpr ⟨gdX60, List.forall_mem_append.mpr ⟨gdX20, List.forall_mem_append.mpr ⟨gdX40, List.forall_mem_append.mpr ⟨gdX6_readSign, List.forall_mem_append.mpr ⟨gdX6_readNumber, fun _ h => absurd h List.not_mem_nil⟩⟩⟩⟩⟩⟩⟩⟩⟩
def wsX6_wasTold_o : List Cond := ([Cond.fieldLink RX6 18 "WrongWord$Tape" "draft" "LWrongWord$Gate;"] : List Cond)
def wsX6_wasTold : List Cond := .code yX6_wasTold cX6_wasTold 3 (some .boolean) :: (wsX6_wasTold_o ++ ((bkV RX6 87 RX2 yX2_distance) ++ (wsX60 ++ (wsX20 ++ (wsX2_distance ++ ([] : List Cond))))))
theorem itX6_wasTold_o : ∀ w ∈ wsX6_wasTold_o, w ∈ lw_tbl := List.forall_mem_cons.mpr ⟨tw_196, fun _ h => absurd h List.not_mem_nil⟩
theorem itX6_wasTold : ∀ w ∈ wsX6_wasTold, w ∈ lw_tbl := List.forall_mem_cons.mpr ⟨tw_427, List.forall_mem_append.mpr ⟨itX6_wasTold_o, List.forall_mem_append.mpr ⟨it_b33, List.forall_mem_append.mpr ⟨itX60, List.forall_mem_append.mpr ⟨itX20, List.forall_mem_append.mpr ⟨itX2_distance, fun _ h => absurd h List.not_mem_nil⟩⟩⟩⟩⟩⟩
set_option maxRecDepth 100000 in
theorem gdX6_wasTold_o : ∀ w ∈ wsX6_wasTold_o, goodWord w = true := gd_o (by decide +kernel)
set_option maxRecDepth 100000 in
theorem gdX6_wasTold : ∀ w ∈ wsX6_wasTold, goodWord w = true := List.forall_mem_cons.mpr ⟨by decide +kernel, List.forall_mem_append.mpr ⟨gdX6_wasTold_o, List.forall_mem_append.mpr ⟨gd_bV _ _ _ _, List.forall_mem_append.mpr ⟨gdX60, List.forall_mem_append.mpr ⟨gdX20, List.forall_mem_append.mpr ⟨gdX2_distance, fun _ h => absurd h List.not_mem_nil⟩⟩⟩⟩⟩⟩
def wsX6_readWord_o : List Cond := ([Cond.fieldLink RX6 18 "WrongWord$Tape" "draft" "LWrongWord$Gate;", Cond.fieldLink RX6 29 "WrongWord$Gate" "words" "I", Cond.fieldLink RX6 81 "WrongWord$Gate" "letters" "[I", Cond.fieldLink RX6 26 "WrongWord$Tape" "at" "I", Cond.fieldLink RX6 22 "WrongWord$Tape" "length" "I", Cond.fieldLink RX6 9 "WrongWord$Tape" "bytes" "[I", Cond.fieldLink RX6 105 "WrongWord$Tape" "fault" "I", Cond.fieldLink RX6 108 "WrongWord$Tape" "place" "I", Cond.methodLink RX6 87 yX2_distance] : List Cond)
def wsX6_readWord : List Cond := .code yX6_readWord cX6_readWord 3 (some .boolean) :: (wsX6_readWord_o ++ ((bkV RX6 42 RX6 yX6_here) ++ ((bkV RX6 78 RX6 yX6_faulty) ++ ((bkV RX6 59 RX6 yX6_readSign) ++ ((bkV RX6 84 RX6 yX6_wasTold) ++ (wsX60 ++ (wsX20 ++ (wsX6_here ++ (wsX6_faulty ++ (wsX6_readSign ++ (wsX6_wasTold ++ ([] : List Cond))))))))))))
theorem itX6_readWord_o : ∀ w ∈ wsX6_readWord_o, w ∈ lw_tbl := List.forall_mem_cons.mpr ⟨tw_196, List.forall_mem_cons.mpr ⟨tw_172, List.forall_mem_cons.mpr ⟨tw_151, List.forall_mem_cons.mpr ⟨tw_204, List.forall_mem_cons.mpr ⟨tw_198, List.forall_mem_cons.mpr ⟨tw_195, List.forall_mem_cons.mpr ⟨tw_201, List.forall_mem_cons.mpr ⟨tw_203, List.forall_mem_cons.mpr ⟨tw_428, fun _ h => absurd h List.not_mem_nil⟩⟩⟩⟩⟩⟩⟩⟩⟩
theorem itX6_readWord : ∀ w ∈ wsX6_readWord, w ∈ lw_tbl := List.forall_mem_cons.mpr ⟨tw_423, List.forall_mem_append.mpr ⟨itX6_readWord_o, List.forall_mem_append.mpr ⟨it_b26, List.forall_mem_append.mpr ⟨it_b31, List.forall_mem_append.mpr ⟨it_b29, List.forall_mem_append.mpr ⟨it_b32, List.forall_mem_append.mpr ⟨itX60, List.forall_mem_append.mpr ⟨itX20, List.forall_mem_append.mpr ⟨itX6_here, List.forall_mem_append.mpr ⟨itX6_faulty, List.forall_mem_append.mpr ⟨itX6_readSign, List.forall_mem_append.mpr ⟨itX6_wasTold, fun _ h => absurd h List.not_mem_nil⟩⟩⟩⟩⟩⟩⟩⟩⟩⟩⟩⟩
set_option maxRecDepth 100000 in
theorem gdX6_readWord_o : ∀ w ∈ wsX6_readWord_o, goodWord w = true := gd_o (by decide +kernel)
set_option maxRecDepth 100000 in
theorem gdX6_readWord : ∀ w ∈ wsX6_readWord, goodWord w = true := List.forall_mem_cons.mpr ⟨by decide +kernel, List.forall_mem_append.mpr ⟨gdX6_readWord_o, List.forall_mem_append.mpr ⟨gd_bV _ _ _ _, List.forall_mem_append.mpr ⟨gd_bV _ _ _ _, List.forall_mem_append.mpr ⟨gd_bV _ _ _ _, List.forall_mem_append.mpr ⟨gd_bV _ _ _ _, List.forall_mem_append.mpr ⟨gdX60, List.forall_mem_append.mpr ⟨gdX20, List.forall_mem_append.mpr ⟨gdX6_here, List.forall_mem_append.mpr ⟨gdX6_faulty, List.forall_mem_append.mpr ⟨gdX6_readSign, List.forall_mem_append.mpr ⟨gdX6_wasTold, fun _ h => absurd h List.not_mem_nil⟩⟩⟩⟩⟩⟩⟩⟩⟩⟩⟩⟩
def wsX6_kindOf_o : List Cond := ([Cond.constant RX6 95 (-1000000)] : List Cond)
def wsX6_kindOf : List Cond := .code yX6_kindOf cX6_kindOf 1 (some .int) :: (wsX6_kindOf_o ++ ([] : List Cond))
theorem itX6_kindOf_o : ∀ w ∈ wsX6_kindOf_o, w ∈ lw_tbl := List.forall_mem_cons.mpr ⟨tw_439, fun _ h => absurd h List.not_mem_nil⟩
theorem itX6_kindOf : ∀ w ∈ wsX6_kindOf, w ∈ lw_tbl := List.forall_mem_cons.mpr ⟨tw_438, List.forall_mem_append.mpr ⟨itX6_kindOf_o, fun _ h => absurd h List.not_mem_nil⟩⟩
set_option maxRecDepth 100000 in
theorem gdX6_kindOf_o : ∀ w ∈ wsX6_kindOf_o, goodWord w = true := gd_o (by decide +kernel)
set_option maxRecDepth 100000 in
theorem gdX6_kindOf : ∀ w ∈ wsX6_kindOf, goodWord w = true := List.forall_mem_cons.mpr ⟨by decide +kernel, List.forall_mem_append.mpr ⟨gdX6_kindOf_o, fun _ h => absurd h List.not_mem_nil⟩⟩
def wsX6_readGuard_o : List Cond := ([Cond.constant RX6 95 (-1000000), Cond.fieldLink RX6 18 "WrongWord$Tape" "draft" "LWrongWord$Gate;", Cond.fieldLink RX6 32 "WrongWord$Gate" "guards" "I", Cond.fieldLink RX6 26 "WrongWord$Tape" "at" "I", Cond.fieldLink RX6 96 "WrongWord$Gate" "kinds" "[I", Cond.fieldLink RX6 99 "WrongWord$Gate" "fees" "[I", Cond.fieldLink RX6 66 "WrongWord$Tape" "value" "I", Cond.fieldLink RX6 22 "WrongWord$Tape" "length" "I", Cond.fieldLink RX6 9 "WrongWord$Tape" "bytes" "[I", Cond.fieldLink RX6 105 "WrongWord$Tape" "fault" "I", Cond.fieldLink RX6 108 "WrongWord$Tape" "place" "I", Cond.methodLink RX6 102 yX6_isFigure] : List Cond)
def wsX6_readGuard : List Cond := .code yX6_readGuard cX6_readGuard 2 (some .boolean) :: (wsX6_readGuard_o ++ ((bkV RX6 42 RX6 yX6_here) ++ ((bkS RX6 91 yX6_kindOf) ++ ((bkV RX6 78 RX6 yX6_faulty) ++ ((bkV RX6 63 RX6 yX6_readNumber) ++ ((bkV RX6 59 RX6 yX6_readSign) ++ (wsX60 ++ (wsX20 ++ (wsX6_here ++ (wsX6_kindOf ++ (wsX6_faulty ++ (wsX6_readNumber ++ (wsX6_readSign ++ ([] : List Cond))))))))))))))
theorem itX6_readGuard_o : ∀ w ∈ wsX6_readGuard_o, w ∈ lw_tbl := List.forall_mem_cons.mpr ⟨tw_439, List.forall_mem_cons.mpr ⟨tw_196, List.forall_mem_cons.mpr ⟨tw_175, List.forall_mem_cons.mpr ⟨tw_204, List.forall_mem_cons.mpr ⟨tw_155, List.forall_mem_cons.mpr ⟨tw_158, List.forall_mem_cons.mpr ⟨tw_205, List.forall_mem_cons.mpr ⟨tw_198, List.forall_mem_cons.mpr ⟨tw_195, List.forall_mem_cons.mpr ⟨tw_201, List.forall_mem_cons.mpr ⟨tw_203, List.forall_mem_cons.mpr ⟨tw_417, fun _ h => absurd h List.not_mem_nil⟩⟩⟩⟩⟩⟩⟩⟩⟩⟩⟩⟩
theorem itX6_readGuard : ∀ w ∈ wsX6_readGuard, w ∈ lw_tbl := List.forall_mem_cons.mpr ⟨tw_435, List.forall_mem_append.mpr ⟨itX6_readGuard_o, List.forall_mem_append.mpr ⟨it_b26, List.forall_mem_append.mpr ⟨it_b34, List.forall_mem_append.mpr ⟨it_b31, List.forall_mem_append.mpr ⟨it_b30, List.forall_mem_append.mpr ⟨it_b29, List.forall_mem_append.mpr ⟨itX60, List.forall_mem_append.mpr ⟨itX20, List.forall_mem_append.mpr ⟨itX6_here, List.forall_mem_append.mpr ⟨itX6_kindOf, List.forall_mem_append.mpr ⟨itX6_faulty, List.forall_mem_append.mpr ⟨itX6_readNumber, List.forall_mem_append.mpr ⟨itX6_readSign, fun _ h => absurd h List.not_mem_nil⟩⟩⟩⟩⟩⟩⟩⟩⟩⟩⟩⟩⟩⟩
set_option maxRecDepth 100000 in
theorem gdX6_readGuard_o : ∀ w ∈ wsX6_readGuard_o, goodWord w = true := gd_o (by decide +kernel)
set_option maxRecDepth 100000 in
theorem gdX6_readGuard : ∀ w ∈ wsX6_readGuard, goodWord w = true := List.forall_mem_cons.mpr ⟨by decide +kernel, List.forall_mem_append.mpr ⟨gdX6_readGuard_o, List.forall_mem_append.mpr ⟨gd_bV _ _ _ _, List.forall_mem_append.mpr ⟨gd_bS _ _ _, List.forall_mem_append.mpr ⟨gd_bV _ _ _ _, List.forall_mem_append.mpr ⟨gd_bV _ _ _ _, List.forall_mem_append.mpr ⟨gd_bV _ _ _ _, List.forall_mem_append.mpr ⟨gdX60, List.forall_mem_append.mpr ⟨gdX20, List.forall_mem_append.mpr ⟨gdX6_here, List.forall_mem_append.mpr ⟨gdX6_kindOf, List.forall_mem_append.mpr ⟨gdX6_faulty, List.forall_mem_append.mpr ⟨gdX6_readNumber, List.forall_mem_append.mpr ⟨gdX6_readSign, fun _ h => absurd h List.not_mem_nil⟩⟩⟩⟩⟩⟩⟩⟩⟩⟩⟩⟩⟩⟩
def wsX6_read_o : List Cond := ([Cond.fieldLink RX6 26 "WrongWord$Tape" "at" "I", Cond.fieldLink RX6 18 "WrongWord$Tape" "draft" "LWrongWord$Gate;", Cond.fieldLink RX6 29 "WrongWord$Gate" "words" "I", Cond.fieldLink RX6 32 "WrongWord$Gate" "guards" "I", Cond.fieldLink RX6 49 "WrongWord$Gate" "now" "LWrongWord$Moment;", Cond.fieldLink RX6 66 "WrongWord$Tape" "value" "I", Cond.fieldLink RX6 69 "WrongWord$Moment" "start" "I", Cond.fieldLink RX6 72 "WrongWord$Gate" "step" "I", Cond.fieldLink RX6 75 "WrongWord$Gate" "shrove" "I", Cond.methodLink RX6 59 yX6_readSign, Cond.selects RX6 yX6_readSign yX6_readSign, Cond.fieldLink RX6 22 "WrongWord$Tape" "length" "I", Cond.fieldLink RX6 9 "WrongWord$Tape" "bytes" "[I", Cond.methodLink RX6 78 yX6_faulty, Cond.selects RX6 yX6_faulty yX6_faulty, Cond.fieldLink RX6 105 "WrongWord$Tape" "fault" "I", Cond.fieldLink RX6 108 "WrongWord$Tape" "place" "I", Cond.methodLink RX6 63 yX6_readNumber, Cond.selects RX6 yX6_readNumber yX6_readNumber, Cond.methodLink RX6 102 yX6_isFigure, Cond.fieldLink RX6 81 "WrongWord$Gate" "letters" "[I", Cond.methodLink RX6 84 yX6_wasTold, Cond.selects RX6 yX6_wasTold yX6_wasTold, Cond.methodLink RX6 87 yX2_distance, Cond.constant RX6 95 (-1000000), Cond.fieldLink RX6 96 "WrongWord$Gate" "kinds" "[I", Cond.fieldLink RX6 99 "WrongWord$Gate" "fees" "[I", Cond.methodLink RX6 91 yX6_kindOf] : List Cond)
def wsX6_read : List Cond := .code yX6_read cX6_read 2 (some .boolean) :: (wsX6_read_o ++ ((bkV RX6 35 RX6 yX6_readLaw) ++ ((bkV RX6 39 RX6 yX6_readWord) ++ ((bkV RX6 42 RX6 yX6_here) ++ ((bkV RX6 46 RX6 yX6_readGuard) ++ ((bkV RX6 53 RX4 yX4_begin) ++ (wsX60 ++ (wsX20 ++ (wsX40 ++ (wsX6_readLaw ++ (wsX6_readWord ++ (wsX6_here ++ (wsX6_readGuard ++ (wsX4_begin ++ ([] : List Cond)))))))))))))))
theorem itX6_read_o : ∀ w ∈ wsX6_read_o, w ∈ lw_tbl := List.forall_mem_cons.mpr ⟨tw_204, List.forall_mem_cons.mpr ⟨tw_196, List.forall_mem_cons.mpr ⟨tw_172, List.forall_mem_cons.mpr ⟨tw_175, List.forall_mem_cons.mpr ⟨tw_162, List.forall_mem_cons.mpr ⟨tw_205, List.forall_mem_cons.mpr ⟨tw_124, List.forall_mem_cons.mpr ⟨tw_165, List.forall_mem_cons.mpr ⟨tw_168, List.forall_mem_cons.mpr ⟨tw_401, List.forall_mem_cons.mpr ⟨tw_4, List.forall_mem_cons.mpr ⟨tw_198, List.forall_mem_cons.mpr ⟨tw_195, List.forall_mem_cons.mpr ⟨tw_409, List.forall_mem_cons.mpr ⟨tw_6, List.forall_mem_cons.mpr ⟨tw_201, List.forall_mem_cons.mpr ⟨tw_203, List.forall_mem_cons.mpr ⟨tw_413, List.forall_mem_cons.mpr ⟨tw_7, List.forall_mem_cons.mpr ⟨tw_417, List.forall_mem_cons.mpr ⟨tw_151, List.forall_mem_cons.mpr ⟨tw_424, List.forall_mem_cons.mpr ⟨tw_9, List.forall_mem_cons.mpr ⟨tw_428, List.forall_mem_cons.mpr ⟨tw_439, List.forall_mem_cons.mpr ⟨tw_155, List.forall_mem_cons.mpr ⟨tw_158, List.forall_mem_cons.mpr ⟨tw_436, fun _ h => absurd h List.not_mem_nil⟩⟩⟩⟩⟩⟩⟩⟩⟩⟩⟩⟩⟩⟩⟩⟩⟩⟩⟩⟩⟩⟩⟩⟩⟩⟩⟩⟩
theorem itX6_read : ∀ w ∈ wsX6_read, w ∈ lw_tbl := List.forall_mem_cons.mpr ⟨tw_396, List.forall_mem_append.mpr ⟨itX6_read_o, List.forall_mem_append.mpr ⟨it_b24, List.forall_mem_append.mpr ⟨it_b25, List.forall_mem_append.mpr ⟨it_b26, List.forall_mem_append.mpr ⟨it_b27, List.forall_mem_append.mpr ⟨it_b28, List.forall_mem_append.mpr ⟨itX60, List.forall_mem_append.mpr ⟨itX20, List.forall_mem_append.mpr ⟨itX40, List.forall_mem_append.mpr ⟨itX6_readLaw, List.forall_mem_append.mpr ⟨itX6_readWord, List.forall_mem_append.mpr ⟨itX6_here, List.forall_mem_append.mpr ⟨itX6_readGuard, List.forall_mem_append.mpr ⟨itX4_begin, fun _ h => absurd h List.not_mem_nil⟩⟩⟩⟩⟩⟩⟩⟩⟩⟩⟩⟩⟩⟩⟩
set_option maxRecDepth 100000 in
theorem gdX6_read_o : ∀ w ∈ wsX6_read_o, goodWord w = true := gd_o (by decide +kernel)
set_option maxRecDepth 100000 in
theorem gdX6_read : ∀ w ∈ wsX6_read, goodWord w = true := List.forall_mem_cons.mpr ⟨by decide +kernel, List.forall_mem_append.mpr ⟨gdX6_read_o, List.forall_mem_append.mpr ⟨gd_bV _ _ _ _, List.forall_mem_append.mpr ⟨gd_bV _ _ _ _, List.forall_mem_append.mpr ⟨gd_bV _ _ _ _, List.forall_mem_append.mpr ⟨gd_bV _ _ _ _, List.forall_mem_append.mpr ⟨gd_bV _ _ _ _, List.forall_mem_append.mpr ⟨gdX60, List.forall_mem_append.mpr ⟨gdX20, List.forall_mem_append.mpr ⟨gdX40, List.forall_mem_append.mpr ⟨gdX6_readLaw, List.forall_mem_append.mpr ⟨gdX6_readWord, List.forall_mem_append.mpr ⟨gdX6_here, List.forall_mem_append.mpr ⟨gdX6_readGuard, List.forall_mem_append.mpr ⟨gdX4_begin, fun _ h => absurd h List.not_mem_nil⟩⟩⟩⟩⟩⟩⟩⟩⟩⟩⟩⟩⟩⟩⟩
def wsX7_init_o : List Cond := ([Cond.methodLink RX7 1 objectInit, Cond.classLink RX7 9 RX5, Cond.fieldLink RX7 11 "WrongWord" "rows" "[LWrongWord$Row;", Cond.classLink RX7 15 RX6, Cond.instantiable RX6 7, Cond.initialized RX6, Cond.fieldLink RX7 18 "WrongWord" "tape" "LWrongWord$Tape;", Cond.classLink RX7 22 RX2, Cond.fieldLink RX7 25 "WrongWord" "gate" "LWrongWord$Gate;", Cond.classLink RX7 29 RX0, Cond.instantiable RX0 3, Cond.initialized RX0, Cond.fieldLink RX7 32 "WrongWord" "acts" "LWrongWord$Acts;", Cond.fieldLink RX7 36 "WrongWord" "images" "[LWrongWord$Gate;", Cond.classLink RX7 40 RX3, Cond.instantiable RX3 2, Cond.initialized RX3, Cond.fieldLink RX7 43 "WrongWord" "guesses" "LWrongWord$Guesses;", Cond.classLink RX7 47 RX1, Cond.instantiable RX1 6, Cond.initialized RX1, Cond.fieldLink RX7 50 "WrongWord" "asks" "LWrongWord$Asks;", Cond.instantiable RX5 3, Cond.initialized RX5, Cond.instanceMethod yX6_init, Cond.instanceMethod yX2_init, Cond.methodLink RX7 31 yX0_init, Cond.instanceMethod yX0_init, Cond.instanceMethod yX3_init, Cond.instanceMethod yX1_init, Cond.instanceMethod yX5_init] : List Cond)
def wsX7_init : List Cond := .code yX7_init cX7_init 2 none :: (wsX7_init_o ++ (wsX70 ++ (wsX60 ++ (wsX20 ++ (wsX00 ++ (wsX30 ++ (wsX10 ++ (wsX50 ++ (wsX40 ++ (wsX6_init ++ (wsX2_init ++ (wsX0_init ++ (wsX3_init ++ (wsX1_init ++ (wsX5_init ++ ([] : List Cond))))))))))))))))
theorem itX7_init_o : ∀ w ∈ wsX7_init_o, w ∈ lw_tbl := List.forall_mem_cons.mpr ⟨tw_84, List.forall_mem_cons.mpr ⟨tw_87, List.forall_mem_cons.mpr ⟨tw_302, List.forall_mem_cons.mpr ⟨tw_89, List.forall_mem_cons.mpr ⟨tw_90, List.forall_mem_cons.mpr ⟨tw_68, List.forall_mem_cons.mpr ⟨tw_303, List.forall_mem_cons.mpr ⟨tw_221, List.forall_mem_cons.mpr ⟨tw_304, List.forall_mem_cons.mpr ⟨tw_223, List.forall_mem_cons.mpr ⟨tw_224, List.forall_mem_cons.mpr ⟨tw_71, List.forall_mem_cons.mpr ⟨tw_305, List.forall_mem_cons.mpr ⟨tw_306, List.forall_mem_cons.mpr ⟨tw_244, List.forall_mem_cons.mpr ⟨tw_245, List.forall_mem_cons.mpr ⟨tw_72, List.forall_mem_cons.mpr ⟨tw_307, List.forall_mem_cons.mpr ⟨tw_257, List.forall_mem_cons.mpr ⟨tw_258, List.forall_mem_cons.mpr ⟨tw_73, List.forall_mem_cons.mpr ⟨tw_308, List.forall_mem_cons.mpr ⟨tw_284, List.forall_mem_cons.mpr ⟨tw_74, List.forall_mem_cons.mpr ⟨tw_92, List.forall_mem_cons.mpr ⟨tw_98, List.forall_mem_cons.mpr ⟨tw_225, List.forall_mem_cons.mpr ⟨tw_226, List.forall_mem_cons.mpr ⟨tw_247, List.forall_mem_cons.mpr ⟨tw_260, List.forall_mem_cons.mpr ⟨tw_286, fun _ h => absurd h List.not_mem_nil⟩⟩⟩⟩⟩⟩⟩⟩⟩⟩⟩⟩⟩⟩⟩⟩⟩⟩⟩⟩⟩⟩⟩⟩⟩⟩⟩⟩⟩⟩⟩
theorem itX7_init : ∀ w ∈ wsX7_init, w ∈ lw_tbl := List.forall_mem_cons.mpr ⟨tw_83, List.forall_mem_append.mpr ⟨itX7_init_o, List.forall_mem_append.mpr ⟨itX70, List.forall_mem_append.mpr ⟨itX60, List.forall_mem_append.mpr ⟨itX20, List.forall_mem_append.mpr ⟨itX00, List.forall_mem_append.mpr ⟨itX30, List.forall_mem_append.mpr ⟨itX10, List.forall_mem_append.mpr ⟨itX50, List.forall_mem_append.mpr ⟨itX40, List.forall_mem_append.mpr ⟨itX6_init, List.forall_mem_append.mpr ⟨itX2_init, List.forall_mem_append.mpr ⟨itX0_init, List.forall_mem_append.mpr ⟨itX3_init, List.forall_mem_append.mpr ⟨itX1_init, List.forall_mem_append.mpr ⟨itX5_init, fun _ h => absurd h List.not_mem_nil⟩⟩⟩⟩⟩⟩⟩⟩⟩⟩⟩⟩⟩⟩⟩⟩
set_option maxRecDepth 100000 in
theorem gdX7_init_o : ∀ w ∈ wsX7_init_o, goodWord w = true := gd_o (by decide +kernel)
set_option maxRecDepth 100000 in
theorem gdX7_init : ∀ w ∈ wsX7_init, goodWord w = true := List.forall_mem_cons.mpr ⟨by decide +kernel, List.forall_mem_append.mpr ⟨gdX7_init_o, List.forall_mem_append.mpr ⟨gdX70, List.forall_mem_append.mpr ⟨gdX60, List.forall_mem_append.mpr ⟨gdX20, List.forall_mem_append.mpr ⟨gdX00, List.forall_mem_append.mpr ⟨gdX30, List.forall_mem_append.mpr ⟨gdX10, List.forall_mem_append.mpr ⟨gdX50, List.forall_mem_append.mpr ⟨gdX40, List.forall_mem_append.mpr ⟨gdX6_init, List.forall_mem_append.mpr ⟨gdX2_init, List.forall_mem_append.mpr ⟨gdX0_init, List.forall_mem_append.mpr ⟨gdX3_init, List.forall_mem_append.mpr ⟨gdX1_init, List.forall_mem_append.mpr ⟨gdX5_init, fun _ h => absurd h List.not_mem_nil⟩⟩⟩⟩⟩⟩⟩⟩⟩⟩⟩⟩⟩⟩⟩⟩
def wsX7_isRow_o : List Cond := ([] : List Cond)
def wsX7_isRow : List Cond := .code yX7_isRow cX7_isRow 2 (some .boolean) :: (wsX7_isRow_o ++ ([] : List Cond))
theorem itX7_isRow_o : ∀ w ∈ wsX7_isRow_o, w ∈ lw_tbl := fun _ h => absurd h List.not_mem_nil
theorem itX7_isRow : ∀ w ∈ wsX7_isRow, w ∈ lw_tbl := List.forall_mem_cons.mpr ⟨tw_337, List.forall_mem_append.mpr ⟨itX7_isRow_o, fun _ h => absurd h List.not_mem_nil⟩⟩
set_option maxRecDepth 100000 in
theorem gdX7_isRow_o : ∀ w ∈ wsX7_isRow_o, goodWord w = true := gd_o (by decide +kernel)
set_option maxRecDepth 100000 in
theorem gdX7_isRow : ∀ w ∈ wsX7_isRow, goodWord w = true := List.forall_mem_cons.mpr ⟨by decide +kernel, List.forall_mem_append.mpr ⟨gdX7_isRow_o, fun _ h => absurd h List.not_mem_nil⟩⟩
def wsX7_found_o : List Cond := ([Cond.fieldLink RX7 333 "WrongWord" "latestFinding" "I", Cond.constant RX7 336 (-1000010)] : List Cond)
def wsX7_found : List Cond := .code yX7_found cX7_found 2 (some .int) :: (wsX7_found_o ++ (wsX70 ++ ([] : List Cond)))
theorem itX7_found_o : ∀ w ∈ wsX7_found_o, w ∈ lw_tbl := List.forall_mem_cons.mpr ⟨tw_310, List.forall_mem_cons.mpr ⟨tw_343, fun _ h => absurd h List.not_mem_nil⟩⟩
theorem itX7_found : ∀ w ∈ wsX7_found, w ∈ lw_tbl := List.forall_mem_cons.mpr ⟨tw_342, List.forall_mem_append.mpr ⟨itX7_found_o, List.forall_mem_append.mpr ⟨itX70, fun _ h => absurd h List.not_mem_nil⟩⟩⟩
set_option maxRecDepth 100000 in
theorem gdX7_found_o : ∀ w ∈ wsX7_found_o, goodWord w = true := gd_o (by decide +kernel)
set_option maxRecDepth 100000 in
theorem gdX7_found : ∀ w ∈ wsX7_found, goodWord w = true := List.forall_mem_cons.mpr ⟨by decide +kernel, List.forall_mem_append.mpr ⟨gdX7_found_o, List.forall_mem_append.mpr ⟨gdX70, fun _ h => absurd h List.not_mem_nil⟩⟩⟩
def wsX7_unfound_o : List Cond := ([Cond.fieldLink RX7 333 "WrongWord" "latestFinding" "I"] : List Cond)
def wsX7_unfound : List Cond := .code yX7_unfound cX7_unfound 2 (some .int) :: (wsX7_unfound_o ++ (wsX70 ++ ([] : List Cond)))
theorem itX7_unfound_o : ∀ w ∈ wsX7_unfound_o, w ∈ lw_tbl := List.forall_mem_cons.mpr ⟨tw_310, fun _ h => absurd h List.not_mem_nil⟩
theorem itX7_unfound : ∀ w ∈ wsX7_unfound, w ∈ lw_tbl := List.forall_mem_cons.mpr ⟨tw_351, List.forall_mem_append.mpr ⟨itX7_unfound_o, List.forall_mem_append.mpr ⟨itX70, fun _ h => absurd h List.not_mem_nil⟩⟩⟩
set_option maxRecDepth 100000 in
theorem gdX7_unfound_o : ∀ w ∈ wsX7_unfound_o, goodWord w = true := gd_o (by decide +kernel)
set_option maxRecDepth 100000 in
theorem gdX7_unfound : ∀ w ∈ wsX7_unfound, goodWord w = true := List.forall_mem_cons.mpr ⟨by decide +kernel, List.forall_mem_append.mpr ⟨gdX7_unfound_o, List.forall_mem_append.mpr ⟨gdX70, fun _ h => absurd h List.not_mem_nil⟩⟩⟩
def wsX7_row_o : List Cond := ([Cond.constant RX7 59 (-1000001), Cond.fieldLink RX7 11 "WrongWord" "rows" "[LWrongWord$Row;", Cond.fieldLink RX7 333 "WrongWord" "latestFinding" "I", Cond.constant RX7 336 (-1000010)] : List Cond)
def wsX7_row : List Cond := .code yX7_row cX7_row 4 (some .int) :: (wsX7_row_o ++ ((bkV RX7 55 RX7 yX7_isRow) ++ ((bkV RX7 60 RX7 yX7_found) ++ ((bkV RX7 64 RX5 yX5_make) ++ ((bkV RX7 68 RX7 yX7_unfound) ++ (wsX70 ++ (wsX50 ++ (wsX7_isRow ++ (wsX7_found ++ (wsX5_make ++ (wsX7_unfound ++ ([] : List Cond))))))))))))
theorem itX7_row_o : ∀ w ∈ wsX7_row_o, w ∈ lw_tbl := List.forall_mem_cons.mpr ⟨tw_338, List.forall_mem_cons.mpr ⟨tw_302, List.forall_mem_cons.mpr ⟨tw_310, List.forall_mem_cons.mpr ⟨tw_343, fun _ h => absurd h List.not_mem_nil⟩⟩⟩⟩
theorem itX7_row : ∀ w ∈ wsX7_row, w ∈ lw_tbl := List.forall_mem_cons.mpr ⟨tw_333, List.forall_mem_append.mpr ⟨itX7_row_o, List.forall_mem_append.mpr ⟨it_b36, List.forall_mem_append.mpr ⟨it_b37, List.forall_mem_append.mpr ⟨it_b38, List.forall_mem_append.mpr ⟨it_b39, List.forall_mem_append.mpr ⟨itX70, List.forall_mem_append.mpr ⟨itX50, List.forall_mem_append.mpr ⟨itX7_isRow, List.forall_mem_append.mpr ⟨itX7_found, List.forall_mem_append.mpr ⟨itX5_make, List.forall_mem_append.mpr ⟨itX7_unfound, fun _ h => absurd h List.not_mem_nil⟩⟩⟩⟩⟩⟩⟩⟩⟩⟩⟩⟩
set_option maxRecDepth 100000 in
theorem gdX7_row_o : ∀ w ∈ wsX7_row_o, goodWord w = true := gd_o (by decide +kernel)
set_option maxRecDepth 100000 in
theorem gdX7_row : ∀ w ∈ wsX7_row, goodWord w = true := List.forall_mem_cons.mpr ⟨by decide +kernel, List.forall_mem_append.mpr ⟨gdX7_row_o, List.forall_mem_append.mpr ⟨gd_bV _ _ _ _, List.forall_mem_append.mpr ⟨gd_bV _ _ _ _, List.forall_mem_append.mpr ⟨gd_bV _ _ _ _, List.forall_mem_append.mpr ⟨gd_bV _ _ _ _, List.forall_mem_append.mpr ⟨gdX70, List.forall_mem_append.mpr ⟨gdX50, List.forall_mem_append.mpr ⟨gdX7_isRow, List.forall_mem_append.mpr ⟨gdX7_found, List.forall_mem_append.mpr ⟨gdX5_make, List.forall_mem_append.mpr ⟨gdX7_unfound, fun _ h => absurd h List.not_mem_nil⟩⟩⟩⟩⟩⟩⟩⟩⟩⟩⟩⟩
def wsX7_set_o : List Cond := ([Cond.constant RX7 59 (-1000001), Cond.fieldLink RX7 11 "WrongWord" "rows" "[LWrongWord$Row;", Cond.fieldLink RX7 333 "WrongWord" "latestFinding" "I", Cond.constant RX7 336 (-1000010)] : List Cond)
def wsX7_set : List Cond := .code yX7_set cX7_set 5 (some .int) :: (wsX7_set_o ++ ((bkV RX7 55 RX7 yX7_isRow) ++ ((bkV RX7 71 RX5 yX5_findingOf) ++ ((bkV RX7 60 RX7 yX7_found) ++ ((bkV RX7 75 RX5 yX5_put) ++ ((bkV RX7 68 RX7 yX7_unfound) ++ (wsX70 ++ (wsX50 ++ (wsX7_isRow ++ (wsX5_findingOf ++ (wsX7_found ++ (wsX5_put ++ (wsX7_unfound ++ ([] : List Cond))))))))))))))
theorem itX7_set_o : ∀ w ∈ wsX7_set_o, w ∈ lw_tbl := List.forall_mem_cons.mpr ⟨tw_338, List.forall_mem_cons.mpr ⟨tw_302, List.forall_mem_cons.mpr ⟨tw_310, List.forall_mem_cons.mpr ⟨tw_343, fun _ h => absurd h List.not_mem_nil⟩⟩⟩⟩
theorem itX7_set : ∀ w ∈ wsX7_set, w ∈ lw_tbl := List.forall_mem_cons.mpr ⟨tw_355, List.forall_mem_append.mpr ⟨itX7_set_o, List.forall_mem_append.mpr ⟨it_b36, List.forall_mem_append.mpr ⟨it_b40, List.forall_mem_append.mpr ⟨it_b37, List.forall_mem_append.mpr ⟨it_b41, List.forall_mem_append.mpr ⟨it_b39, List.forall_mem_append.mpr ⟨itX70, List.forall_mem_append.mpr ⟨itX50, List.forall_mem_append.mpr ⟨itX7_isRow, List.forall_mem_append.mpr ⟨itX5_findingOf, List.forall_mem_append.mpr ⟨itX7_found, List.forall_mem_append.mpr ⟨itX5_put, List.forall_mem_append.mpr ⟨itX7_unfound, fun _ h => absurd h List.not_mem_nil⟩⟩⟩⟩⟩⟩⟩⟩⟩⟩⟩⟩⟩⟩
set_option maxRecDepth 100000 in
theorem gdX7_set_o : ∀ w ∈ wsX7_set_o, goodWord w = true := gd_o (by decide +kernel)
set_option maxRecDepth 100000 in
theorem gdX7_set : ∀ w ∈ wsX7_set, goodWord w = true := List.forall_mem_cons.mpr ⟨by decide +kernel, List.forall_mem_append.mpr ⟨gdX7_set_o, List.forall_mem_append.mpr ⟨gd_bV _ _ _ _, List.forall_mem_append.mpr ⟨gd_bV _ _ _ _, List.forall_mem_append.mpr ⟨gd_bV _ _ _ _, List.forall_mem_append.mpr ⟨gd_bV _ _ _ _, List.forall_mem_append.mpr ⟨gd_bV _ _ _ _, List.forall_mem_append.mpr ⟨gdX70, List.forall_mem_append.mpr ⟨gdX50, List.forall_mem_append.mpr ⟨gdX7_isRow, List.forall_mem_append.mpr ⟨gdX5_findingOf, List.forall_mem_append.mpr ⟨gdX7_found, List.forall_mem_append.mpr ⟨gdX5_put, List.forall_mem_append.mpr ⟨gdX7_unfound, fun _ h => absurd h List.not_mem_nil⟩⟩⟩⟩⟩⟩⟩⟩⟩⟩⟩⟩⟩⟩
def wsX7_copy_o : List Cond := ([Cond.constant RX7 59 (-1000001), Cond.fieldLink RX7 11 "WrongWord" "rows" "[LWrongWord$Row;", Cond.fieldLink RX7 78 "WrongWord$Row" "lane" "I", Cond.fieldLink RX7 86 "WrongWord$Row" "items" "[I", Cond.methodLink RX7 90 arraycopyName, Cond.native arraycopyName, Cond.static arraycopyName, Cond.initialized "java/lang/System", Cond.fieldLink RX7 333 "WrongWord" "latestFinding" "I", Cond.constant RX7 336 (-1000010)] : List Cond)
def wsX7_copy : List Cond := .code yX7_copy cX7_copy 8 (some .int) :: (wsX7_copy_o ++ ((bkV RX7 55 RX7 yX7_isRow) ++ ((bkV RX7 60 RX7 yX7_found) ++ ((bkV RX7 82 RX5 yX5_reaches) ++ ((bkV RX7 68 RX7 yX7_unfound) ++ (wsX70 ++ (wsX50 ++ (wsX7_isRow ++ (wsX7_found ++ (wsX5_reaches ++ (wsX7_unfound ++ ([] : List Cond))))))))))))
theorem itX7_copy_o : ∀ w ∈ wsX7_copy_o, w ∈ lw_tbl := List.forall_mem_cons.mpr ⟨tw_338, List.forall_mem_cons.mpr ⟨tw_302, List.forall_mem_cons.mpr ⟨tw_292, List.forall_mem_cons.mpr ⟨tw_290, List.forall_mem_cons.mpr ⟨tw_373, List.forall_mem_cons.mpr ⟨tw_375, List.forall_mem_cons.mpr ⟨tw_374, List.forall_mem_cons.mpr ⟨tw_76, List.forall_mem_cons.mpr ⟨tw_310, List.forall_mem_cons.mpr ⟨tw_343, fun _ h => absurd h List.not_mem_nil⟩⟩⟩⟩⟩⟩⟩⟩⟩⟩
theorem itX7_copy : ∀ w ∈ wsX7_copy, w ∈ lw_tbl := List.forall_mem_cons.mpr ⟨tw_371, List.forall_mem_append.mpr ⟨itX7_copy_o, List.forall_mem_append.mpr ⟨it_b36, List.forall_mem_append.mpr ⟨it_b37, List.forall_mem_append.mpr ⟨it_b42, List.forall_mem_append.mpr ⟨it_b39, List.forall_mem_append.mpr ⟨itX70, List.forall_mem_append.mpr ⟨itX50, List.forall_mem_append.mpr ⟨itX7_isRow, List.forall_mem_append.mpr ⟨itX7_found, List.forall_mem_append.mpr ⟨itX5_reaches, List.forall_mem_append.mpr ⟨itX7_unfound, fun _ h => absurd h List.not_mem_nil⟩⟩⟩⟩⟩⟩⟩⟩⟩⟩⟩⟩
set_option maxRecDepth 100000 in
theorem gdX7_copy_o : ∀ w ∈ wsX7_copy_o, goodWord w = true := gd_o (by decide +kernel)
set_option maxRecDepth 100000 in
theorem gdX7_copy : ∀ w ∈ wsX7_copy, goodWord w = true := List.forall_mem_cons.mpr ⟨by decide +kernel, List.forall_mem_append.mpr ⟨gdX7_copy_o, List.forall_mem_append.mpr ⟨gd_bV _ _ _ _, List.forall_mem_append.mpr ⟨gd_bV _ _ _ _, List.forall_mem_append.mpr ⟨gd_bV _ _ _ _, List.forall_mem_append.mpr ⟨gd_bV _ _ _ _, List.forall_mem_append.mpr ⟨gdX70, List.forall_mem_append.mpr ⟨gdX50, List.forall_mem_append.mpr ⟨gdX7_isRow, List.forall_mem_append.mpr ⟨gdX7_found, List.forall_mem_append.mpr ⟨gdX5_reaches, List.forall_mem_append.mpr ⟨gdX7_unfound, fun _ h => absurd h List.not_mem_nil⟩⟩⟩⟩⟩⟩⟩⟩⟩⟩⟩⟩
def wsX7_drop_o : List Cond := ([Cond.constant RX7 59 (-1000001), Cond.fieldLink RX7 11 "WrongWord" "rows" "[LWrongWord$Row;", Cond.fieldLink RX7 78 "WrongWord$Row" "lane" "I", Cond.fieldLink RX7 96 "WrongWord$Row" "size" "I", Cond.fieldLink RX7 333 "WrongWord" "latestFinding" "I", Cond.constant RX7 336 (-1000010)] : List Cond)
def wsX7_drop : List Cond := .code yX7_drop cX7_drop 2 (some .int) :: (wsX7_drop_o ++ ((bkV RX7 55 RX7 yX7_isRow) ++ ((bkV RX7 60 RX7 yX7_found) ++ ((bkV RX7 68 RX7 yX7_unfound) ++ (wsX70 ++ (wsX50 ++ (wsX7_isRow ++ (wsX7_found ++ (wsX7_unfound ++ ([] : List Cond))))))))))
theorem itX7_drop_o : ∀ w ∈ wsX7_drop_o, w ∈ lw_tbl := List.forall_mem_cons.mpr ⟨tw_338, List.forall_mem_cons.mpr ⟨tw_302, List.forall_mem_cons.mpr ⟨tw_292, List.forall_mem_cons.mpr ⟨tw_294, List.forall_mem_cons.mpr ⟨tw_310, List.forall_mem_cons.mpr ⟨tw_343, fun _ h => absurd h List.not_mem_nil⟩⟩⟩⟩⟩⟩
theorem itX7_drop : ∀ w ∈ wsX7_drop, w ∈ lw_tbl := List.forall_mem_cons.mpr ⟨tw_379, List.forall_mem_append.mpr ⟨itX7_drop_o, List.forall_mem_append.mpr ⟨it_b36, List.forall_mem_append.mpr ⟨it_b37, List.forall_mem_append.mpr ⟨it_b39, List.forall_mem_append.mpr ⟨itX70, List.forall_mem_append.mpr ⟨itX50, List.forall_mem_append.mpr ⟨itX7_isRow, List.forall_mem_append.mpr ⟨itX7_found, List.forall_mem_append.mpr ⟨itX7_unfound, fun _ h => absurd h List.not_mem_nil⟩⟩⟩⟩⟩⟩⟩⟩⟩⟩
set_option maxRecDepth 100000 in
theorem gdX7_drop_o : ∀ w ∈ wsX7_drop_o, goodWord w = true := gd_o (by decide +kernel)
set_option maxRecDepth 100000 in
theorem gdX7_drop : ∀ w ∈ wsX7_drop, goodWord w = true := List.forall_mem_cons.mpr ⟨by decide +kernel, List.forall_mem_append.mpr ⟨gdX7_drop_o, List.forall_mem_append.mpr ⟨gd_bV _ _ _ _, List.forall_mem_append.mpr ⟨gd_bV _ _ _ _, List.forall_mem_append.mpr ⟨gd_bV _ _ _ _, List.forall_mem_append.mpr ⟨gdX70, List.forall_mem_append.mpr ⟨gdX50, List.forall_mem_append.mpr ⟨gdX7_isRow, List.forall_mem_append.mpr ⟨gdX7_found, List.forall_mem_append.mpr ⟨gdX7_unfound, fun _ h => absurd h List.not_mem_nil⟩⟩⟩⟩⟩⟩⟩⟩⟩⟩
def wsX7_feed_o : List Cond := ([Cond.constant RX7 59 (-1000001), Cond.fieldLink RX7 18 "WrongWord" "tape" "LWrongWord$Tape;", Cond.fieldLink RX7 102 "WrongWord$Tape" "length" "I", Cond.constant RX7 105 (-1000003)] : List Cond)
def wsX7_feed : List Cond := .code yX7_feed cX7_feed 2 (some .int) :: (wsX7_feed_o ++ ((bkV RX7 99 RX6 yX6_append) ++ (wsX70 ++ (wsX60 ++ (wsX6_append ++ ([] : List Cond))))))
theorem itX7_feed_o : ∀ w ∈ wsX7_feed_o, w ∈ lw_tbl := List.forall_mem_cons.mpr ⟨tw_338, List.forall_mem_cons.mpr ⟨tw_303, List.forall_mem_cons.mpr ⟨tw_199, List.forall_mem_cons.mpr ⟨tw_388, fun _ h => absurd h List.not_mem_nil⟩⟩⟩⟩
theorem itX7_feed : ∀ w ∈ wsX7_feed, w ∈ lw_tbl := List.forall_mem_cons.mpr ⟨tw_383, List.forall_mem_append.mpr ⟨itX7_feed_o, List.forall_mem_append.mpr ⟨it_b43, List.forall_mem_append.mpr ⟨itX70, List.forall_mem_append.mpr ⟨itX60, List.forall_mem_append.mpr ⟨itX6_append, fun _ h => absurd h List.not_mem_nil⟩⟩⟩⟩⟩⟩
set_option maxRecDepth 100000 in
theorem gdX7_feed_o : ∀ w ∈ wsX7_feed_o, goodWord w = true := gd_o (by decide +kernel)
set_option maxRecDepth 100000 in
theorem gdX7_feed : ∀ w ∈ wsX7_feed, goodWord w = true := List.forall_mem_cons.mpr ⟨by decide +kernel, List.forall_mem_append.mpr ⟨gdX7_feed_o, List.forall_mem_append.mpr ⟨gd_bV _ _ _ _, List.forall_mem_append.mpr ⟨gdX70, List.forall_mem_append.mpr ⟨gdX60, List.forall_mem_append.mpr ⟨gdX6_append, fun _ h => absurd h List.not_mem_nil⟩⟩⟩⟩⟩⟩
def wsX7_gate_o : List Cond := ([Cond.fieldLink RX7 18 "WrongWord" "tape" "LWrongWord$Tape;", Cond.fieldLink RX7 102 "WrongWord$Tape" "length" "I", Cond.fieldLink RX7 110 "WrongWord$Tape" "fault" "I", Cond.fieldLink RX7 113 "WrongWord" "latestFault" "I", Cond.constant RX7 116 (-1000100), Cond.fieldLink RX7 117 "WrongWord$Tape" "place" "I", Cond.fieldLink RX7 25 "WrongWord" "gate" "LWrongWord$Gate;", Cond.fieldLink RX7 120 "WrongWord$Tape" "draft" "LWrongWord$Gate;", Cond.fieldLink RX7 32 "WrongWord" "acts" "LWrongWord$Acts;", Cond.fieldLink RX7 130 "WrongWord$Gate" "words" "I"] : List Cond)
def wsX7_gate : List Cond := .code yX7_gate cX7_gate 2 (some .int) :: (wsX7_gate_o ++ ((bkV RX7 106 RX6 yX6_read) ++ ((bkV RX7 123 RX2 yX2_become) ++ ((bkV RX7 127 RX0 yX0_forget) ++ (wsX70 ++ (wsX60 ++ (wsX20 ++ (wsX40 ++ (wsX00 ++ (wsX6_read ++ (wsX2_become ++ (wsX0_forget ++ ([] : List Cond)))))))))))))
theorem itX7_gate_o : ∀ w ∈ wsX7_gate_o, w ∈ lw_tbl := List.forall_mem_cons.mpr ⟨tw_303, List.forall_mem_cons.mpr ⟨tw_199, List.forall_mem_cons.mpr ⟨tw_200, List.forall_mem_cons.mpr ⟨tw_309, List.forall_mem_cons.mpr ⟨tw_444, List.forall_mem_cons.mpr ⟨tw_202, List.forall_mem_cons.mpr ⟨tw_304, List.forall_mem_cons.mpr ⟨tw_197, List.forall_mem_cons.mpr ⟨tw_305, List.forall_mem_cons.mpr ⟨tw_173, fun _ h => absurd h List.not_mem_nil⟩⟩⟩⟩⟩⟩⟩⟩⟩⟩
theorem itX7_gate : ∀ w ∈ wsX7_gate, w ∈ lw_tbl := List.forall_mem_cons.mpr ⟨tw_392, List.forall_mem_append.mpr ⟨itX7_gate_o, List.forall_mem_append.mpr ⟨it_b44, List.forall_mem_append.mpr ⟨it_b45, List.forall_mem_append.mpr ⟨it_b46, List.forall_mem_append.mpr ⟨itX70, List.forall_mem_append.mpr ⟨itX60, List.forall_mem_append.mpr ⟨itX20, List.forall_mem_append.mpr ⟨itX40, List.forall_mem_append.mpr ⟨itX00, List.forall_mem_append.mpr ⟨itX6_read, List.forall_mem_append.mpr ⟨itX2_become, List.forall_mem_append.mpr ⟨itX0_forget, fun _ h => absurd h List.not_mem_nil⟩⟩⟩⟩⟩⟩⟩⟩⟩⟩⟩⟩⟩
set_option maxRecDepth 100000 in
theorem gdX7_gate_o : ∀ w ∈ wsX7_gate_o, goodWord w = true := gd_o (by decide +kernel)
set_option maxRecDepth 100000 in
theorem gdX7_gate : ∀ w ∈ wsX7_gate, goodWord w = true := List.forall_mem_cons.mpr ⟨by decide +kernel, List.forall_mem_append.mpr ⟨gdX7_gate_o, List.forall_mem_append.mpr ⟨gd_bV _ _ _ _, List.forall_mem_append.mpr ⟨gd_bV _ _ _ _, List.forall_mem_append.mpr ⟨gd_bV _ _ _ _, List.forall_mem_append.mpr ⟨gdX70, List.forall_mem_append.mpr ⟨gdX60, List.forall_mem_append.mpr ⟨gdX20, List.forall_mem_append.mpr ⟨gdX40, List.forall_mem_append.mpr ⟨gdX00, List.forall_mem_append.mpr ⟨gdX6_read, List.forall_mem_append.mpr ⟨gdX2_become, List.forall_mem_append.mpr ⟨gdX0_forget, fun _ h => absurd h List.not_mem_nil⟩⟩⟩⟩⟩⟩⟩⟩⟩⟩⟩⟩⟩
def wsX7_fault_o : List Cond := ([Cond.fieldLink RX7 113 "WrongWord" "latestFault" "I"] : List Cond)
def wsX7_fault : List Cond := .code yX7_fault cX7_fault 1 (some .int) :: (wsX7_fault_o ++ (wsX70 ++ ([] : List Cond)))
theorem itX7_fault_o : ∀ w ∈ wsX7_fault_o, w ∈ lw_tbl := List.forall_mem_cons.mpr ⟨tw_309, fun _ h => absurd h List.not_mem_nil⟩
theorem itX7_fault : ∀ w ∈ wsX7_fault, w ∈ lw_tbl := List.forall_mem_cons.mpr ⟨tw_462, List.forall_mem_append.mpr ⟨itX7_fault_o, List.forall_mem_append.mpr ⟨itX70, fun _ h => absurd h List.not_mem_nil⟩⟩⟩
