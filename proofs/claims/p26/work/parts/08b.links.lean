/-! links -/
theorem wX8_init : x_Cw mX8_init 0 := ⟨x_in 99 (by decide +kernel) rfl, x_in 66 (by decide +kernel) rfl, ⟨by decide, by decide⟩, by decide +kernel⟩
theorem l_X10_X8_init : x_LIN RX10 19 0 mX8_init "PreparedPlans" := ⟨wX8_init, rfl, rfl, rfl, x_in 98 (by decide +kernel) rfl, List.mem_of_getElem? (i := 97) (by decide +kernel)⟩
theorem wX5_init : x_Cw mX5_init 0 := ⟨x_in 139 (by decide +kernel) rfl, x_in 67 (by decide +kernel) rfl, ⟨by decide, by decide⟩, by decide +kernel⟩
theorem l_X10_X5_init : x_LIN RX10 32 0 mX5_init "PreparedPlans" := ⟨wX5_init, rfl, rfl, rfl, x_in 138 (by decide +kernel) rfl, List.mem_of_getElem? (i := 137) (by decide +kernel)⟩
theorem wX3_init : x_Cw mX3_init 1 := ⟨x_in 213 (by decide +kernel) rfl, x_in 71 (by decide +kernel) rfl, ⟨by decide, by decide⟩, by decide +kernel⟩
theorem l_X10_X3_init : x_LI RX10 33 1 mX3_init := ⟨wX3_init, rfl, rfl, rfl, x_in 212 (by decide +kernel) rfl, x_in 211 (by decide +kernel) rfl⟩
theorem wX10_appendWord : x_Cw mX10_appendWord 1 := ⟨x_in 591 (by decide +kernel) rfl, x_in 65 (by decide +kernel) rfl, ⟨by decide, by decide⟩, by decide +kernel⟩
theorem l_X10_X10_appendWord : x_LV RX10 39 1 mX10_appendWord := ⟨wX10_appendWord, rfl, x_in 588 (by decide +kernel) rfl, x_in 590 (by decide +kernel) rfl, x_in 3 (by decide +kernel) rfl⟩
theorem wX10_checkLength : x_Cw mX10_checkLength 1 := ⟨x_in 599 (by decide +kernel) rfl, x_in 65 (by decide +kernel) rfl, ⟨by decide, by decide⟩, by decide +kernel⟩
theorem l_X10_X10_checkLength : x_LV RX10 43 1 mX10_checkLength := ⟨wX10_checkLength, rfl, x_in 596 (by decide +kernel) rfl, x_in 598 (by decide +kernel) rfl, x_in 4 (by decide +kernel) rfl⟩
theorem wX8_split : x_Cw mX8_split 2 := ⟨x_in 604 (by decide +kernel) rfl, x_in 66 (by decide +kernel) rfl, ⟨by decide, by decide⟩, by decide +kernel⟩
theorem l_X10_X8_split : x_LV RX10 46 2 mX8_split := ⟨wX8_split, rfl, x_in 601 (by decide +kernel) rfl, x_in 602 (by decide +kernel) rfl, x_in 603 (by decide +kernel) rfl⟩
theorem wX10_spareSlot : x_Cw mX10_spareSlot 0 := ⟨x_in 648 (by decide +kernel) rfl, x_in 65 (by decide +kernel) rfl, ⟨by decide, by decide⟩, by decide +kernel⟩
theorem l_X10_X10_spareSlot : x_LV RX10 52 0 mX10_spareSlot := ⟨wX10_spareSlot, rfl, x_in 645 (by decide +kernel) rfl, x_in 647 (by decide +kernel) rfl, x_in 8 (by decide +kernel) rfl⟩
theorem wX6_init : x_Cw mX6_init 2 := ⟨x_in 651 (by decide +kernel) rfl, x_in 78 (by decide +kernel) rfl, ⟨by decide, by decide⟩, by decide +kernel⟩
theorem l_X10_X6_init : x_LI RX10 56 2 mX6_init := ⟨wX6_init, rfl, rfl, rfl, x_in 650 (by decide +kernel) rfl, x_in 649 (by decide +kernel) rfl⟩
theorem wX6_readSetup : x_Cw mX6_readSetup 0 := ⟨x_in 679 (by decide +kernel) rfl, x_in 78 (by decide +kernel) rfl, ⟨by decide, by decide⟩, by decide +kernel⟩
theorem l_X10_X6_readSetup : x_LV RX10 59 0 mX6_readSetup := ⟨wX6_readSetup, rfl, x_in 676 (by decide +kernel) rfl, x_in 677 (by decide +kernel) rfl, x_in 678 (by decide +kernel) rfl⟩
theorem wX10_takeSpare : x_Cw mX10_takeSpare 0 := ⟨x_in 973 (by decide +kernel) rfl, x_in 65 (by decide +kernel) rfl, ⟨by decide, by decide⟩, by decide +kernel⟩
theorem l_X10_X10_takeSpare : x_LV RX10 68 0 mX10_takeSpare := ⟨wX10_takeSpare, rfl, x_in 970 (by decide +kernel) rfl, x_in 972 (by decide +kernel) rfl, x_in 32 (by decide +kernel) rfl⟩
theorem wX10_current : x_Cw mX10_current 0 := ⟨x_in 355 (by decide +kernel) rfl, x_in 65 (by decide +kernel) rfl, ⟨by decide, by decide⟩, by decide +kernel⟩
theorem l_X10_X10_current : x_LV RX10 71 0 mX10_current := ⟨wX10_current, rfl, x_in 352 (by decide +kernel) rfl, x_in 354 (by decide +kernel) rfl, x_in 1 (by decide +kernel) rfl⟩
theorem wX10_checkColumn : x_Cw mX10_checkColumn 1 := ⟨x_in 1001 (by decide +kernel) rfl, x_in 65 (by decide +kernel) rfl, ⟨by decide, by decide⟩, by decide +kernel⟩
theorem l_X10_X10_checkColumn : x_LV RX10 123 1 mX10_checkColumn := ⟨wX10_checkColumn, rfl, x_in 998 (by decide +kernel) rfl, x_in 1000 (by decide +kernel) rfl, x_in 35 (by decide +kernel) rfl⟩
theorem wX5_typeOf : x_Cw mX5_typeOf 1 := ⟨x_in 750 (by decide +kernel) rfl, x_in 67 (by decide +kernel) rfl, ⟨by decide, by decide⟩, by decide +kernel⟩
theorem l_X10_X5_typeOf : x_LV RX10 126 1 mX5_typeOf := ⟨wX5_typeOf, rfl, x_in 1015 (by decide +kernel) rfl, x_in 748 (by decide +kernel) rfl, x_in 749 (by decide +kernel) rfl⟩
theorem wX10_checkRow : x_Cw mX10_checkRow 1 := ⟨x_in 1072 (by decide +kernel) rfl, x_in 65 (by decide +kernel) rfl, ⟨by decide, by decide⟩, by decide +kernel⟩
theorem l_X10_X10_checkRow : x_LV RX10 144 1 mX10_checkRow := ⟨wX10_checkRow, rfl, x_in 1069 (by decide +kernel) rfl, x_in 1071 (by decide +kernel) rfl, x_in 38 (by decide +kernel) rfl⟩
theorem wX10_checkStatement : x_Cw mX10_checkStatement 1 := ⟨x_in 351 (by decide +kernel) rfl, x_in 65 (by decide +kernel) rfl, ⟨by decide, by decide⟩, by decide +kernel⟩
theorem l_X10_X10_checkStatement : x_LV RX10 159 1 mX10_checkStatement := ⟨wX10_checkStatement, rfl, x_in 348 (by decide +kernel) rfl, x_in 350 (by decide +kernel) rfl, x_in 0 (by decide +kernel) rfl⟩
theorem wX9_keepsFreshPlan : x_Cw mX9_keepsFreshPlan 1 := ⟨x_in 992 (by decide +kernel) rfl, x_in 73 (by decide +kernel) rfl, ⟨by decide, by decide⟩, by decide +kernel⟩
theorem l_X10_X9_keepsFreshPlan : x_LV RX10 194 1 mX9_keepsFreshPlan := ⟨wX9_keepsFreshPlan, rfl, x_in 989 (by decide +kernel) rfl, x_in 990 (by decide +kernel) rfl, x_in 991 (by decide +kernel) rfl⟩
theorem wX10_checkPlan : x_Cw mX10_checkPlan 1 := ⟨x_in 1099 (by decide +kernel) rfl, x_in 65 (by decide +kernel) rfl, ⟨by decide, by decide⟩, by decide +kernel⟩
theorem l_X10_X10_checkPlan : x_LV RX10 204 1 mX10_checkPlan := ⟨wX10_checkPlan, rfl, x_in 1096 (by decide +kernel) rfl, x_in 1098 (by decide +kernel) rfl, x_in 41 (by decide +kernel) rfl⟩
theorem wX3_costOf : x_Cw mX3_costOf 3 := ⟨x_in 1106 (by decide +kernel) rfl, x_in 71 (by decide +kernel) rfl, ⟨by decide, by decide⟩, by decide +kernel⟩
theorem l_X10_X3_costOf : x_LV RX10 210 3 mX3_costOf := ⟨wX3_costOf, rfl, x_in 1103 (by decide +kernel) rfl, x_in 1104 (by decide +kernel) rfl, x_in 1105 (by decide +kernel) rfl⟩
theorem wX10_checkedValues : x_Cw mX10_checkedValues 5 := ⟨x_in 1140 (by decide +kernel) rfl, x_in 65 (by decide +kernel) rfl, ⟨by decide, by decide⟩, by decide +kernel⟩
theorem l_X10_X10_checkedValues : x_LV RX10 214 5 mX10_checkedValues := ⟨wX10_checkedValues, rfl, x_in 1137 (by decide +kernel) rfl, x_in 1139 (by decide +kernel) rfl, x_in 45 (by decide +kernel) rfl⟩
theorem wX3_bestPlan : x_Cw mX3_bestPlan 2 := ⟨x_in 1148 (by decide +kernel) rfl, x_in 71 (by decide +kernel) rfl, ⟨by decide, by decide⟩, by decide +kernel⟩
theorem l_X10_X3_bestPlan : x_LV RX10 218 2 mX3_bestPlan := ⟨wX3_bestPlan, rfl, x_in 1145 (by decide +kernel) rfl, x_in 1146 (by decide +kernel) rfl, x_in 1147 (by decide +kernel) rfl⟩
theorem wX10_spareCopy : x_Cw mX10_spareCopy 0 := ⟨x_in 1048 (by decide +kernel) rfl, x_in 65 (by decide +kernel) rfl, ⟨by decide, by decide⟩, by decide +kernel⟩
theorem l_X10_X10_spareCopy : x_LV RX10 222 0 mX10_spareCopy := ⟨wX10_spareCopy, rfl, x_in 1045 (by decide +kernel) rfl, x_in 1047 (by decide +kernel) rfl, x_in 37 (by decide +kernel) rfl⟩
theorem wX3_choosePlan : x_Cw mX3_choosePlan 2 := ⟨x_in 1161 (by decide +kernel) rfl, x_in 71 (by decide +kernel) rfl, ⟨by decide, by decide⟩, by decide +kernel⟩
theorem l_X10_X3_choosePlan : x_LV RX10 225 2 mX3_choosePlan := ⟨wX3_choosePlan, rfl, x_in 1158 (by decide +kernel) rfl, x_in 1159 (by decide +kernel) rfl, x_in 1160 (by decide +kernel) rfl⟩
theorem wX3_findRows : x_Cw mX3_findRows 2 := ⟨x_in 1192 (by decide +kernel) rfl, x_in 71 (by decide +kernel) rfl, ⟨by decide, by decide⟩, by decide +kernel⟩
theorem l_X10_X3_findRows : x_LV RX10 228 2 mX3_findRows := ⟨wX3_findRows, rfl, x_in 1189 (by decide +kernel) rfl, x_in 1190 (by decide +kernel) rfl, x_in 1191 (by decide +kernel) rfl⟩
theorem wX3_execute : x_Cw mX3_execute 2 := ⟨x_in 1225 (by decide +kernel) rfl, x_in 71 (by decide +kernel) rfl, ⟨by decide, by decide⟩, by decide +kernel⟩
theorem l_X10_X3_execute : x_LV RX10 232 2 mX3_execute := ⟨wX3_execute, rfl, x_in 1222 (by decide +kernel) rfl, x_in 1223 (by decide +kernel) rfl, x_in 1224 (by decide +kernel) rfl⟩
theorem wX10_checkRange : x_Cw mX10_checkRange 2 := ⟨x_in 1026 (by decide +kernel) rfl, x_in 65 (by decide +kernel) rfl, ⟨by decide, by decide⟩, by decide +kernel⟩
theorem l_X10_X10_checkRange : x_LS RX10 241 2 mX10_checkRange := ⟨wX10_checkRange, rfl, x_in 1025 (by decide +kernel) rfl, x_in 1024 (by decide +kernel) rfl⟩
theorem wX3_putCell : x_Cw mX3_putCell 3 := ⟨x_in 761 (by decide +kernel) rfl, x_in 71 (by decide +kernel) rfl, ⟨by decide, by decide⟩, by decide +kernel⟩
theorem l_X10_X3_putCell : x_LV RX10 250 3 mX3_putCell := ⟨wX3_putCell, rfl, x_in 1064 (by decide +kernel) rfl, x_in 759 (by decide +kernel) rfl, x_in 760 (by decide +kernel) rfl⟩
theorem wX3_removeRow : x_Cw mX3_removeRow 1 := ⟨x_in 1077 (by decide +kernel) rfl, x_in 71 (by decide +kernel) rfl, ⟨by decide, by decide⟩, by decide +kernel⟩
theorem l_X10_X3_removeRow : x_LV RX10 254 1 mX3_removeRow := ⟨wX3_removeRow, rfl, x_in 1074 (by decide +kernel) rfl, x_in 1075 (by decide +kernel) rfl, x_in 1076 (by decide +kernel) rfl⟩
theorem wX3_takeStatistics : x_Cw mX3_takeStatistics 0 := ⟨x_in 955 (by decide +kernel) rfl, x_in 71 (by decide +kernel) rfl, ⟨by decide, by decide⟩, by decide +kernel⟩
theorem l_X10_X3_takeStatistics : x_LV RX10 257 0 mX3_takeStatistics := ⟨wX3_takeStatistics, rfl, x_in 1083 (by decide +kernel) rfl, x_in 953 (by decide +kernel) rfl, x_in 954 (by decide +kernel) rfl⟩
theorem wX3_copyFrom : x_Cw mX3_copyFrom 1 := ⟨x_in 1052 (by decide +kernel) rfl, x_in 71 (by decide +kernel) rfl, ⟨by decide, by decide⟩, by decide +kernel⟩
theorem l_X10_X3_copyFrom : x_LV RX10 293 1 mX3_copyFrom := ⟨wX3_copyFrom, rfl, x_in 1049 (by decide +kernel) rfl, x_in 1050 (by decide +kernel) rfl, x_in 1051 (by decide +kernel) rfl⟩
theorem wX10_greatestOf : x_Cw mX10_greatestOf 1 := ⟨x_in 753 (by decide +kernel) rfl, x_in 65 (by decide +kernel) rfl, ⟨by decide, by decide⟩, by decide +kernel⟩
theorem l_X10_X10_greatestOf : x_LS RX10 315 1 mX10_greatestOf := ⟨wX10_greatestOf, rfl, x_in 752 (by decide +kernel) rfl, x_in 1027 (by decide +kernel) rfl⟩
theorem wX10_isLetter : x_Cw mX10_isLetter 1 := ⟨x_in 607 (by decide +kernel) rfl, x_in 65 (by decide +kernel) rfl, ⟨by decide, by decide⟩, by decide +kernel⟩
theorem l_X10_X10_isLetter : x_LS RX10 320 1 mX10_isLetter := ⟨wX10_isLetter, rfl, x_in 606 (by decide +kernel) rfl, x_in 615 (by decide +kernel) rfl⟩
theorem wX2_init : x_Cw mX2_init 0 := ⟨x_in 791 (by decide +kernel) rfl, x_in 81 (by decide +kernel) rfl, ⟨by decide, by decide⟩, by decide +kernel⟩
theorem l_X0_X2_init : x_LIN RX0 3 0 mX2_init "PreparedPlans" := ⟨wX2_init, rfl, rfl, rfl, x_in 790 (by decide +kernel) rfl, List.mem_of_getElem? (i := 882) (by decide +kernel)⟩
theorem wX3_cell : x_Cw mX3_cell 2 := ⟨x_in 963 (by decide +kernel) rfl, x_in 71 (by decide +kernel) rfl, ⟨by decide, by decide⟩, by decide +kernel⟩
theorem l_X0_X3_cell : x_LV RX0 30 2 mX3_cell := ⟨wX3_cell, rfl, x_in 1199 (by decide +kernel) rfl, x_in 961 (by decide +kernel) rfl, x_in 962 (by decide +kernel) rfl⟩
theorem wX0_valueWith : x_Cw mX0_valueWith 1 := ⟨x_in 1122 (by decide +kernel) rfl, x_in 83 (by decide +kernel) rfl, ⟨by decide, by decide⟩, by decide +kernel⟩
theorem l_X0_X0_valueWith : x_LV RX0 34 1 mX0_valueWith := ⟨wX0_valueWith, rfl, x_in 1200 (by decide +kernel) rfl, x_in 1120 (by decide +kernel) rfl, x_in 1121 (by decide +kernel) rfl⟩
theorem wX0_holds : x_Cw mX0_holds 2 := ⟨x_in 1204 (by decide +kernel) rfl, x_in 83 (by decide +kernel) rfl, ⟨by decide, by decide⟩, by decide +kernel⟩
theorem l_X0_X0_holds : x_LV RX0 38 2 mX0_holds := ⟨wX0_holds, rfl, x_in 1201 (by decide +kernel) rfl, x_in 1203 (by decide +kernel) rfl, x_in 50 (by decide +kernel) rfl⟩
theorem l_X1_X2_init : x_LIN RX1 1 0 mX2_init "PreparedPlans" := ⟨wX2_init, rfl, rfl, rfl, x_in 790 (by decide +kernel) rfl, List.mem_of_getElem? (i := 789) (by decide +kernel)⟩
theorem wX3_allRows : x_Cw mX3_allRows 0 := ⟨x_in 1211 (by decide +kernel) rfl, x_in 71 (by decide +kernel) rfl, ⟨by decide, by decide⟩, by decide +kernel⟩
theorem l_X1_X3_allRows : x_LV RX1 20 0 mX3_allRows := ⟨wX3_allRows, rfl, x_in 1208 (by decide +kernel) rfl, x_in 1209 (by decide +kernel) rfl, x_in 1210 (by decide +kernel) rfl⟩
theorem wX0_matches : x_Cw mX0_matches 2 := ⟨x_in 1198 (by decide +kernel) rfl, x_in 83 (by decide +kernel) rfl, ⟨by decide, by decide⟩, by decide +kernel⟩
theorem lu_X1_X0_matches : x_LU RX1 34 2 ⟨"PreparedPlans$Condition", "matches", "(LPreparedPlans$Data;[I)J"⟩ mX0_matches := ⟨wX0_matches, rfl, x_in 1212 (by decide +kernel) rfl, x_in 1195 (by decide +kernel) rfl, x_in 1196 (by decide +kernel) rfl, x_in 1197 (by decide +kernel) rfl, List.mem_of_getElem? (i := 1194) (by decide +kernel), ⟨by decide, by decide⟩, rfl⟩
theorem wX1_matches : x_Cw mX1_matches 2 := ⟨x_in 1207 (by decide +kernel) rfl, x_in 82 (by decide +kernel) rfl, ⟨by decide, by decide⟩, by decide +kernel⟩
theorem lu_X1_X1_matches : x_LU RX1 34 2 ⟨"PreparedPlans$Condition", "matches", "(LPreparedPlans$Data;[I)J"⟩ mX1_matches := ⟨wX1_matches, rfl, x_in 1212 (by decide +kernel) rfl, x_in 1195 (by decide +kernel) rfl, x_in 1205 (by decide +kernel) rfl, x_in 1206 (by decide +kernel) rfl, List.mem_of_getElem? (i := 1194) (by decide +kernel), ⟨by decide, by decide⟩, rfl⟩
theorem wX0_addSargable : x_Cw mX0_addSargable 1 := ⟨x_in 933 (by decide +kernel) rfl, x_in 83 (by decide +kernel) rfl, ⟨by decide, by decide⟩, by decide +kernel⟩
theorem lu_X1_X0_addSargable : x_LU RX1 40 1 ⟨"PreparedPlans$Condition", "addSargable", "(Ljava/util/ArrayList;)V"⟩ mX0_addSargable := ⟨wX0_addSargable, rfl, x_in 941 (by decide +kernel) rfl, x_in 930 (by decide +kernel) rfl, x_in 931 (by decide +kernel) rfl, x_in 932 (by decide +kernel) rfl, List.mem_of_getElem? (i := 929) (by decide +kernel), ⟨by decide, by decide⟩, rfl⟩
theorem wX1_addSargable : x_Cw mX1_addSargable 1 := ⟨x_in 937 (by decide +kernel) rfl, x_in 82 (by decide +kernel) rfl, ⟨by decide, by decide⟩, by decide +kernel⟩
theorem lu_X1_X1_addSargable : x_LU RX1 40 1 ⟨"PreparedPlans$Condition", "addSargable", "(Ljava/util/ArrayList;)V"⟩ mX1_addSargable := ⟨wX1_addSargable, rfl, x_in 941 (by decide +kernel) rfl, x_in 930 (by decide +kernel) rfl, x_in 935 (by decide +kernel) rfl, x_in 936 (by decide +kernel) rfl, List.mem_of_getElem? (i := 929) (by decide +kernel), ⟨by decide, by decide⟩, rfl⟩
theorem wX7_init : x_Cw mX7_init 0 := ⟨x_in 219 (by decide +kernel) rfl, x_in 72 (by decide +kernel) rfl, ⟨by decide, by decide⟩, by decide +kernel⟩
theorem l_X3_X7_init : x_LIN RX3 21 0 mX7_init "PreparedPlans" := ⟨wX7_init, rfl, rfl, rfl, x_in 218 (by decide +kernel) rfl, List.mem_of_getElem? (i := 217) (by decide +kernel)⟩
theorem wX9_init : x_Cw mX9_init 0 := ⟨x_in 248 (by decide +kernel) rfl, x_in 73 (by decide +kernel) rfl, ⟨by decide, by decide⟩, by decide +kernel⟩
theorem l_X3_X9_init : x_LIN RX3 36 0 mX9_init "PreparedPlans" := ⟨wX9_init, rfl, rfl, rfl, x_in 247 (by decide +kernel) rfl, List.mem_of_getElem? (i := 246) (by decide +kernel)⟩
theorem wX9_clear : x_Cw mX9_clear 0 := ⟨x_in 687 (by decide +kernel) rfl, x_in 73 (by decide +kernel) rfl, ⟨by decide, by decide⟩, by decide +kernel⟩
theorem l_X3_X9_clear : x_LV RX3 44 0 mX9_clear := ⟨wX9_clear, rfl, x_in 684 (by decide +kernel) rfl, x_in 685 (by decide +kernel) rfl, x_in 686 (by decide +kernel) rfl⟩
theorem wX7_copyFrom : x_Cw mX7_copyFrom 1 := ⟨x_in 1057 (by decide +kernel) rfl, x_in 72 (by decide +kernel) rfl, ⟨by decide, by decide⟩, by decide +kernel⟩
theorem l_X3_X7_copyFrom : x_LV RX3 53 1 mX7_copyFrom := ⟨wX7_copyFrom, rfl, x_in 1054 (by decide +kernel) rfl, x_in 1055 (by decide +kernel) rfl, x_in 1056 (by decide +kernel) rfl⟩
theorem wX9_copyFrom : x_Cw mX9_copyFrom 1 := ⟨x_in 1062 (by decide +kernel) rfl, x_in 73 (by decide +kernel) rfl, ⟨by decide, by decide⟩, by decide +kernel⟩
theorem l_X3_X9_copyFrom : x_LV RX3 57 1 mX9_copyFrom := ⟨wX9_copyFrom, rfl, x_in 1059 (by decide +kernel) rfl, x_in 1060 (by decide +kernel) rfl, x_in 1061 (by decide +kernel) rfl⟩
theorem wX3_isCell : x_Cw mX3_isCell 2 := ⟨x_in 764 (by decide +kernel) rfl, x_in 71 (by decide +kernel) rfl, ⟨by decide, by decide⟩, by decide +kernel⟩
theorem l_X3_X3_isCell : x_LS RX3 60 2 mX3_isCell := ⟨wX3_isCell, rfl, x_in 763 (by decide +kernel) rfl, x_in 762 (by decide +kernel) rfl⟩
theorem l_X3_X3_cell : x_LV RX3 64 2 mX3_cell := ⟨wX3_cell, rfl, x_in 960 (by decide +kernel) rfl, x_in 961 (by decide +kernel) rfl, x_in 962 (by decide +kernel) rfl⟩
theorem l_X3_X3_putCell : x_LV RX3 68 3 mX3_putCell := ⟨wX3_putCell, rfl, x_in 1078 (by decide +kernel) rfl, x_in 759 (by decide +kernel) rfl, x_in 760 (by decide +kernel) rfl⟩
theorem wX3_takeStatisticsOf : x_Cw mX3_takeStatisticsOf 1 := ⟨x_in 959 (by decide +kernel) rfl, x_in 71 (by decide +kernel) rfl, ⟨by decide, by decide⟩, by decide +kernel⟩
theorem l_X3_X3_takeStatisticsOf : x_LV RX3 78 1 mX3_takeStatisticsOf := ⟨wX3_takeStatisticsOf, rfl, x_in 956 (by decide +kernel) rfl, x_in 958 (by decide +kernel) rfl, x_in 30 (by decide +kernel) rfl⟩
theorem wX3_isFirst : x_Cw mX3_isFirst 2 := ⟨x_in 969 (by decide +kernel) rfl, x_in 71 (by decide +kernel) rfl, ⟨by decide, by decide⟩, by decide +kernel⟩
theorem l_X3_X3_isFirst : x_LV RX3 90 2 mX3_isFirst := ⟨wX3_isFirst, rfl, x_in 966 (by decide +kernel) rfl, x_in 968 (by decide +kernel) rfl, x_in 31 (by decide +kernel) rfl⟩
theorem lu_X3_X0_matches : x_LU RX3 118 2 ⟨"PreparedPlans$Condition", "matches", "(LPreparedPlans$Data;[I)J"⟩ mX0_matches := ⟨wX0_matches, rfl, x_in 1193 (by decide +kernel) rfl, x_in 1195 (by decide +kernel) rfl, x_in 1196 (by decide +kernel) rfl, x_in 1197 (by decide +kernel) rfl, List.mem_of_getElem? (i := 1194) (by decide +kernel), ⟨by decide, by decide⟩, rfl⟩
theorem lu_X3_X1_matches : x_LU RX3 118 2 ⟨"PreparedPlans$Condition", "matches", "(LPreparedPlans$Data;[I)J"⟩ mX1_matches := ⟨wX1_matches, rfl, x_in 1193 (by decide +kernel) rfl, x_in 1195 (by decide +kernel) rfl, x_in 1205 (by decide +kernel) rfl, x_in 1206 (by decide +kernel) rfl, List.mem_of_getElem? (i := 1194) (by decide +kernel), ⟨by decide, by decide⟩, rfl⟩
theorem wX7_estimate : x_Cw mX7_estimate 2 := ⟨x_in 1118 (by decide +kernel) rfl, x_in 72 (by decide +kernel) rfl, ⟨by decide, by decide⟩, by decide +kernel⟩
theorem l_X3_X7_estimate : x_LV RX3 136 2 mX7_estimate := ⟨wX7_estimate, rfl, x_in 1115 (by decide +kernel) rfl, x_in 1116 (by decide +kernel) rfl, x_in 1117 (by decide +kernel) rfl⟩
theorem wX3_chosenFor : x_Cw mX3_chosenFor 3 := ⟨x_in 1110 (by decide +kernel) rfl, x_in 71 (by decide +kernel) rfl, ⟨by decide, by decide⟩, by decide +kernel⟩
theorem l_X3_X3_chosenFor : x_LV RX3 143 3 mX3_chosenFor := ⟨wX3_chosenFor, rfl, x_in 1107 (by decide +kernel) rfl, x_in 1109 (by decide +kernel) rfl, x_in 42 (by decide +kernel) rfl⟩
theorem l_X3_X3_costOf : x_LV RX3 156 3 mX3_costOf := ⟨wX3_costOf, rfl, x_in 1149 (by decide +kernel) rfl, x_in 1104 (by decide +kernel) rfl, x_in 1105 (by decide +kernel) rfl⟩
theorem l_X3_X9_keepsFreshPlan : x_LV RX3 166 1 mX9_keepsFreshPlan := ⟨wX9_keepsFreshPlan, rfl, x_in 1162 (by decide +kernel) rfl, x_in 990 (by decide +kernel) rfl, x_in 991 (by decide +kernel) rfl⟩
theorem l_X3_X3_bestPlan : x_LV RX3 173 2 mX3_bestPlan := ⟨wX3_bestPlan, rfl, x_in 1164 (by decide +kernel) rfl, x_in 1146 (by decide +kernel) rfl, x_in 1147 (by decide +kernel) rfl⟩
theorem wX9_keep : x_Cw mX9_keep 3 := ⟨x_in 1168 (by decide +kernel) rfl, x_in 73 (by decide +kernel) rfl, ⟨by decide, by decide⟩, by decide +kernel⟩
theorem l_X3_X9_keep : x_LV RX3 177 3 mX9_keep := ⟨wX9_keep, rfl, x_in 1165 (by decide +kernel) rfl, x_in 1166 (by decide +kernel) rfl, x_in 1167 (by decide +kernel) rfl⟩
theorem wX9_prefersKeptPlan : x_Cw mX9_prefersKeptPlan 0 := ⟨x_in 1172 (by decide +kernel) rfl, x_in 73 (by decide +kernel) rfl, ⟨by decide, by decide⟩, by decide +kernel⟩
theorem l_X3_X9_prefersKeptPlan : x_LV RX3 180 0 mX9_prefersKeptPlan := ⟨wX9_prefersKeptPlan, rfl, x_in 1169 (by decide +kernel) rfl, x_in 1170 (by decide +kernel) rfl, x_in 1171 (by decide +kernel) rfl⟩
theorem l_X3_X3_choosePlan : x_LV RX3 187 2 mX3_choosePlan := ⟨wX3_choosePlan, rfl, x_in 1226 (by decide +kernel) rfl, x_in 1159 (by decide +kernel) rfl, x_in 1160 (by decide +kernel) rfl⟩
theorem l_X3_X0_matches : x_LV RX3 199 2 mX0_matches := ⟨wX0_matches, rfl, x_in 1227 (by decide +kernel) rfl, x_in 1197 (by decide +kernel) rfl, x_in 1466 (by decide +kernel) rfl⟩
theorem wX9_learn : x_Cw mX9_learn 3 := ⟨x_in 1237 (by decide +kernel) rfl, x_in 73 (by decide +kernel) rfl, ⟨by decide, by decide⟩, by decide +kernel⟩
theorem l_X3_X9_learn : x_LV RX3 206 3 mX9_learn := ⟨wX9_learn, rfl, x_in 1234 (by decide +kernel) rfl, x_in 1235 (by decide +kernel) rfl, x_in 1236 (by decide +kernel) rfl⟩
theorem l_X6_X5_init : x_LIN RX6 11 0 mX5_init "PreparedPlans" := ⟨wX5_init, rfl, rfl, rfl, x_in 138 (by decide +kernel) rfl, List.mem_of_getElem? (i := 654) (by decide +kernel)⟩
theorem wX3_clear : x_Cw mX3_clear 1 := ⟨x_in 683 (by decide +kernel) rfl, x_in 71 (by decide +kernel) rfl, ⟨by decide, by decide⟩, by decide +kernel⟩
theorem l_X6_X3_clear : x_LV RX6 34 1 mX3_clear := ⟨wX3_clear, rfl, x_in 680 (by decide +kernel) rfl, x_in 681 (by decide +kernel) rfl, x_in 682 (by decide +kernel) rfl⟩
theorem wX8_advance : x_Cw mX8_advance 0 := ⟨x_in 691 (by decide +kernel) rfl, x_in 66 (by decide +kernel) rfl, ⟨by decide, by decide⟩, by decide +kernel⟩
theorem l_X6_X8_advance : x_LV RX6 40 0 mX8_advance := ⟨wX8_advance, rfl, x_in 688 (by decide +kernel) rfl, x_in 689 (by decide +kernel) rfl, x_in 690 (by decide +kernel) rfl⟩
theorem wX6_expectWord : x_Cw mX6_expectWord 1 := ⟨x_in 696 (by decide +kernel) rfl, x_in 78 (by decide +kernel) rfl, ⟨by decide, by decide⟩, by decide +kernel⟩
theorem l_X6_X6_expectWord : x_LV RX6 47 1 mX6_expectWord := ⟨wX6_expectWord, rfl, x_in 693 (by decide +kernel) rfl, x_in 695 (by decide +kernel) rfl, x_in 9 (by decide +kernel) rfl⟩
theorem wX6_expectByte : x_Cw mX6_expectByte 1 := ⟨x_in 708 (by decide +kernel) rfl, x_in 78 (by decide +kernel) rfl, ⟨by decide, by decide⟩, by decide +kernel⟩
theorem l_X6_X6_expectByte : x_LV RX6 51 1 mX6_expectByte := ⟨wX6_expectByte, rfl, x_in 705 (by decide +kernel) rfl, x_in 707 (by decide +kernel) rfl, x_in 11 (by decide +kernel) rfl⟩
theorem wX8_isWord : x_Cw mX8_isWord 1 := ⟨x_in 700 (by decide +kernel) rfl, x_in 66 (by decide +kernel) rfl, ⟨by decide, by decide⟩, by decide +kernel⟩
theorem l_X6_X8_isWord : x_LV RX6 57 1 mX8_isWord := ⟨wX8_isWord, rfl, x_in 697 (by decide +kernel) rfl, x_in 698 (by decide +kernel) rfl, x_in 699 (by decide +kernel) rfl⟩
theorem wX6_readColumn : x_Cw mX6_readColumn 0 := ⟨x_in 713 (by decide +kernel) rfl, x_in 78 (by decide +kernel) rfl, ⟨by decide, by decide⟩, by decide +kernel⟩
theorem l_X6_X6_readColumn : x_LV RX6 61 0 mX6_readColumn := ⟨wX6_readColumn, rfl, x_in 710 (by decide +kernel) rfl, x_in 712 (by decide +kernel) rfl, x_in 12 (by decide +kernel) rfl⟩
theorem wX6_readIndex : x_Cw mX6_readIndex 0 := ⟨x_in 737 (by decide +kernel) rfl, x_in 78 (by decide +kernel) rfl, ⟨by decide, by decide⟩, by decide +kernel⟩
