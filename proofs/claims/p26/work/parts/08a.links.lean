/-! ===== words and links, by program ===== -/
theorem x_in {w : Cond} (i : Nat) (h : lw_tbl[i]? = some w) (hg : goodWord w = true) : w ∈ x_T := List.mem_filter.mpr ⟨List.mem_of_getElem? h, hg⟩
theorem x_ins (ws : List Cond) (is : List Nat) (h : is.map (fun i => lw_tbl[i]?) = ws.map some) (hg : ws.all goodWord = true) : ∀ w ∈ ws, w ∈ x_T := by
  intro w hw
  obtain ⟨k, hk⟩ := List.getElem?_of_mem hw
  have h1 : (is.map (fun i => lw_tbl[i]?))[k]? = some (some w) := by rw [h, List.getElem?_map, hk]; rfl
  rw [List.getElem?_map] at h1
  cases hi : is[k]? with
  | none => rw [hi] at h1; cases h1
  | some i =>
    rw [hi] at h1
    exact List.mem_filter.mpr ⟨List.mem_of_getElem? (Option.some.inj h1), List.all_eq_true.mp hg w hw⟩
theorem cl_0 : x_Cl 0 RJx4a65c TJx4a65c 3 tyJx4a65c := ⟨rfl, x_ins _ [164, 160, 162] (by decide +kernel) (by decide +kernel), tyJx4a65c_ok, nmJx4a65c⟩
theorem cl_1 : x_Cl 1 RX0 TX0 4 tyX0 := ⟨rfl, x_ins _ [890, 892, 894, 896] (by decide +kernel) (by decide +kernel), tyX0_ok, nmX0⟩
theorem cl_2 : x_Cl 2 RX1 TX1 2 tyX1 := ⟨rfl, x_ins _ [798, 800] (by decide +kernel) (by decide +kernel), tyX1_ok, nmX1⟩
theorem cl_3 : x_Cl 3 RX3 TX3 7 tyX3 := ⟨rfl, x_ins _ [307, 309, 311, 313, 315, 317, 319] (by decide +kernel) (by decide +kernel), tyX3_ok, nmX3⟩
theorem cl_4 : x_Cl 4 RX4 TX4 4 tyX4 := ⟨rfl, x_ins _ [919, 921, 923, 925] (by decide +kernel) (by decide +kernel), tyX4_ok, nmX4⟩
theorem cl_5 : x_Cl 5 RX5 TX5 8 tyX5 := ⟨rfl, x_ins _ [193, 195, 197, 199, 201, 203, 205, 207] (by decide +kernel) (by decide +kernel), tyX5_ok, nmX5⟩
theorem cl_6 : x_Cl 6 RX6 TX6 6 tyX6 := ⟨rfl, x_ins _ [663, 665, 667, 669, 671, 673] (by decide +kernel) (by decide +kernel), tyX6_ok, nmX6⟩
theorem cl_7 : x_Cl 7 RX7 TX7 4 tyX7 := ⟨rfl, x_ins _ [233, 235, 237, 239] (by decide +kernel) (by decide +kernel), tyX7_ok, nmX7⟩
theorem cl_8 : x_Cl 8 RX8 TX8 8 tyX8 := ⟨rfl, x_ins _ [113, 115, 117, 119, 121, 123, 125, 127] (by decide +kernel) (by decide +kernel), tyX8_ok, nmX8⟩
theorem cl_9 : x_Cl 9 RX9 TX9 9 tyX9 := ⟨rfl, x_ins _ [272, 274, 276, 278, 280, 282, 284, 286, 288] (by decide +kernel) (by decide +kernel), tyX9_ok, nmX9⟩
theorem cl_10 : x_Cl 10 RX10 TX10 7 tyX10 := ⟨rfl, x_ins _ [329, 331, 333, 335, 337, 339, 341] (by decide +kernel) (by decide +kernel), tyX10_ok, nmX10⟩
theorem cl_11 : x_Cl 11 RL TL 21 tyL := ⟨rfl, x_ins _ [485, 487, 489, 491, 493, 495, 497, 499, 501, 503, 505, 507, 509, 511, 513, 515, 517, 519, 521, 523, 525] (by decide +kernel) (by decide +kernel), tyL_ok, nmL⟩
theorem cl_12 : x_Cl 12 RJ4 TJ4 4 tyJ4 := ⟨rfl, x_ins _ [1355, 1357, 1359, 1361] (by decide +kernel) (by decide +kernel), tyJ4_ok, nmJ4⟩
theorem cl_13 : x_Cl 13 RJ0 TJ0 4 tyJ0 := ⟨rfl, x_ins _ [1450, 1452, 1454, 1456] (by decide +kernel) (by decide +kernel), tyJ0_ok, nmJ0⟩
theorem f_X10_9 : x_FL RX10 9 10 0 (.array .byte) true := ⟨_, _, _, _, cl_10, by decide, rfl, rfl, Or.inl (x_in 322 (by decide +kernel) rfl)⟩
theorem f_X10_13 : x_FL RX10 13 10 2 .int false := ⟨_, _, _, _, cl_10, by decide, rfl, rfl, Or.inl (x_in 324 (by decide +kernel) rfl)⟩
theorem f_X10_20 : x_FL RX10 20 10 3 (.object "PreparedPlans$Tokens") true := ⟨_, _, _, _, cl_10, by decide, rfl, rfl, Or.inl (x_in 325 (by decide +kernel) rfl)⟩
theorem f_X10_26 : x_FL RX10 26 10 4 (.array (.object "PreparedPlans$Data")) true := ⟨_, _, _, _, cl_10, by decide, rfl, rfl, Or.inl (x_in 326 (by decide +kernel) rfl)⟩
theorem f_X10_36 : x_FL RX10 36 10 1 .int false := ⟨_, _, _, _, cl_10, by decide, rfl, rfl, Or.inl (x_in 323 (by decide +kernel) rfl)⟩
theorem f_X10_62 : x_FL RX10 62 6 5 .int false := ⟨_, _, _, _, cl_6, by decide, rfl, rfl, Or.inr ⟨"PreparedPlans", List.mem_of_getElem? (i := 662) (by decide +kernel)⟩⟩
theorem f_X10_65 : x_FL RX10 65 6 4 .int false := ⟨_, _, _, _, cl_6, by decide, rfl, rfl, Or.inr ⟨"PreparedPlans", List.mem_of_getElem? (i := 660) (by decide +kernel)⟩⟩
theorem f_X10_75 : x_FL RX10 75 3 0 (.object "PreparedPlans$Setup") false := ⟨_, _, _, _, cl_3, by decide, rfl, rfl, Or.inr ⟨"PreparedPlans", List.mem_of_getElem? (i := 292) (by decide +kernel)⟩⟩
theorem f_X10_79 : x_FL RX10 79 5 3 (.object "java/util/ArrayList") true := ⟨_, _, _, _, cl_5, by decide, rfl, rfl, Or.inr ⟨"PreparedPlans", List.mem_of_getElem? (i := 174) (by decide +kernel)⟩⟩
theorem f_X10_88 : x_FL RX10 88 5 0 .int false := ⟨_, _, _, _, cl_5, by decide, rfl, rfl, Or.inr ⟨"PreparedPlans", List.mem_of_getElem? (i := 168) (by decide +kernel)⟩⟩
theorem f_X10_91 : x_FL RX10 91 3 1 .int false := ⟨_, _, _, _, cl_3, by decide, rfl, rfl, Or.inr ⟨"PreparedPlans", List.mem_of_getElem? (i := 295) (by decide +kernel)⟩⟩
theorem f_X10_94 : x_FL RX10 94 3 2 .int false := ⟨_, _, _, _, cl_3, by decide, rfl, rfl, Or.inr ⟨"PreparedPlans", List.mem_of_getElem? (i := 298) (by decide +kernel)⟩⟩
theorem f_X10_97 : x_FL RX10 97 5 4 .int false := ⟨_, _, _, _, cl_5, by decide, rfl, rfl, Or.inr ⟨"PreparedPlans", List.mem_of_getElem? (i := 178) (by decide +kernel)⟩⟩
theorem f_X10_100 : x_FL RX10 100 5 5 .int false := ⟨_, _, _, _, cl_5, by decide, rfl, rfl, Or.inr ⟨"PreparedPlans", List.mem_of_getElem? (i := 182) (by decide +kernel)⟩⟩
theorem f_X10_103 : x_FL RX10 103 5 6 .int false := ⟨_, _, _, _, cl_5, by decide, rfl, rfl, Or.inr ⟨"PreparedPlans", List.mem_of_getElem? (i := 186) (by decide +kernel)⟩⟩
theorem f_X10_106 : x_FL RX10 106 5 7 .int false := ⟨_, _, _, _, cl_5, by decide, rfl, rfl, Or.inr ⟨"PreparedPlans", List.mem_of_getElem? (i := 190) (by decide +kernel)⟩⟩
theorem f_X10_109 : x_FL RX10 109 3 5 (.object "PreparedPlans$Statistics") true := ⟨_, _, _, _, cl_3, by decide, rfl, rfl, Or.inr ⟨"PreparedPlans", List.mem_of_getElem? (i := 304) (by decide +kernel)⟩⟩
theorem f_X10_113 : x_FL RX10 113 7 0 .int false := ⟨_, _, _, _, cl_7, by decide, rfl, rfl, Or.inr ⟨"PreparedPlans", List.mem_of_getElem? (i := 222) (by decide +kernel)⟩⟩
theorem f_X10_130 : x_FL RX10 130 3 4 (.array .boolean) true := ⟨_, _, _, _, cl_3, by decide, rfl, rfl, Or.inr ⟨"PreparedPlans", List.mem_of_getElem? (i := 301) (by decide +kernel)⟩⟩
theorem f_X10_134 : x_FL RX10 134 7 1 (.array .int) true := ⟨_, _, _, _, cl_7, by decide, rfl, rfl, Or.inr ⟨"PreparedPlans", List.mem_of_getElem? (i := 225) (by decide +kernel)⟩⟩
theorem f_X10_138 : x_FL RX10 138 7 2 (.array .int) true := ⟨_, _, _, _, cl_7, by decide, rfl, rfl, Or.inr ⟨"PreparedPlans", List.mem_of_getElem? (i := 228) (by decide +kernel)⟩⟩
theorem f_X10_141 : x_FL RX10 141 7 3 (.array .int) true := ⟨_, _, _, _, cl_7, by decide, rfl, rfl, Or.inr ⟨"PreparedPlans", List.mem_of_getElem? (i := 231) (by decide +kernel)⟩⟩
theorem f_X10_170 : x_FL RX10 170 4 2 (.array .int) true := ⟨_, _, _, _, cl_4, by decide, rfl, rfl, Or.inr ⟨"PreparedPlans", List.mem_of_getElem? (i := 915) (by decide +kernel)⟩⟩
theorem f_X10_173 : x_FL RX10 173 3 6 (.array (.object "PreparedPlans$Usage")) true := ⟨_, _, _, _, cl_3, by decide, rfl, rfl, Or.inr ⟨"PreparedPlans", List.mem_of_getElem? (i := 306) (by decide +kernel)⟩⟩
theorem f_X10_177 : x_FL RX10 177 9 0 .int false := ⟨_, _, _, _, cl_9, by decide, rfl, rfl, Or.inr ⟨"PreparedPlans", List.mem_of_getElem? (i := 251) (by decide +kernel)⟩⟩
theorem f_X10_182 : x_FL RX10 182 9 1 .int false := ⟨_, _, _, _, cl_9, by decide, rfl, rfl, Or.inr ⟨"PreparedPlans", List.mem_of_getElem? (i := 254) (by decide +kernel)⟩⟩
theorem f_X10_185 : x_FL RX10 185 9 2 .int false := ⟨_, _, _, _, cl_9, by decide, rfl, rfl, Or.inr ⟨"PreparedPlans", List.mem_of_getElem? (i := 257) (by decide +kernel)⟩⟩
theorem f_X10_188 : x_FL RX10 188 9 3 .int false := ⟨_, _, _, _, cl_9, by decide, rfl, rfl, Or.inr ⟨"PreparedPlans", List.mem_of_getElem? (i := 260) (by decide +kernel)⟩⟩
theorem f_X10_191 : x_FL RX10 191 9 4 .int false := ⟨_, _, _, _, cl_9, by decide, rfl, rfl, Or.inr ⟨"PreparedPlans", List.mem_of_getElem? (i := 262) (by decide +kernel)⟩⟩
theorem f_X10_198 : x_FL RX10 198 9 7 .int false := ⟨_, _, _, _, cl_9, by decide, rfl, rfl, Or.inr ⟨"PreparedPlans", List.mem_of_getElem? (i := 267) (by decide +kernel)⟩⟩
theorem f_X10_201 : x_FL RX10 201 9 8 (.array .int) true := ⟨_, _, _, _, cl_9, by decide, rfl, rfl, Or.inr ⟨"PreparedPlans", List.mem_of_getElem? (i := 270) (by decide +kernel)⟩⟩
theorem f_X10_260 : x_FL RX10 260 10 6 .int false := ⟨_, _, _, _, cl_10, by decide, rfl, rfl, Or.inl (x_in 328 (by decide +kernel) rfl)⟩
theorem f_X10_263 : x_FL RX10 263 10 5 .int false := ⟨_, _, _, _, cl_10, by decide, rfl, rfl, Or.inl (x_in 327 (by decide +kernel) rfl)⟩
theorem f_X0_9 : x_FL RX0 9 1 0 .int true := ⟨_, _, _, _, cl_1, by decide, rfl, rfl, Or.inl (x_in 883 (by decide +kernel) rfl)⟩
theorem f_X0_15 : x_FL RX0 15 1 1 .char true := ⟨_, _, _, _, cl_1, by decide, rfl, rfl, Or.inl (x_in 886 (by decide +kernel) rfl)⟩
theorem f_X0_19 : x_FL RX0 19 1 2 .int true := ⟨_, _, _, _, cl_1, by decide, rfl, rfl, Or.inl (x_in 888 (by decide +kernel) rfl)⟩
theorem f_X0_22 : x_FL RX0 22 1 3 .int true := ⟨_, _, _, _, cl_1, by decide, rfl, rfl, Or.inl (x_in 889 (by decide +kernel) rfl)⟩
theorem f_X0_25 : x_FL RX0 25 3 1 .int false := ⟨_, _, _, _, cl_3, by decide, rfl, rfl, Or.inr ⟨"PreparedPlans", List.mem_of_getElem? (i := 294) (by decide +kernel)⟩⟩
theorem f_X1_10 : x_FL RX1 10 2 1 (.object "java/util/ArrayList") true := ⟨_, _, _, _, cl_2, by decide, rfl, rfl, Or.inl (x_in 796 (by decide +kernel) rfl)⟩
theorem f_X1_16 : x_FL RX1 16 2 0 .int true := ⟨_, _, _, _, cl_2, by decide, rfl, rfl, Or.inl (x_in 795 (by decide +kernel) rfl)⟩
theorem f_X3_9 : x_FL RX3 9 3 3 (.array .int) true := ⟨_, _, _, _, cl_3, by decide, rfl, rfl, Or.inl (x_in 299 (by decide +kernel) rfl)⟩
theorem f_X3_15 : x_FL RX3 15 3 4 (.array .boolean) true := ⟨_, _, _, _, cl_3, by decide, rfl, rfl, Or.inl (x_in 300 (by decide +kernel) rfl)⟩
theorem f_X3_22 : x_FL RX3 22 3 5 (.object "PreparedPlans$Statistics") true := ⟨_, _, _, _, cl_3, by decide, rfl, rfl, Or.inl (x_in 303 (by decide +kernel) rfl)⟩
theorem f_X3_28 : x_FL RX3 28 3 6 (.array (.object "PreparedPlans$Usage")) true := ⟨_, _, _, _, cl_3, by decide, rfl, rfl, Or.inl (x_in 305 (by decide +kernel) rfl)⟩
theorem f_X3_32 : x_FL RX3 32 3 0 (.object "PreparedPlans$Setup") false := ⟨_, _, _, _, cl_3, by decide, rfl, rfl, Or.inl (x_in 291 (by decide +kernel) rfl)⟩
theorem f_X3_37 : x_FL RX3 37 3 1 .int false := ⟨_, _, _, _, cl_3, by decide, rfl, rfl, Or.inl (x_in 293 (by decide +kernel) rfl)⟩
theorem f_X3_41 : x_FL RX3 41 3 2 .int false := ⟨_, _, _, _, cl_3, by decide, rfl, rfl, Or.inl (x_in 297 (by decide +kernel) rfl)⟩
theorem f_X3_72 : x_FL RX3 72 7 0 .int false := ⟨_, _, _, _, cl_7, by decide, rfl, rfl, Or.inr ⟨"PreparedPlans", List.mem_of_getElem? (i := 223) (by decide +kernel)⟩⟩
theorem f_X3_73 : x_FL RX3 73 5 0 .int false := ⟨_, _, _, _, cl_5, by decide, rfl, rfl, Or.inr ⟨"PreparedPlans", List.mem_of_getElem? (i := 170) (by decide +kernel)⟩⟩
theorem f_X3_93 : x_FL RX3 93 7 1 (.array .int) true := ⟨_, _, _, _, cl_7, by decide, rfl, rfl, Or.inr ⟨"PreparedPlans", List.mem_of_getElem? (i := 226) (by decide +kernel)⟩⟩
theorem f_X3_96 : x_FL RX3 96 7 2 (.array .int) true := ⟨_, _, _, _, cl_7, by decide, rfl, rfl, Or.inr ⟨"PreparedPlans", List.mem_of_getElem? (i := 229) (by decide +kernel)⟩⟩
theorem f_X3_99 : x_FL RX3 99 7 3 (.array .int) true := ⟨_, _, _, _, cl_7, by decide, rfl, rfl, Or.inr ⟨"PreparedPlans", List.mem_of_getElem? (i := 232) (by decide +kernel)⟩⟩
theorem f_X3_102 : x_FL RX3 102 5 3 (.object "java/util/ArrayList") true := ⟨_, _, _, _, cl_5, by decide, rfl, rfl, Or.inr ⟨"PreparedPlans", List.mem_of_getElem? (i := 175) (by decide +kernel)⟩⟩
theorem f_X3_114 : x_FL RX3 114 4 1 (.object "PreparedPlans$Condition") true := ⟨_, _, _, _, cl_4, by decide, rfl, rfl, Or.inr ⟨"PreparedPlans", List.mem_of_getElem? (i := 912) (by decide +kernel)⟩⟩
theorem f_X3_124 : x_FL RX3 124 4 3 (.object "java/util/ArrayList") true := ⟨_, _, _, _, cl_4, by decide, rfl, rfl, Or.inr ⟨"PreparedPlans", List.mem_of_getElem? (i := 917) (by decide +kernel)⟩⟩
theorem f_X3_133 : x_FL RX3 133 1 0 .int true := ⟨_, _, _, _, cl_1, by decide, rfl, rfl, Or.inr ⟨"PreparedPlans", List.mem_of_getElem? (i := 885) (by decide +kernel)⟩⟩
theorem f_X3_140 : x_FL RX3 140 5 4 .int false := ⟨_, _, _, _, cl_5, by decide, rfl, rfl, Or.inr ⟨"PreparedPlans", List.mem_of_getElem? (i := 179) (by decide +kernel)⟩⟩
theorem f_X3_147 : x_FL RX3 147 9 8 (.array .int) true := ⟨_, _, _, _, cl_9, by decide, rfl, rfl, Or.inr ⟨"PreparedPlans", List.mem_of_getElem? (i := 271) (by decide +kernel)⟩⟩
theorem f_X3_150 : x_FL RX3 150 5 5 .int false := ⟨_, _, _, _, cl_5, by decide, rfl, rfl, Or.inr ⟨"PreparedPlans", List.mem_of_getElem? (i := 184) (by decide +kernel)⟩⟩
theorem f_X3_153 : x_FL RX3 153 5 6 .int false := ⟨_, _, _, _, cl_5, by decide, rfl, rfl, Or.inr ⟨"PreparedPlans", List.mem_of_getElem? (i := 188) (by decide +kernel)⟩⟩
theorem f_X3_160 : x_FL RX3 160 9 0 .int false := ⟨_, _, _, _, cl_9, by decide, rfl, rfl, Or.inr ⟨"PreparedPlans", List.mem_of_getElem? (i := 252) (by decide +kernel)⟩⟩
theorem f_X3_163 : x_FL RX3 163 5 7 .int false := ⟨_, _, _, _, cl_5, by decide, rfl, rfl, Or.inr ⟨"PreparedPlans", List.mem_of_getElem? (i := 192) (by decide +kernel)⟩⟩
theorem f_X3_184 : x_FL RX3 184 9 4 .int false := ⟨_, _, _, _, cl_9, by decide, rfl, rfl, Or.inr ⟨"PreparedPlans", List.mem_of_getElem? (i := 263) (by decide +kernel)⟩⟩
theorem f_X3_190 : x_FL RX3 190 9 1 .int false := ⟨_, _, _, _, cl_9, by decide, rfl, rfl, Or.inr ⟨"PreparedPlans", List.mem_of_getElem? (i := 255) (by decide +kernel)⟩⟩
theorem f_X3_193 : x_FL RX3 193 9 2 .int false := ⟨_, _, _, _, cl_9, by decide, rfl, rfl, Or.inr ⟨"PreparedPlans", List.mem_of_getElem? (i := 258) (by decide +kernel)⟩⟩
theorem f_X3_196 : x_FL RX3 196 9 7 .int false := ⟨_, _, _, _, cl_9, by decide, rfl, rfl, Or.inr ⟨"PreparedPlans", List.mem_of_getElem? (i := 268) (by decide +kernel)⟩⟩
theorem f_X4_10 : x_FL RX4 10 4 3 (.object "java/util/ArrayList") true := ⟨_, _, _, _, cl_4, by decide, rfl, rfl, Or.inl (x_in 916 (by decide +kernel) rfl)⟩
theorem f_X4_16 : x_FL RX4 16 4 0 .long true := ⟨_, _, _, _, cl_4, by decide, rfl, rfl, Or.inl (x_in 909 (by decide +kernel) rfl)⟩
theorem f_X4_20 : x_FL RX4 20 4 1 (.object "PreparedPlans$Condition") true := ⟨_, _, _, _, cl_4, by decide, rfl, rfl, Or.inl (x_in 911 (by decide +kernel) rfl)⟩
theorem f_X4_24 : x_FL RX4 24 4 2 (.array .int) true := ⟨_, _, _, _, cl_4, by decide, rfl, rfl, Or.inl (x_in 914 (by decide +kernel) rfl)⟩
theorem f_X5_9 : x_FL RX5 9 5 1 (.array .long) true := ⟨_, _, _, _, cl_5, by decide, rfl, rfl, Or.inl (x_in 171 (by decide +kernel) rfl)⟩
theorem f_X5_15 : x_FL RX5 15 5 2 (.array .int) true := ⟨_, _, _, _, cl_5, by decide, rfl, rfl, Or.inl (x_in 172 (by decide +kernel) rfl)⟩
theorem f_X5_22 : x_FL RX5 22 5 3 (.object "java/util/ArrayList") true := ⟨_, _, _, _, cl_5, by decide, rfl, rfl, Or.inl (x_in 173 (by decide +kernel) rfl)⟩
theorem f_X5_26 : x_FL RX5 26 5 4 .int false := ⟨_, _, _, _, cl_5, by decide, rfl, rfl, Or.inl (x_in 177 (by decide +kernel) rfl)⟩
theorem f_X5_30 : x_FL RX5 30 5 5 .int false := ⟨_, _, _, _, cl_5, by decide, rfl, rfl, Or.inl (x_in 181 (by decide +kernel) rfl)⟩
theorem f_X5_33 : x_FL RX5 33 5 6 .int false := ⟨_, _, _, _, cl_5, by decide, rfl, rfl, Or.inl (x_in 185 (by decide +kernel) rfl)⟩
theorem f_X5_36 : x_FL RX5 36 5 7 .int false := ⟨_, _, _, _, cl_5, by decide, rfl, rfl, Or.inl (x_in 189 (by decide +kernel) rfl)⟩
theorem f_X5_39 : x_FL RX5 39 5 0 .int false := ⟨_, _, _, _, cl_5, by decide, rfl, rfl, Or.inl (x_in 167 (by decide +kernel) rfl)⟩
theorem f_X5_52 : x_FL RX5 52 4 0 .long true := ⟨_, _, _, _, cl_4, by decide, rfl, rfl, Or.inr ⟨"PreparedPlans", List.mem_of_getElem? (i := 910) (by decide +kernel)⟩⟩
theorem f_X6_12 : x_FL RX6 12 6 2 (.object "PreparedPlans$Setup") true := ⟨_, _, _, _, cl_6, by decide, rfl, rfl, Or.inl (x_in 657 (by decide +kernel) rfl)⟩
theorem f_X6_18 : x_FL RX6 18 6 3 (.array .int) false := ⟨_, _, _, _, cl_6, by decide, rfl, rfl, Or.inl (x_in 658 (by decide +kernel) rfl)⟩
theorem f_X6_22 : x_FL RX6 22 6 5 .int false := ⟨_, _, _, _, cl_6, by decide, rfl, rfl, Or.inl (x_in 661 (by decide +kernel) rfl)⟩
theorem f_X6_26 : x_FL RX6 26 6 0 (.object "PreparedPlans$Tokens") true := ⟨_, _, _, _, cl_6, by decide, rfl, rfl, Or.inl (x_in 655 (by decide +kernel) rfl)⟩
theorem f_X6_30 : x_FL RX6 30 6 1 (.object "PreparedPlans$Data") true := ⟨_, _, _, _, cl_6, by decide, rfl, rfl, Or.inl (x_in 656 (by decide +kernel) rfl)⟩
theorem f_X6_85 : x_FL RX6 85 8 5 .int false := ⟨_, _, _, _, cl_8, by decide, rfl, rfl, Or.inr ⟨"PreparedPlans", List.mem_of_getElem? (i := 108) (by decide +kernel)⟩⟩
theorem f_X6_88 : x_FL RX6 88 8 6 .int false := ⟨_, _, _, _, cl_8, by decide, rfl, rfl, Or.inr ⟨"PreparedPlans", List.mem_of_getElem? (i := 109) (by decide +kernel)⟩⟩
theorem f_X6_98 : x_FL RX6 98 6 4 .int false := ⟨_, _, _, _, cl_6, by decide, rfl, rfl, Or.inl (x_in 659 (by decide +kernel) rfl)⟩
theorem f_X6_101 : x_FL RX6 101 8 3 .int false := ⟨_, _, _, _, cl_8, by decide, rfl, rfl, Or.inr ⟨"PreparedPlans", List.mem_of_getElem? (i := 105) (by decide +kernel)⟩⟩
theorem f_X6_104 : x_FL RX6 104 8 7 .long false := ⟨_, _, _, _, cl_8, by decide, rfl, rfl, Or.inr ⟨"PreparedPlans", List.mem_of_getElem? (i := 111) (by decide +kernel)⟩⟩
theorem f_X6_116 : x_FL RX6 116 5 0 .int false := ⟨_, _, _, _, cl_5, by decide, rfl, rfl, Or.inr ⟨"PreparedPlans", List.mem_of_getElem? (i := 169) (by decide +kernel)⟩⟩
theorem f_X6_136 : x_FL RX6 136 3 4 (.array .boolean) true := ⟨_, _, _, _, cl_3, by decide, rfl, rfl, Or.inr ⟨"PreparedPlans", List.mem_of_getElem? (i := 302) (by decide +kernel)⟩⟩
theorem f_X6_140 : x_FL RX6 140 3 1 .int false := ⟨_, _, _, _, cl_3, by decide, rfl, rfl, Or.inr ⟨"PreparedPlans", List.mem_of_getElem? (i := 296) (by decide +kernel)⟩⟩
theorem f_X6_157 : x_FL RX6 157 5 3 (.object "java/util/ArrayList") true := ⟨_, _, _, _, cl_5, by decide, rfl, rfl, Or.inr ⟨"PreparedPlans", List.mem_of_getElem? (i := 176) (by decide +kernel)⟩⟩
theorem f_X6_178 : x_FL RX6 178 4 1 (.object "PreparedPlans$Condition") true := ⟨_, _, _, _, cl_4, by decide, rfl, rfl, Or.inr ⟨"PreparedPlans", List.mem_of_getElem? (i := 913) (by decide +kernel)⟩⟩
theorem f_X6_182 : x_FL RX6 182 4 3 (.object "java/util/ArrayList") true := ⟨_, _, _, _, cl_4, by decide, rfl, rfl, Or.inr ⟨"PreparedPlans", List.mem_of_getElem? (i := 918) (by decide +kernel)⟩⟩
theorem f_X6_197 : x_FL RX6 197 5 4 .int false := ⟨_, _, _, _, cl_5, by decide, rfl, rfl, Or.inr ⟨"PreparedPlans", List.mem_of_getElem? (i := 180) (by decide +kernel)⟩⟩
theorem f_X6_200 : x_FL RX6 200 5 5 .int false := ⟨_, _, _, _, cl_5, by decide, rfl, rfl, Or.inr ⟨"PreparedPlans", List.mem_of_getElem? (i := 183) (by decide +kernel)⟩⟩
theorem f_X6_203 : x_FL RX6 203 5 6 .int false := ⟨_, _, _, _, cl_5, by decide, rfl, rfl, Or.inr ⟨"PreparedPlans", List.mem_of_getElem? (i := 187) (by decide +kernel)⟩⟩
theorem f_X6_208 : x_FL RX6 208 5 7 .int false := ⟨_, _, _, _, cl_5, by decide, rfl, rfl, Or.inr ⟨"PreparedPlans", List.mem_of_getElem? (i := 191) (by decide +kernel)⟩⟩
theorem f_X6_215 : x_FL RX6 215 2 1 (.object "java/util/ArrayList") true := ⟨_, _, _, _, cl_2, by decide, rfl, rfl, Or.inr ⟨"PreparedPlans", List.mem_of_getElem? (i := 797) (by decide +kernel)⟩⟩
theorem f_X7_9 : x_FL RX7 9 7 1 (.array .int) true := ⟨_, _, _, _, cl_7, by decide, rfl, rfl, Or.inl (x_in 224 (by decide +kernel) rfl)⟩
theorem f_X7_15 : x_FL RX7 15 7 2 (.array .int) true := ⟨_, _, _, _, cl_7, by decide, rfl, rfl, Or.inl (x_in 227 (by decide +kernel) rfl)⟩
theorem f_X7_18 : x_FL RX7 18 7 3 (.array .int) true := ⟨_, _, _, _, cl_7, by decide, rfl, rfl, Or.inl (x_in 230 (by decide +kernel) rfl)⟩
theorem f_X7_21 : x_FL RX7 21 7 0 .int false := ⟨_, _, _, _, cl_7, by decide, rfl, rfl, Or.inl (x_in 221 (by decide +kernel) rfl)⟩
theorem f_X7_31 : x_FL RX7 31 1 0 .int true := ⟨_, _, _, _, cl_1, by decide, rfl, rfl, Or.inr ⟨"PreparedPlans", List.mem_of_getElem? (i := 884) (by decide +kernel)⟩⟩
theorem f_X7_40 : x_FL RX7 40 1 1 .char true := ⟨_, _, _, _, cl_1, by decide, rfl, rfl, Or.inr ⟨"PreparedPlans", List.mem_of_getElem? (i := 887) (by decide +kernel)⟩⟩
theorem f_X8_9 : x_FL RX8 9 8 0 (.array .int) true := ⟨_, _, _, _, cl_8, by decide, rfl, rfl, Or.inl (x_in 101 (by decide +kernel) rfl)⟩
theorem f_X8_15 : x_FL RX8 15 8 1 (.array .int) true := ⟨_, _, _, _, cl_8, by decide, rfl, rfl, Or.inl (x_in 102 (by decide +kernel) rfl)⟩
theorem f_X8_18 : x_FL RX8 18 8 2 (.array .long) true := ⟨_, _, _, _, cl_8, by decide, rfl, rfl, Or.inl (x_in 103 (by decide +kernel) rfl)⟩
theorem f_X8_22 : x_FL RX8 22 8 5 .int false := ⟨_, _, _, _, cl_8, by decide, rfl, rfl, Or.inl (x_in 107 (by decide +kernel) rfl)⟩
theorem f_X8_26 : x_FL RX8 26 8 3 .int false := ⟨_, _, _, _, cl_8, by decide, rfl, rfl, Or.inl (x_in 104 (by decide +kernel) rfl)⟩
theorem f_X8_29 : x_FL RX8 29 8 4 .int false := ⟨_, _, _, _, cl_8, by decide, rfl, rfl, Or.inl (x_in 106 (by decide +kernel) rfl)⟩
theorem f_X8_74 : x_FL RX8 74 8 6 .int false := ⟨_, _, _, _, cl_8, by decide, rfl, rfl, Or.inl (x_in 110 (by decide +kernel) rfl)⟩
theorem f_X8_77 : x_FL RX8 77 8 7 .long false := ⟨_, _, _, _, cl_8, by decide, rfl, rfl, Or.inl (x_in 112 (by decide +kernel) rfl)⟩
theorem f_X9_9 : x_FL RX9 9 9 4 .int false := ⟨_, _, _, _, cl_9, by decide, rfl, rfl, Or.inl (x_in 261 (by decide +kernel) rfl)⟩
theorem f_X9_15 : x_FL RX9 15 9 8 (.array .int) true := ⟨_, _, _, _, cl_9, by decide, rfl, rfl, Or.inl (x_in 269 (by decide +kernel) rfl)⟩
theorem f_X9_19 : x_FL RX9 19 9 0 .int false := ⟨_, _, _, _, cl_9, by decide, rfl, rfl, Or.inl (x_in 250 (by decide +kernel) rfl)⟩
theorem f_X9_22 : x_FL RX9 22 9 1 .int false := ⟨_, _, _, _, cl_9, by decide, rfl, rfl, Or.inl (x_in 253 (by decide +kernel) rfl)⟩
theorem f_X9_25 : x_FL RX9 25 9 2 .int false := ⟨_, _, _, _, cl_9, by decide, rfl, rfl, Or.inl (x_in 256 (by decide +kernel) rfl)⟩
theorem f_X9_28 : x_FL RX9 28 9 3 .int false := ⟨_, _, _, _, cl_9, by decide, rfl, rfl, Or.inl (x_in 259 (by decide +kernel) rfl)⟩
theorem f_X9_31 : x_FL RX9 31 9 5 .int false := ⟨_, _, _, _, cl_9, by decide, rfl, rfl, Or.inl (x_in 264 (by decide +kernel) rfl)⟩
theorem f_X9_34 : x_FL RX9 34 9 6 .int false := ⟨_, _, _, _, cl_9, by decide, rfl, rfl, Or.inl (x_in 265 (by decide +kernel) rfl)⟩
theorem f_X9_37 : x_FL RX9 37 9 7 .int false := ⟨_, _, _, _, cl_9, by decide, rfl, rfl, Or.inl (x_in 266 (by decide +kernel) rfl)⟩
theorem f_L_7 : x_FL RL 7 11 0 (.array .int) true := ⟨_, _, _, _, cl_11, by decide, rfl, rfl, Or.inl (x_in 464 (by decide +kernel) rfl)⟩
theorem f_L_13 : x_FL RL 13 11 1 (.array .int) true := ⟨_, _, _, _, cl_11, by decide, rfl, rfl, Or.inl (x_in 465 (by decide +kernel) rfl)⟩
theorem f_L_16 : x_FL RL 16 11 15 .int false := ⟨_, _, _, _, cl_11, by decide, rfl, rfl, Or.inl (x_in 479 (by decide +kernel) rfl)⟩
theorem f_L_20 : x_FL RL 20 11 18 .int false := ⟨_, _, _, _, cl_11, by decide, rfl, rfl, Or.inl (x_in 482 (by decide +kernel) rfl)⟩
theorem f_L_44 : x_FL RL 44 11 2 .int false := ⟨_, _, _, _, cl_11, by decide, rfl, rfl, Or.inl (x_in 466 (by decide +kernel) rfl)⟩
theorem f_L_47 : x_FL RL 47 11 3 .int false := ⟨_, _, _, _, cl_11, by decide, rfl, rfl, Or.inl (x_in 467 (by decide +kernel) rfl)⟩
theorem f_L_50 : x_FL RL 50 11 4 .int false := ⟨_, _, _, _, cl_11, by decide, rfl, rfl, Or.inl (x_in 468 (by decide +kernel) rfl)⟩
theorem f_L_53 : x_FL RL 53 11 5 .int false := ⟨_, _, _, _, cl_11, by decide, rfl, rfl, Or.inl (x_in 469 (by decide +kernel) rfl)⟩
theorem f_L_56 : x_FL RL 56 11 6 .int false := ⟨_, _, _, _, cl_11, by decide, rfl, rfl, Or.inl (x_in 470 (by decide +kernel) rfl)⟩
theorem f_L_68 : x_FL RL 68 11 9 .int false := ⟨_, _, _, _, cl_11, by decide, rfl, rfl, Or.inl (x_in 473 (by decide +kernel) rfl)⟩
theorem f_L_71 : x_FL RL 71 11 10 .int false := ⟨_, _, _, _, cl_11, by decide, rfl, rfl, Or.inl (x_in 474 (by decide +kernel) rfl)⟩
theorem f_L_77 : x_FL RL 77 11 8 .int false := ⟨_, _, _, _, cl_11, by decide, rfl, rfl, Or.inl (x_in 472 (by decide +kernel) rfl)⟩
theorem f_L_80 : x_FL RL 80 11 20 .int false := ⟨_, _, _, _, cl_11, by decide, rfl, rfl, Or.inl (x_in 484 (by decide +kernel) rfl)⟩
theorem f_L_83 : x_FL RL 83 11 7 .int false := ⟨_, _, _, _, cl_11, by decide, rfl, rfl, Or.inl (x_in 471 (by decide +kernel) rfl)⟩
theorem f_L_92 : x_FL RL 92 11 19 .int false := ⟨_, _, _, _, cl_11, by decide, rfl, rfl, Or.inl (x_in 483 (by decide +kernel) rfl)⟩
theorem f_L_95 : x_FL RL 95 11 12 .int false := ⟨_, _, _, _, cl_11, by decide, rfl, rfl, Or.inl (x_in 476 (by decide +kernel) rfl)⟩
theorem f_L_98 : x_FL RL 98 11 11 .int false := ⟨_, _, _, _, cl_11, by decide, rfl, rfl, Or.inl (x_in 475 (by decide +kernel) rfl)⟩
theorem f_L_101 : x_FL RL 101 11 13 .int false := ⟨_, _, _, _, cl_11, by decide, rfl, rfl, Or.inl (x_in 477 (by decide +kernel) rfl)⟩
theorem f_L_104 : x_FL RL 104 11 14 .int false := ⟨_, _, _, _, cl_11, by decide, rfl, rfl, Or.inl (x_in 478 (by decide +kernel) rfl)⟩
theorem f_L_118 : x_FL RL 118 11 16 .int false := ⟨_, _, _, _, cl_11, by decide, rfl, rfl, Or.inl (x_in 480 (by decide +kernel) rfl)⟩
theorem f_L_121 : x_FL RL 121 11 17 .int false := ⟨_, _, _, _, cl_11, by decide, rfl, rfl, Or.inl (x_in 481 (by decide +kernel) rfl)⟩
theorem n_X10_17 : x_CN RX10 17 8 RX8 TX8 8 tyX8 := ⟨cl_8, x_in 95 (by decide +kernel) rfl, x_in 96 (by decide +kernel) rfl, x_in 66 (by decide +kernel) rfl⟩
theorem n_X10_24 : x_CN RX10 24 3 RX3 TX3 7 tyX3 := ⟨cl_3, x_in 133 (by decide +kernel) rfl, x_in 210 (by decide +kernel) rfl, x_in 71 (by decide +kernel) rfl⟩
theorem n_X10_30 : x_CN RX10 30 5 RX5 TX5 8 tyX5 := ⟨cl_5, x_in 135 (by decide +kernel) rfl, x_in 136 (by decide +kernel) rfl, x_in 67 (by decide +kernel) rfl⟩
theorem n_X10_50 : x_CN RX10 50 6 RX6 TX6 6 tyX6 := ⟨cl_6, x_in 643 (by decide +kernel) rfl, x_in 644 (by decide +kernel) rfl, x_in 78 (by decide +kernel) rfl⟩
theorem n_X1_7 : x_CN RX1 7 0 RJx4a65c TJx4a65c 3 tyJx4a65c := ⟨cl_0, x_in 793 (by decide +kernel) rfl, x_in 142 (by decide +kernel) rfl, x_in 70 (by decide +kernel) rfl⟩
theorem n_X3_19 : x_CN RX3 19 7 RX7 TX7 4 tyX7 := ⟨cl_7, x_in 215 (by decide +kernel) rfl, x_in 216 (by decide +kernel) rfl, x_in 72 (by decide +kernel) rfl⟩
theorem n_X3_26 : x_CN RX3 26 9 RX9 TX9 9 tyX9 := ⟨cl_9, x_in 243 (by decide +kernel) rfl, x_in 245 (by decide +kernel) rfl, x_in 73 (by decide +kernel) rfl⟩
theorem n_X4_7 : x_CN RX4 7 0 RJx4a65c TJx4a65c 3 tyJx4a65c := ⟨cl_0, x_in 907 (by decide +kernel) rfl, x_in 142 (by decide +kernel) rfl, x_in 70 (by decide +kernel) rfl⟩
theorem n_X5_19 : x_CN RX5 19 0 RJx4a65c TJx4a65c 3 tyJx4a65c := ⟨cl_0, x_in 141 (by decide +kernel) rfl, x_in 142 (by decide +kernel) rfl, x_in 70 (by decide +kernel) rfl⟩
theorem n_X6_9 : x_CN RX6 9 5 RX5 TX5 8 tyX5 := ⟨cl_5, x_in 653 (by decide +kernel) rfl, x_in 136 (by decide +kernel) rfl, x_in 67 (by decide +kernel) rfl⟩
theorem n_X6_169 : x_CN RX6 169 4 RX4 TX4 4 tyX4 := ⟨cl_4, x_in 778 (by decide +kernel) rfl, x_in 779 (by decide +kernel) rfl, x_in 80 (by decide +kernel) rfl⟩
theorem n_X6_210 : x_CN RX6 210 2 RX1 TX1 2 tyX1 := ⟨cl_2, x_in 784 (by decide +kernel) rfl, x_in 785 (by decide +kernel) rfl, x_in 82 (by decide +kernel) rfl⟩
theorem n_X6_228 : x_CN RX6 228 1 RX0 TX0 4 tyX0 := ⟨cl_1, x_in 877 (by decide +kernel) rfl, x_in 878 (by decide +kernel) rfl, x_in 83 (by decide +kernel) rfl⟩
theorem n_L_8 : x_CN RL 8 11 RL TL 21 tyL := ⟨cl_11, x_in 458 (by decide +kernel) rfl, x_in 459 (by decide +kernel) rfl, x_in 52 (by decide +kernel) rfl⟩
theorem n_L_35 : x_CN RL 35 10 RX10 TX10 7 tyX10 := ⟨cl_10, x_in 87 (by decide +kernel) rfl, x_in 88 (by decide +kernel) rfl, x_in 65 (by decide +kernel) rfl⟩
theorem n_L_187 : x_CN RL 187 12 RJ4 TJ4 4 tyJ4 := ⟨cl_12, x_in 1241 (by decide +kernel) rfl, x_in 1242 (by decide +kernel) rfl, x_in 54 (by decide +kernel) rfl⟩
