/-! ===== words and links, by program ===== -/
theorem x_in {w : Cond} (i : Nat) (h : lw_tbl[i]? = some w) (hg : goodWord w = true) : w ∈ x_T := List.mem_filter.mpr ⟨List.mem_of_getElem? h, hg⟩
theorem x_ins (ws : List Cond) (is : List Nat) (h : is.map (fun i => lw_tbl[i]?) = ws.map some) (hg : ws.all goodWord = true) : ∀ w ∈ ws, w ∈ x_T := by
  intro w hw
  obtain ⟨k, hk⟩ := List.getElem?_of_mem hw
  have h1 : (is.map (fun i => lw_tbl[i]?))[k]? = some (some w) := by rw [h, List.getElem?_map, hk]; rfl
  rw [List.getElem?_map] at h1
  cases hi : is[k]? with
  | none => rw [hi] at h1; cases h1
  | some i =>
    rw [hi] at h1
    exact List.mem_filter.mpr ⟨List.mem_of_getElem? (Option.some.inj h1), List.all_eq_true.mp hg w hw⟩
theorem cl_0 : x_Cl 0 RJx4a65c TJx4a65c 3 tyJx4a65c := ⟨rfl, x_ins _ [216, 212, 214] (by decide +kernel) (by decide +kernel), tyJx4a65c_ok, nmJx4a65c⟩
theorem cl_1 : x_Cl 1 RX0 TX0 4 tyX0 := ⟨rfl, x_ins _ [966, 968, 970, 972] (by decide +kernel) (by decide +kernel), tyX0_ok, nmX0⟩
theorem cl_2 : x_Cl 2 RX1 TX1 2 tyX1 := ⟨rfl, x_ins _ [880, 882] (by decide +kernel) (by decide +kernel), tyX1_ok, nmX1⟩
theorem cl_3 : x_Cl 3 RX3 TX3 7 tyX3 := ⟨rfl, x_ins _ [359, 361, 363, 365, 367, 369, 371] (by decide +kernel) (by decide +kernel), tyX3_ok, nmX3⟩
theorem cl_4 : x_Cl 4 RX4 TX4 4 tyX4 := ⟨rfl, x_ins _ [995, 997, 999, 1001] (by decide +kernel) (by decide +kernel), tyX4_ok, nmX4⟩
theorem cl_5 : x_Cl 5 RX5 TX5 8 tyX5 := ⟨rfl, x_ins _ [245, 247, 249, 251, 253, 255, 257, 259] (by decide +kernel) (by decide +kernel), tyX5_ok, nmX5⟩
theorem cl_6 : x_Cl 6 RX6 TX6 6 tyX6 := ⟨rfl, x_ins _ [751, 753, 755, 757, 759, 761] (by decide +kernel) (by decide +kernel), tyX6_ok, nmX6⟩
theorem cl_7 : x_Cl 7 RX7 TX7 4 tyX7 := ⟨rfl, x_ins _ [285, 287, 289, 291] (by decide +kernel) (by decide +kernel), tyX7_ok, nmX7⟩
theorem cl_8 : x_Cl 8 RX8 TX8 8 tyX8 := ⟨rfl, x_ins _ [165, 167, 169, 171, 173, 175, 177, 179] (by decide +kernel) (by decide +kernel), tyX8_ok, nmX8⟩
theorem cl_9 : x_Cl 9 RX9 TX9 9 tyX9 := ⟨rfl, x_ins _ [324, 326, 328, 330, 332, 334, 336, 338, 340] (by decide +kernel) (by decide +kernel), tyX9_ok, nmX9⟩
theorem cl_10 : x_Cl 10 RX10 TX10 7 tyX10 := ⟨rfl, x_ins _ [381, 383, 385, 387, 389, 391, 393] (by decide +kernel) (by decide +kernel), tyX10_ok, nmX10⟩
theorem cl_11 : x_Cl 11 RX11 TX11 20 tyX11 := ⟨rfl, x_ins _ [1293, 1295, 1297, 1299, 1301, 1303, 1305, 1307, 1309, 1311, 1313, 1315, 1317, 1319, 1321, 1323, 1325, 1327, 1329, 1331] (by decide +kernel) (by decide +kernel), tyX11_ok, nmX11⟩
theorem f_X10_9 : x_FL RX10 9 10 0 (.array .byte) true := ⟨_, _, _, _, cl_10, by decide, rfl, rfl, Or.inl (x_in 374 (by decide +kernel) rfl)⟩
theorem f_X10_13 : x_FL RX10 13 10 2 .int false := ⟨_, _, _, _, cl_10, by decide, rfl, rfl, Or.inl (x_in 376 (by decide +kernel) rfl)⟩
theorem f_X10_20 : x_FL RX10 20 10 3 (.object "PreparedPlans$Tokens") true := ⟨_, _, _, _, cl_10, by decide, rfl, rfl, Or.inl (x_in 377 (by decide +kernel) rfl)⟩
theorem f_X10_26 : x_FL RX10 26 10 4 (.array (.object "PreparedPlans$Data")) true := ⟨_, _, _, _, cl_10, by decide, rfl, rfl, Or.inl (x_in 378 (by decide +kernel) rfl)⟩
theorem f_X10_36 : x_FL RX10 36 10 1 .int false := ⟨_, _, _, _, cl_10, by decide, rfl, rfl, Or.inl (x_in 375 (by decide +kernel) rfl)⟩
theorem f_X10_62 : x_FL RX10 62 6 5 .int false := ⟨_, _, _, _, cl_6, by decide, rfl, rfl, Or.inr ⟨"PreparedPlans", List.mem_of_getElem? (i := 750) (by decide +kernel)⟩⟩
theorem f_X10_65 : x_FL RX10 65 6 4 .int false := ⟨_, _, _, _, cl_6, by decide, rfl, rfl, Or.inr ⟨"PreparedPlans", List.mem_of_getElem? (i := 748) (by decide +kernel)⟩⟩
theorem f_X10_75 : x_FL RX10 75 3 0 (.object "PreparedPlans$Setup") false := ⟨_, _, _, _, cl_3, by decide, rfl, rfl, Or.inr ⟨"PreparedPlans", List.mem_of_getElem? (i := 344) (by decide +kernel)⟩⟩
theorem f_X10_79 : x_FL RX10 79 5 3 (.object "java/util/ArrayList") true := ⟨_, _, _, _, cl_5, by decide, rfl, rfl, Or.inr ⟨"PreparedPlans", List.mem_of_getElem? (i := 226) (by decide +kernel)⟩⟩
theorem f_X10_88 : x_FL RX10 88 5 0 .int false := ⟨_, _, _, _, cl_5, by decide, rfl, rfl, Or.inr ⟨"PreparedPlans", List.mem_of_getElem? (i := 220) (by decide +kernel)⟩⟩
theorem f_X10_91 : x_FL RX10 91 3 1 .int false := ⟨_, _, _, _, cl_3, by decide, rfl, rfl, Or.inr ⟨"PreparedPlans", List.mem_of_getElem? (i := 347) (by decide +kernel)⟩⟩
theorem f_X10_94 : x_FL RX10 94 3 2 .int false := ⟨_, _, _, _, cl_3, by decide, rfl, rfl, Or.inr ⟨"PreparedPlans", List.mem_of_getElem? (i := 350) (by decide +kernel)⟩⟩
theorem f_X10_97 : x_FL RX10 97 5 4 .int false := ⟨_, _, _, _, cl_5, by decide, rfl, rfl, Or.inr ⟨"PreparedPlans", List.mem_of_getElem? (i := 230) (by decide +kernel)⟩⟩
theorem f_X10_100 : x_FL RX10 100 5 5 .int false := ⟨_, _, _, _, cl_5, by decide, rfl, rfl, Or.inr ⟨"PreparedPlans", List.mem_of_getElem? (i := 234) (by decide +kernel)⟩⟩
theorem f_X10_103 : x_FL RX10 103 5 6 .int false := ⟨_, _, _, _, cl_5, by decide, rfl, rfl, Or.inr ⟨"PreparedPlans", List.mem_of_getElem? (i := 238) (by decide +kernel)⟩⟩
theorem f_X10_106 : x_FL RX10 106 5 7 .int false := ⟨_, _, _, _, cl_5, by decide, rfl, rfl, Or.inr ⟨"PreparedPlans", List.mem_of_getElem? (i := 242) (by decide +kernel)⟩⟩
theorem f_X10_109 : x_FL RX10 109 3 5 (.object "PreparedPlans$Statistics") true := ⟨_, _, _, _, cl_3, by decide, rfl, rfl, Or.inr ⟨"PreparedPlans", List.mem_of_getElem? (i := 356) (by decide +kernel)⟩⟩
theorem f_X10_113 : x_FL RX10 113 7 0 .int false := ⟨_, _, _, _, cl_7, by decide, rfl, rfl, Or.inr ⟨"PreparedPlans", List.mem_of_getElem? (i := 274) (by decide +kernel)⟩⟩
theorem f_X10_130 : x_FL RX10 130 3 4 (.array .boolean) true := ⟨_, _, _, _, cl_3, by decide, rfl, rfl, Or.inr ⟨"PreparedPlans", List.mem_of_getElem? (i := 353) (by decide +kernel)⟩⟩
theorem f_X10_134 : x_FL RX10 134 7 1 (.array .int) true := ⟨_, _, _, _, cl_7, by decide, rfl, rfl, Or.inr ⟨"PreparedPlans", List.mem_of_getElem? (i := 277) (by decide +kernel)⟩⟩
theorem f_X10_138 : x_FL RX10 138 7 2 (.array .int) true := ⟨_, _, _, _, cl_7, by decide, rfl, rfl, Or.inr ⟨"PreparedPlans", List.mem_of_getElem? (i := 280) (by decide +kernel)⟩⟩
theorem f_X10_141 : x_FL RX10 141 7 3 (.array .int) true := ⟨_, _, _, _, cl_7, by decide, rfl, rfl, Or.inr ⟨"PreparedPlans", List.mem_of_getElem? (i := 283) (by decide +kernel)⟩⟩
theorem f_X10_170 : x_FL RX10 170 4 2 (.array .int) true := ⟨_, _, _, _, cl_4, by decide, rfl, rfl, Or.inr ⟨"PreparedPlans", List.mem_of_getElem? (i := 991) (by decide +kernel)⟩⟩
theorem f_X10_173 : x_FL RX10 173 3 6 (.array (.object "PreparedPlans$Usage")) true := ⟨_, _, _, _, cl_3, by decide, rfl, rfl, Or.inr ⟨"PreparedPlans", List.mem_of_getElem? (i := 358) (by decide +kernel)⟩⟩
theorem f_X10_177 : x_FL RX10 177 9 0 .int false := ⟨_, _, _, _, cl_9, by decide, rfl, rfl, Or.inr ⟨"PreparedPlans", List.mem_of_getElem? (i := 303) (by decide +kernel)⟩⟩
theorem f_X10_182 : x_FL RX10 182 9 1 .int false := ⟨_, _, _, _, cl_9, by decide, rfl, rfl, Or.inr ⟨"PreparedPlans", List.mem_of_getElem? (i := 306) (by decide +kernel)⟩⟩
theorem f_X10_185 : x_FL RX10 185 9 2 .int false := ⟨_, _, _, _, cl_9, by decide, rfl, rfl, Or.inr ⟨"PreparedPlans", List.mem_of_getElem? (i := 309) (by decide +kernel)⟩⟩
theorem f_X10_188 : x_FL RX10 188 9 3 .int false := ⟨_, _, _, _, cl_9, by decide, rfl, rfl, Or.inr ⟨"PreparedPlans", List.mem_of_getElem? (i := 312) (by decide +kernel)⟩⟩
theorem f_X10_191 : x_FL RX10 191 9 4 .int false := ⟨_, _, _, _, cl_9, by decide, rfl, rfl, Or.inr ⟨"PreparedPlans", List.mem_of_getElem? (i := 314) (by decide +kernel)⟩⟩
theorem f_X10_198 : x_FL RX10 198 9 7 .int false := ⟨_, _, _, _, cl_9, by decide, rfl, rfl, Or.inr ⟨"PreparedPlans", List.mem_of_getElem? (i := 319) (by decide +kernel)⟩⟩
theorem f_X10_201 : x_FL RX10 201 9 8 (.array .int) true := ⟨_, _, _, _, cl_9, by decide, rfl, rfl, Or.inr ⟨"PreparedPlans", List.mem_of_getElem? (i := 322) (by decide +kernel)⟩⟩
theorem f_X10_260 : x_FL RX10 260 10 6 .int false := ⟨_, _, _, _, cl_10, by decide, rfl, rfl, Or.inl (x_in 380 (by decide +kernel) rfl)⟩
theorem f_X10_263 : x_FL RX10 263 10 5 .int false := ⟨_, _, _, _, cl_10, by decide, rfl, rfl, Or.inl (x_in 379 (by decide +kernel) rfl)⟩
theorem f_X0_9 : x_FL RX0 9 1 0 .int true := ⟨_, _, _, _, cl_1, by decide, rfl, rfl, Or.inl (x_in 959 (by decide +kernel) rfl)⟩
theorem f_X0_15 : x_FL RX0 15 1 1 .char true := ⟨_, _, _, _, cl_1, by decide, rfl, rfl, Or.inl (x_in 962 (by decide +kernel) rfl)⟩
theorem f_X0_19 : x_FL RX0 19 1 2 .int true := ⟨_, _, _, _, cl_1, by decide, rfl, rfl, Or.inl (x_in 964 (by decide +kernel) rfl)⟩
theorem f_X0_22 : x_FL RX0 22 1 3 .int true := ⟨_, _, _, _, cl_1, by decide, rfl, rfl, Or.inl (x_in 965 (by decide +kernel) rfl)⟩
theorem f_X0_25 : x_FL RX0 25 3 1 .int false := ⟨_, _, _, _, cl_3, by decide, rfl, rfl, Or.inr ⟨"PreparedPlans", List.mem_of_getElem? (i := 346) (by decide +kernel)⟩⟩
theorem f_X1_10 : x_FL RX1 10 2 1 (.object "java/util/ArrayList") true := ⟨_, _, _, _, cl_2, by decide, rfl, rfl, Or.inl (x_in 878 (by decide +kernel) rfl)⟩
theorem f_X1_16 : x_FL RX1 16 2 0 .int true := ⟨_, _, _, _, cl_2, by decide, rfl, rfl, Or.inl (x_in 877 (by decide +kernel) rfl)⟩
theorem f_X3_9 : x_FL RX3 9 3 3 (.array .int) true := ⟨_, _, _, _, cl_3, by decide, rfl, rfl, Or.inl (x_in 351 (by decide +kernel) rfl)⟩
theorem f_X3_15 : x_FL RX3 15 3 4 (.array .boolean) true := ⟨_, _, _, _, cl_3, by decide, rfl, rfl, Or.inl (x_in 352 (by decide +kernel) rfl)⟩
theorem f_X3_22 : x_FL RX3 22 3 5 (.object "PreparedPlans$Statistics") true := ⟨_, _, _, _, cl_3, by decide, rfl, rfl, Or.inl (x_in 355 (by decide +kernel) rfl)⟩
theorem f_X3_28 : x_FL RX3 28 3 6 (.array (.object "PreparedPlans$Usage")) true := ⟨_, _, _, _, cl_3, by decide, rfl, rfl, Or.inl (x_in 357 (by decide +kernel) rfl)⟩
theorem f_X3_32 : x_FL RX3 32 3 0 (.object "PreparedPlans$Setup") false := ⟨_, _, _, _, cl_3, by decide, rfl, rfl, Or.inl (x_in 343 (by decide +kernel) rfl)⟩
theorem f_X3_37 : x_FL RX3 37 3 1 .int false := ⟨_, _, _, _, cl_3, by decide, rfl, rfl, Or.inl (x_in 345 (by decide +kernel) rfl)⟩
theorem f_X3_41 : x_FL RX3 41 3 2 .int false := ⟨_, _, _, _, cl_3, by decide, rfl, rfl, Or.inl (x_in 349 (by decide +kernel) rfl)⟩
theorem f_X3_72 : x_FL RX3 72 7 0 .int false := ⟨_, _, _, _, cl_7, by decide, rfl, rfl, Or.inr ⟨"PreparedPlans", List.mem_of_getElem? (i := 275) (by decide +kernel)⟩⟩
theorem f_X3_73 : x_FL RX3 73 5 0 .int false := ⟨_, _, _, _, cl_5, by decide, rfl, rfl, Or.inr ⟨"PreparedPlans", List.mem_of_getElem? (i := 222) (by decide +kernel)⟩⟩
theorem f_X3_93 : x_FL RX3 93 7 1 (.array .int) true := ⟨_, _, _, _, cl_7, by decide, rfl, rfl, Or.inr ⟨"PreparedPlans", List.mem_of_getElem? (i := 278) (by decide +kernel)⟩⟩
theorem f_X3_96 : x_FL RX3 96 7 2 (.array .int) true := ⟨_, _, _, _, cl_7, by decide, rfl, rfl, Or.inr ⟨"PreparedPlans", List.mem_of_getElem? (i := 281) (by decide +kernel)⟩⟩
theorem f_X3_99 : x_FL RX3 99 7 3 (.array .int) true := ⟨_, _, _, _, cl_7, by decide, rfl, rfl, Or.inr ⟨"PreparedPlans", List.mem_of_getElem? (i := 284) (by decide +kernel)⟩⟩
theorem f_X3_102 : x_FL RX3 102 5 3 (.object "java/util/ArrayList") true := ⟨_, _, _, _, cl_5, by decide, rfl, rfl, Or.inr ⟨"PreparedPlans", List.mem_of_getElem? (i := 227) (by decide +kernel)⟩⟩
theorem f_X3_114 : x_FL RX3 114 4 1 (.object "PreparedPlans$Condition") true := ⟨_, _, _, _, cl_4, by decide, rfl, rfl, Or.inr ⟨"PreparedPlans", List.mem_of_getElem? (i := 988) (by decide +kernel)⟩⟩
theorem f_X3_124 : x_FL RX3 124 4 3 (.object "java/util/ArrayList") true := ⟨_, _, _, _, cl_4, by decide, rfl, rfl, Or.inr ⟨"PreparedPlans", List.mem_of_getElem? (i := 993) (by decide +kernel)⟩⟩
theorem f_X3_133 : x_FL RX3 133 1 0 .int true := ⟨_, _, _, _, cl_1, by decide, rfl, rfl, Or.inr ⟨"PreparedPlans", List.mem_of_getElem? (i := 961) (by decide +kernel)⟩⟩
theorem f_X3_140 : x_FL RX3 140 5 4 .int false := ⟨_, _, _, _, cl_5, by decide, rfl, rfl, Or.inr ⟨"PreparedPlans", List.mem_of_getElem? (i := 231) (by decide +kernel)⟩⟩
theorem f_X3_147 : x_FL RX3 147 9 8 (.array .int) true := ⟨_, _, _, _, cl_9, by decide, rfl, rfl, Or.inr ⟨"PreparedPlans", List.mem_of_getElem? (i := 323) (by decide +kernel)⟩⟩
theorem f_X3_150 : x_FL RX3 150 5 5 .int false := ⟨_, _, _, _, cl_5, by decide, rfl, rfl, Or.inr ⟨"PreparedPlans", List.mem_of_getElem? (i := 236) (by decide +kernel)⟩⟩
theorem f_X3_153 : x_FL RX3 153 5 6 .int false := ⟨_, _, _, _, cl_5, by decide, rfl, rfl, Or.inr ⟨"PreparedPlans", List.mem_of_getElem? (i := 240) (by decide +kernel)⟩⟩
theorem f_X3_160 : x_FL RX3 160 9 0 .int false := ⟨_, _, _, _, cl_9, by decide, rfl, rfl, Or.inr ⟨"PreparedPlans", List.mem_of_getElem? (i := 304) (by decide +kernel)⟩⟩
theorem f_X3_163 : x_FL RX3 163 5 7 .int false := ⟨_, _, _, _, cl_5, by decide, rfl, rfl, Or.inr ⟨"PreparedPlans", List.mem_of_getElem? (i := 244) (by decide +kernel)⟩⟩
theorem f_X3_184 : x_FL RX3 184 9 4 .int false := ⟨_, _, _, _, cl_9, by decide, rfl, rfl, Or.inr ⟨"PreparedPlans", List.mem_of_getElem? (i := 315) (by decide +kernel)⟩⟩
theorem f_X3_190 : x_FL RX3 190 9 1 .int false := ⟨_, _, _, _, cl_9, by decide, rfl, rfl, Or.inr ⟨"PreparedPlans", List.mem_of_getElem? (i := 307) (by decide +kernel)⟩⟩
theorem f_X3_193 : x_FL RX3 193 9 2 .int false := ⟨_, _, _, _, cl_9, by decide, rfl, rfl, Or.inr ⟨"PreparedPlans", List.mem_of_getElem? (i := 310) (by decide +kernel)⟩⟩
theorem f_X3_196 : x_FL RX3 196 9 7 .int false := ⟨_, _, _, _, cl_9, by decide, rfl, rfl, Or.inr ⟨"PreparedPlans", List.mem_of_getElem? (i := 320) (by decide +kernel)⟩⟩
theorem f_X4_10 : x_FL RX4 10 4 3 (.object "java/util/ArrayList") true := ⟨_, _, _, _, cl_4, by decide, rfl, rfl, Or.inl (x_in 992 (by decide +kernel) rfl)⟩
theorem f_X4_16 : x_FL RX4 16 4 0 .long true := ⟨_, _, _, _, cl_4, by decide, rfl, rfl, Or.inl (x_in 985 (by decide +kernel) rfl)⟩
theorem f_X4_20 : x_FL RX4 20 4 1 (.object "PreparedPlans$Condition") true := ⟨_, _, _, _, cl_4, by decide, rfl, rfl, Or.inl (x_in 987 (by decide +kernel) rfl)⟩
theorem f_X4_24 : x_FL RX4 24 4 2 (.array .int) true := ⟨_, _, _, _, cl_4, by decide, rfl, rfl, Or.inl (x_in 990 (by decide +kernel) rfl)⟩
theorem f_X5_9 : x_FL RX5 9 5 1 (.array .long) true := ⟨_, _, _, _, cl_5, by decide, rfl, rfl, Or.inl (x_in 223 (by decide +kernel) rfl)⟩
theorem f_X5_15 : x_FL RX5 15 5 2 (.array .int) true := ⟨_, _, _, _, cl_5, by decide, rfl, rfl, Or.inl (x_in 224 (by decide +kernel) rfl)⟩
theorem f_X5_22 : x_FL RX5 22 5 3 (.object "java/util/ArrayList") true := ⟨_, _, _, _, cl_5, by decide, rfl, rfl, Or.inl (x_in 225 (by decide +kernel) rfl)⟩
theorem f_X5_26 : x_FL RX5 26 5 4 .int false := ⟨_, _, _, _, cl_5, by decide, rfl, rfl, Or.inl (x_in 229 (by decide +kernel) rfl)⟩
theorem f_X5_30 : x_FL RX5 30 5 5 .int false := ⟨_, _, _, _, cl_5, by decide, rfl, rfl, Or.inl (x_in 233 (by decide +kernel) rfl)⟩
theorem f_X5_33 : x_FL RX5 33 5 6 .int false := ⟨_, _, _, _, cl_5, by decide, rfl, rfl, Or.inl (x_in 237 (by decide +kernel) rfl)⟩
theorem f_X5_36 : x_FL RX5 36 5 7 .int false := ⟨_, _, _, _, cl_5, by decide, rfl, rfl, Or.inl (x_in 241 (by decide +kernel) rfl)⟩
theorem f_X5_39 : x_FL RX5 39 5 0 .int false := ⟨_, _, _, _, cl_5, by decide, rfl, rfl, Or.inl (x_in 219 (by decide +kernel) rfl)⟩
theorem f_X5_52 : x_FL RX5 52 4 0 .long true := ⟨_, _, _, _, cl_4, by decide, rfl, rfl, Or.inr ⟨"PreparedPlans", List.mem_of_getElem? (i := 986) (by decide +kernel)⟩⟩
theorem f_X6_12 : x_FL RX6 12 6 2 (.object "PreparedPlans$Setup") true := ⟨_, _, _, _, cl_6, by decide, rfl, rfl, Or.inl (x_in 745 (by decide +kernel) rfl)⟩
theorem f_X6_18 : x_FL RX6 18 6 3 (.array .int) false := ⟨_, _, _, _, cl_6, by decide, rfl, rfl, Or.inl (x_in 746 (by decide +kernel) rfl)⟩
theorem f_X6_22 : x_FL RX6 22 6 5 .int false := ⟨_, _, _, _, cl_6, by decide, rfl, rfl, Or.inl (x_in 749 (by decide +kernel) rfl)⟩
theorem f_X6_26 : x_FL RX6 26 6 0 (.object "PreparedPlans$Tokens") true := ⟨_, _, _, _, cl_6, by decide, rfl, rfl, Or.inl (x_in 743 (by decide +kernel) rfl)⟩
theorem f_X6_30 : x_FL RX6 30 6 1 (.object "PreparedPlans$Data") true := ⟨_, _, _, _, cl_6, by decide, rfl, rfl, Or.inl (x_in 744 (by decide +kernel) rfl)⟩
theorem f_X6_85 : x_FL RX6 85 8 5 .int false := ⟨_, _, _, _, cl_8, by decide, rfl, rfl, Or.inr ⟨"PreparedPlans", List.mem_of_getElem? (i := 160) (by decide +kernel)⟩⟩
theorem f_X6_88 : x_FL RX6 88 8 6 .int false := ⟨_, _, _, _, cl_8, by decide, rfl, rfl, Or.inr ⟨"PreparedPlans", List.mem_of_getElem? (i := 161) (by decide +kernel)⟩⟩
theorem f_X6_98 : x_FL RX6 98 6 4 .int false := ⟨_, _, _, _, cl_6, by decide, rfl, rfl, Or.inl (x_in 747 (by decide +kernel) rfl)⟩
theorem f_X6_101 : x_FL RX6 101 8 3 .int false := ⟨_, _, _, _, cl_8, by decide, rfl, rfl, Or.inr ⟨"PreparedPlans", List.mem_of_getElem? (i := 157) (by decide +kernel)⟩⟩
theorem f_X6_104 : x_FL RX6 104 8 7 .long false := ⟨_, _, _, _, cl_8, by decide, rfl, rfl, Or.inr ⟨"PreparedPlans", List.mem_of_getElem? (i := 163) (by decide +kernel)⟩⟩
theorem f_X6_116 : x_FL RX6 116 5 0 .int false := ⟨_, _, _, _, cl_5, by decide, rfl, rfl, Or.inr ⟨"PreparedPlans", List.mem_of_getElem? (i := 221) (by decide +kernel)⟩⟩
theorem f_X6_136 : x_FL RX6 136 3 4 (.array .boolean) true := ⟨_, _, _, _, cl_3, by decide, rfl, rfl, Or.inr ⟨"PreparedPlans", List.mem_of_getElem? (i := 354) (by decide +kernel)⟩⟩
theorem f_X6_140 : x_FL RX6 140 3 1 .int false := ⟨_, _, _, _, cl_3, by decide, rfl, rfl, Or.inr ⟨"PreparedPlans", List.mem_of_getElem? (i := 348) (by decide +kernel)⟩⟩
theorem f_X6_157 : x_FL RX6 157 5 3 (.object "java/util/ArrayList") true := ⟨_, _, _, _, cl_5, by decide, rfl, rfl, Or.inr ⟨"PreparedPlans", List.mem_of_getElem? (i := 228) (by decide +kernel)⟩⟩
theorem f_X6_178 : x_FL RX6 178 4 1 (.object "PreparedPlans$Condition") true := ⟨_, _, _, _, cl_4, by decide, rfl, rfl, Or.inr ⟨"PreparedPlans", List.mem_of_getElem? (i := 989) (by decide +kernel)⟩⟩
theorem f_X6_182 : x_FL RX6 182 4 3 (.object "java/util/ArrayList") true := ⟨_, _, _, _, cl_4, by decide, rfl, rfl, Or.inr ⟨"PreparedPlans", List.mem_of_getElem? (i := 994) (by decide +kernel)⟩⟩
theorem f_X6_197 : x_FL RX6 197 5 4 .int false := ⟨_, _, _, _, cl_5, by decide, rfl, rfl, Or.inr ⟨"PreparedPlans", List.mem_of_getElem? (i := 232) (by decide +kernel)⟩⟩
theorem f_X6_200 : x_FL RX6 200 5 5 .int false := ⟨_, _, _, _, cl_5, by decide, rfl, rfl, Or.inr ⟨"PreparedPlans", List.mem_of_getElem? (i := 235) (by decide +kernel)⟩⟩
theorem f_X6_203 : x_FL RX6 203 5 6 .int false := ⟨_, _, _, _, cl_5, by decide, rfl, rfl, Or.inr ⟨"PreparedPlans", List.mem_of_getElem? (i := 239) (by decide +kernel)⟩⟩
theorem f_X6_208 : x_FL RX6 208 5 7 .int false := ⟨_, _, _, _, cl_5, by decide, rfl, rfl, Or.inr ⟨"PreparedPlans", List.mem_of_getElem? (i := 243) (by decide +kernel)⟩⟩
theorem f_X6_215 : x_FL RX6 215 2 1 (.object "java/util/ArrayList") true := ⟨_, _, _, _, cl_2, by decide, rfl, rfl, Or.inr ⟨"PreparedPlans", List.mem_of_getElem? (i := 879) (by decide +kernel)⟩⟩
theorem f_X7_9 : x_FL RX7 9 7 1 (.array .int) true := ⟨_, _, _, _, cl_7, by decide, rfl, rfl, Or.inl (x_in 276 (by decide +kernel) rfl)⟩
theorem f_X7_15 : x_FL RX7 15 7 2 (.array .int) true := ⟨_, _, _, _, cl_7, by decide, rfl, rfl, Or.inl (x_in 279 (by decide +kernel) rfl)⟩
theorem f_X7_18 : x_FL RX7 18 7 3 (.array .int) true := ⟨_, _, _, _, cl_7, by decide, rfl, rfl, Or.inl (x_in 282 (by decide +kernel) rfl)⟩
theorem f_X7_21 : x_FL RX7 21 7 0 .int false := ⟨_, _, _, _, cl_7, by decide, rfl, rfl, Or.inl (x_in 273 (by decide +kernel) rfl)⟩
theorem f_X7_31 : x_FL RX7 31 1 0 .int true := ⟨_, _, _, _, cl_1, by decide, rfl, rfl, Or.inr ⟨"PreparedPlans", List.mem_of_getElem? (i := 960) (by decide +kernel)⟩⟩
theorem f_X7_40 : x_FL RX7 40 1 1 .char true := ⟨_, _, _, _, cl_1, by decide, rfl, rfl, Or.inr ⟨"PreparedPlans", List.mem_of_getElem? (i := 963) (by decide +kernel)⟩⟩
theorem f_X8_9 : x_FL RX8 9 8 0 (.array .int) true := ⟨_, _, _, _, cl_8, by decide, rfl, rfl, Or.inl (x_in 153 (by decide +kernel) rfl)⟩
theorem f_X8_15 : x_FL RX8 15 8 1 (.array .int) true := ⟨_, _, _, _, cl_8, by decide, rfl, rfl, Or.inl (x_in 154 (by decide +kernel) rfl)⟩
theorem f_X8_18 : x_FL RX8 18 8 2 (.array .long) true := ⟨_, _, _, _, cl_8, by decide, rfl, rfl, Or.inl (x_in 155 (by decide +kernel) rfl)⟩
theorem f_X8_22 : x_FL RX8 22 8 5 .int false := ⟨_, _, _, _, cl_8, by decide, rfl, rfl, Or.inl (x_in 159 (by decide +kernel) rfl)⟩
theorem f_X8_26 : x_FL RX8 26 8 3 .int false := ⟨_, _, _, _, cl_8, by decide, rfl, rfl, Or.inl (x_in 156 (by decide +kernel) rfl)⟩
theorem f_X8_29 : x_FL RX8 29 8 4 .int false := ⟨_, _, _, _, cl_8, by decide, rfl, rfl, Or.inl (x_in 158 (by decide +kernel) rfl)⟩
theorem f_X8_74 : x_FL RX8 74 8 6 .int false := ⟨_, _, _, _, cl_8, by decide, rfl, rfl, Or.inl (x_in 162 (by decide +kernel) rfl)⟩
theorem f_X8_77 : x_FL RX8 77 8 7 .long false := ⟨_, _, _, _, cl_8, by decide, rfl, rfl, Or.inl (x_in 164 (by decide +kernel) rfl)⟩
theorem f_X9_9 : x_FL RX9 9 9 4 .int false := ⟨_, _, _, _, cl_9, by decide, rfl, rfl, Or.inl (x_in 313 (by decide +kernel) rfl)⟩
theorem f_X9_15 : x_FL RX9 15 9 8 (.array .int) true := ⟨_, _, _, _, cl_9, by decide, rfl, rfl, Or.inl (x_in 321 (by decide +kernel) rfl)⟩
theorem f_X9_19 : x_FL RX9 19 9 0 .int false := ⟨_, _, _, _, cl_9, by decide, rfl, rfl, Or.inl (x_in 302 (by decide +kernel) rfl)⟩
theorem f_X9_22 : x_FL RX9 22 9 1 .int false := ⟨_, _, _, _, cl_9, by decide, rfl, rfl, Or.inl (x_in 305 (by decide +kernel) rfl)⟩
theorem f_X9_25 : x_FL RX9 25 9 2 .int false := ⟨_, _, _, _, cl_9, by decide, rfl, rfl, Or.inl (x_in 308 (by decide +kernel) rfl)⟩
theorem f_X9_28 : x_FL RX9 28 9 3 .int false := ⟨_, _, _, _, cl_9, by decide, rfl, rfl, Or.inl (x_in 311 (by decide +kernel) rfl)⟩
theorem f_X9_31 : x_FL RX9 31 9 5 .int false := ⟨_, _, _, _, cl_9, by decide, rfl, rfl, Or.inl (x_in 316 (by decide +kernel) rfl)⟩
theorem f_X9_34 : x_FL RX9 34 9 6 .int false := ⟨_, _, _, _, cl_9, by decide, rfl, rfl, Or.inl (x_in 317 (by decide +kernel) rfl)⟩
theorem f_X9_37 : x_FL RX9 37 9 7 .int false := ⟨_, _, _, _, cl_9, by decide, rfl, rfl, Or.inl (x_in 318 (by decide +kernel) rfl)⟩
theorem f_X11_7 : x_FL RX11 7 11 1 (.array .int) true := ⟨_, _, _, _, cl_11, by decide, rfl, rfl, Or.inl (x_in 1274 (by decide +kernel) rfl)⟩
theorem f_X11_13 : x_FL RX11 13 11 2 (.array .int) true := ⟨_, _, _, _, cl_11, by decide, rfl, rfl, Or.inl (x_in 1275 (by decide +kernel) rfl)⟩
theorem f_X11_16 : x_FL RX11 16 11 5 (.array .int) true := ⟨_, _, _, _, cl_11, by decide, rfl, rfl, Or.inl (x_in 1278 (by decide +kernel) rfl)⟩
theorem f_X11_19 : x_FL RX11 19 11 7 .int false := ⟨_, _, _, _, cl_11, by decide, rfl, rfl, Or.inl (x_in 1280 (by decide +kernel) rfl)⟩
theorem f_X11_23 : x_FL RX11 23 11 17 (.array .int) true := ⟨_, _, _, _, cl_11, by decide, rfl, rfl, Or.inl (x_in 1290 (by decide +kernel) rfl)⟩
theorem f_X11_26 : x_FL RX11 26 11 18 (.array .boolean) true := ⟨_, _, _, _, cl_11, by decide, rfl, rfl, Or.inl (x_in 1291 (by decide +kernel) rfl)⟩
theorem f_X11_37 : x_FL RX11 37 11 0 .int false := ⟨_, _, _, _, cl_11, by decide, rfl, rfl, Or.inl (x_in 1273 (by decide +kernel) rfl)⟩
theorem f_X11_40 : x_FL RX11 40 11 3 .int false := ⟨_, _, _, _, cl_11, by decide, rfl, rfl, Or.inl (x_in 1276 (by decide +kernel) rfl)⟩
theorem f_X11_43 : x_FL RX11 43 11 4 .int false := ⟨_, _, _, _, cl_11, by decide, rfl, rfl, Or.inl (x_in 1277 (by decide +kernel) rfl)⟩
theorem f_X11_60 : x_FL RX11 60 11 6 .int false := ⟨_, _, _, _, cl_11, by decide, rfl, rfl, Or.inl (x_in 1279 (by decide +kernel) rfl)⟩
theorem f_X11_63 : x_FL RX11 63 11 10 .int false := ⟨_, _, _, _, cl_11, by decide, rfl, rfl, Or.inl (x_in 1283 (by decide +kernel) rfl)⟩
theorem f_X11_66 : x_FL RX11 66 11 11 .int false := ⟨_, _, _, _, cl_11, by decide, rfl, rfl, Or.inl (x_in 1284 (by decide +kernel) rfl)⟩
theorem f_X11_69 : x_FL RX11 69 11 9 .int false := ⟨_, _, _, _, cl_11, by decide, rfl, rfl, Or.inl (x_in 1282 (by decide +kernel) rfl)⟩
theorem f_X11_72 : x_FL RX11 72 11 8 .int false := ⟨_, _, _, _, cl_11, by decide, rfl, rfl, Or.inl (x_in 1281 (by decide +kernel) rfl)⟩
theorem f_X11_106 : x_FL RX11 106 11 12 .int false := ⟨_, _, _, _, cl_11, by decide, rfl, rfl, Or.inl (x_in 1285 (by decide +kernel) rfl)⟩
theorem f_X11_125 : x_FL RX11 125 11 14 .int false := ⟨_, _, _, _, cl_11, by decide, rfl, rfl, Or.inl (x_in 1287 (by decide +kernel) rfl)⟩
theorem f_X11_128 : x_FL RX11 128 11 15 .int false := ⟨_, _, _, _, cl_11, by decide, rfl, rfl, Or.inl (x_in 1288 (by decide +kernel) rfl)⟩
theorem f_X11_158 : x_FL RX11 158 11 13 .int false := ⟨_, _, _, _, cl_11, by decide, rfl, rfl, Or.inl (x_in 1286 (by decide +kernel) rfl)⟩
theorem f_X11_188 : x_FL RX11 188 11 16 .int false := ⟨_, _, _, _, cl_11, by decide, rfl, rfl, Or.inl (x_in 1289 (by decide +kernel) rfl)⟩
theorem f_X11_359 : x_FL RX11 359 11 19 .long false := ⟨_, _, _, _, cl_11, by decide, rfl, rfl, Or.inl (x_in 1292 (by decide +kernel) rfl)⟩
theorem n_X10_17 : x_CN RX10 17 8 RX8 TX8 8 tyX8 := ⟨cl_8, x_in 147 (by decide +kernel) rfl, x_in 148 (by decide +kernel) rfl, x_in 109 (by decide +kernel) rfl⟩
theorem n_X10_24 : x_CN RX10 24 3 RX3 TX3 7 tyX3 := ⟨cl_3, x_in 185 (by decide +kernel) rfl, x_in 262 (by decide +kernel) rfl, x_in 114 (by decide +kernel) rfl⟩
theorem n_X10_30 : x_CN RX10 30 5 RX5 TX5 8 tyX5 := ⟨cl_5, x_in 187 (by decide +kernel) rfl, x_in 188 (by decide +kernel) rfl, x_in 110 (by decide +kernel) rfl⟩
theorem n_X10_50 : x_CN RX10 50 6 RX6 TX6 6 tyX6 := ⟨cl_6, x_in 735 (by decide +kernel) rfl, x_in 736 (by decide +kernel) rfl, x_in 127 (by decide +kernel) rfl⟩
theorem n_X1_7 : x_CN RX1 7 0 RJx4a65c TJx4a65c 3 tyJx4a65c := ⟨cl_0, x_in 875 (by decide +kernel) rfl, x_in 194 (by decide +kernel) rfl, x_in 113 (by decide +kernel) rfl⟩
theorem n_X3_19 : x_CN RX3 19 7 RX7 TX7 4 tyX7 := ⟨cl_7, x_in 267 (by decide +kernel) rfl, x_in 268 (by decide +kernel) rfl, x_in 115 (by decide +kernel) rfl⟩
theorem n_X3_26 : x_CN RX3 26 9 RX9 TX9 9 tyX9 := ⟨cl_9, x_in 295 (by decide +kernel) rfl, x_in 297 (by decide +kernel) rfl, x_in 116 (by decide +kernel) rfl⟩
theorem n_X4_7 : x_CN RX4 7 0 RJx4a65c TJx4a65c 3 tyJx4a65c := ⟨cl_0, x_in 983 (by decide +kernel) rfl, x_in 194 (by decide +kernel) rfl, x_in 113 (by decide +kernel) rfl⟩
theorem n_X5_19 : x_CN RX5 19 0 RJx4a65c TJx4a65c 3 tyJx4a65c := ⟨cl_0, x_in 193 (by decide +kernel) rfl, x_in 194 (by decide +kernel) rfl, x_in 113 (by decide +kernel) rfl⟩
theorem n_X6_9 : x_CN RX6 9 5 RX5 TX5 8 tyX5 := ⟨cl_5, x_in 741 (by decide +kernel) rfl, x_in 188 (by decide +kernel) rfl, x_in 110 (by decide +kernel) rfl⟩
theorem n_X6_169 : x_CN RX6 169 4 RX4 TX4 4 tyX4 := ⟨cl_4, x_in 860 (by decide +kernel) rfl, x_in 861 (by decide +kernel) rfl, x_in 129 (by decide +kernel) rfl⟩
theorem n_X6_210 : x_CN RX6 210 2 RX1 TX1 2 tyX1 := ⟨cl_2, x_in 866 (by decide +kernel) rfl, x_in 867 (by decide +kernel) rfl, x_in 131 (by decide +kernel) rfl⟩
theorem n_X6_228 : x_CN RX6 228 1 RX0 TX0 4 tyX0 := ⟨cl_1, x_in 953 (by decide +kernel) rfl, x_in 954 (by decide +kernel) rfl, x_in 135 (by decide +kernel) rfl⟩
theorem n_L_8 : x_CN RL 8 10 RX10 TX10 7 tyX10 := ⟨cl_10, x_in 139 (by decide +kernel) rfl, x_in 140 (by decide +kernel) rfl, x_in 108 (by decide +kernel) rfl⟩
theorem n_L_76 : x_CN RL 76 11 RX11 TX11 20 tyX11 := ⟨cl_11, x_in 1259 (by decide +kernel) rfl, x_in 1260 (by decide +kernel) rfl, x_in 117 (by decide +kernel) rfl⟩
