/-! ===== the law's instructions (wip/p26/gen_h1.py) ===== -/
/-- the law has seven locals -/
def mL_lw : XMI := (RL, yL_law, cL_law, 7, (some FieldType.boolean), [], kL_law)
theorem aL_0 : x_at (x_k mL_lw) 0 = some (.new 8, 3, 0) := by decide +kernel
theorem aL_3 : x_at (x_k mL_lw) 3 = some (.dup, 4, 0) := by decide +kernel
theorem aL_4 : x_at (x_k mL_lw) 4 = some (.invokespecial 182, 7, 0) := by decide +kernel
theorem aL_7 : x_at (x_k mL_lw) 7 = some (.astore_n 1, 8, 0) := by decide +kernel
theorem aL_8 : x_at (x_k mL_lw) 8 = some (.aload_n 1, 9, 0) := by decide +kernel
theorem aL_9 : x_at (x_k mL_lw) 9 = some (.aload_n 0, 10, 0) := by decide +kernel
theorem aL_10 : x_at (x_k mL_lw) 10 = some (.iconst 0, 11, 0) := by decide +kernel
theorem aL_11 : x_at (x_k mL_lw) 11 = some (.invokestatic 183, 14, 0) := by decide +kernel
theorem aL_14 : x_at (x_k mL_lw) 14 = some (.bipush 13, 16, 0) := by decide +kernel
theorem aL_16 : x_at (x_k mL_lw) 16 = some (.invokestatic 164, 19, 0) := by decide +kernel
theorem aL_19 : x_at (x_k mL_lw) 19 = some (.putfield 44, 22, 0) := by decide +kernel
theorem aL_22 : x_at (x_k mL_lw) 22 = some (.aload_n 1, 23, 0) := by decide +kernel
theorem aL_23 : x_at (x_k mL_lw) 23 = some (.aload_n 0, 24, 0) := by decide +kernel
theorem aL_24 : x_at (x_k mL_lw) 24 = some (.iconst 1, 25, 0) := by decide +kernel
theorem aL_25 : x_at (x_k mL_lw) 25 = some (.invokestatic 183, 28, 0) := by decide +kernel
theorem aL_28 : x_at (x_k mL_lw) 28 = some (.iconst 4, 29, 0) := by decide +kernel
theorem aL_29 : x_at (x_k mL_lw) 29 = some (.invokestatic 164, 32, 0) := by decide +kernel
theorem aL_32 : x_at (x_k mL_lw) 32 = some (.putfield 77, 35, 0) := by decide +kernel
theorem aL_35 : x_at (x_k mL_lw) 35 = some (.aload_n 1, 36, 0) := by decide +kernel
theorem aL_36 : x_at (x_k mL_lw) 36 = some (.aload_n 0, 37, 0) := by decide +kernel
theorem aL_37 : x_at (x_k mL_lw) 37 = some (.iconst 1, 38, 0) := by decide +kernel
theorem aL_38 : x_at (x_k mL_lw) 38 = some (.invokestatic 183, 41, 0) := by decide +kernel
theorem aL_41 : x_at (x_k mL_lw) 41 = some (.iconst 3, 42, 0) := by decide +kernel
theorem aL_42 : x_at (x_k mL_lw) 42 = some (.ishr, 43, 0) := by decide +kernel
theorem aL_43 : x_at (x_k mL_lw) 43 = some (.bipush 6, 45, 0) := by decide +kernel
theorem aL_45 : x_at (x_k mL_lw) 45 = some (.invokestatic 164, 48, 0) := by decide +kernel
theorem aL_48 : x_at (x_k mL_lw) 48 = some (.putfield 68, 51, 0) := by decide +kernel
theorem aL_51 : x_at (x_k mL_lw) 51 = some (.aload_n 1, 52, 0) := by decide +kernel
theorem aL_52 : x_at (x_k mL_lw) 52 = some (.aload_n 0, 53, 0) := by decide +kernel
theorem aL_53 : x_at (x_k mL_lw) 53 = some (.iconst 1, 54, 0) := by decide +kernel
theorem aL_54 : x_at (x_k mL_lw) 54 = some (.invokestatic 183, 57, 0) := by decide +kernel
theorem aL_57 : x_at (x_k mL_lw) 57 = some (.bipush 6, 59, 0) := by decide +kernel
theorem aL_59 : x_at (x_k mL_lw) 59 = some (.ishr, 60, 0) := by decide +kernel
theorem aL_60 : x_at (x_k mL_lw) 60 = some (.iconst 5, 61, 0) := by decide +kernel
theorem aL_61 : x_at (x_k mL_lw) 61 = some (.invokestatic 164, 64, 0) := by decide +kernel
theorem aL_64 : x_at (x_k mL_lw) 64 = some (.putfield 71, 67, 0) := by decide +kernel
theorem aL_67 : x_at (x_k mL_lw) 67 = some (.aload_n 1, 68, 0) := by decide +kernel
theorem aL_68 : x_at (x_k mL_lw) 68 = some (.aload_n 0, 69, 0) := by decide +kernel
theorem aL_69 : x_at (x_k mL_lw) 69 = some (.iconst 2, 70, 0) := by decide +kernel
theorem aL_70 : x_at (x_k mL_lw) 70 = some (.invokestatic 183, 73, 0) := by decide +kernel
theorem aL_73 : x_at (x_k mL_lw) 73 = some (.iconst 5, 74, 0) := by decide +kernel
theorem aL_74 : x_at (x_k mL_lw) 74 = some (.invokestatic 164, 77, 0) := by decide +kernel
theorem aL_77 : x_at (x_k mL_lw) 77 = some (.putfield 98, 80, 0) := by decide +kernel
theorem aL_80 : x_at (x_k mL_lw) 80 = some (.aload_n 0, 81, 0) := by decide +kernel
theorem aL_81 : x_at (x_k mL_lw) 81 = some (.iconst 3, 82, 0) := by decide +kernel
theorem aL_82 : x_at (x_k mL_lw) 82 = some (.invokestatic 183, 85, 0) := by decide +kernel
theorem aL_85 : x_at (x_k mL_lw) 85 = some (.iconst 1, 86, 0) := by decide +kernel
theorem aL_86 : x_at (x_k mL_lw) 86 = some (.iand, 87, 0) := by decide +kernel
theorem aL_87 : x_at (x_k mL_lw) 87 = some (.ifCond .ne 7, 90, 94) := by decide +kernel
theorem aL_90 : x_at (x_k mL_lw) 90 = some (.iconst 1, 91, 0) := by decide +kernel
theorem aL_91 : x_at (x_k mL_lw) 91 = some (.goto 4, 94, 95) := by decide +kernel
theorem aL_94 : x_at (x_k mL_lw) 94 = some (.iconst 0, 95, 0) := by decide +kernel
theorem aL_95 : x_at (x_k mL_lw) 95 = some (.istore_n 2, 96, 0) := by decide +kernel
theorem aL_96 : x_at (x_k mL_lw) 96 = some (.aload_n 0, 97, 0) := by decide +kernel
theorem aL_97 : x_at (x_k mL_lw) 97 = some (.iconst 3, 98, 0) := by decide +kernel
theorem aL_98 : x_at (x_k mL_lw) 98 = some (.invokestatic 183, 101, 0) := by decide +kernel
theorem aL_101 : x_at (x_k mL_lw) 101 = some (.iconst 1, 102, 0) := by decide +kernel
theorem aL_102 : x_at (x_k mL_lw) 102 = some (.ishr, 103, 0) := by decide +kernel
theorem aL_103 : x_at (x_k mL_lw) 103 = some (.iconst 4, 104, 0) := by decide +kernel
theorem aL_104 : x_at (x_k mL_lw) 104 = some (.invokestatic 164, 107, 0) := by decide +kernel
theorem aL_107 : x_at (x_k mL_lw) 107 = some (.istore_n 3, 108, 0) := by decide +kernel
theorem aL_108 : x_at (x_k mL_lw) 108 = some (.new 187, 111, 0) := by decide +kernel
theorem aL_111 : x_at (x_k mL_lw) 111 = some (.dup, 112, 0) := by decide +kernel
theorem aL_112 : x_at (x_k mL_lw) 112 = some (.ldc 189, 114, 0) := by decide +kernel
theorem aL_114 : x_at (x_k mL_lw) 114 = some (.invokespecial 191, 117, 0) := by decide +kernel
theorem aL_117 : x_at (x_k mL_lw) 117 = some (.astore 4, 119, 0) := by decide +kernel
theorem aL_119 : x_at (x_k mL_lw) 119 = some (.iconst 0, 120, 0) := by decide +kernel
theorem aL_120 : x_at (x_k mL_lw) 120 = some (.istore 5, 122, 0) := by decide +kernel
theorem aL_122 : x_at (x_k mL_lw) 122 = some (.iload 5, 124, 0) := by decide +kernel
theorem aL_124 : x_at (x_k mL_lw) 124 = some (.aload_n 1, 125, 0) := by decide +kernel
theorem aL_125 : x_at (x_k mL_lw) 125 = some (.getfield 44, 128, 0) := by decide +kernel
theorem aL_128 : x_at (x_k mL_lw) 128 = some (.if_icmp .ge 110, 131, 238) := by decide +kernel
theorem aL_131 : x_at (x_k mL_lw) 131 = some (.aload_n 1, 132, 0) := by decide +kernel
theorem aL_132 : x_at (x_k mL_lw) 132 = some (.getfield 7, 135, 0) := by decide +kernel
theorem aL_135 : x_at (x_k mL_lw) 135 = some (.iload 5, 137, 0) := by decide +kernel
theorem aL_137 : x_at (x_k mL_lw) 137 = some (.aload_n 0, 138, 0) := by decide +kernel
theorem aL_138 : x_at (x_k mL_lw) 138 = some (.iconst 4, 139, 0) := by decide +kernel
theorem aL_139 : x_at (x_k mL_lw) 139 = some (.iload 5, 141, 0) := by decide +kernel
theorem aL_141 : x_at (x_k mL_lw) 141 = some (.bipush 6, 143, 0) := by decide +kernel
theorem aL_143 : x_at (x_k mL_lw) 143 = some (.irem, 144, 0) := by decide +kernel
theorem aL_144 : x_at (x_k mL_lw) 144 = some (.iadd, 145, 0) := by decide +kernel
theorem aL_145 : x_at (x_k mL_lw) 145 = some (.invokestatic 183, 148, 0) := by decide +kernel
theorem aL_148 : x_at (x_k mL_lw) 148 = some (.iconst 4, 149, 0) := by decide +kernel
theorem aL_149 : x_at (x_k mL_lw) 149 = some (.iload 5, 151, 0) := by decide +kernel
theorem aL_151 : x_at (x_k mL_lw) 151 = some (.bipush 6, 153, 0) := by decide +kernel
theorem aL_153 : x_at (x_k mL_lw) 153 = some (.idiv, 154, 0) := by decide +kernel
theorem aL_154 : x_at (x_k mL_lw) 154 = some (.imul, 155, 0) := by decide +kernel
theorem aL_155 : x_at (x_k mL_lw) 155 = some (.ishr, 156, 0) := by decide +kernel
theorem aL_156 : x_at (x_k mL_lw) 156 = some (.bipush 12, 158, 0) := by decide +kernel
theorem aL_158 : x_at (x_k mL_lw) 158 = some (.invokestatic 164, 161, 0) := by decide +kernel
theorem aL_161 : x_at (x_k mL_lw) 161 = some (.iastore, 162, 0) := by decide +kernel
theorem aL_162 : x_at (x_k mL_lw) 162 = some (.aload_n 1, 163, 0) := by decide +kernel
theorem aL_163 : x_at (x_k mL_lw) 163 = some (.getfield 13, 166, 0) := by decide +kernel
theorem aL_166 : x_at (x_k mL_lw) 166 = some (.iload 5, 168, 0) := by decide +kernel
theorem aL_168 : x_at (x_k mL_lw) 168 = some (.aload_n 0, 169, 0) := by decide +kernel
theorem aL_169 : x_at (x_k mL_lw) 169 = some (.iconst 4, 170, 0) := by decide +kernel
theorem aL_170 : x_at (x_k mL_lw) 170 = some (.iload 5, 172, 0) := by decide +kernel
theorem aL_172 : x_at (x_k mL_lw) 172 = some (.bipush 6, 174, 0) := by decide +kernel
theorem aL_174 : x_at (x_k mL_lw) 174 = some (.irem, 175, 0) := by decide +kernel
theorem aL_175 : x_at (x_k mL_lw) 175 = some (.iadd, 176, 0) := by decide +kernel
theorem aL_176 : x_at (x_k mL_lw) 176 = some (.invokestatic 183, 179, 0) := by decide +kernel
theorem aL_179 : x_at (x_k mL_lw) 179 = some (.iconst 4, 180, 0) := by decide +kernel
theorem aL_180 : x_at (x_k mL_lw) 180 = some (.iload 5, 182, 0) := by decide +kernel
theorem aL_182 : x_at (x_k mL_lw) 182 = some (.bipush 6, 184, 0) := by decide +kernel
theorem aL_184 : x_at (x_k mL_lw) 184 = some (.idiv, 185, 0) := by decide +kernel
theorem aL_185 : x_at (x_k mL_lw) 185 = some (.imul, 186, 0) := by decide +kernel
theorem aL_186 : x_at (x_k mL_lw) 186 = some (.iconst 2, 187, 0) := by decide +kernel
theorem aL_187 : x_at (x_k mL_lw) 187 = some (.iadd, 188, 0) := by decide +kernel
theorem aL_188 : x_at (x_k mL_lw) 188 = some (.ishr, 189, 0) := by decide +kernel
theorem aL_189 : x_at (x_k mL_lw) 189 = some (.iconst 4, 190, 0) := by decide +kernel
theorem aL_190 : x_at (x_k mL_lw) 190 = some (.invokestatic 164, 193, 0) := by decide +kernel
theorem aL_193 : x_at (x_k mL_lw) 193 = some (.iastore, 194, 0) := by decide +kernel
theorem aL_194 : x_at (x_k mL_lw) 194 = some (.aload 4, 196, 0) := by decide +kernel
theorem aL_196 : x_at (x_k mL_lw) 196 = some (.ldc 194, 198, 0) := by decide +kernel
theorem aL_198 : x_at (x_k mL_lw) 198 = some (.invokevirtual 196, 201, 0) := by decide +kernel
theorem aL_201 : x_at (x_k mL_lw) 201 = some (.aload_n 1, 202, 0) := by decide +kernel
theorem aL_202 : x_at (x_k mL_lw) 202 = some (.getfield 7, 205, 0) := by decide +kernel
theorem aL_205 : x_at (x_k mL_lw) 205 = some (.iload 5, 207, 0) := by decide +kernel
theorem aL_207 : x_at (x_k mL_lw) 207 = some (.iaload, 208, 0) := by decide +kernel
theorem aL_208 : x_at (x_k mL_lw) 208 = some (.invokevirtual 199, 211, 0) := by decide +kernel
theorem aL_211 : x_at (x_k mL_lw) 211 = some (.bipush 32, 213, 0) := by decide +kernel
theorem aL_213 : x_at (x_k mL_lw) 213 = some (.invokevirtual 202, 216, 0) := by decide +kernel
theorem aL_216 : x_at (x_k mL_lw) 216 = some (.aload_n 1, 217, 0) := by decide +kernel
theorem aL_217 : x_at (x_k mL_lw) 217 = some (.getfield 13, 220, 0) := by decide +kernel
theorem aL_220 : x_at (x_k mL_lw) 220 = some (.iload 5, 222, 0) := by decide +kernel
theorem aL_222 : x_at (x_k mL_lw) 222 = some (.iaload, 223, 0) := by decide +kernel
theorem aL_223 : x_at (x_k mL_lw) 223 = some (.invokevirtual 199, 226, 0) := by decide +kernel
theorem aL_226 : x_at (x_k mL_lw) 226 = some (.bipush 59, 228, 0) := by decide +kernel
theorem aL_228 : x_at (x_k mL_lw) 228 = some (.invokevirtual 202, 231, 0) := by decide +kernel
theorem aL_231 : x_at (x_k mL_lw) 231 = some (.pop, 232, 0) := by decide +kernel
theorem aL_232 : x_at (x_k mL_lw) 232 = some (.iinc 5 1, 235, 0) := by decide +kernel
theorem aL_235 : x_at (x_k mL_lw) 235 = some (.goto (-113), 238, 122) := by decide +kernel
theorem aL_238 : x_at (x_k mL_lw) 238 = some (.aload 4, 240, 0) := by decide +kernel
theorem aL_240 : x_at (x_k mL_lw) 240 = some (.ldc 205, 242, 0) := by decide +kernel
theorem aL_242 : x_at (x_k mL_lw) 242 = some (.invokevirtual 196, 245, 0) := by decide +kernel
theorem aL_245 : x_at (x_k mL_lw) 245 = some (.iload_n 2, 246, 0) := by decide +kernel
theorem aL_246 : x_at (x_k mL_lw) 246 = some (.ifCond .eq 8, 249, 254) := by decide +kernel
theorem aL_249 : x_at (x_k mL_lw) 249 = some (.bipush 60, 251, 0) := by decide +kernel
theorem aL_251 : x_at (x_k mL_lw) 251 = some (.goto 5, 254, 256) := by decide +kernel
theorem aL_254 : x_at (x_k mL_lw) 254 = some (.bipush 61, 256, 0) := by decide +kernel
theorem aL_256 : x_at (x_k mL_lw) 256 = some (.invokevirtual 202, 259, 0) := by decide +kernel
theorem aL_259 : x_at (x_k mL_lw) 259 = some (.ldc 207, 261, 0) := by decide +kernel
theorem aL_261 : x_at (x_k mL_lw) 261 = some (.invokevirtual 196, 264, 0) := by decide +kernel
theorem aL_264 : x_at (x_k mL_lw) 264 = some (.iload_n 3, 265, 0) := by decide +kernel
theorem aL_265 : x_at (x_k mL_lw) 265 = some (.invokevirtual 199, 268, 0) := by decide +kernel
theorem aL_268 : x_at (x_k mL_lw) 268 = some (.ldc 209, 270, 0) := by decide +kernel
theorem aL_270 : x_at (x_k mL_lw) 270 = some (.invokevirtual 196, 273, 0) := by decide +kernel
theorem aL_273 : x_at (x_k mL_lw) 273 = some (.aload_n 1, 274, 0) := by decide +kernel
theorem aL_274 : x_at (x_k mL_lw) 274 = some (.getfield 77, 277, 0) := by decide +kernel
theorem aL_277 : x_at (x_k mL_lw) 277 = some (.invokevirtual 199, 280, 0) := by decide +kernel
theorem aL_280 : x_at (x_k mL_lw) 280 = some (.bipush 32, 282, 0) := by decide +kernel
theorem aL_282 : x_at (x_k mL_lw) 282 = some (.invokevirtual 202, 285, 0) := by decide +kernel
theorem aL_285 : x_at (x_k mL_lw) 285 = some (.aload_n 1, 286, 0) := by decide +kernel
theorem aL_286 : x_at (x_k mL_lw) 286 = some (.getfield 68, 289, 0) := by decide +kernel
theorem aL_289 : x_at (x_k mL_lw) 289 = some (.invokevirtual 199, 292, 0) := by decide +kernel
theorem aL_292 : x_at (x_k mL_lw) 292 = some (.bipush 32, 294, 0) := by decide +kernel
theorem aL_294 : x_at (x_k mL_lw) 294 = some (.invokevirtual 202, 297, 0) := by decide +kernel
theorem aL_297 : x_at (x_k mL_lw) 297 = some (.aload_n 1, 298, 0) := by decide +kernel
theorem aL_298 : x_at (x_k mL_lw) 298 = some (.getfield 71, 301, 0) := by decide +kernel
theorem aL_301 : x_at (x_k mL_lw) 301 = some (.invokevirtual 199, 304, 0) := by decide +kernel
theorem aL_304 : x_at (x_k mL_lw) 304 = some (.ldc 211, 306, 0) := by decide +kernel
theorem aL_306 : x_at (x_k mL_lw) 306 = some (.invokevirtual 196, 309, 0) := by decide +kernel
theorem aL_309 : x_at (x_k mL_lw) 309 = some (.aload_n 1, 310, 0) := by decide +kernel
theorem aL_310 : x_at (x_k mL_lw) 310 = some (.getfield 98, 313, 0) := by decide +kernel
theorem aL_313 : x_at (x_k mL_lw) 313 = some (.invokevirtual 199, 316, 0) := by decide +kernel
theorem aL_316 : x_at (x_k mL_lw) 316 = some (.bipush 59, 318, 0) := by decide +kernel
theorem aL_318 : x_at (x_k mL_lw) 318 = some (.invokevirtual 202, 321, 0) := by decide +kernel
theorem aL_321 : x_at (x_k mL_lw) 321 = some (.pop, 322, 0) := by decide +kernel
theorem aL_322 : x_at (x_k mL_lw) 322 = some (.new 35, 325, 0) := by decide +kernel
theorem aL_325 : x_at (x_k mL_lw) 325 = some (.dup, 326, 0) := by decide +kernel
theorem aL_326 : x_at (x_k mL_lw) 326 = some (.invokespecial 213, 329, 0) := by decide +kernel
theorem aL_329 : x_at (x_k mL_lw) 329 = some (.astore 5, 331, 0) := by decide +kernel
theorem aL_331 : x_at (x_k mL_lw) 331 = some (.aload 5, 333, 0) := by decide +kernel
theorem aL_333 : x_at (x_k mL_lw) 333 = some (.aload 4, 335, 0) := by decide +kernel
theorem aL_335 : x_at (x_k mL_lw) 335 = some (.invokevirtual 214, 338, 0) := by decide +kernel
theorem aL_338 : x_at (x_k mL_lw) 338 = some (.invokestatic 218, 341, 0) := by decide +kernel
theorem aL_341 : x_at (x_k mL_lw) 341 = some (.iconst 1, 342, 0) := by decide +kernel
theorem aL_342 : x_at (x_k mL_lw) 342 = some (.if_icmp .ne 24, 345, 366) := by decide +kernel
theorem aL_345 : x_at (x_k mL_lw) 345 = some (.aload 5, 347, 0) := by decide +kernel
theorem aL_347 : x_at (x_k mL_lw) 347 = some (.iconst 0, 348, 0) := by decide +kernel
theorem aL_348 : x_at (x_k mL_lw) 348 = some (.iconst 0, 349, 0) := by decide +kernel
theorem aL_349 : x_at (x_k mL_lw) 349 = some (.invokevirtual 222, 352, 0) := by decide +kernel
theorem aL_352 : x_at (x_k mL_lw) 352 = some (.ifCond .ne 14, 355, 366) := by decide +kernel
theorem aL_355 : x_at (x_k mL_lw) 355 = some (.aload 5, 357, 0) := by decide +kernel
theorem aL_357 : x_at (x_k mL_lw) 357 = some (.iconst 0, 358, 0) := by decide +kernel
theorem aL_358 : x_at (x_k mL_lw) 358 = some (.iconst 1, 359, 0) := by decide +kernel
theorem aL_359 : x_at (x_k mL_lw) 359 = some (.invokevirtual 222, 362, 0) := by decide +kernel
theorem aL_362 : x_at (x_k mL_lw) 362 = some (.iconst (-1), 363, 0) := by decide +kernel
theorem aL_363 : x_at (x_k mL_lw) 363 = some (.if_icmp .eq 5, 366, 368) := by decide +kernel
theorem aL_366 : x_at (x_k mL_lw) 366 = some (.iconst 0, 367, 0) := by decide +kernel
theorem aL_367 : x_at (x_k mL_lw) 367 = some (.ireturn, 368, 0) := by decide +kernel
theorem aL_368 : x_at (x_k mL_lw) 368 = some (.aload_n 1, 369, 0) := by decide +kernel
theorem aL_369 : x_at (x_k mL_lw) 369 = some (.invokevirtual 173, 372, 0) := by decide +kernel
theorem aL_372 : x_at (x_k mL_lw) 372 = some (.aload_n 1, 373, 0) := by decide +kernel
theorem aL_373 : x_at (x_k mL_lw) 373 = some (.aload 5, 375, 0) := by decide +kernel
theorem aL_375 : x_at (x_k mL_lw) 375 = some (.invokevirtual 160, 378, 0) := by decide +kernel
theorem aL_378 : x_at (x_k mL_lw) 378 = some (.ifCond .ne 5, 381, 383) := by decide +kernel
theorem aL_381 : x_at (x_k mL_lw) 381 = some (.iconst 0, 382, 0) := by decide +kernel
theorem aL_382 : x_at (x_k mL_lw) 382 = some (.ireturn, 383, 0) := by decide +kernel
theorem aL_383 : x_at (x_k mL_lw) 383 = some (.iconst 0, 384, 0) := by decide +kernel
theorem aL_384 : x_at (x_k mL_lw) 384 = some (.istore 6, 386, 0) := by decide +kernel
theorem aL_386 : x_at (x_k mL_lw) 386 = some (.iload 6, 388, 0) := by decide +kernel
theorem aL_388 : x_at (x_k mL_lw) 388 = some (.bipush 12, 390, 0) := by decide +kernel
theorem aL_390 : x_at (x_k mL_lw) 390 = some (.if_icmp .ge 31, 393, 421) := by decide +kernel
theorem aL_393 : x_at (x_k mL_lw) 393 = some (.aload_n 1, 394, 0) := by decide +kernel
theorem aL_394 : x_at (x_k mL_lw) 394 = some (.aload 5, 396, 0) := by decide +kernel
theorem aL_396 : x_at (x_k mL_lw) 396 = some (.aload_n 0, 397, 0) := by decide +kernel
theorem aL_397 : x_at (x_k mL_lw) 397 = some (.bipush 10, 399, 0) := by decide +kernel
theorem aL_399 : x_at (x_k mL_lw) 399 = some (.iload 6, 401, 0) := by decide +kernel
theorem aL_401 : x_at (x_k mL_lw) 401 = some (.iadd, 402, 0) := by decide +kernel
theorem aL_402 : x_at (x_k mL_lw) 402 = some (.invokestatic 183, 405, 0) := by decide +kernel
theorem aL_405 : x_at (x_k mL_lw) 405 = some (.iload_n 2, 406, 0) := by decide +kernel
theorem aL_406 : x_at (x_k mL_lw) 406 = some (.iload_n 3, 407, 0) := by decide +kernel
theorem aL_407 : x_at (x_k mL_lw) 407 = some (.invokevirtual 225, 410, 0) := by decide +kernel
theorem aL_410 : x_at (x_k mL_lw) 410 = some (.ifCond .ne 5, 413, 415) := by decide +kernel
theorem aL_413 : x_at (x_k mL_lw) 413 = some (.iconst 0, 414, 0) := by decide +kernel
theorem aL_414 : x_at (x_k mL_lw) 414 = some (.ireturn, 415, 0) := by decide +kernel
theorem aL_415 : x_at (x_k mL_lw) 415 = some (.iinc 6 1, 418, 0) := by decide +kernel
theorem aL_418 : x_at (x_k mL_lw) 418 = some (.goto (-32), 421, 386) := by decide +kernel
theorem aL_421 : x_at (x_k mL_lw) 421 = some (.iconst 1, 422, 0) := by decide +kernel
theorem aL_422 : x_at (x_k mL_lw) 422 = some (.ireturn, 423, 0) := by decide +kernel
