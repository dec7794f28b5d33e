/-! ===== the law's instructions, by program (wip/whole/gen_d01.py) ===== -/
theorem aL_0 : x_at (x_k mL_law) 0 = some (.new 8, 3, 0) := by decide +kernel
theorem aL_3 : x_at (x_k mL_law) 3 = some (.dup, 4, 0) := by decide +kernel
theorem aL_4 : x_at (x_k mL_law) 4 = some (.invokespecial 75, 7, 0) := by decide +kernel
theorem aL_7 : x_at (x_k mL_law) 7 = some (.astore_n 1, 8, 0) := by decide +kernel
theorem aL_8 : x_at (x_k mL_law) 8 = some (.new 76, 11, 0) := by decide +kernel
theorem aL_11 : x_at (x_k mL_law) 11 = some (.dup, 12, 0) := by decide +kernel
theorem aL_12 : x_at (x_k mL_law) 12 = some (.invokespecial 78, 15, 0) := by decide +kernel
theorem aL_15 : x_at (x_k mL_law) 15 = some (.astore_n 2, 16, 0) := by decide +kernel
theorem aL_16 : x_at (x_k mL_law) 16 = some (.iconst 1, 17, 0) := by decide +kernel
theorem aL_17 : x_at (x_k mL_law) 17 = some (.newarray .long, 19, 0) := by decide +kernel
theorem aL_19 : x_at (x_k mL_law) 19 = some (.astore_n 3, 20, 0) := by decide +kernel
theorem aL_20 : x_at (x_k mL_law) 20 = some (.iconst 0, 21, 0) := by decide +kernel
theorem aL_21 : x_at (x_k mL_law) 21 = some (.istore 4, 23, 0) := by decide +kernel
theorem aL_23 : x_at (x_k mL_law) 23 = some (.iload 4, 25, 0) := by decide +kernel
theorem aL_25 : x_at (x_k mL_law) 25 = some (.aload_n 0, 26, 0) := by decide +kernel
theorem aL_26 : x_at (x_k mL_law) 26 = some (.arraylength, 27, 0) := by decide +kernel
theorem aL_27 : x_at (x_k mL_law) 27 = some (.bipush 7, 29, 0) := by decide +kernel
theorem aL_29 : x_at (x_k mL_law) 29 = some (.isub, 30, 0) := by decide +kernel
theorem aL_30 : x_at (x_k mL_law) 30 = some (.if_icmp .gt 1666, 33, 1696) := by decide +kernel
theorem aL_33 : x_at (x_k mL_law) 33 = some (.aload_n 0, 34, 0) := by decide +kernel
theorem aL_34 : x_at (x_k mL_law) 34 = some (.iload 4, 36, 0) := by decide +kernel
theorem aL_36 : x_at (x_k mL_law) 36 = some (.iaload, 37, 0) := by decide +kernel
theorem aL_37 : x_at (x_k mL_law) 37 = some (.bipush 31, 39, 0) := by decide +kernel
theorem aL_39 : x_at (x_k mL_law) 39 = some (.iand, 40, 0) := by decide +kernel
theorem aL_40 : x_at (x_k mL_law) 40 = some (.tableswitch 1650 0 22 #[108, 181, 237, 250, 306, 374, 442, 498, 566, 634, 702, 758, 826, 930, 1048, 1152, 1255, 1359, 1463, 1519, 1610, 1623, 1636], 148, 0) := by decide +kernel
theorem aL_148 : x_at (x_k mL_law) 148 = some (.aload_n 1, 149, 0) := by decide +kernel
theorem aL_149 : x_at (x_k mL_law) 149 = some (.aload_n 0, 150, 0) := by decide +kernel
theorem aL_150 : x_at (x_k mL_law) 150 = some (.iload 4, 152, 0) := by decide +kernel
theorem aL_152 : x_at (x_k mL_law) 152 = some (.iconst 1, 153, 0) := by decide +kernel
theorem aL_153 : x_at (x_k mL_law) 153 = some (.iadd, 154, 0) := by decide +kernel
theorem aL_154 : x_at (x_k mL_law) 154 = some (.iaload, 155, 0) := by decide +kernel
theorem aL_155 : x_at (x_k mL_law) 155 = some (.aload_n 0, 156, 0) := by decide +kernel
theorem aL_156 : x_at (x_k mL_law) 156 = some (.iload 4, 158, 0) := by decide +kernel
theorem aL_158 : x_at (x_k mL_law) 158 = some (.iconst 2, 159, 0) := by decide +kernel
theorem aL_159 : x_at (x_k mL_law) 159 = some (.iadd, 160, 0) := by decide +kernel
theorem aL_160 : x_at (x_k mL_law) 160 = some (.iaload, 161, 0) := by decide +kernel
theorem aL_161 : x_at (x_k mL_law) 161 = some (.aload_n 0, 162, 0) := by decide +kernel
theorem aL_162 : x_at (x_k mL_law) 162 = some (.iload 4, 164, 0) := by decide +kernel
theorem aL_164 : x_at (x_k mL_law) 164 = some (.iconst 3, 165, 0) := by decide +kernel
theorem aL_165 : x_at (x_k mL_law) 165 = some (.iadd, 166, 0) := by decide +kernel
theorem aL_166 : x_at (x_k mL_law) 166 = some (.iaload, 167, 0) := by decide +kernel
theorem aL_167 : x_at (x_k mL_law) 167 = some (.aload_n 0, 168, 0) := by decide +kernel
theorem aL_168 : x_at (x_k mL_law) 168 = some (.iload 4, 170, 0) := by decide +kernel
theorem aL_170 : x_at (x_k mL_law) 170 = some (.iconst 4, 171, 0) := by decide +kernel
theorem aL_171 : x_at (x_k mL_law) 171 = some (.iadd, 172, 0) := by decide +kernel
theorem aL_172 : x_at (x_k mL_law) 172 = some (.iaload, 173, 0) := by decide +kernel
theorem aL_173 : x_at (x_k mL_law) 173 = some (.aload_n 0, 174, 0) := by decide +kernel
theorem aL_174 : x_at (x_k mL_law) 174 = some (.iload 4, 176, 0) := by decide +kernel
theorem aL_176 : x_at (x_k mL_law) 176 = some (.iconst 5, 177, 0) := by decide +kernel
theorem aL_177 : x_at (x_k mL_law) 177 = some (.iadd, 178, 0) := by decide +kernel
theorem aL_178 : x_at (x_k mL_law) 178 = some (.iaload, 179, 0) := by decide +kernel
theorem aL_179 : x_at (x_k mL_law) 179 = some (.invokevirtual 79, 182, 0) := by decide +kernel
theorem aL_182 : x_at (x_k mL_law) 182 = some (.aload_n 2, 183, 0) := by decide +kernel
theorem aL_183 : x_at (x_k mL_law) 183 = some (.aload_n 0, 184, 0) := by decide +kernel
theorem aL_184 : x_at (x_k mL_law) 184 = some (.iload 4, 186, 0) := by decide +kernel
theorem aL_186 : x_at (x_k mL_law) 186 = some (.iconst 1, 187, 0) := by decide +kernel
theorem aL_187 : x_at (x_k mL_law) 187 = some (.iadd, 188, 0) := by decide +kernel
theorem aL_188 : x_at (x_k mL_law) 188 = some (.iaload, 189, 0) := by decide +kernel
theorem aL_189 : x_at (x_k mL_law) 189 = some (.aload_n 0, 190, 0) := by decide +kernel
theorem aL_190 : x_at (x_k mL_law) 190 = some (.iload 4, 192, 0) := by decide +kernel
theorem aL_192 : x_at (x_k mL_law) 192 = some (.iconst 2, 193, 0) := by decide +kernel
theorem aL_193 : x_at (x_k mL_law) 193 = some (.iadd, 194, 0) := by decide +kernel
theorem aL_194 : x_at (x_k mL_law) 194 = some (.iaload, 195, 0) := by decide +kernel
theorem aL_195 : x_at (x_k mL_law) 195 = some (.aload_n 0, 196, 0) := by decide +kernel
theorem aL_196 : x_at (x_k mL_law) 196 = some (.iload 4, 198, 0) := by decide +kernel
theorem aL_198 : x_at (x_k mL_law) 198 = some (.iconst 3, 199, 0) := by decide +kernel
theorem aL_199 : x_at (x_k mL_law) 199 = some (.iadd, 200, 0) := by decide +kernel
theorem aL_200 : x_at (x_k mL_law) 200 = some (.iaload, 201, 0) := by decide +kernel
theorem aL_201 : x_at (x_k mL_law) 201 = some (.aload_n 0, 202, 0) := by decide +kernel
theorem aL_202 : x_at (x_k mL_law) 202 = some (.iload 4, 204, 0) := by decide +kernel
theorem aL_204 : x_at (x_k mL_law) 204 = some (.iconst 4, 205, 0) := by decide +kernel
theorem aL_205 : x_at (x_k mL_law) 205 = some (.iadd, 206, 0) := by decide +kernel
theorem aL_206 : x_at (x_k mL_law) 206 = some (.iaload, 207, 0) := by decide +kernel
theorem aL_207 : x_at (x_k mL_law) 207 = some (.aload_n 0, 208, 0) := by decide +kernel
theorem aL_208 : x_at (x_k mL_law) 208 = some (.iload 4, 210, 0) := by decide +kernel
theorem aL_210 : x_at (x_k mL_law) 210 = some (.iconst 5, 211, 0) := by decide +kernel
theorem aL_211 : x_at (x_k mL_law) 211 = some (.iadd, 212, 0) := by decide +kernel
theorem aL_212 : x_at (x_k mL_law) 212 = some (.iaload, 213, 0) := by decide +kernel
theorem aL_213 : x_at (x_k mL_law) 213 = some (.invokevirtual 82, 216, 0) := by decide +kernel
theorem aL_216 : x_at (x_k mL_law) 216 = some (.if_icmp .eq 1474, 219, 1690) := by decide +kernel
theorem aL_219 : x_at (x_k mL_law) 219 = some (.iconst 0, 220, 0) := by decide +kernel
theorem aL_220 : x_at (x_k mL_law) 220 = some (.ireturn, 221, 0) := by decide +kernel
theorem aL_221 : x_at (x_k mL_law) 221 = some (.aload_n 1, 222, 0) := by decide +kernel
theorem aL_222 : x_at (x_k mL_law) 222 = some (.aload_n 0, 223, 0) := by decide +kernel
theorem aL_223 : x_at (x_k mL_law) 223 = some (.iload 4, 225, 0) := by decide +kernel
theorem aL_225 : x_at (x_k mL_law) 225 = some (.iconst 1, 226, 0) := by decide +kernel
theorem aL_226 : x_at (x_k mL_law) 226 = some (.iadd, 227, 0) := by decide +kernel
theorem aL_227 : x_at (x_k mL_law) 227 = some (.iaload, 228, 0) := by decide +kernel
theorem aL_228 : x_at (x_k mL_law) 228 = some (.aload_n 3, 229, 0) := by decide +kernel
theorem aL_229 : x_at (x_k mL_law) 229 = some (.invokestatic 83, 232, 0) := by decide +kernel
theorem aL_232 : x_at (x_k mL_law) 232 = some (.istore 5, 234, 0) := by decide +kernel
theorem aL_234 : x_at (x_k mL_law) 234 = some (.aload_n 2, 235, 0) := by decide +kernel
theorem aL_235 : x_at (x_k mL_law) 235 = some (.aload_n 0, 236, 0) := by decide +kernel
theorem aL_236 : x_at (x_k mL_law) 236 = some (.iload 4, 238, 0) := by decide +kernel
theorem aL_238 : x_at (x_k mL_law) 238 = some (.iconst 1, 239, 0) := by decide +kernel
theorem aL_239 : x_at (x_k mL_law) 239 = some (.iadd, 240, 0) := by decide +kernel
theorem aL_240 : x_at (x_k mL_law) 240 = some (.iaload, 241, 0) := by decide +kernel
theorem aL_241 : x_at (x_k mL_law) 241 = some (.invokevirtual 88, 244, 0) := by decide +kernel
theorem aL_244 : x_at (x_k mL_law) 244 = some (.istore 6, 246, 0) := by decide +kernel
theorem aL_246 : x_at (x_k mL_law) 246 = some (.aload_n 2, 247, 0) := by decide +kernel
theorem aL_247 : x_at (x_k mL_law) 247 = some (.invokevirtual 89, 250, 0) := by decide +kernel
theorem aL_250 : x_at (x_k mL_law) 250 = some (.iload 5, 252, 0) := by decide +kernel
theorem aL_252 : x_at (x_k mL_law) 252 = some (.if_icmp .eq 5, 255, 257) := by decide +kernel
theorem aL_255 : x_at (x_k mL_law) 255 = some (.iconst 0, 256, 0) := by decide +kernel
theorem aL_256 : x_at (x_k mL_law) 256 = some (.ireturn, 257, 0) := by decide +kernel
theorem aL_257 : x_at (x_k mL_law) 257 = some (.iload 5, 259, 0) := by decide +kernel
theorem aL_259 : x_at (x_k mL_law) 259 = some (.ifCond .ne 15, 262, 274) := by decide +kernel
theorem aL_262 : x_at (x_k mL_law) 262 = some (.aload_n 3, 263, 0) := by decide +kernel
theorem aL_263 : x_at (x_k mL_law) 263 = some (.iconst 0, 264, 0) := by decide +kernel
theorem aL_264 : x_at (x_k mL_law) 264 = some (.laload, 265, 0) := by decide +kernel
theorem aL_265 : x_at (x_k mL_law) 265 = some (.iload 6, 267, 0) := by decide +kernel
theorem aL_267 : x_at (x_k mL_law) 267 = some (.i2l, 268, 0) := by decide +kernel
theorem aL_268 : x_at (x_k mL_law) 268 = some (.lcmp, 269, 0) := by decide +kernel
theorem aL_269 : x_at (x_k mL_law) 269 = some (.ifCond .eq 5, 272, 274) := by decide +kernel
theorem aL_272 : x_at (x_k mL_law) 272 = some (.iconst 0, 273, 0) := by decide +kernel
theorem aL_273 : x_at (x_k mL_law) 273 = some (.ireturn, 274, 0) := by decide +kernel
theorem aL_274 : x_at (x_k mL_law) 274 = some (.goto 1416, 277, 1690) := by decide +kernel
theorem aL_277 : x_at (x_k mL_law) 277 = some (.aload_n 1, 278, 0) := by decide +kernel
theorem aL_278 : x_at (x_k mL_law) 278 = some (.invokevirtual 93, 281, 0) := by decide +kernel
theorem aL_281 : x_at (x_k mL_law) 281 = some (.aload_n 2, 282, 0) := by decide +kernel
theorem aL_282 : x_at (x_k mL_law) 282 = some (.invokevirtual 96, 285, 0) := by decide +kernel
theorem aL_285 : x_at (x_k mL_law) 285 = some (.if_icmp .eq 1405, 288, 1690) := by decide +kernel
theorem aL_288 : x_at (x_k mL_law) 288 = some (.iconst 0, 289, 0) := by decide +kernel
theorem aL_289 : x_at (x_k mL_law) 289 = some (.ireturn, 290, 0) := by decide +kernel
theorem aL_290 : x_at (x_k mL_law) 290 = some (.aload_n 1, 291, 0) := by decide +kernel
theorem aL_291 : x_at (x_k mL_law) 291 = some (.aload_n 0, 292, 0) := by decide +kernel
theorem aL_292 : x_at (x_k mL_law) 292 = some (.iload 4, 294, 0) := by decide +kernel
theorem aL_294 : x_at (x_k mL_law) 294 = some (.iconst 1, 295, 0) := by decide +kernel
theorem aL_295 : x_at (x_k mL_law) 295 = some (.iadd, 296, 0) := by decide +kernel
theorem aL_296 : x_at (x_k mL_law) 296 = some (.iaload, 297, 0) := by decide +kernel
theorem aL_297 : x_at (x_k mL_law) 297 = some (.aload_n 3, 298, 0) := by decide +kernel
theorem aL_298 : x_at (x_k mL_law) 298 = some (.invokestatic 97, 301, 0) := by decide +kernel
theorem aL_301 : x_at (x_k mL_law) 301 = some (.istore 5, 303, 0) := by decide +kernel
theorem aL_303 : x_at (x_k mL_law) 303 = some (.aload_n 2, 304, 0) := by decide +kernel
theorem aL_304 : x_at (x_k mL_law) 304 = some (.aload_n 0, 305, 0) := by decide +kernel
theorem aL_305 : x_at (x_k mL_law) 305 = some (.iload 4, 307, 0) := by decide +kernel
theorem aL_307 : x_at (x_k mL_law) 307 = some (.iconst 1, 308, 0) := by decide +kernel
theorem aL_308 : x_at (x_k mL_law) 308 = some (.iadd, 309, 0) := by decide +kernel
theorem aL_309 : x_at (x_k mL_law) 309 = some (.iaload, 310, 0) := by decide +kernel
theorem aL_310 : x_at (x_k mL_law) 310 = some (.invokevirtual 99, 313, 0) := by decide +kernel
theorem aL_313 : x_at (x_k mL_law) 313 = some (.istore 6, 315, 0) := by decide +kernel
theorem aL_315 : x_at (x_k mL_law) 315 = some (.aload_n 2, 316, 0) := by decide +kernel
theorem aL_316 : x_at (x_k mL_law) 316 = some (.invokevirtual 89, 319, 0) := by decide +kernel
theorem aL_319 : x_at (x_k mL_law) 319 = some (.iload 5, 321, 0) := by decide +kernel
theorem aL_321 : x_at (x_k mL_law) 321 = some (.if_icmp .eq 5, 324, 326) := by decide +kernel
theorem aL_324 : x_at (x_k mL_law) 324 = some (.iconst 0, 325, 0) := by decide +kernel
theorem aL_325 : x_at (x_k mL_law) 325 = some (.ireturn, 326, 0) := by decide +kernel
theorem aL_326 : x_at (x_k mL_law) 326 = some (.iload 5, 328, 0) := by decide +kernel
theorem aL_328 : x_at (x_k mL_law) 328 = some (.ifCond .ne 15, 331, 343) := by decide +kernel
theorem aL_331 : x_at (x_k mL_law) 331 = some (.aload_n 3, 332, 0) := by decide +kernel
theorem aL_332 : x_at (x_k mL_law) 332 = some (.iconst 0, 333, 0) := by decide +kernel
theorem aL_333 : x_at (x_k mL_law) 333 = some (.laload, 334, 0) := by decide +kernel
theorem aL_334 : x_at (x_k mL_law) 334 = some (.iload 6, 336, 0) := by decide +kernel
theorem aL_336 : x_at (x_k mL_law) 336 = some (.i2l, 337, 0) := by decide +kernel
theorem aL_337 : x_at (x_k mL_law) 337 = some (.lcmp, 338, 0) := by decide +kernel
theorem aL_338 : x_at (x_k mL_law) 338 = some (.ifCond .eq 5, 341, 343) := by decide +kernel
theorem aL_341 : x_at (x_k mL_law) 341 = some (.iconst 0, 342, 0) := by decide +kernel
theorem aL_342 : x_at (x_k mL_law) 342 = some (.ireturn, 343, 0) := by decide +kernel
theorem aL_343 : x_at (x_k mL_law) 343 = some (.goto 1347, 346, 1690) := by decide +kernel
theorem aL_346 : x_at (x_k mL_law) 346 = some (.aload_n 1, 347, 0) := by decide +kernel
theorem aL_347 : x_at (x_k mL_law) 347 = some (.aload_n 0, 348, 0) := by decide +kernel
theorem aL_348 : x_at (x_k mL_law) 348 = some (.iload 4, 350, 0) := by decide +kernel
theorem aL_350 : x_at (x_k mL_law) 350 = some (.iconst 1, 351, 0) := by decide +kernel
theorem aL_351 : x_at (x_k mL_law) 351 = some (.iadd, 352, 0) := by decide +kernel
theorem aL_352 : x_at (x_k mL_law) 352 = some (.iaload, 353, 0) := by decide +kernel
theorem aL_353 : x_at (x_k mL_law) 353 = some (.aload_n 0, 354, 0) := by decide +kernel
theorem aL_354 : x_at (x_k mL_law) 354 = some (.iload 4, 356, 0) := by decide +kernel
theorem aL_356 : x_at (x_k mL_law) 356 = some (.iconst 2, 357, 0) := by decide +kernel
theorem aL_357 : x_at (x_k mL_law) 357 = some (.iadd, 358, 0) := by decide +kernel
theorem aL_358 : x_at (x_k mL_law) 358 = some (.iaload, 359, 0) := by decide +kernel
theorem aL_359 : x_at (x_k mL_law) 359 = some (.aload_n 3, 360, 0) := by decide +kernel
theorem aL_360 : x_at (x_k mL_law) 360 = some (.invokestatic 100, 363, 0) := by decide +kernel
theorem aL_363 : x_at (x_k mL_law) 363 = some (.istore 5, 365, 0) := by decide +kernel
theorem aL_365 : x_at (x_k mL_law) 365 = some (.aload_n 2, 366, 0) := by decide +kernel
theorem aL_366 : x_at (x_k mL_law) 366 = some (.aload_n 0, 367, 0) := by decide +kernel
theorem aL_367 : x_at (x_k mL_law) 367 = some (.iload 4, 369, 0) := by decide +kernel
theorem aL_369 : x_at (x_k mL_law) 369 = some (.iconst 1, 370, 0) := by decide +kernel
theorem aL_370 : x_at (x_k mL_law) 370 = some (.iadd, 371, 0) := by decide +kernel
theorem aL_371 : x_at (x_k mL_law) 371 = some (.iaload, 372, 0) := by decide +kernel
theorem aL_372 : x_at (x_k mL_law) 372 = some (.aload_n 0, 373, 0) := by decide +kernel
theorem aL_373 : x_at (x_k mL_law) 373 = some (.iload 4, 375, 0) := by decide +kernel
theorem aL_375 : x_at (x_k mL_law) 375 = some (.iconst 2, 376, 0) := by decide +kernel
theorem aL_376 : x_at (x_k mL_law) 376 = some (.iadd, 377, 0) := by decide +kernel
theorem aL_377 : x_at (x_k mL_law) 377 = some (.iaload, 378, 0) := by decide +kernel
theorem aL_378 : x_at (x_k mL_law) 378 = some (.invokevirtual 103, 381, 0) := by decide +kernel
theorem aL_381 : x_at (x_k mL_law) 381 = some (.istore 6, 383, 0) := by decide +kernel
theorem aL_383 : x_at (x_k mL_law) 383 = some (.aload_n 2, 384, 0) := by decide +kernel
theorem aL_384 : x_at (x_k mL_law) 384 = some (.invokevirtual 89, 387, 0) := by decide +kernel
theorem aL_387 : x_at (x_k mL_law) 387 = some (.iload 5, 389, 0) := by decide +kernel
theorem aL_389 : x_at (x_k mL_law) 389 = some (.if_icmp .eq 5, 392, 394) := by decide +kernel
theorem aL_392 : x_at (x_k mL_law) 392 = some (.iconst 0, 393, 0) := by decide +kernel
theorem aL_393 : x_at (x_k mL_law) 393 = some (.ireturn, 394, 0) := by decide +kernel
theorem aL_394 : x_at (x_k mL_law) 394 = some (.iload 5, 396, 0) := by decide +kernel
theorem aL_396 : x_at (x_k mL_law) 396 = some (.ifCond .ne 15, 399, 411) := by decide +kernel
theorem aL_399 : x_at (x_k mL_law) 399 = some (.aload_n 3, 400, 0) := by decide +kernel
theorem aL_400 : x_at (x_k mL_law) 400 = some (.iconst 0, 401, 0) := by decide +kernel
theorem aL_401 : x_at (x_k mL_law) 401 = some (.laload, 402, 0) := by decide +kernel
theorem aL_402 : x_at (x_k mL_law) 402 = some (.iload 6, 404, 0) := by decide +kernel
theorem aL_404 : x_at (x_k mL_law) 404 = some (.i2l, 405, 0) := by decide +kernel
theorem aL_405 : x_at (x_k mL_law) 405 = some (.lcmp, 406, 0) := by decide +kernel
theorem aL_406 : x_at (x_k mL_law) 406 = some (.ifCond .eq 5, 409, 411) := by decide +kernel
theorem aL_409 : x_at (x_k mL_law) 409 = some (.iconst 0, 410, 0) := by decide +kernel
theorem aL_410 : x_at (x_k mL_law) 410 = some (.ireturn, 411, 0) := by decide +kernel
theorem aL_411 : x_at (x_k mL_law) 411 = some (.goto 1279, 414, 1690) := by decide +kernel
theorem aL_414 : x_at (x_k mL_law) 414 = some (.aload_n 1, 415, 0) := by decide +kernel
theorem aL_415 : x_at (x_k mL_law) 415 = some (.aload_n 0, 416, 0) := by decide +kernel
theorem aL_416 : x_at (x_k mL_law) 416 = some (.iload 4, 418, 0) := by decide +kernel
theorem aL_418 : x_at (x_k mL_law) 418 = some (.iconst 1, 419, 0) := by decide +kernel
theorem aL_419 : x_at (x_k mL_law) 419 = some (.iadd, 420, 0) := by decide +kernel
theorem aL_420 : x_at (x_k mL_law) 420 = some (.iaload, 421, 0) := by decide +kernel
theorem aL_421 : x_at (x_k mL_law) 421 = some (.aload_n 0, 422, 0) := by decide +kernel
theorem aL_422 : x_at (x_k mL_law) 422 = some (.iload 4, 424, 0) := by decide +kernel
theorem aL_424 : x_at (x_k mL_law) 424 = some (.iconst 2, 425, 0) := by decide +kernel
theorem aL_425 : x_at (x_k mL_law) 425 = some (.iadd, 426, 0) := by decide +kernel
theorem aL_426 : x_at (x_k mL_law) 426 = some (.iaload, 427, 0) := by decide +kernel
theorem aL_427 : x_at (x_k mL_law) 427 = some (.aload_n 3, 428, 0) := by decide +kernel
theorem aL_428 : x_at (x_k mL_law) 428 = some (.invokestatic 104, 431, 0) := by decide +kernel
theorem aL_431 : x_at (x_k mL_law) 431 = some (.istore 5, 433, 0) := by decide +kernel
theorem aL_433 : x_at (x_k mL_law) 433 = some (.aload_n 2, 434, 0) := by decide +kernel
theorem aL_434 : x_at (x_k mL_law) 434 = some (.aload_n 0, 435, 0) := by decide +kernel
theorem aL_435 : x_at (x_k mL_law) 435 = some (.iload 4, 437, 0) := by decide +kernel
theorem aL_437 : x_at (x_k mL_law) 437 = some (.iconst 1, 438, 0) := by decide +kernel
theorem aL_438 : x_at (x_k mL_law) 438 = some (.iadd, 439, 0) := by decide +kernel
theorem aL_439 : x_at (x_k mL_law) 439 = some (.iaload, 440, 0) := by decide +kernel
theorem aL_440 : x_at (x_k mL_law) 440 = some (.aload_n 0, 441, 0) := by decide +kernel
theorem aL_441 : x_at (x_k mL_law) 441 = some (.iload 4, 443, 0) := by decide +kernel
theorem aL_443 : x_at (x_k mL_law) 443 = some (.iconst 2, 444, 0) := by decide +kernel
theorem aL_444 : x_at (x_k mL_law) 444 = some (.iadd, 445, 0) := by decide +kernel
theorem aL_445 : x_at (x_k mL_law) 445 = some (.iaload, 446, 0) := by decide +kernel
theorem aL_446 : x_at (x_k mL_law) 446 = some (.invokevirtual 106, 449, 0) := by decide +kernel
theorem aL_449 : x_at (x_k mL_law) 449 = some (.istore 6, 451, 0) := by decide +kernel
theorem aL_451 : x_at (x_k mL_law) 451 = some (.aload_n 2, 452, 0) := by decide +kernel
theorem aL_452 : x_at (x_k mL_law) 452 = some (.invokevirtual 89, 455, 0) := by decide +kernel
theorem aL_455 : x_at (x_k mL_law) 455 = some (.iload 5, 457, 0) := by decide +kernel
theorem aL_457 : x_at (x_k mL_law) 457 = some (.if_icmp .eq 5, 460, 462) := by decide +kernel
theorem aL_460 : x_at (x_k mL_law) 460 = some (.iconst 0, 461, 0) := by decide +kernel
theorem aL_461 : x_at (x_k mL_law) 461 = some (.ireturn, 462, 0) := by decide +kernel
theorem aL_462 : x_at (x_k mL_law) 462 = some (.iload 5, 464, 0) := by decide +kernel
theorem aL_464 : x_at (x_k mL_law) 464 = some (.ifCond .ne 15, 467, 479) := by decide +kernel
theorem aL_467 : x_at (x_k mL_law) 467 = some (.aload_n 3, 468, 0) := by decide +kernel
theorem aL_468 : x_at (x_k mL_law) 468 = some (.iconst 0, 469, 0) := by decide +kernel
theorem aL_469 : x_at (x_k mL_law) 469 = some (.laload, 470, 0) := by decide +kernel
theorem aL_470 : x_at (x_k mL_law) 470 = some (.iload 6, 472, 0) := by decide +kernel
theorem aL_472 : x_at (x_k mL_law) 472 = some (.i2l, 473, 0) := by decide +kernel
theorem aL_473 : x_at (x_k mL_law) 473 = some (.lcmp, 474, 0) := by decide +kernel
theorem aL_474 : x_at (x_k mL_law) 474 = some (.ifCond .eq 5, 477, 479) := by decide +kernel
theorem aL_477 : x_at (x_k mL_law) 477 = some (.iconst 0, 478, 0) := by decide +kernel
theorem aL_478 : x_at (x_k mL_law) 478 = some (.ireturn, 479, 0) := by decide +kernel
theorem aL_479 : x_at (x_k mL_law) 479 = some (.goto 1211, 482, 1690) := by decide +kernel
theorem aL_482 : x_at (x_k mL_law) 482 = some (.aload_n 1, 483, 0) := by decide +kernel
theorem aL_483 : x_at (x_k mL_law) 483 = some (.aload_n 0, 484, 0) := by decide +kernel
theorem aL_484 : x_at (x_k mL_law) 484 = some (.iload 4, 486, 0) := by decide +kernel
theorem aL_486 : x_at (x_k mL_law) 486 = some (.iconst 1, 487, 0) := by decide +kernel
theorem aL_487 : x_at (x_k mL_law) 487 = some (.iadd, 488, 0) := by decide +kernel
theorem aL_488 : x_at (x_k mL_law) 488 = some (.iaload, 489, 0) := by decide +kernel
theorem aL_489 : x_at (x_k mL_law) 489 = some (.aload_n 3, 490, 0) := by decide +kernel
theorem aL_490 : x_at (x_k mL_law) 490 = some (.invokestatic 107, 493, 0) := by decide +kernel
theorem aL_493 : x_at (x_k mL_law) 493 = some (.istore 5, 495, 0) := by decide +kernel
theorem aL_495 : x_at (x_k mL_law) 495 = some (.aload_n 2, 496, 0) := by decide +kernel
theorem aL_496 : x_at (x_k mL_law) 496 = some (.aload_n 0, 497, 0) := by decide +kernel
theorem aL_497 : x_at (x_k mL_law) 497 = some (.iload 4, 499, 0) := by decide +kernel
theorem aL_499 : x_at (x_k mL_law) 499 = some (.iconst 1, 500, 0) := by decide +kernel
theorem aL_500 : x_at (x_k mL_law) 500 = some (.iadd, 501, 0) := by decide +kernel
theorem aL_501 : x_at (x_k mL_law) 501 = some (.iaload, 502, 0) := by decide +kernel
theorem aL_502 : x_at (x_k mL_law) 502 = some (.invokevirtual 109, 505, 0) := by decide +kernel
theorem aL_505 : x_at (x_k mL_law) 505 = some (.istore 6, 507, 0) := by decide +kernel
theorem aL_507 : x_at (x_k mL_law) 507 = some (.aload_n 2, 508, 0) := by decide +kernel
theorem aL_508 : x_at (x_k mL_law) 508 = some (.invokevirtual 89, 511, 0) := by decide +kernel
theorem aL_511 : x_at (x_k mL_law) 511 = some (.iload 5, 513, 0) := by decide +kernel
theorem aL_513 : x_at (x_k mL_law) 513 = some (.if_icmp .eq 5, 516, 518) := by decide +kernel
theorem aL_516 : x_at (x_k mL_law) 516 = some (.iconst 0, 517, 0) := by decide +kernel
theorem aL_517 : x_at (x_k mL_law) 517 = some (.ireturn, 518, 0) := by decide +kernel
theorem aL_518 : x_at (x_k mL_law) 518 = some (.iload 5, 520, 0) := by decide +kernel
theorem aL_520 : x_at (x_k mL_law) 520 = some (.ifCond .ne 15, 523, 535) := by decide +kernel
theorem aL_523 : x_at (x_k mL_law) 523 = some (.aload_n 3, 524, 0) := by decide +kernel
theorem aL_524 : x_at (x_k mL_law) 524 = some (.iconst 0, 525, 0) := by decide +kernel
theorem aL_525 : x_at (x_k mL_law) 525 = some (.laload, 526, 0) := by decide +kernel
theorem aL_526 : x_at (x_k mL_law) 526 = some (.iload 6, 528, 0) := by decide +kernel
theorem aL_528 : x_at (x_k mL_law) 528 = some (.i2l, 529, 0) := by decide +kernel
theorem aL_529 : x_at (x_k mL_law) 529 = some (.lcmp, 530, 0) := by decide +kernel
theorem aL_530 : x_at (x_k mL_law) 530 = some (.ifCond .eq 5, 533, 535) := by decide +kernel
theorem aL_533 : x_at (x_k mL_law) 533 = some (.iconst 0, 534, 0) := by decide +kernel
theorem aL_534 : x_at (x_k mL_law) 534 = some (.ireturn, 535, 0) := by decide +kernel
theorem aL_535 : x_at (x_k mL_law) 535 = some (.goto 1155, 538, 1690) := by decide +kernel
theorem aL_538 : x_at (x_k mL_law) 538 = some (.aload_n 1, 539, 0) := by decide +kernel
theorem aL_539 : x_at (x_k mL_law) 539 = some (.aload_n 0, 540, 0) := by decide +kernel
theorem aL_540 : x_at (x_k mL_law) 540 = some (.iload 4, 542, 0) := by decide +kernel
theorem aL_542 : x_at (x_k mL_law) 542 = some (.iconst 1, 543, 0) := by decide +kernel
theorem aL_543 : x_at (x_k mL_law) 543 = some (.iadd, 544, 0) := by decide +kernel
theorem aL_544 : x_at (x_k mL_law) 544 = some (.iaload, 545, 0) := by decide +kernel
theorem aL_545 : x_at (x_k mL_law) 545 = some (.aload_n 0, 546, 0) := by decide +kernel
theorem aL_546 : x_at (x_k mL_law) 546 = some (.iload 4, 548, 0) := by decide +kernel
theorem aL_548 : x_at (x_k mL_law) 548 = some (.iconst 2, 549, 0) := by decide +kernel
theorem aL_549 : x_at (x_k mL_law) 549 = some (.iadd, 550, 0) := by decide +kernel
theorem aL_550 : x_at (x_k mL_law) 550 = some (.iaload, 551, 0) := by decide +kernel
theorem aL_551 : x_at (x_k mL_law) 551 = some (.aload_n 3, 552, 0) := by decide +kernel
theorem aL_552 : x_at (x_k mL_law) 552 = some (.invokestatic 110, 555, 0) := by decide +kernel
theorem aL_555 : x_at (x_k mL_law) 555 = some (.istore 5, 557, 0) := by decide +kernel
theorem aL_557 : x_at (x_k mL_law) 557 = some (.aload_n 2, 558, 0) := by decide +kernel
theorem aL_558 : x_at (x_k mL_law) 558 = some (.aload_n 0, 559, 0) := by decide +kernel
theorem aL_559 : x_at (x_k mL_law) 559 = some (.iload 4, 561, 0) := by decide +kernel
theorem aL_561 : x_at (x_k mL_law) 561 = some (.iconst 1, 562, 0) := by decide +kernel
theorem aL_562 : x_at (x_k mL_law) 562 = some (.iadd, 563, 0) := by decide +kernel
theorem aL_563 : x_at (x_k mL_law) 563 = some (.iaload, 564, 0) := by decide +kernel
theorem aL_564 : x_at (x_k mL_law) 564 = some (.aload_n 0, 565, 0) := by decide +kernel
theorem aL_565 : x_at (x_k mL_law) 565 = some (.iload 4, 567, 0) := by decide +kernel
theorem aL_567 : x_at (x_k mL_law) 567 = some (.iconst 2, 568, 0) := by decide +kernel
theorem aL_568 : x_at (x_k mL_law) 568 = some (.iadd, 569, 0) := by decide +kernel
theorem aL_569 : x_at (x_k mL_law) 569 = some (.iaload, 570, 0) := by decide +kernel
theorem aL_570 : x_at (x_k mL_law) 570 = some (.invokevirtual 112, 573, 0) := by decide +kernel
theorem aL_573 : x_at (x_k mL_law) 573 = some (.istore 6, 575, 0) := by decide +kernel
theorem aL_575 : x_at (x_k mL_law) 575 = some (.aload_n 2, 576, 0) := by decide +kernel
theorem aL_576 : x_at (x_k mL_law) 576 = some (.invokevirtual 89, 579, 0) := by decide +kernel
theorem aL_579 : x_at (x_k mL_law) 579 = some (.iload 5, 581, 0) := by decide +kernel
theorem aL_581 : x_at (x_k mL_law) 581 = some (.if_icmp .eq 5, 584, 586) := by decide +kernel
theorem aL_584 : x_at (x_k mL_law) 584 = some (.iconst 0, 585, 0) := by decide +kernel
theorem aL_585 : x_at (x_k mL_law) 585 = some (.ireturn, 586, 0) := by decide +kernel
theorem aL_586 : x_at (x_k mL_law) 586 = some (.iload 5, 588, 0) := by decide +kernel
theorem aL_588 : x_at (x_k mL_law) 588 = some (.ifCond .ne 15, 591, 603) := by decide +kernel
theorem aL_591 : x_at (x_k mL_law) 591 = some (.aload_n 3, 592, 0) := by decide +kernel
theorem aL_592 : x_at (x_k mL_law) 592 = some (.iconst 0, 593, 0) := by decide +kernel
theorem aL_593 : x_at (x_k mL_law) 593 = some (.laload, 594, 0) := by decide +kernel
theorem aL_594 : x_at (x_k mL_law) 594 = some (.iload 6, 596, 0) := by decide +kernel
theorem aL_596 : x_at (x_k mL_law) 596 = some (.i2l, 597, 0) := by decide +kernel
theorem aL_597 : x_at (x_k mL_law) 597 = some (.lcmp, 598, 0) := by decide +kernel
theorem aL_598 : x_at (x_k mL_law) 598 = some (.ifCond .eq 5, 601, 603) := by decide +kernel
theorem aL_601 : x_at (x_k mL_law) 601 = some (.iconst 0, 602, 0) := by decide +kernel
theorem aL_602 : x_at (x_k mL_law) 602 = some (.ireturn, 603, 0) := by decide +kernel
theorem aL_603 : x_at (x_k mL_law) 603 = some (.goto 1087, 606, 1690) := by decide +kernel
theorem aL_606 : x_at (x_k mL_law) 606 = some (.aload_n 1, 607, 0) := by decide +kernel
theorem aL_607 : x_at (x_k mL_law) 607 = some (.aload_n 0, 608, 0) := by decide +kernel
theorem aL_608 : x_at (x_k mL_law) 608 = some (.iload 4, 610, 0) := by decide +kernel
theorem aL_610 : x_at (x_k mL_law) 610 = some (.iconst 1, 611, 0) := by decide +kernel
theorem aL_611 : x_at (x_k mL_law) 611 = some (.iadd, 612, 0) := by decide +kernel
theorem aL_612 : x_at (x_k mL_law) 612 = some (.iaload, 613, 0) := by decide +kernel
theorem aL_613 : x_at (x_k mL_law) 613 = some (.aload_n 0, 614, 0) := by decide +kernel
theorem aL_614 : x_at (x_k mL_law) 614 = some (.iload 4, 616, 0) := by decide +kernel
theorem aL_616 : x_at (x_k mL_law) 616 = some (.iconst 2, 617, 0) := by decide +kernel
theorem aL_617 : x_at (x_k mL_law) 617 = some (.iadd, 618, 0) := by decide +kernel
theorem aL_618 : x_at (x_k mL_law) 618 = some (.iaload, 619, 0) := by decide +kernel
theorem aL_619 : x_at (x_k mL_law) 619 = some (.aload_n 3, 620, 0) := by decide +kernel
theorem aL_620 : x_at (x_k mL_law) 620 = some (.invokestatic 113, 623, 0) := by decide +kernel
theorem aL_623 : x_at (x_k mL_law) 623 = some (.istore 5, 625, 0) := by decide +kernel
theorem aL_625 : x_at (x_k mL_law) 625 = some (.aload_n 2, 626, 0) := by decide +kernel
theorem aL_626 : x_at (x_k mL_law) 626 = some (.aload_n 0, 627, 0) := by decide +kernel
theorem aL_627 : x_at (x_k mL_law) 627 = some (.iload 4, 629, 0) := by decide +kernel
theorem aL_629 : x_at (x_k mL_law) 629 = some (.iconst 1, 630, 0) := by decide +kernel
theorem aL_630 : x_at (x_k mL_law) 630 = some (.iadd, 631, 0) := by decide +kernel
theorem aL_631 : x_at (x_k mL_law) 631 = some (.iaload, 632, 0) := by decide +kernel
theorem aL_632 : x_at (x_k mL_law) 632 = some (.aload_n 0, 633, 0) := by decide +kernel
theorem aL_633 : x_at (x_k mL_law) 633 = some (.iload 4, 635, 0) := by decide +kernel
theorem aL_635 : x_at (x_k mL_law) 635 = some (.iconst 2, 636, 0) := by decide +kernel
theorem aL_636 : x_at (x_k mL_law) 636 = some (.iadd, 637, 0) := by decide +kernel
theorem aL_637 : x_at (x_k mL_law) 637 = some (.iaload, 638, 0) := by decide +kernel
theorem aL_638 : x_at (x_k mL_law) 638 = some (.invokevirtual 115, 641, 0) := by decide +kernel
theorem aL_641 : x_at (x_k mL_law) 641 = some (.istore 6, 643, 0) := by decide +kernel
theorem aL_643 : x_at (x_k mL_law) 643 = some (.aload_n 2, 644, 0) := by decide +kernel
theorem aL_644 : x_at (x_k mL_law) 644 = some (.invokevirtual 89, 647, 0) := by decide +kernel
theorem aL_647 : x_at (x_k mL_law) 647 = some (.iload 5, 649, 0) := by decide +kernel
theorem aL_649 : x_at (x_k mL_law) 649 = some (.if_icmp .eq 5, 652, 654) := by decide +kernel
theorem aL_652 : x_at (x_k mL_law) 652 = some (.iconst 0, 653, 0) := by decide +kernel
theorem aL_653 : x_at (x_k mL_law) 653 = some (.ireturn, 654, 0) := by decide +kernel
theorem aL_654 : x_at (x_k mL_law) 654 = some (.iload 5, 656, 0) := by decide +kernel
theorem aL_656 : x_at (x_k mL_law) 656 = some (.ifCond .ne 15, 659, 671) := by decide +kernel
theorem aL_659 : x_at (x_k mL_law) 659 = some (.aload_n 3, 660, 0) := by decide +kernel
theorem aL_660 : x_at (x_k mL_law) 660 = some (.iconst 0, 661, 0) := by decide +kernel
theorem aL_661 : x_at (x_k mL_law) 661 = some (.laload, 662, 0) := by decide +kernel
theorem aL_662 : x_at (x_k mL_law) 662 = some (.iload 6, 664, 0) := by decide +kernel
theorem aL_664 : x_at (x_k mL_law) 664 = some (.i2l, 665, 0) := by decide +kernel
theorem aL_665 : x_at (x_k mL_law) 665 = some (.lcmp, 666, 0) := by decide +kernel
theorem aL_666 : x_at (x_k mL_law) 666 = some (.ifCond .eq 5, 669, 671) := by decide +kernel
theorem aL_669 : x_at (x_k mL_law) 669 = some (.iconst 0, 670, 0) := by decide +kernel
theorem aL_670 : x_at (x_k mL_law) 670 = some (.ireturn, 671, 0) := by decide +kernel
theorem aL_671 : x_at (x_k mL_law) 671 = some (.goto 1019, 674, 1690) := by decide +kernel
theorem aL_674 : x_at (x_k mL_law) 674 = some (.aload_n 1, 675, 0) := by decide +kernel
theorem aL_675 : x_at (x_k mL_law) 675 = some (.aload_n 0, 676, 0) := by decide +kernel
theorem aL_676 : x_at (x_k mL_law) 676 = some (.iload 4, 678, 0) := by decide +kernel
theorem aL_678 : x_at (x_k mL_law) 678 = some (.iconst 1, 679, 0) := by decide +kernel
theorem aL_679 : x_at (x_k mL_law) 679 = some (.iadd, 680, 0) := by decide +kernel
theorem aL_680 : x_at (x_k mL_law) 680 = some (.iaload, 681, 0) := by decide +kernel
theorem aL_681 : x_at (x_k mL_law) 681 = some (.aload_n 0, 682, 0) := by decide +kernel
theorem aL_682 : x_at (x_k mL_law) 682 = some (.iload 4, 684, 0) := by decide +kernel
theorem aL_684 : x_at (x_k mL_law) 684 = some (.iconst 2, 685, 0) := by decide +kernel
theorem aL_685 : x_at (x_k mL_law) 685 = some (.iadd, 686, 0) := by decide +kernel
theorem aL_686 : x_at (x_k mL_law) 686 = some (.iaload, 687, 0) := by decide +kernel
theorem aL_687 : x_at (x_k mL_law) 687 = some (.aload_n 3, 688, 0) := by decide +kernel
theorem aL_688 : x_at (x_k mL_law) 688 = some (.invokestatic 116, 691, 0) := by decide +kernel
theorem aL_691 : x_at (x_k mL_law) 691 = some (.istore 5, 693, 0) := by decide +kernel
theorem aL_693 : x_at (x_k mL_law) 693 = some (.aload_n 2, 694, 0) := by decide +kernel
theorem aL_694 : x_at (x_k mL_law) 694 = some (.aload_n 0, 695, 0) := by decide +kernel
theorem aL_695 : x_at (x_k mL_law) 695 = some (.iload 4, 697, 0) := by decide +kernel
theorem aL_697 : x_at (x_k mL_law) 697 = some (.iconst 1, 698, 0) := by decide +kernel
theorem aL_698 : x_at (x_k mL_law) 698 = some (.iadd, 699, 0) := by decide +kernel
theorem aL_699 : x_at (x_k mL_law) 699 = some (.iaload, 700, 0) := by decide +kernel
theorem aL_700 : x_at (x_k mL_law) 700 = some (.aload_n 0, 701, 0) := by decide +kernel
theorem aL_701 : x_at (x_k mL_law) 701 = some (.iload 4, 703, 0) := by decide +kernel
theorem aL_703 : x_at (x_k mL_law) 703 = some (.iconst 2, 704, 0) := by decide +kernel
theorem aL_704 : x_at (x_k mL_law) 704 = some (.iadd, 705, 0) := by decide +kernel
theorem aL_705 : x_at (x_k mL_law) 705 = some (.iaload, 706, 0) := by decide +kernel
theorem aL_706 : x_at (x_k mL_law) 706 = some (.invokevirtual 118, 709, 0) := by decide +kernel
theorem aL_709 : x_at (x_k mL_law) 709 = some (.istore 6, 711, 0) := by decide +kernel
theorem aL_711 : x_at (x_k mL_law) 711 = some (.aload_n 2, 712, 0) := by decide +kernel
theorem aL_712 : x_at (x_k mL_law) 712 = some (.invokevirtual 89, 715, 0) := by decide +kernel
theorem aL_715 : x_at (x_k mL_law) 715 = some (.iload 5, 717, 0) := by decide +kernel
theorem aL_717 : x_at (x_k mL_law) 717 = some (.if_icmp .eq 5, 720, 722) := by decide +kernel
theorem aL_720 : x_at (x_k mL_law) 720 = some (.iconst 0, 721, 0) := by decide +kernel
theorem aL_721 : x_at (x_k mL_law) 721 = some (.ireturn, 722, 0) := by decide +kernel
theorem aL_722 : x_at (x_k mL_law) 722 = some (.iload 5, 724, 0) := by decide +kernel
theorem aL_724 : x_at (x_k mL_law) 724 = some (.ifCond .ne 15, 727, 739) := by decide +kernel
theorem aL_727 : x_at (x_k mL_law) 727 = some (.aload_n 3, 728, 0) := by decide +kernel
theorem aL_728 : x_at (x_k mL_law) 728 = some (.iconst 0, 729, 0) := by decide +kernel
theorem aL_729 : x_at (x_k mL_law) 729 = some (.laload, 730, 0) := by decide +kernel
theorem aL_730 : x_at (x_k mL_law) 730 = some (.iload 6, 732, 0) := by decide +kernel
theorem aL_732 : x_at (x_k mL_law) 732 = some (.i2l, 733, 0) := by decide +kernel
theorem aL_733 : x_at (x_k mL_law) 733 = some (.lcmp, 734, 0) := by decide +kernel
theorem aL_734 : x_at (x_k mL_law) 734 = some (.ifCond .eq 5, 737, 739) := by decide +kernel
theorem aL_737 : x_at (x_k mL_law) 737 = some (.iconst 0, 738, 0) := by decide +kernel
theorem aL_738 : x_at (x_k mL_law) 738 = some (.ireturn, 739, 0) := by decide +kernel
theorem aL_739 : x_at (x_k mL_law) 739 = some (.goto 951, 742, 1690) := by decide +kernel
theorem aL_742 : x_at (x_k mL_law) 742 = some (.aload_n 1, 743, 0) := by decide +kernel
theorem aL_743 : x_at (x_k mL_law) 743 = some (.aload_n 0, 744, 0) := by decide +kernel
theorem aL_744 : x_at (x_k mL_law) 744 = some (.iload 4, 746, 0) := by decide +kernel
theorem aL_746 : x_at (x_k mL_law) 746 = some (.iconst 1, 747, 0) := by decide +kernel
theorem aL_747 : x_at (x_k mL_law) 747 = some (.iadd, 748, 0) := by decide +kernel
theorem aL_748 : x_at (x_k mL_law) 748 = some (.iaload, 749, 0) := by decide +kernel
theorem aL_749 : x_at (x_k mL_law) 749 = some (.aload_n 3, 750, 0) := by decide +kernel
theorem aL_750 : x_at (x_k mL_law) 750 = some (.invokestatic 119, 753, 0) := by decide +kernel
theorem aL_753 : x_at (x_k mL_law) 753 = some (.istore 5, 755, 0) := by decide +kernel
theorem aL_755 : x_at (x_k mL_law) 755 = some (.aload_n 2, 756, 0) := by decide +kernel
theorem aL_756 : x_at (x_k mL_law) 756 = some (.aload_n 0, 757, 0) := by decide +kernel
theorem aL_757 : x_at (x_k mL_law) 757 = some (.iload 4, 759, 0) := by decide +kernel
theorem aL_759 : x_at (x_k mL_law) 759 = some (.iconst 1, 760, 0) := by decide +kernel
theorem aL_760 : x_at (x_k mL_law) 760 = some (.iadd, 761, 0) := by decide +kernel
theorem aL_761 : x_at (x_k mL_law) 761 = some (.iaload, 762, 0) := by decide +kernel
theorem aL_762 : x_at (x_k mL_law) 762 = some (.invokevirtual 121, 765, 0) := by decide +kernel
theorem aL_765 : x_at (x_k mL_law) 765 = some (.istore 6, 767, 0) := by decide +kernel
theorem aL_767 : x_at (x_k mL_law) 767 = some (.aload_n 2, 768, 0) := by decide +kernel
theorem aL_768 : x_at (x_k mL_law) 768 = some (.invokevirtual 89, 771, 0) := by decide +kernel
theorem aL_771 : x_at (x_k mL_law) 771 = some (.iload 5, 773, 0) := by decide +kernel
theorem aL_773 : x_at (x_k mL_law) 773 = some (.if_icmp .eq 5, 776, 778) := by decide +kernel
theorem aL_776 : x_at (x_k mL_law) 776 = some (.iconst 0, 777, 0) := by decide +kernel
theorem aL_777 : x_at (x_k mL_law) 777 = some (.ireturn, 778, 0) := by decide +kernel
theorem aL_778 : x_at (x_k mL_law) 778 = some (.iload 5, 780, 0) := by decide +kernel
theorem aL_780 : x_at (x_k mL_law) 780 = some (.ifCond .ne 15, 783, 795) := by decide +kernel
theorem aL_783 : x_at (x_k mL_law) 783 = some (.aload_n 3, 784, 0) := by decide +kernel
theorem aL_784 : x_at (x_k mL_law) 784 = some (.iconst 0, 785, 0) := by decide +kernel
theorem aL_785 : x_at (x_k mL_law) 785 = some (.laload, 786, 0) := by decide +kernel
theorem aL_786 : x_at (x_k mL_law) 786 = some (.iload 6, 788, 0) := by decide +kernel
theorem aL_788 : x_at (x_k mL_law) 788 = some (.i2l, 789, 0) := by decide +kernel
theorem aL_789 : x_at (x_k mL_law) 789 = some (.lcmp, 790, 0) := by decide +kernel
theorem aL_790 : x_at (x_k mL_law) 790 = some (.ifCond .eq 5, 793, 795) := by decide +kernel
theorem aL_793 : x_at (x_k mL_law) 793 = some (.iconst 0, 794, 0) := by decide +kernel
theorem aL_794 : x_at (x_k mL_law) 794 = some (.ireturn, 795, 0) := by decide +kernel
theorem aL_795 : x_at (x_k mL_law) 795 = some (.goto 895, 798, 1690) := by decide +kernel
theorem aL_798 : x_at (x_k mL_law) 798 = some (.aload_n 1, 799, 0) := by decide +kernel
theorem aL_799 : x_at (x_k mL_law) 799 = some (.aload_n 0, 800, 0) := by decide +kernel
theorem aL_800 : x_at (x_k mL_law) 800 = some (.iload 4, 802, 0) := by decide +kernel
theorem aL_802 : x_at (x_k mL_law) 802 = some (.iconst 1, 803, 0) := by decide +kernel
theorem aL_803 : x_at (x_k mL_law) 803 = some (.iadd, 804, 0) := by decide +kernel
theorem aL_804 : x_at (x_k mL_law) 804 = some (.iaload, 805, 0) := by decide +kernel
theorem aL_805 : x_at (x_k mL_law) 805 = some (.aload_n 0, 806, 0) := by decide +kernel
theorem aL_806 : x_at (x_k mL_law) 806 = some (.iload 4, 808, 0) := by decide +kernel
theorem aL_808 : x_at (x_k mL_law) 808 = some (.iconst 2, 809, 0) := by decide +kernel
theorem aL_809 : x_at (x_k mL_law) 809 = some (.iadd, 810, 0) := by decide +kernel
theorem aL_810 : x_at (x_k mL_law) 810 = some (.iaload, 811, 0) := by decide +kernel
theorem aL_811 : x_at (x_k mL_law) 811 = some (.aload_n 3, 812, 0) := by decide +kernel
theorem aL_812 : x_at (x_k mL_law) 812 = some (.invokestatic 122, 815, 0) := by decide +kernel
theorem aL_815 : x_at (x_k mL_law) 815 = some (.istore 5, 817, 0) := by decide +kernel
theorem aL_817 : x_at (x_k mL_law) 817 = some (.aload_n 2, 818, 0) := by decide +kernel
theorem aL_818 : x_at (x_k mL_law) 818 = some (.aload_n 0, 819, 0) := by decide +kernel
theorem aL_819 : x_at (x_k mL_law) 819 = some (.iload 4, 821, 0) := by decide +kernel
theorem aL_821 : x_at (x_k mL_law) 821 = some (.iconst 1, 822, 0) := by decide +kernel
theorem aL_822 : x_at (x_k mL_law) 822 = some (.iadd, 823, 0) := by decide +kernel
theorem aL_823 : x_at (x_k mL_law) 823 = some (.iaload, 824, 0) := by decide +kernel
theorem aL_824 : x_at (x_k mL_law) 824 = some (.aload_n 0, 825, 0) := by decide +kernel
theorem aL_825 : x_at (x_k mL_law) 825 = some (.iload 4, 827, 0) := by decide +kernel
theorem aL_827 : x_at (x_k mL_law) 827 = some (.iconst 2, 828, 0) := by decide +kernel
theorem aL_828 : x_at (x_k mL_law) 828 = some (.iadd, 829, 0) := by decide +kernel
theorem aL_829 : x_at (x_k mL_law) 829 = some (.iaload, 830, 0) := by decide +kernel
theorem aL_830 : x_at (x_k mL_law) 830 = some (.invokevirtual 124, 833, 0) := by decide +kernel
theorem aL_833 : x_at (x_k mL_law) 833 = some (.istore 6, 835, 0) := by decide +kernel
theorem aL_835 : x_at (x_k mL_law) 835 = some (.aload_n 2, 836, 0) := by decide +kernel
theorem aL_836 : x_at (x_k mL_law) 836 = some (.invokevirtual 89, 839, 0) := by decide +kernel
theorem aL_839 : x_at (x_k mL_law) 839 = some (.iload 5, 841, 0) := by decide +kernel
theorem aL_841 : x_at (x_k mL_law) 841 = some (.if_icmp .eq 5, 844, 846) := by decide +kernel
theorem aL_844 : x_at (x_k mL_law) 844 = some (.iconst 0, 845, 0) := by decide +kernel
theorem aL_845 : x_at (x_k mL_law) 845 = some (.ireturn, 846, 0) := by decide +kernel
theorem aL_846 : x_at (x_k mL_law) 846 = some (.iload 5, 848, 0) := by decide +kernel
theorem aL_848 : x_at (x_k mL_law) 848 = some (.ifCond .ne 15, 851, 863) := by decide +kernel
theorem aL_851 : x_at (x_k mL_law) 851 = some (.aload_n 3, 852, 0) := by decide +kernel
theorem aL_852 : x_at (x_k mL_law) 852 = some (.iconst 0, 853, 0) := by decide +kernel
theorem aL_853 : x_at (x_k mL_law) 853 = some (.laload, 854, 0) := by decide +kernel
theorem aL_854 : x_at (x_k mL_law) 854 = some (.iload 6, 856, 0) := by decide +kernel
theorem aL_856 : x_at (x_k mL_law) 856 = some (.i2l, 857, 0) := by decide +kernel
theorem aL_857 : x_at (x_k mL_law) 857 = some (.lcmp, 858, 0) := by decide +kernel
theorem aL_858 : x_at (x_k mL_law) 858 = some (.ifCond .eq 5, 861, 863) := by decide +kernel
theorem aL_861 : x_at (x_k mL_law) 861 = some (.iconst 0, 862, 0) := by decide +kernel
theorem aL_862 : x_at (x_k mL_law) 862 = some (.ireturn, 863, 0) := by decide +kernel
theorem aL_863 : x_at (x_k mL_law) 863 = some (.goto 827, 866, 1690) := by decide +kernel
theorem aL_866 : x_at (x_k mL_law) 866 = some (.aload_n 1, 867, 0) := by decide +kernel
theorem aL_867 : x_at (x_k mL_law) 867 = some (.aload_n 0, 868, 0) := by decide +kernel
theorem aL_868 : x_at (x_k mL_law) 868 = some (.iload 4, 870, 0) := by decide +kernel
theorem aL_870 : x_at (x_k mL_law) 870 = some (.iconst 1, 871, 0) := by decide +kernel
theorem aL_871 : x_at (x_k mL_law) 871 = some (.iadd, 872, 0) := by decide +kernel
theorem aL_872 : x_at (x_k mL_law) 872 = some (.iaload, 873, 0) := by decide +kernel
theorem aL_873 : x_at (x_k mL_law) 873 = some (.aload_n 0, 874, 0) := by decide +kernel
theorem aL_874 : x_at (x_k mL_law) 874 = some (.iload 4, 876, 0) := by decide +kernel
theorem aL_876 : x_at (x_k mL_law) 876 = some (.iconst 2, 877, 0) := by decide +kernel
theorem aL_877 : x_at (x_k mL_law) 877 = some (.iadd, 878, 0) := by decide +kernel
theorem aL_878 : x_at (x_k mL_law) 878 = some (.iaload, 879, 0) := by decide +kernel
theorem aL_879 : x_at (x_k mL_law) 879 = some (.aload_n 0, 880, 0) := by decide +kernel
theorem aL_880 : x_at (x_k mL_law) 880 = some (.iload 4, 882, 0) := by decide +kernel
theorem aL_882 : x_at (x_k mL_law) 882 = some (.iconst 3, 883, 0) := by decide +kernel
theorem aL_883 : x_at (x_k mL_law) 883 = some (.iadd, 884, 0) := by decide +kernel
theorem aL_884 : x_at (x_k mL_law) 884 = some (.iaload, 885, 0) := by decide +kernel
theorem aL_885 : x_at (x_k mL_law) 885 = some (.aload_n 0, 886, 0) := by decide +kernel
theorem aL_886 : x_at (x_k mL_law) 886 = some (.iload 4, 888, 0) := by decide +kernel
theorem aL_888 : x_at (x_k mL_law) 888 = some (.iconst 4, 889, 0) := by decide +kernel
theorem aL_889 : x_at (x_k mL_law) 889 = some (.iadd, 890, 0) := by decide +kernel
theorem aL_890 : x_at (x_k mL_law) 890 = some (.iaload, 891, 0) := by decide +kernel
theorem aL_891 : x_at (x_k mL_law) 891 = some (.aload_n 0, 892, 0) := by decide +kernel
theorem aL_892 : x_at (x_k mL_law) 892 = some (.iload 4, 894, 0) := by decide +kernel
theorem aL_894 : x_at (x_k mL_law) 894 = some (.iconst 5, 895, 0) := by decide +kernel
theorem aL_895 : x_at (x_k mL_law) 895 = some (.iadd, 896, 0) := by decide +kernel
theorem aL_896 : x_at (x_k mL_law) 896 = some (.iaload, 897, 0) := by decide +kernel
theorem aL_897 : x_at (x_k mL_law) 897 = some (.aload_n 3, 898, 0) := by decide +kernel
theorem aL_898 : x_at (x_k mL_law) 898 = some (.invokestatic 125, 901, 0) := by decide +kernel
theorem aL_901 : x_at (x_k mL_law) 901 = some (.istore 5, 903, 0) := by decide +kernel
theorem aL_903 : x_at (x_k mL_law) 903 = some (.aload_n 2, 904, 0) := by decide +kernel
theorem aL_904 : x_at (x_k mL_law) 904 = some (.aload_n 0, 905, 0) := by decide +kernel
theorem aL_905 : x_at (x_k mL_law) 905 = some (.iload 4, 907, 0) := by decide +kernel
theorem aL_907 : x_at (x_k mL_law) 907 = some (.iconst 1, 908, 0) := by decide +kernel
theorem aL_908 : x_at (x_k mL_law) 908 = some (.iadd, 909, 0) := by decide +kernel
theorem aL_909 : x_at (x_k mL_law) 909 = some (.iaload, 910, 0) := by decide +kernel
theorem aL_910 : x_at (x_k mL_law) 910 = some (.aload_n 0, 911, 0) := by decide +kernel
theorem aL_911 : x_at (x_k mL_law) 911 = some (.iload 4, 913, 0) := by decide +kernel
theorem aL_913 : x_at (x_k mL_law) 913 = some (.iconst 2, 914, 0) := by decide +kernel
theorem aL_914 : x_at (x_k mL_law) 914 = some (.iadd, 915, 0) := by decide +kernel
theorem aL_915 : x_at (x_k mL_law) 915 = some (.iaload, 916, 0) := by decide +kernel
theorem aL_916 : x_at (x_k mL_law) 916 = some (.aload_n 0, 917, 0) := by decide +kernel
theorem aL_917 : x_at (x_k mL_law) 917 = some (.iload 4, 919, 0) := by decide +kernel
theorem aL_919 : x_at (x_k mL_law) 919 = some (.iconst 3, 920, 0) := by decide +kernel
theorem aL_920 : x_at (x_k mL_law) 920 = some (.iadd, 921, 0) := by decide +kernel
theorem aL_921 : x_at (x_k mL_law) 921 = some (.iaload, 922, 0) := by decide +kernel
theorem aL_922 : x_at (x_k mL_law) 922 = some (.aload_n 0, 923, 0) := by decide +kernel
theorem aL_923 : x_at (x_k mL_law) 923 = some (.iload 4, 925, 0) := by decide +kernel
theorem aL_925 : x_at (x_k mL_law) 925 = some (.iconst 4, 926, 0) := by decide +kernel
theorem aL_926 : x_at (x_k mL_law) 926 = some (.iadd, 927, 0) := by decide +kernel
theorem aL_927 : x_at (x_k mL_law) 927 = some (.iaload, 928, 0) := by decide +kernel
theorem aL_928 : x_at (x_k mL_law) 928 = some (.aload_n 0, 929, 0) := by decide +kernel
theorem aL_929 : x_at (x_k mL_law) 929 = some (.iload 4, 931, 0) := by decide +kernel
theorem aL_931 : x_at (x_k mL_law) 931 = some (.iconst 5, 932, 0) := by decide +kernel
theorem aL_932 : x_at (x_k mL_law) 932 = some (.iadd, 933, 0) := by decide +kernel
theorem aL_933 : x_at (x_k mL_law) 933 = some (.iaload, 934, 0) := by decide +kernel
theorem aL_934 : x_at (x_k mL_law) 934 = some (.invokevirtual 128, 937, 0) := by decide +kernel
theorem aL_937 : x_at (x_k mL_law) 937 = some (.istore 6, 939, 0) := by decide +kernel
theorem aL_939 : x_at (x_k mL_law) 939 = some (.aload_n 2, 940, 0) := by decide +kernel
theorem aL_940 : x_at (x_k mL_law) 940 = some (.invokevirtual 89, 943, 0) := by decide +kernel
theorem aL_943 : x_at (x_k mL_law) 943 = some (.iload 5, 945, 0) := by decide +kernel
theorem aL_945 : x_at (x_k mL_law) 945 = some (.if_icmp .eq 5, 948, 950) := by decide +kernel
theorem aL_948 : x_at (x_k mL_law) 948 = some (.iconst 0, 949, 0) := by decide +kernel
theorem aL_949 : x_at (x_k mL_law) 949 = some (.ireturn, 950, 0) := by decide +kernel
theorem aL_950 : x_at (x_k mL_law) 950 = some (.iload 5, 952, 0) := by decide +kernel
theorem aL_952 : x_at (x_k mL_law) 952 = some (.ifCond .ne 15, 955, 967) := by decide +kernel
theorem aL_955 : x_at (x_k mL_law) 955 = some (.aload_n 3, 956, 0) := by decide +kernel
theorem aL_956 : x_at (x_k mL_law) 956 = some (.iconst 0, 957, 0) := by decide +kernel
theorem aL_957 : x_at (x_k mL_law) 957 = some (.laload, 958, 0) := by decide +kernel
theorem aL_958 : x_at (x_k mL_law) 958 = some (.iload 6, 960, 0) := by decide +kernel
theorem aL_960 : x_at (x_k mL_law) 960 = some (.i2l, 961, 0) := by decide +kernel
theorem aL_961 : x_at (x_k mL_law) 961 = some (.lcmp, 962, 0) := by decide +kernel
theorem aL_962 : x_at (x_k mL_law) 962 = some (.ifCond .eq 5, 965, 967) := by decide +kernel
theorem aL_965 : x_at (x_k mL_law) 965 = some (.iconst 0, 966, 0) := by decide +kernel
theorem aL_966 : x_at (x_k mL_law) 966 = some (.ireturn, 967, 0) := by decide +kernel
theorem aL_967 : x_at (x_k mL_law) 967 = some (.goto 723, 970, 1690) := by decide +kernel
theorem aL_970 : x_at (x_k mL_law) 970 = some (.aload_n 1, 971, 0) := by decide +kernel
theorem aL_971 : x_at (x_k mL_law) 971 = some (.aload_n 0, 972, 0) := by decide +kernel
theorem aL_972 : x_at (x_k mL_law) 972 = some (.iload 4, 974, 0) := by decide +kernel
theorem aL_974 : x_at (x_k mL_law) 974 = some (.iconst 1, 975, 0) := by decide +kernel
theorem aL_975 : x_at (x_k mL_law) 975 = some (.iadd, 976, 0) := by decide +kernel
theorem aL_976 : x_at (x_k mL_law) 976 = some (.iaload, 977, 0) := by decide +kernel
theorem aL_977 : x_at (x_k mL_law) 977 = some (.aload_n 0, 978, 0) := by decide +kernel
theorem aL_978 : x_at (x_k mL_law) 978 = some (.iload 4, 980, 0) := by decide +kernel
theorem aL_980 : x_at (x_k mL_law) 980 = some (.iconst 2, 981, 0) := by decide +kernel
theorem aL_981 : x_at (x_k mL_law) 981 = some (.iadd, 982, 0) := by decide +kernel
theorem aL_982 : x_at (x_k mL_law) 982 = some (.iaload, 983, 0) := by decide +kernel
theorem aL_983 : x_at (x_k mL_law) 983 = some (.aload_n 0, 984, 0) := by decide +kernel
theorem aL_984 : x_at (x_k mL_law) 984 = some (.iload 4, 986, 0) := by decide +kernel
theorem aL_986 : x_at (x_k mL_law) 986 = some (.iconst 3, 987, 0) := by decide +kernel
theorem aL_987 : x_at (x_k mL_law) 987 = some (.iadd, 988, 0) := by decide +kernel
theorem aL_988 : x_at (x_k mL_law) 988 = some (.iaload, 989, 0) := by decide +kernel
theorem aL_989 : x_at (x_k mL_law) 989 = some (.aload_n 0, 990, 0) := by decide +kernel
theorem aL_990 : x_at (x_k mL_law) 990 = some (.iload 4, 992, 0) := by decide +kernel
theorem aL_992 : x_at (x_k mL_law) 992 = some (.iconst 4, 993, 0) := by decide +kernel
theorem aL_993 : x_at (x_k mL_law) 993 = some (.iadd, 994, 0) := by decide +kernel
theorem aL_994 : x_at (x_k mL_law) 994 = some (.iaload, 995, 0) := by decide +kernel
theorem aL_995 : x_at (x_k mL_law) 995 = some (.aload_n 0, 996, 0) := by decide +kernel
theorem aL_996 : x_at (x_k mL_law) 996 = some (.iload 4, 998, 0) := by decide +kernel
theorem aL_998 : x_at (x_k mL_law) 998 = some (.iconst 5, 999, 0) := by decide +kernel
theorem aL_999 : x_at (x_k mL_law) 999 = some (.iadd, 1000, 0) := by decide +kernel
theorem aL_1000 : x_at (x_k mL_law) 1000 = some (.iaload, 1001, 0) := by decide +kernel
theorem aL_1001 : x_at (x_k mL_law) 1001 = some (.aload_n 0, 1002, 0) := by decide +kernel
theorem aL_1002 : x_at (x_k mL_law) 1002 = some (.iload 4, 1004, 0) := by decide +kernel
theorem aL_1004 : x_at (x_k mL_law) 1004 = some (.bipush 6, 1006, 0) := by decide +kernel
theorem aL_1006 : x_at (x_k mL_law) 1006 = some (.iadd, 1007, 0) := by decide +kernel
theorem aL_1007 : x_at (x_k mL_law) 1007 = some (.iaload, 1008, 0) := by decide +kernel
theorem aL_1008 : x_at (x_k mL_law) 1008 = some (.aload_n 3, 1009, 0) := by decide +kernel
theorem aL_1009 : x_at (x_k mL_law) 1009 = some (.invokestatic 129, 1012, 0) := by decide +kernel
theorem aL_1012 : x_at (x_k mL_law) 1012 = some (.istore 5, 1014, 0) := by decide +kernel
theorem aL_1014 : x_at (x_k mL_law) 1014 = some (.aload_n 2, 1015, 0) := by decide +kernel
theorem aL_1015 : x_at (x_k mL_law) 1015 = some (.aload_n 0, 1016, 0) := by decide +kernel
theorem aL_1016 : x_at (x_k mL_law) 1016 = some (.iload 4, 1018, 0) := by decide +kernel
theorem aL_1018 : x_at (x_k mL_law) 1018 = some (.iconst 1, 1019, 0) := by decide +kernel
theorem aL_1019 : x_at (x_k mL_law) 1019 = some (.iadd, 1020, 0) := by decide +kernel
theorem aL_1020 : x_at (x_k mL_law) 1020 = some (.iaload, 1021, 0) := by decide +kernel
theorem aL_1021 : x_at (x_k mL_law) 1021 = some (.aload_n 0, 1022, 0) := by decide +kernel
theorem aL_1022 : x_at (x_k mL_law) 1022 = some (.iload 4, 1024, 0) := by decide +kernel
theorem aL_1024 : x_at (x_k mL_law) 1024 = some (.iconst 2, 1025, 0) := by decide +kernel
theorem aL_1025 : x_at (x_k mL_law) 1025 = some (.iadd, 1026, 0) := by decide +kernel
theorem aL_1026 : x_at (x_k mL_law) 1026 = some (.iaload, 1027, 0) := by decide +kernel
theorem aL_1027 : x_at (x_k mL_law) 1027 = some (.aload_n 0, 1028, 0) := by decide +kernel
theorem aL_1028 : x_at (x_k mL_law) 1028 = some (.iload 4, 1030, 0) := by decide +kernel
theorem aL_1030 : x_at (x_k mL_law) 1030 = some (.iconst 3, 1031, 0) := by decide +kernel
theorem aL_1031 : x_at (x_k mL_law) 1031 = some (.iadd, 1032, 0) := by decide +kernel
theorem aL_1032 : x_at (x_k mL_law) 1032 = some (.iaload, 1033, 0) := by decide +kernel
theorem aL_1033 : x_at (x_k mL_law) 1033 = some (.aload_n 0, 1034, 0) := by decide +kernel
theorem aL_1034 : x_at (x_k mL_law) 1034 = some (.iload 4, 1036, 0) := by decide +kernel
theorem aL_1036 : x_at (x_k mL_law) 1036 = some (.iconst 4, 1037, 0) := by decide +kernel
theorem aL_1037 : x_at (x_k mL_law) 1037 = some (.iadd, 1038, 0) := by decide +kernel
theorem aL_1038 : x_at (x_k mL_law) 1038 = some (.iaload, 1039, 0) := by decide +kernel
theorem aL_1039 : x_at (x_k mL_law) 1039 = some (.aload_n 0, 1040, 0) := by decide +kernel
theorem aL_1040 : x_at (x_k mL_law) 1040 = some (.iload 4, 1042, 0) := by decide +kernel
theorem aL_1042 : x_at (x_k mL_law) 1042 = some (.iconst 5, 1043, 0) := by decide +kernel
theorem aL_1043 : x_at (x_k mL_law) 1043 = some (.iadd, 1044, 0) := by decide +kernel
theorem aL_1044 : x_at (x_k mL_law) 1044 = some (.iaload, 1045, 0) := by decide +kernel
theorem aL_1045 : x_at (x_k mL_law) 1045 = some (.aload_n 0, 1046, 0) := by decide +kernel
theorem aL_1046 : x_at (x_k mL_law) 1046 = some (.iload 4, 1048, 0) := by decide +kernel
theorem aL_1048 : x_at (x_k mL_law) 1048 = some (.bipush 6, 1050, 0) := by decide +kernel
theorem aL_1050 : x_at (x_k mL_law) 1050 = some (.iadd, 1051, 0) := by decide +kernel
theorem aL_1051 : x_at (x_k mL_law) 1051 = some (.iaload, 1052, 0) := by decide +kernel
theorem aL_1052 : x_at (x_k mL_law) 1052 = some (.invokevirtual 132, 1055, 0) := by decide +kernel
theorem aL_1055 : x_at (x_k mL_law) 1055 = some (.istore 6, 1057, 0) := by decide +kernel
theorem aL_1057 : x_at (x_k mL_law) 1057 = some (.aload_n 2, 1058, 0) := by decide +kernel
theorem aL_1058 : x_at (x_k mL_law) 1058 = some (.invokevirtual 89, 1061, 0) := by decide +kernel
theorem aL_1061 : x_at (x_k mL_law) 1061 = some (.iload 5, 1063, 0) := by decide +kernel
theorem aL_1063 : x_at (x_k mL_law) 1063 = some (.if_icmp .eq 5, 1066, 1068) := by decide +kernel
theorem aL_1066 : x_at (x_k mL_law) 1066 = some (.iconst 0, 1067, 0) := by decide +kernel
theorem aL_1067 : x_at (x_k mL_law) 1067 = some (.ireturn, 1068, 0) := by decide +kernel
theorem aL_1068 : x_at (x_k mL_law) 1068 = some (.iload 5, 1070, 0) := by decide +kernel
theorem aL_1070 : x_at (x_k mL_law) 1070 = some (.ifCond .ne 15, 1073, 1085) := by decide +kernel
theorem aL_1073 : x_at (x_k mL_law) 1073 = some (.aload_n 3, 1074, 0) := by decide +kernel
theorem aL_1074 : x_at (x_k mL_law) 1074 = some (.iconst 0, 1075, 0) := by decide +kernel
theorem aL_1075 : x_at (x_k mL_law) 1075 = some (.laload, 1076, 0) := by decide +kernel
theorem aL_1076 : x_at (x_k mL_law) 1076 = some (.iload 6, 1078, 0) := by decide +kernel
theorem aL_1078 : x_at (x_k mL_law) 1078 = some (.i2l, 1079, 0) := by decide +kernel
theorem aL_1079 : x_at (x_k mL_law) 1079 = some (.lcmp, 1080, 0) := by decide +kernel
theorem aL_1080 : x_at (x_k mL_law) 1080 = some (.ifCond .eq 5, 1083, 1085) := by decide +kernel
theorem aL_1083 : x_at (x_k mL_law) 1083 = some (.iconst 0, 1084, 0) := by decide +kernel
theorem aL_1084 : x_at (x_k mL_law) 1084 = some (.ireturn, 1085, 0) := by decide +kernel
theorem aL_1085 : x_at (x_k mL_law) 1085 = some (.goto 605, 1088, 1690) := by decide +kernel
theorem aL_1088 : x_at (x_k mL_law) 1088 = some (.aload_n 1, 1089, 0) := by decide +kernel
theorem aL_1089 : x_at (x_k mL_law) 1089 = some (.aload_n 0, 1090, 0) := by decide +kernel
theorem aL_1090 : x_at (x_k mL_law) 1090 = some (.iload 4, 1092, 0) := by decide +kernel
theorem aL_1092 : x_at (x_k mL_law) 1092 = some (.iconst 1, 1093, 0) := by decide +kernel
theorem aL_1093 : x_at (x_k mL_law) 1093 = some (.iadd, 1094, 0) := by decide +kernel
theorem aL_1094 : x_at (x_k mL_law) 1094 = some (.iaload, 1095, 0) := by decide +kernel
theorem aL_1095 : x_at (x_k mL_law) 1095 = some (.aload_n 0, 1096, 0) := by decide +kernel
theorem aL_1096 : x_at (x_k mL_law) 1096 = some (.iload 4, 1098, 0) := by decide +kernel
theorem aL_1098 : x_at (x_k mL_law) 1098 = some (.iconst 2, 1099, 0) := by decide +kernel
theorem aL_1099 : x_at (x_k mL_law) 1099 = some (.iadd, 1100, 0) := by decide +kernel
theorem aL_1100 : x_at (x_k mL_law) 1100 = some (.iaload, 1101, 0) := by decide +kernel
theorem aL_1101 : x_at (x_k mL_law) 1101 = some (.aload_n 0, 1102, 0) := by decide +kernel
theorem aL_1102 : x_at (x_k mL_law) 1102 = some (.iload 4, 1104, 0) := by decide +kernel
theorem aL_1104 : x_at (x_k mL_law) 1104 = some (.iconst 3, 1105, 0) := by decide +kernel
theorem aL_1105 : x_at (x_k mL_law) 1105 = some (.iadd, 1106, 0) := by decide +kernel
theorem aL_1106 : x_at (x_k mL_law) 1106 = some (.iaload, 1107, 0) := by decide +kernel
theorem aL_1107 : x_at (x_k mL_law) 1107 = some (.aload_n 0, 1108, 0) := by decide +kernel
theorem aL_1108 : x_at (x_k mL_law) 1108 = some (.iload 4, 1110, 0) := by decide +kernel
theorem aL_1110 : x_at (x_k mL_law) 1110 = some (.iconst 4, 1111, 0) := by decide +kernel
theorem aL_1111 : x_at (x_k mL_law) 1111 = some (.iadd, 1112, 0) := by decide +kernel
theorem aL_1112 : x_at (x_k mL_law) 1112 = some (.iaload, 1113, 0) := by decide +kernel
theorem aL_1113 : x_at (x_k mL_law) 1113 = some (.aload_n 0, 1114, 0) := by decide +kernel
theorem aL_1114 : x_at (x_k mL_law) 1114 = some (.iload 4, 1116, 0) := by decide +kernel
theorem aL_1116 : x_at (x_k mL_law) 1116 = some (.iconst 5, 1117, 0) := by decide +kernel
theorem aL_1117 : x_at (x_k mL_law) 1117 = some (.iadd, 1118, 0) := by decide +kernel
theorem aL_1118 : x_at (x_k mL_law) 1118 = some (.iaload, 1119, 0) := by decide +kernel
theorem aL_1119 : x_at (x_k mL_law) 1119 = some (.aload_n 3, 1120, 0) := by decide +kernel
theorem aL_1120 : x_at (x_k mL_law) 1120 = some (.invokestatic 133, 1123, 0) := by decide +kernel
theorem aL_1123 : x_at (x_k mL_law) 1123 = some (.istore 5, 1125, 0) := by decide +kernel
theorem aL_1125 : x_at (x_k mL_law) 1125 = some (.aload_n 2, 1126, 0) := by decide +kernel
theorem aL_1126 : x_at (x_k mL_law) 1126 = some (.aload_n 0, 1127, 0) := by decide +kernel
theorem aL_1127 : x_at (x_k mL_law) 1127 = some (.iload 4, 1129, 0) := by decide +kernel
theorem aL_1129 : x_at (x_k mL_law) 1129 = some (.iconst 1, 1130, 0) := by decide +kernel
theorem aL_1130 : x_at (x_k mL_law) 1130 = some (.iadd, 1131, 0) := by decide +kernel
theorem aL_1131 : x_at (x_k mL_law) 1131 = some (.iaload, 1132, 0) := by decide +kernel
theorem aL_1132 : x_at (x_k mL_law) 1132 = some (.aload_n 0, 1133, 0) := by decide +kernel
theorem aL_1133 : x_at (x_k mL_law) 1133 = some (.iload 4, 1135, 0) := by decide +kernel
theorem aL_1135 : x_at (x_k mL_law) 1135 = some (.iconst 2, 1136, 0) := by decide +kernel
theorem aL_1136 : x_at (x_k mL_law) 1136 = some (.iadd, 1137, 0) := by decide +kernel
theorem aL_1137 : x_at (x_k mL_law) 1137 = some (.iaload, 1138, 0) := by decide +kernel
theorem aL_1138 : x_at (x_k mL_law) 1138 = some (.aload_n 0, 1139, 0) := by decide +kernel
theorem aL_1139 : x_at (x_k mL_law) 1139 = some (.iload 4, 1141, 0) := by decide +kernel
theorem aL_1141 : x_at (x_k mL_law) 1141 = some (.iconst 3, 1142, 0) := by decide +kernel
theorem aL_1142 : x_at (x_k mL_law) 1142 = some (.iadd, 1143, 0) := by decide +kernel
theorem aL_1143 : x_at (x_k mL_law) 1143 = some (.iaload, 1144, 0) := by decide +kernel
theorem aL_1144 : x_at (x_k mL_law) 1144 = some (.aload_n 0, 1145, 0) := by decide +kernel
theorem aL_1145 : x_at (x_k mL_law) 1145 = some (.iload 4, 1147, 0) := by decide +kernel
theorem aL_1147 : x_at (x_k mL_law) 1147 = some (.iconst 4, 1148, 0) := by decide +kernel
theorem aL_1148 : x_at (x_k mL_law) 1148 = some (.iadd, 1149, 0) := by decide +kernel
theorem aL_1149 : x_at (x_k mL_law) 1149 = some (.iaload, 1150, 0) := by decide +kernel
theorem aL_1150 : x_at (x_k mL_law) 1150 = some (.aload_n 0, 1151, 0) := by decide +kernel
theorem aL_1151 : x_at (x_k mL_law) 1151 = some (.iload 4, 1153, 0) := by decide +kernel
theorem aL_1153 : x_at (x_k mL_law) 1153 = some (.iconst 5, 1154, 0) := by decide +kernel
theorem aL_1154 : x_at (x_k mL_law) 1154 = some (.iadd, 1155, 0) := by decide +kernel
theorem aL_1155 : x_at (x_k mL_law) 1155 = some (.iaload, 1156, 0) := by decide +kernel
theorem aL_1156 : x_at (x_k mL_law) 1156 = some (.invokevirtual 135, 1159, 0) := by decide +kernel
theorem aL_1159 : x_at (x_k mL_law) 1159 = some (.istore 6, 1161, 0) := by decide +kernel
theorem aL_1161 : x_at (x_k mL_law) 1161 = some (.aload_n 2, 1162, 0) := by decide +kernel
theorem aL_1162 : x_at (x_k mL_law) 1162 = some (.invokevirtual 89, 1165, 0) := by decide +kernel
theorem aL_1165 : x_at (x_k mL_law) 1165 = some (.iload 5, 1167, 0) := by decide +kernel
theorem aL_1167 : x_at (x_k mL_law) 1167 = some (.if_icmp .eq 5, 1170, 1172) := by decide +kernel
theorem aL_1170 : x_at (x_k mL_law) 1170 = some (.iconst 0, 1171, 0) := by decide +kernel
theorem aL_1171 : x_at (x_k mL_law) 1171 = some (.ireturn, 1172, 0) := by decide +kernel
theorem aL_1172 : x_at (x_k mL_law) 1172 = some (.iload 5, 1174, 0) := by decide +kernel
theorem aL_1174 : x_at (x_k mL_law) 1174 = some (.ifCond .ne 15, 1177, 1189) := by decide +kernel
theorem aL_1177 : x_at (x_k mL_law) 1177 = some (.aload_n 3, 1178, 0) := by decide +kernel
theorem aL_1178 : x_at (x_k mL_law) 1178 = some (.iconst 0, 1179, 0) := by decide +kernel
theorem aL_1179 : x_at (x_k mL_law) 1179 = some (.laload, 1180, 0) := by decide +kernel
theorem aL_1180 : x_at (x_k mL_law) 1180 = some (.iload 6, 1182, 0) := by decide +kernel
theorem aL_1182 : x_at (x_k mL_law) 1182 = some (.i2l, 1183, 0) := by decide +kernel
theorem aL_1183 : x_at (x_k mL_law) 1183 = some (.lcmp, 1184, 0) := by decide +kernel
theorem aL_1184 : x_at (x_k mL_law) 1184 = some (.ifCond .eq 5, 1187, 1189) := by decide +kernel
theorem aL_1187 : x_at (x_k mL_law) 1187 = some (.iconst 0, 1188, 0) := by decide +kernel
theorem aL_1188 : x_at (x_k mL_law) 1188 = some (.ireturn, 1189, 0) := by decide +kernel
theorem aL_1189 : x_at (x_k mL_law) 1189 = some (.goto 501, 1192, 1690) := by decide +kernel
theorem aL_1192 : x_at (x_k mL_law) 1192 = some (.aload_n 1, 1193, 0) := by decide +kernel
theorem aL_1193 : x_at (x_k mL_law) 1193 = some (.aload_n 0, 1194, 0) := by decide +kernel
theorem aL_1194 : x_at (x_k mL_law) 1194 = some (.iload 4, 1196, 0) := by decide +kernel
theorem aL_1196 : x_at (x_k mL_law) 1196 = some (.iconst 1, 1197, 0) := by decide +kernel
theorem aL_1197 : x_at (x_k mL_law) 1197 = some (.iadd, 1198, 0) := by decide +kernel
theorem aL_1198 : x_at (x_k mL_law) 1198 = some (.iaload, 1199, 0) := by decide +kernel
theorem aL_1199 : x_at (x_k mL_law) 1199 = some (.aload_n 0, 1200, 0) := by decide +kernel
theorem aL_1200 : x_at (x_k mL_law) 1200 = some (.iload 4, 1202, 0) := by decide +kernel
theorem aL_1202 : x_at (x_k mL_law) 1202 = some (.iconst 2, 1203, 0) := by decide +kernel
theorem aL_1203 : x_at (x_k mL_law) 1203 = some (.iadd, 1204, 0) := by decide +kernel
theorem aL_1204 : x_at (x_k mL_law) 1204 = some (.iaload, 1205, 0) := by decide +kernel
theorem aL_1205 : x_at (x_k mL_law) 1205 = some (.aload_n 0, 1206, 0) := by decide +kernel
theorem aL_1206 : x_at (x_k mL_law) 1206 = some (.iload 4, 1208, 0) := by decide +kernel
theorem aL_1208 : x_at (x_k mL_law) 1208 = some (.iconst 3, 1209, 0) := by decide +kernel
theorem aL_1209 : x_at (x_k mL_law) 1209 = some (.iadd, 1210, 0) := by decide +kernel
theorem aL_1210 : x_at (x_k mL_law) 1210 = some (.iaload, 1211, 0) := by decide +kernel
theorem aL_1211 : x_at (x_k mL_law) 1211 = some (.aload_n 0, 1212, 0) := by decide +kernel
theorem aL_1212 : x_at (x_k mL_law) 1212 = some (.iload 4, 1214, 0) := by decide +kernel
theorem aL_1214 : x_at (x_k mL_law) 1214 = some (.iconst 4, 1215, 0) := by decide +kernel
theorem aL_1215 : x_at (x_k mL_law) 1215 = some (.iadd, 1216, 0) := by decide +kernel
theorem aL_1216 : x_at (x_k mL_law) 1216 = some (.iaload, 1217, 0) := by decide +kernel
theorem aL_1217 : x_at (x_k mL_law) 1217 = some (.aload_n 0, 1218, 0) := by decide +kernel
theorem aL_1218 : x_at (x_k mL_law) 1218 = some (.iload 4, 1220, 0) := by decide +kernel
theorem aL_1220 : x_at (x_k mL_law) 1220 = some (.iconst 5, 1221, 0) := by decide +kernel
theorem aL_1221 : x_at (x_k mL_law) 1221 = some (.iadd, 1222, 0) := by decide +kernel
theorem aL_1222 : x_at (x_k mL_law) 1222 = some (.iaload, 1223, 0) := by decide +kernel
theorem aL_1223 : x_at (x_k mL_law) 1223 = some (.aload_n 3, 1224, 0) := by decide +kernel
theorem aL_1224 : x_at (x_k mL_law) 1224 = some (.invokestatic 136, 1227, 0) := by decide +kernel
theorem aL_1227 : x_at (x_k mL_law) 1227 = some (.istore 5, 1229, 0) := by decide +kernel
theorem aL_1229 : x_at (x_k mL_law) 1229 = some (.aload_n 2, 1230, 0) := by decide +kernel
theorem aL_1230 : x_at (x_k mL_law) 1230 = some (.aload_n 0, 1231, 0) := by decide +kernel
theorem aL_1231 : x_at (x_k mL_law) 1231 = some (.iload 4, 1233, 0) := by decide +kernel
theorem aL_1233 : x_at (x_k mL_law) 1233 = some (.iconst 1, 1234, 0) := by decide +kernel
theorem aL_1234 : x_at (x_k mL_law) 1234 = some (.iadd, 1235, 0) := by decide +kernel
theorem aL_1235 : x_at (x_k mL_law) 1235 = some (.iaload, 1236, 0) := by decide +kernel
theorem aL_1236 : x_at (x_k mL_law) 1236 = some (.aload_n 0, 1237, 0) := by decide +kernel
theorem aL_1237 : x_at (x_k mL_law) 1237 = some (.iload 4, 1239, 0) := by decide +kernel
theorem aL_1239 : x_at (x_k mL_law) 1239 = some (.iconst 2, 1240, 0) := by decide +kernel
theorem aL_1240 : x_at (x_k mL_law) 1240 = some (.iadd, 1241, 0) := by decide +kernel
theorem aL_1241 : x_at (x_k mL_law) 1241 = some (.iaload, 1242, 0) := by decide +kernel
theorem aL_1242 : x_at (x_k mL_law) 1242 = some (.aload_n 0, 1243, 0) := by decide +kernel
theorem aL_1243 : x_at (x_k mL_law) 1243 = some (.iload 4, 1245, 0) := by decide +kernel
theorem aL_1245 : x_at (x_k mL_law) 1245 = some (.iconst 3, 1246, 0) := by decide +kernel
theorem aL_1246 : x_at (x_k mL_law) 1246 = some (.iadd, 1247, 0) := by decide +kernel
theorem aL_1247 : x_at (x_k mL_law) 1247 = some (.iaload, 1248, 0) := by decide +kernel
theorem aL_1248 : x_at (x_k mL_law) 1248 = some (.aload_n 0, 1249, 0) := by decide +kernel
theorem aL_1249 : x_at (x_k mL_law) 1249 = some (.iload 4, 1251, 0) := by decide +kernel
theorem aL_1251 : x_at (x_k mL_law) 1251 = some (.iconst 4, 1252, 0) := by decide +kernel
theorem aL_1252 : x_at (x_k mL_law) 1252 = some (.iadd, 1253, 0) := by decide +kernel
theorem aL_1253 : x_at (x_k mL_law) 1253 = some (.iaload, 1254, 0) := by decide +kernel
theorem aL_1254 : x_at (x_k mL_law) 1254 = some (.aload_n 0, 1255, 0) := by decide +kernel
theorem aL_1255 : x_at (x_k mL_law) 1255 = some (.iload 4, 1257, 0) := by decide +kernel
theorem aL_1257 : x_at (x_k mL_law) 1257 = some (.iconst 5, 1258, 0) := by decide +kernel
theorem aL_1258 : x_at (x_k mL_law) 1258 = some (.iadd, 1259, 0) := by decide +kernel
theorem aL_1259 : x_at (x_k mL_law) 1259 = some (.iaload, 1260, 0) := by decide +kernel
theorem aL_1260 : x_at (x_k mL_law) 1260 = some (.invokevirtual 138, 1263, 0) := by decide +kernel
theorem aL_1263 : x_at (x_k mL_law) 1263 = some (.lstore 6, 1265, 0) := by decide +kernel
theorem aL_1265 : x_at (x_k mL_law) 1265 = some (.aload_n 2, 1266, 0) := by decide +kernel
theorem aL_1266 : x_at (x_k mL_law) 1266 = some (.invokevirtual 89, 1269, 0) := by decide +kernel
theorem aL_1269 : x_at (x_k mL_law) 1269 = some (.iload 5, 1271, 0) := by decide +kernel
theorem aL_1271 : x_at (x_k mL_law) 1271 = some (.if_icmp .eq 5, 1274, 1276) := by decide +kernel
theorem aL_1274 : x_at (x_k mL_law) 1274 = some (.iconst 0, 1275, 0) := by decide +kernel
theorem aL_1275 : x_at (x_k mL_law) 1275 = some (.ireturn, 1276, 0) := by decide +kernel
theorem aL_1276 : x_at (x_k mL_law) 1276 = some (.iload 5, 1278, 0) := by decide +kernel
theorem aL_1278 : x_at (x_k mL_law) 1278 = some (.ifCond .ne 14, 1281, 1292) := by decide +kernel
theorem aL_1281 : x_at (x_k mL_law) 1281 = some (.aload_n 3, 1282, 0) := by decide +kernel
theorem aL_1282 : x_at (x_k mL_law) 1282 = some (.iconst 0, 1283, 0) := by decide +kernel
theorem aL_1283 : x_at (x_k mL_law) 1283 = some (.laload, 1284, 0) := by decide +kernel
theorem aL_1284 : x_at (x_k mL_law) 1284 = some (.lload 6, 1286, 0) := by decide +kernel
theorem aL_1286 : x_at (x_k mL_law) 1286 = some (.lcmp, 1287, 0) := by decide +kernel
theorem aL_1287 : x_at (x_k mL_law) 1287 = some (.ifCond .eq 5, 1290, 1292) := by decide +kernel
theorem aL_1290 : x_at (x_k mL_law) 1290 = some (.iconst 0, 1291, 0) := by decide +kernel
theorem aL_1291 : x_at (x_k mL_law) 1291 = some (.ireturn, 1292, 0) := by decide +kernel
theorem aL_1292 : x_at (x_k mL_law) 1292 = some (.goto 398, 1295, 1690) := by decide +kernel
theorem aL_1295 : x_at (x_k mL_law) 1295 = some (.aload_n 1, 1296, 0) := by decide +kernel
theorem aL_1296 : x_at (x_k mL_law) 1296 = some (.aload_n 0, 1297, 0) := by decide +kernel
theorem aL_1297 : x_at (x_k mL_law) 1297 = some (.iload 4, 1299, 0) := by decide +kernel
theorem aL_1299 : x_at (x_k mL_law) 1299 = some (.iconst 1, 1300, 0) := by decide +kernel
theorem aL_1300 : x_at (x_k mL_law) 1300 = some (.iadd, 1301, 0) := by decide +kernel
theorem aL_1301 : x_at (x_k mL_law) 1301 = some (.iaload, 1302, 0) := by decide +kernel
theorem aL_1302 : x_at (x_k mL_law) 1302 = some (.aload_n 0, 1303, 0) := by decide +kernel
theorem aL_1303 : x_at (x_k mL_law) 1303 = some (.iload 4, 1305, 0) := by decide +kernel
theorem aL_1305 : x_at (x_k mL_law) 1305 = some (.iconst 2, 1306, 0) := by decide +kernel
theorem aL_1306 : x_at (x_k mL_law) 1306 = some (.iadd, 1307, 0) := by decide +kernel
theorem aL_1307 : x_at (x_k mL_law) 1307 = some (.iaload, 1308, 0) := by decide +kernel
theorem aL_1308 : x_at (x_k mL_law) 1308 = some (.aload_n 0, 1309, 0) := by decide +kernel
theorem aL_1309 : x_at (x_k mL_law) 1309 = some (.iload 4, 1311, 0) := by decide +kernel
theorem aL_1311 : x_at (x_k mL_law) 1311 = some (.iconst 3, 1312, 0) := by decide +kernel
theorem aL_1312 : x_at (x_k mL_law) 1312 = some (.iadd, 1313, 0) := by decide +kernel
theorem aL_1313 : x_at (x_k mL_law) 1313 = some (.iaload, 1314, 0) := by decide +kernel
theorem aL_1314 : x_at (x_k mL_law) 1314 = some (.aload_n 0, 1315, 0) := by decide +kernel
theorem aL_1315 : x_at (x_k mL_law) 1315 = some (.iload 4, 1317, 0) := by decide +kernel
theorem aL_1317 : x_at (x_k mL_law) 1317 = some (.iconst 4, 1318, 0) := by decide +kernel
theorem aL_1318 : x_at (x_k mL_law) 1318 = some (.iadd, 1319, 0) := by decide +kernel
theorem aL_1319 : x_at (x_k mL_law) 1319 = some (.iaload, 1320, 0) := by decide +kernel
theorem aL_1320 : x_at (x_k mL_law) 1320 = some (.aload_n 0, 1321, 0) := by decide +kernel
theorem aL_1321 : x_at (x_k mL_law) 1321 = some (.iload 4, 1323, 0) := by decide +kernel
theorem aL_1323 : x_at (x_k mL_law) 1323 = some (.iconst 5, 1324, 0) := by decide +kernel
theorem aL_1324 : x_at (x_k mL_law) 1324 = some (.iadd, 1325, 0) := by decide +kernel
theorem aL_1325 : x_at (x_k mL_law) 1325 = some (.iaload, 1326, 0) := by decide +kernel
theorem aL_1326 : x_at (x_k mL_law) 1326 = some (.aload_n 3, 1327, 0) := by decide +kernel
theorem aL_1327 : x_at (x_k mL_law) 1327 = some (.invokestatic 139, 1330, 0) := by decide +kernel
theorem aL_1330 : x_at (x_k mL_law) 1330 = some (.istore 5, 1332, 0) := by decide +kernel
theorem aL_1332 : x_at (x_k mL_law) 1332 = some (.aload_n 2, 1333, 0) := by decide +kernel
theorem aL_1333 : x_at (x_k mL_law) 1333 = some (.aload_n 0, 1334, 0) := by decide +kernel
theorem aL_1334 : x_at (x_k mL_law) 1334 = some (.iload 4, 1336, 0) := by decide +kernel
theorem aL_1336 : x_at (x_k mL_law) 1336 = some (.iconst 1, 1337, 0) := by decide +kernel
theorem aL_1337 : x_at (x_k mL_law) 1337 = some (.iadd, 1338, 0) := by decide +kernel
theorem aL_1338 : x_at (x_k mL_law) 1338 = some (.iaload, 1339, 0) := by decide +kernel
theorem aL_1339 : x_at (x_k mL_law) 1339 = some (.aload_n 0, 1340, 0) := by decide +kernel
theorem aL_1340 : x_at (x_k mL_law) 1340 = some (.iload 4, 1342, 0) := by decide +kernel
theorem aL_1342 : x_at (x_k mL_law) 1342 = some (.iconst 2, 1343, 0) := by decide +kernel
theorem aL_1343 : x_at (x_k mL_law) 1343 = some (.iadd, 1344, 0) := by decide +kernel
theorem aL_1344 : x_at (x_k mL_law) 1344 = some (.iaload, 1345, 0) := by decide +kernel
theorem aL_1345 : x_at (x_k mL_law) 1345 = some (.aload_n 0, 1346, 0) := by decide +kernel
theorem aL_1346 : x_at (x_k mL_law) 1346 = some (.iload 4, 1348, 0) := by decide +kernel
theorem aL_1348 : x_at (x_k mL_law) 1348 = some (.iconst 3, 1349, 0) := by decide +kernel
theorem aL_1349 : x_at (x_k mL_law) 1349 = some (.iadd, 1350, 0) := by decide +kernel
theorem aL_1350 : x_at (x_k mL_law) 1350 = some (.iaload, 1351, 0) := by decide +kernel
theorem aL_1351 : x_at (x_k mL_law) 1351 = some (.aload_n 0, 1352, 0) := by decide +kernel
theorem aL_1352 : x_at (x_k mL_law) 1352 = some (.iload 4, 1354, 0) := by decide +kernel
theorem aL_1354 : x_at (x_k mL_law) 1354 = some (.iconst 4, 1355, 0) := by decide +kernel
theorem aL_1355 : x_at (x_k mL_law) 1355 = some (.iadd, 1356, 0) := by decide +kernel
theorem aL_1356 : x_at (x_k mL_law) 1356 = some (.iaload, 1357, 0) := by decide +kernel
theorem aL_1357 : x_at (x_k mL_law) 1357 = some (.aload_n 0, 1358, 0) := by decide +kernel
theorem aL_1358 : x_at (x_k mL_law) 1358 = some (.iload 4, 1360, 0) := by decide +kernel
theorem aL_1360 : x_at (x_k mL_law) 1360 = some (.iconst 5, 1361, 0) := by decide +kernel
theorem aL_1361 : x_at (x_k mL_law) 1361 = some (.iadd, 1362, 0) := by decide +kernel
theorem aL_1362 : x_at (x_k mL_law) 1362 = some (.iaload, 1363, 0) := by decide +kernel
theorem aL_1363 : x_at (x_k mL_law) 1363 = some (.invokevirtual 141, 1366, 0) := by decide +kernel
theorem aL_1366 : x_at (x_k mL_law) 1366 = some (.istore 6, 1368, 0) := by decide +kernel
theorem aL_1368 : x_at (x_k mL_law) 1368 = some (.aload_n 2, 1369, 0) := by decide +kernel
theorem aL_1369 : x_at (x_k mL_law) 1369 = some (.invokevirtual 89, 1372, 0) := by decide +kernel
theorem aL_1372 : x_at (x_k mL_law) 1372 = some (.iload 5, 1374, 0) := by decide +kernel
theorem aL_1374 : x_at (x_k mL_law) 1374 = some (.if_icmp .eq 5, 1377, 1379) := by decide +kernel
theorem aL_1377 : x_at (x_k mL_law) 1377 = some (.iconst 0, 1378, 0) := by decide +kernel
theorem aL_1378 : x_at (x_k mL_law) 1378 = some (.ireturn, 1379, 0) := by decide +kernel
theorem aL_1379 : x_at (x_k mL_law) 1379 = some (.iload 5, 1381, 0) := by decide +kernel
theorem aL_1381 : x_at (x_k mL_law) 1381 = some (.ifCond .ne 15, 1384, 1396) := by decide +kernel
theorem aL_1384 : x_at (x_k mL_law) 1384 = some (.aload_n 3, 1385, 0) := by decide +kernel
theorem aL_1385 : x_at (x_k mL_law) 1385 = some (.iconst 0, 1386, 0) := by decide +kernel
theorem aL_1386 : x_at (x_k mL_law) 1386 = some (.laload, 1387, 0) := by decide +kernel
theorem aL_1387 : x_at (x_k mL_law) 1387 = some (.iload 6, 1389, 0) := by decide +kernel
theorem aL_1389 : x_at (x_k mL_law) 1389 = some (.i2l, 1390, 0) := by decide +kernel
theorem aL_1390 : x_at (x_k mL_law) 1390 = some (.lcmp, 1391, 0) := by decide +kernel
theorem aL_1391 : x_at (x_k mL_law) 1391 = some (.ifCond .eq 5, 1394, 1396) := by decide +kernel
theorem aL_1394 : x_at (x_k mL_law) 1394 = some (.iconst 0, 1395, 0) := by decide +kernel
theorem aL_1395 : x_at (x_k mL_law) 1395 = some (.ireturn, 1396, 0) := by decide +kernel
theorem aL_1396 : x_at (x_k mL_law) 1396 = some (.goto 294, 1399, 1690) := by decide +kernel
theorem aL_1399 : x_at (x_k mL_law) 1399 = some (.aload_n 1, 1400, 0) := by decide +kernel
theorem aL_1400 : x_at (x_k mL_law) 1400 = some (.aload_n 0, 1401, 0) := by decide +kernel
theorem aL_1401 : x_at (x_k mL_law) 1401 = some (.iload 4, 1403, 0) := by decide +kernel
theorem aL_1403 : x_at (x_k mL_law) 1403 = some (.iconst 1, 1404, 0) := by decide +kernel
theorem aL_1404 : x_at (x_k mL_law) 1404 = some (.iadd, 1405, 0) := by decide +kernel
theorem aL_1405 : x_at (x_k mL_law) 1405 = some (.iaload, 1406, 0) := by decide +kernel
theorem aL_1406 : x_at (x_k mL_law) 1406 = some (.aload_n 0, 1407, 0) := by decide +kernel
theorem aL_1407 : x_at (x_k mL_law) 1407 = some (.iload 4, 1409, 0) := by decide +kernel
theorem aL_1409 : x_at (x_k mL_law) 1409 = some (.iconst 2, 1410, 0) := by decide +kernel
theorem aL_1410 : x_at (x_k mL_law) 1410 = some (.iadd, 1411, 0) := by decide +kernel
theorem aL_1411 : x_at (x_k mL_law) 1411 = some (.iaload, 1412, 0) := by decide +kernel
theorem aL_1412 : x_at (x_k mL_law) 1412 = some (.aload_n 0, 1413, 0) := by decide +kernel
theorem aL_1413 : x_at (x_k mL_law) 1413 = some (.iload 4, 1415, 0) := by decide +kernel
theorem aL_1415 : x_at (x_k mL_law) 1415 = some (.iconst 3, 1416, 0) := by decide +kernel
theorem aL_1416 : x_at (x_k mL_law) 1416 = some (.iadd, 1417, 0) := by decide +kernel
theorem aL_1417 : x_at (x_k mL_law) 1417 = some (.iaload, 1418, 0) := by decide +kernel
theorem aL_1418 : x_at (x_k mL_law) 1418 = some (.aload_n 0, 1419, 0) := by decide +kernel
theorem aL_1419 : x_at (x_k mL_law) 1419 = some (.iload 4, 1421, 0) := by decide +kernel
theorem aL_1421 : x_at (x_k mL_law) 1421 = some (.iconst 4, 1422, 0) := by decide +kernel
theorem aL_1422 : x_at (x_k mL_law) 1422 = some (.iadd, 1423, 0) := by decide +kernel
theorem aL_1423 : x_at (x_k mL_law) 1423 = some (.iaload, 1424, 0) := by decide +kernel
theorem aL_1424 : x_at (x_k mL_law) 1424 = some (.aload_n 0, 1425, 0) := by decide +kernel
theorem aL_1425 : x_at (x_k mL_law) 1425 = some (.iload 4, 1427, 0) := by decide +kernel
theorem aL_1427 : x_at (x_k mL_law) 1427 = some (.iconst 5, 1428, 0) := by decide +kernel
theorem aL_1428 : x_at (x_k mL_law) 1428 = some (.iadd, 1429, 0) := by decide +kernel
theorem aL_1429 : x_at (x_k mL_law) 1429 = some (.iaload, 1430, 0) := by decide +kernel
theorem aL_1430 : x_at (x_k mL_law) 1430 = some (.aload_n 3, 1431, 0) := by decide +kernel
theorem aL_1431 : x_at (x_k mL_law) 1431 = some (.invokestatic 142, 1434, 0) := by decide +kernel
theorem aL_1434 : x_at (x_k mL_law) 1434 = some (.istore 5, 1436, 0) := by decide +kernel
theorem aL_1436 : x_at (x_k mL_law) 1436 = some (.aload_n 2, 1437, 0) := by decide +kernel
theorem aL_1437 : x_at (x_k mL_law) 1437 = some (.aload_n 0, 1438, 0) := by decide +kernel
theorem aL_1438 : x_at (x_k mL_law) 1438 = some (.iload 4, 1440, 0) := by decide +kernel
theorem aL_1440 : x_at (x_k mL_law) 1440 = some (.iconst 1, 1441, 0) := by decide +kernel
theorem aL_1441 : x_at (x_k mL_law) 1441 = some (.iadd, 1442, 0) := by decide +kernel
theorem aL_1442 : x_at (x_k mL_law) 1442 = some (.iaload, 1443, 0) := by decide +kernel
theorem aL_1443 : x_at (x_k mL_law) 1443 = some (.aload_n 0, 1444, 0) := by decide +kernel
theorem aL_1444 : x_at (x_k mL_law) 1444 = some (.iload 4, 1446, 0) := by decide +kernel
theorem aL_1446 : x_at (x_k mL_law) 1446 = some (.iconst 2, 1447, 0) := by decide +kernel
theorem aL_1447 : x_at (x_k mL_law) 1447 = some (.iadd, 1448, 0) := by decide +kernel
theorem aL_1448 : x_at (x_k mL_law) 1448 = some (.iaload, 1449, 0) := by decide +kernel
theorem aL_1449 : x_at (x_k mL_law) 1449 = some (.aload_n 0, 1450, 0) := by decide +kernel
theorem aL_1450 : x_at (x_k mL_law) 1450 = some (.iload 4, 1452, 0) := by decide +kernel
theorem aL_1452 : x_at (x_k mL_law) 1452 = some (.iconst 3, 1453, 0) := by decide +kernel
theorem aL_1453 : x_at (x_k mL_law) 1453 = some (.iadd, 1454, 0) := by decide +kernel
theorem aL_1454 : x_at (x_k mL_law) 1454 = some (.iaload, 1455, 0) := by decide +kernel
theorem aL_1455 : x_at (x_k mL_law) 1455 = some (.aload_n 0, 1456, 0) := by decide +kernel
theorem aL_1456 : x_at (x_k mL_law) 1456 = some (.iload 4, 1458, 0) := by decide +kernel
theorem aL_1458 : x_at (x_k mL_law) 1458 = some (.iconst 4, 1459, 0) := by decide +kernel
theorem aL_1459 : x_at (x_k mL_law) 1459 = some (.iadd, 1460, 0) := by decide +kernel
theorem aL_1460 : x_at (x_k mL_law) 1460 = some (.iaload, 1461, 0) := by decide +kernel
theorem aL_1461 : x_at (x_k mL_law) 1461 = some (.aload_n 0, 1462, 0) := by decide +kernel
theorem aL_1462 : x_at (x_k mL_law) 1462 = some (.iload 4, 1464, 0) := by decide +kernel
theorem aL_1464 : x_at (x_k mL_law) 1464 = some (.iconst 5, 1465, 0) := by decide +kernel
theorem aL_1465 : x_at (x_k mL_law) 1465 = some (.iadd, 1466, 0) := by decide +kernel
theorem aL_1466 : x_at (x_k mL_law) 1466 = some (.iaload, 1467, 0) := by decide +kernel
theorem aL_1467 : x_at (x_k mL_law) 1467 = some (.invokevirtual 144, 1470, 0) := by decide +kernel
theorem aL_1470 : x_at (x_k mL_law) 1470 = some (.istore 6, 1472, 0) := by decide +kernel
theorem aL_1472 : x_at (x_k mL_law) 1472 = some (.aload_n 2, 1473, 0) := by decide +kernel
theorem aL_1473 : x_at (x_k mL_law) 1473 = some (.invokevirtual 89, 1476, 0) := by decide +kernel
theorem aL_1476 : x_at (x_k mL_law) 1476 = some (.iload 5, 1478, 0) := by decide +kernel
theorem aL_1478 : x_at (x_k mL_law) 1478 = some (.if_icmp .eq 5, 1481, 1483) := by decide +kernel
theorem aL_1481 : x_at (x_k mL_law) 1481 = some (.iconst 0, 1482, 0) := by decide +kernel
theorem aL_1482 : x_at (x_k mL_law) 1482 = some (.ireturn, 1483, 0) := by decide +kernel
theorem aL_1483 : x_at (x_k mL_law) 1483 = some (.iload 5, 1485, 0) := by decide +kernel
theorem aL_1485 : x_at (x_k mL_law) 1485 = some (.ifCond .ne 15, 1488, 1500) := by decide +kernel
theorem aL_1488 : x_at (x_k mL_law) 1488 = some (.aload_n 3, 1489, 0) := by decide +kernel
theorem aL_1489 : x_at (x_k mL_law) 1489 = some (.iconst 0, 1490, 0) := by decide +kernel
theorem aL_1490 : x_at (x_k mL_law) 1490 = some (.laload, 1491, 0) := by decide +kernel
theorem aL_1491 : x_at (x_k mL_law) 1491 = some (.iload 6, 1493, 0) := by decide +kernel
theorem aL_1493 : x_at (x_k mL_law) 1493 = some (.i2l, 1494, 0) := by decide +kernel
theorem aL_1494 : x_at (x_k mL_law) 1494 = some (.lcmp, 1495, 0) := by decide +kernel
theorem aL_1495 : x_at (x_k mL_law) 1495 = some (.ifCond .eq 5, 1498, 1500) := by decide +kernel
theorem aL_1498 : x_at (x_k mL_law) 1498 = some (.iconst 0, 1499, 0) := by decide +kernel
theorem aL_1499 : x_at (x_k mL_law) 1499 = some (.ireturn, 1500, 0) := by decide +kernel
theorem aL_1500 : x_at (x_k mL_law) 1500 = some (.goto 190, 1503, 1690) := by decide +kernel
theorem aL_1503 : x_at (x_k mL_law) 1503 = some (.aload_n 1, 1504, 0) := by decide +kernel
theorem aL_1504 : x_at (x_k mL_law) 1504 = some (.aload_n 0, 1505, 0) := by decide +kernel
theorem aL_1505 : x_at (x_k mL_law) 1505 = some (.iload 4, 1507, 0) := by decide +kernel
theorem aL_1507 : x_at (x_k mL_law) 1507 = some (.iconst 1, 1508, 0) := by decide +kernel
theorem aL_1508 : x_at (x_k mL_law) 1508 = some (.iadd, 1509, 0) := by decide +kernel
theorem aL_1509 : x_at (x_k mL_law) 1509 = some (.iaload, 1510, 0) := by decide +kernel
theorem aL_1510 : x_at (x_k mL_law) 1510 = some (.aload_n 3, 1511, 0) := by decide +kernel
theorem aL_1511 : x_at (x_k mL_law) 1511 = some (.invokestatic 145, 1514, 0) := by decide +kernel
theorem aL_1514 : x_at (x_k mL_law) 1514 = some (.istore 5, 1516, 0) := by decide +kernel
theorem aL_1516 : x_at (x_k mL_law) 1516 = some (.aload_n 2, 1517, 0) := by decide +kernel
theorem aL_1517 : x_at (x_k mL_law) 1517 = some (.aload_n 0, 1518, 0) := by decide +kernel
theorem aL_1518 : x_at (x_k mL_law) 1518 = some (.iload 4, 1520, 0) := by decide +kernel
theorem aL_1520 : x_at (x_k mL_law) 1520 = some (.iconst 1, 1521, 0) := by decide +kernel
theorem aL_1521 : x_at (x_k mL_law) 1521 = some (.iadd, 1522, 0) := by decide +kernel
theorem aL_1522 : x_at (x_k mL_law) 1522 = some (.iaload, 1523, 0) := by decide +kernel
theorem aL_1523 : x_at (x_k mL_law) 1523 = some (.invokevirtual 147, 1526, 0) := by decide +kernel
theorem aL_1526 : x_at (x_k mL_law) 1526 = some (.istore 6, 1528, 0) := by decide +kernel
theorem aL_1528 : x_at (x_k mL_law) 1528 = some (.aload_n 2, 1529, 0) := by decide +kernel
theorem aL_1529 : x_at (x_k mL_law) 1529 = some (.invokevirtual 89, 1532, 0) := by decide +kernel
theorem aL_1532 : x_at (x_k mL_law) 1532 = some (.iload 5, 1534, 0) := by decide +kernel
theorem aL_1534 : x_at (x_k mL_law) 1534 = some (.if_icmp .eq 5, 1537, 1539) := by decide +kernel
theorem aL_1537 : x_at (x_k mL_law) 1537 = some (.iconst 0, 1538, 0) := by decide +kernel
theorem aL_1538 : x_at (x_k mL_law) 1538 = some (.ireturn, 1539, 0) := by decide +kernel
theorem aL_1539 : x_at (x_k mL_law) 1539 = some (.iload 5, 1541, 0) := by decide +kernel
theorem aL_1541 : x_at (x_k mL_law) 1541 = some (.ifCond .ne 15, 1544, 1556) := by decide +kernel
theorem aL_1544 : x_at (x_k mL_law) 1544 = some (.aload_n 3, 1545, 0) := by decide +kernel
theorem aL_1545 : x_at (x_k mL_law) 1545 = some (.iconst 0, 1546, 0) := by decide +kernel
theorem aL_1546 : x_at (x_k mL_law) 1546 = some (.laload, 1547, 0) := by decide +kernel
theorem aL_1547 : x_at (x_k mL_law) 1547 = some (.iload 6, 1549, 0) := by decide +kernel
theorem aL_1549 : x_at (x_k mL_law) 1549 = some (.i2l, 1550, 0) := by decide +kernel
theorem aL_1550 : x_at (x_k mL_law) 1550 = some (.lcmp, 1551, 0) := by decide +kernel
theorem aL_1551 : x_at (x_k mL_law) 1551 = some (.ifCond .eq 5, 1554, 1556) := by decide +kernel
theorem aL_1554 : x_at (x_k mL_law) 1554 = some (.iconst 0, 1555, 0) := by decide +kernel
theorem aL_1555 : x_at (x_k mL_law) 1555 = some (.ireturn, 1556, 0) := by decide +kernel
theorem aL_1556 : x_at (x_k mL_law) 1556 = some (.goto 134, 1559, 1690) := by decide +kernel
theorem aL_1559 : x_at (x_k mL_law) 1559 = some (.aload_n 1, 1560, 0) := by decide +kernel
theorem aL_1560 : x_at (x_k mL_law) 1560 = some (.aload_n 0, 1561, 0) := by decide +kernel
theorem aL_1561 : x_at (x_k mL_law) 1561 = some (.iload 4, 1563, 0) := by decide +kernel
theorem aL_1563 : x_at (x_k mL_law) 1563 = some (.iconst 1, 1564, 0) := by decide +kernel
theorem aL_1564 : x_at (x_k mL_law) 1564 = some (.iadd, 1565, 0) := by decide +kernel
theorem aL_1565 : x_at (x_k mL_law) 1565 = some (.iaload, 1566, 0) := by decide +kernel
theorem aL_1566 : x_at (x_k mL_law) 1566 = some (.aload_n 0, 1567, 0) := by decide +kernel
theorem aL_1567 : x_at (x_k mL_law) 1567 = some (.iload 4, 1569, 0) := by decide +kernel
theorem aL_1569 : x_at (x_k mL_law) 1569 = some (.iconst 2, 1570, 0) := by decide +kernel
theorem aL_1570 : x_at (x_k mL_law) 1570 = some (.iadd, 1571, 0) := by decide +kernel
theorem aL_1571 : x_at (x_k mL_law) 1571 = some (.iaload, 1572, 0) := by decide +kernel
theorem aL_1572 : x_at (x_k mL_law) 1572 = some (.ifCond .eq 7, 1575, 1579) := by decide +kernel
theorem aL_1575 : x_at (x_k mL_law) 1575 = some (.iconst 1, 1576, 0) := by decide +kernel
theorem aL_1576 : x_at (x_k mL_law) 1576 = some (.goto 4, 1579, 1580) := by decide +kernel
theorem aL_1579 : x_at (x_k mL_law) 1579 = some (.iconst 0, 1580, 0) := by decide +kernel
theorem aL_1580 : x_at (x_k mL_law) 1580 = some (.aload_n 3, 1581, 0) := by decide +kernel
theorem aL_1581 : x_at (x_k mL_law) 1581 = some (.invokestatic 148, 1584, 0) := by decide +kernel
theorem aL_1584 : x_at (x_k mL_law) 1584 = some (.istore 5, 1586, 0) := by decide +kernel
theorem aL_1586 : x_at (x_k mL_law) 1586 = some (.aload_n 2, 1587, 0) := by decide +kernel
theorem aL_1587 : x_at (x_k mL_law) 1587 = some (.aload_n 0, 1588, 0) := by decide +kernel
theorem aL_1588 : x_at (x_k mL_law) 1588 = some (.iload 4, 1590, 0) := by decide +kernel
theorem aL_1590 : x_at (x_k mL_law) 1590 = some (.iconst 1, 1591, 0) := by decide +kernel
theorem aL_1591 : x_at (x_k mL_law) 1591 = some (.iadd, 1592, 0) := by decide +kernel
theorem aL_1592 : x_at (x_k mL_law) 1592 = some (.iaload, 1593, 0) := by decide +kernel
theorem aL_1593 : x_at (x_k mL_law) 1593 = some (.aload_n 0, 1594, 0) := by decide +kernel
theorem aL_1594 : x_at (x_k mL_law) 1594 = some (.iload 4, 1596, 0) := by decide +kernel
theorem aL_1596 : x_at (x_k mL_law) 1596 = some (.iconst 2, 1597, 0) := by decide +kernel
theorem aL_1597 : x_at (x_k mL_law) 1597 = some (.iadd, 1598, 0) := by decide +kernel
theorem aL_1598 : x_at (x_k mL_law) 1598 = some (.iaload, 1599, 0) := by decide +kernel
theorem aL_1599 : x_at (x_k mL_law) 1599 = some (.ifCond .eq 7, 1602, 1606) := by decide +kernel
theorem aL_1602 : x_at (x_k mL_law) 1602 = some (.iconst 1, 1603, 0) := by decide +kernel
theorem aL_1603 : x_at (x_k mL_law) 1603 = some (.goto 4, 1606, 1607) := by decide +kernel
theorem aL_1606 : x_at (x_k mL_law) 1606 = some (.iconst 0, 1607, 0) := by decide +kernel
theorem aL_1607 : x_at (x_k mL_law) 1607 = some (.invokevirtual 151, 1610, 0) := by decide +kernel
theorem aL_1610 : x_at (x_k mL_law) 1610 = some (.istore 6, 1612, 0) := by decide +kernel
theorem aL_1612 : x_at (x_k mL_law) 1612 = some (.aload_n 2, 1613, 0) := by decide +kernel
theorem aL_1613 : x_at (x_k mL_law) 1613 = some (.invokevirtual 89, 1616, 0) := by decide +kernel
theorem aL_1616 : x_at (x_k mL_law) 1616 = some (.iload 5, 1618, 0) := by decide +kernel
theorem aL_1618 : x_at (x_k mL_law) 1618 = some (.if_icmp .eq 5, 1621, 1623) := by decide +kernel
theorem aL_1621 : x_at (x_k mL_law) 1621 = some (.iconst 0, 1622, 0) := by decide +kernel
theorem aL_1622 : x_at (x_k mL_law) 1622 = some (.ireturn, 1623, 0) := by decide +kernel
theorem aL_1623 : x_at (x_k mL_law) 1623 = some (.iload 5, 1625, 0) := by decide +kernel
theorem aL_1625 : x_at (x_k mL_law) 1625 = some (.ifCond .ne 22, 1628, 1647) := by decide +kernel
theorem aL_1628 : x_at (x_k mL_law) 1628 = some (.aload_n 3, 1629, 0) := by decide +kernel
theorem aL_1629 : x_at (x_k mL_law) 1629 = some (.iconst 0, 1630, 0) := by decide +kernel
theorem aL_1630 : x_at (x_k mL_law) 1630 = some (.laload, 1631, 0) := by decide +kernel
theorem aL_1631 : x_at (x_k mL_law) 1631 = some (.iload 6, 1633, 0) := by decide +kernel
theorem aL_1633 : x_at (x_k mL_law) 1633 = some (.ifCond .eq 7, 1636, 1640) := by decide +kernel
theorem aL_1636 : x_at (x_k mL_law) 1636 = some (.lconst 1, 1637, 0) := by decide +kernel
theorem aL_1637 : x_at (x_k mL_law) 1637 = some (.goto 4, 1640, 1641) := by decide +kernel
theorem aL_1640 : x_at (x_k mL_law) 1640 = some (.lconst 0, 1641, 0) := by decide +kernel
theorem aL_1641 : x_at (x_k mL_law) 1641 = some (.lcmp, 1642, 0) := by decide +kernel
theorem aL_1642 : x_at (x_k mL_law) 1642 = some (.ifCond .eq 5, 1645, 1647) := by decide +kernel
theorem aL_1645 : x_at (x_k mL_law) 1645 = some (.iconst 0, 1646, 0) := by decide +kernel
theorem aL_1646 : x_at (x_k mL_law) 1646 = some (.ireturn, 1647, 0) := by decide +kernel
theorem aL_1647 : x_at (x_k mL_law) 1647 = some (.goto 43, 1650, 1690) := by decide +kernel
theorem aL_1650 : x_at (x_k mL_law) 1650 = some (.aload_n 1, 1651, 0) := by decide +kernel
theorem aL_1651 : x_at (x_k mL_law) 1651 = some (.invokevirtual 152, 1654, 0) := by decide +kernel
theorem aL_1654 : x_at (x_k mL_law) 1654 = some (.aload_n 2, 1655, 0) := by decide +kernel
theorem aL_1655 : x_at (x_k mL_law) 1655 = some (.invokevirtual 155, 1658, 0) := by decide +kernel
theorem aL_1658 : x_at (x_k mL_law) 1658 = some (.if_icmp .eq 32, 1661, 1690) := by decide +kernel
theorem aL_1661 : x_at (x_k mL_law) 1661 = some (.iconst 0, 1662, 0) := by decide +kernel
theorem aL_1662 : x_at (x_k mL_law) 1662 = some (.ireturn, 1663, 0) := by decide +kernel
theorem aL_1663 : x_at (x_k mL_law) 1663 = some (.aload_n 1, 1664, 0) := by decide +kernel
theorem aL_1664 : x_at (x_k mL_law) 1664 = some (.invokevirtual 156, 1667, 0) := by decide +kernel
theorem aL_1667 : x_at (x_k mL_law) 1667 = some (.aload_n 2, 1668, 0) := by decide +kernel
theorem aL_1668 : x_at (x_k mL_law) 1668 = some (.invokevirtual 159, 1671, 0) := by decide +kernel
theorem aL_1671 : x_at (x_k mL_law) 1671 = some (.if_icmp .eq 19, 1674, 1690) := by decide +kernel
theorem aL_1674 : x_at (x_k mL_law) 1674 = some (.iconst 0, 1675, 0) := by decide +kernel
theorem aL_1675 : x_at (x_k mL_law) 1675 = some (.ireturn, 1676, 0) := by decide +kernel
theorem aL_1676 : x_at (x_k mL_law) 1676 = some (.aload_n 1, 1677, 0) := by decide +kernel
theorem aL_1677 : x_at (x_k mL_law) 1677 = some (.invokevirtual 160, 1680, 0) := by decide +kernel
theorem aL_1680 : x_at (x_k mL_law) 1680 = some (.aload_n 2, 1681, 0) := by decide +kernel
theorem aL_1681 : x_at (x_k mL_law) 1681 = some (.invokevirtual 164, 1684, 0) := by decide +kernel
theorem aL_1684 : x_at (x_k mL_law) 1684 = some (.lcmp, 1685, 0) := by decide +kernel
theorem aL_1685 : x_at (x_k mL_law) 1685 = some (.ifCond .eq 5, 1688, 1690) := by decide +kernel
theorem aL_1688 : x_at (x_k mL_law) 1688 = some (.iconst 0, 1689, 0) := by decide +kernel
theorem aL_1689 : x_at (x_k mL_law) 1689 = some (.ireturn, 1690, 0) := by decide +kernel
theorem aL_1690 : x_at (x_k mL_law) 1690 = some (.iinc 4 7, 1693, 0) := by decide +kernel
theorem aL_1693 : x_at (x_k mL_law) 1693 = some (.goto (-1670), 1696, 23) := by decide +kernel
theorem aL_1696 : x_at (x_k mL_law) 1696 = some (.iconst 1, 1697, 0) := by decide +kernel
theorem aL_1697 : x_at (x_k mL_law) 1697 = some (.ireturn, 1698, 0) := by decide +kernel
