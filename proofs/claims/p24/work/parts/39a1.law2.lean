section
variable {p : Program} {l : Launch} {e : Env} {s : State} {m : MethodId} {args : Array Value} {below : List Frame} {meth : Method} {c : Code} {D : va_G} {cy : Nat → ClassId} {B : Nat} {H0 : Heap} {Z : Nat → Nat}
/-! ## TideLotsLaw.test([ILTideLotsLaw$Sim;)Ljava/lang/String; -/
theorem dL_test_0 : decode cL_test 0 = .ok (.new 32, 3) := by decide +kernel
theorem dL_test_3 : decode cL_test 3 = .ok (.dup, 1) := by decide +kernel
theorem dL_test_4 : decode cL_test 4 = .ok (.invokespecial 34, 3) := by decide +kernel
theorem dL_test_7 : decode cL_test 7 = .ok (.ldc 35, 2) := by decide +kernel
theorem dL_test_9 : decode cL_test 9 = .ok (.invokevirtual 37, 3) := by decide +kernel
theorem dL_test_12 : decode cL_test 12 = .ok (.aload_n 0, 1) := by decide +kernel
theorem dL_test_13 : decode cL_test 13 = .ok (.iconst 3, 1) := by decide +kernel
theorem dL_test_14 : decode cL_test 14 = .ok (.iaload, 1) := by decide +kernel
theorem dL_test_15 : decode cL_test 15 = .ok (.aload_n 1, 1) := by decide +kernel
theorem dL_test_16 : decode cL_test 16 = .ok (.getfield 41, 3) := by decide +kernel
theorem dL_test_19 : decode cL_test 19 = .ok (.irem, 1) := by decide +kernel
theorem dL_test_20 : decode cL_test 20 = .ok (.invokevirtual 47, 3) := by decide +kernel
theorem dL_test_23 : decode cL_test 23 = .ok (.invokevirtual 50, 3) := by decide +kernel
theorem dL_test_26 : decode cL_test 26 = .ok (.astore_n 2, 1) := by decide +kernel
theorem dL_test_27 : decode cL_test 27 = .ok (.new 32, 3) := by decide +kernel
theorem dL_test_30 : decode cL_test 30 = .ok (.dup, 1) := by decide +kernel
theorem dL_test_31 : decode cL_test 31 = .ok (.invokespecial 34, 3) := by decide +kernel
theorem dL_test_34 : decode cL_test 34 = .ok (.ldc 54, 2) := by decide +kernel
theorem dL_test_36 : decode cL_test 36 = .ok (.invokevirtual 37, 3) := by decide +kernel
theorem dL_test_39 : decode cL_test 39 = .ok (.aload_n 0, 1) := by decide +kernel
theorem dL_test_40 : decode cL_test 40 = .ok (.iconst 4, 1) := by decide +kernel
theorem dL_test_41 : decode cL_test 41 = .ok (.iaload, 1) := by decide +kernel
theorem dL_test_42 : decode cL_test 42 = .ok (.aload_n 1, 1) := by decide +kernel
theorem dL_test_43 : decode cL_test 43 = .ok (.getfield 56, 3) := by decide +kernel
theorem dL_test_46 : decode cL_test 46 = .ok (.irem, 1) := by decide +kernel
theorem dL_test_47 : decode cL_test 47 = .ok (.invokevirtual 47, 3) := by decide +kernel
theorem dL_test_50 : decode cL_test 50 = .ok (.invokevirtual 50, 3) := by decide +kernel
theorem dL_test_53 : decode cL_test 53 = .ok (.astore_n 3, 1) := by decide +kernel
theorem dL_test_54 : decode cL_test 54 = .ok (.new 32, 3) := by decide +kernel
theorem dL_test_57 : decode cL_test 57 = .ok (.dup, 1) := by decide +kernel
theorem dL_test_58 : decode cL_test 58 = .ok (.invokespecial 34, 3) := by decide +kernel
theorem dL_test_61 : decode cL_test 61 = .ok (.ldc 54, 2) := by decide +kernel
theorem dL_test_63 : decode cL_test 63 = .ok (.invokevirtual 37, 3) := by decide +kernel
theorem dL_test_66 : decode cL_test 66 = .ok (.aload_n 0, 1) := by decide +kernel
theorem dL_test_67 : decode cL_test 67 = .ok (.iconst 5, 1) := by decide +kernel
theorem dL_test_68 : decode cL_test 68 = .ok (.iaload, 1) := by decide +kernel
theorem dL_test_69 : decode cL_test 69 = .ok (.aload_n 1, 1) := by decide +kernel
theorem dL_test_70 : decode cL_test 70 = .ok (.getfield 56, 3) := by decide +kernel
theorem dL_test_73 : decode cL_test 73 = .ok (.irem, 1) := by decide +kernel
theorem dL_test_74 : decode cL_test 74 = .ok (.invokevirtual 47, 3) := by decide +kernel
theorem dL_test_77 : decode cL_test 77 = .ok (.invokevirtual 50, 3) := by decide +kernel
theorem dL_test_80 : decode cL_test 80 = .ok (.astore 4, 2) := by decide +kernel
theorem dL_test_82 : decode cL_test 82 = .ok (.aload_n 0, 1) := by decide +kernel
theorem dL_test_83 : decode cL_test 83 = .ok (.bipush 6, 2) := by decide +kernel
theorem dL_test_85 : decode cL_test 85 = .ok (.iaload, 1) := by decide +kernel
theorem dL_test_86 : decode cL_test 86 = .ok (.istore 5, 2) := by decide +kernel
theorem dL_test_88 : decode cL_test 88 = .ok (.aload_n 0, 1) := by decide +kernel
theorem dL_test_89 : decode cL_test 89 = .ok (.iconst 2, 1) := by decide +kernel
theorem dL_test_90 : decode cL_test 90 = .ok (.iaload, 1) := by decide +kernel
theorem dL_test_91 : decode cL_test 91 = .ok (.tableswitch 337 1 7 #[41, 71, 116, 136, 181, 218, 263], 41) := by decide +kernel
theorem dL_test_132 : decode cL_test 132 = .ok (.new 32, 3) := by decide +kernel
theorem dL_test_135 : decode cL_test 135 = .ok (.dup, 1) := by decide +kernel
theorem dL_test_136 : decode cL_test 136 = .ok (.invokespecial 34, 3) := by decide +kernel
theorem dL_test_139 : decode cL_test 139 = .ok (.ldc 59, 2) := by decide +kernel
theorem dL_test_141 : decode cL_test 141 = .ok (.invokevirtual 37, 3) := by decide +kernel
theorem dL_test_144 : decode cL_test 144 = .ok (.aload_n 2, 1) := by decide +kernel
theorem dL_test_145 : decode cL_test 145 = .ok (.invokevirtual 37, 3) := by decide +kernel
theorem dL_test_148 : decode cL_test 148 = .ok (.ldc 61, 2) := by decide +kernel
theorem dL_test_150 : decode cL_test 150 = .ok (.invokevirtual 37, 3) := by decide +kernel
theorem dL_test_153 : decode cL_test 153 = .ok (.iload 5, 2) := by decide +kernel
theorem dL_test_155 : decode cL_test 155 = .ok (.invokevirtual 47, 3) := by decide +kernel
theorem dL_test_158 : decode cL_test 158 = .ok (.invokevirtual 50, 3) := by decide +kernel
theorem dL_test_161 : decode cL_test 161 = .ok (.areturn, 1) := by decide +kernel
theorem dL_test_162 : decode cL_test 162 = .ok (.new 32, 3) := by decide +kernel
theorem dL_test_165 : decode cL_test 165 = .ok (.dup, 1) := by decide +kernel
theorem dL_test_166 : decode cL_test 166 = .ok (.invokespecial 34, 3) := by decide +kernel
theorem dL_test_169 : decode cL_test 169 = .ok (.ldc 63, 2) := by decide +kernel
theorem dL_test_171 : decode cL_test 171 = .ok (.invokevirtual 37, 3) := by decide +kernel
theorem dL_test_174 : decode cL_test 174 = .ok (.aload_n 2, 1) := by decide +kernel
theorem dL_test_175 : decode cL_test 175 = .ok (.invokevirtual 37, 3) := by decide +kernel
theorem dL_test_178 : decode cL_test 178 = .ok (.ldc 65, 2) := by decide +kernel
theorem dL_test_180 : decode cL_test 180 = .ok (.invokevirtual 37, 3) := by decide +kernel
theorem dL_test_183 : decode cL_test 183 = .ok (.iload 5, 2) := by decide +kernel
theorem dL_test_185 : decode cL_test 185 = .ok (.iconst 4, 1) := by decide +kernel
theorem dL_test_186 : decode cL_test 186 = .ok (.irem, 1) := by decide +kernel
theorem dL_test_187 : decode cL_test 187 = .ok (.invokevirtual 47, 3) := by decide +kernel
theorem dL_test_190 : decode cL_test 190 = .ok (.ldc 67, 2) := by decide +kernel
theorem dL_test_192 : decode cL_test 192 = .ok (.invokevirtual 37, 3) := by decide +kernel
theorem dL_test_195 : decode cL_test 195 = .ok (.iload 5, 2) := by decide +kernel
theorem dL_test_197 : decode cL_test 197 = .ok (.bipush 7, 2) := by decide +kernel
theorem dL_test_199 : decode cL_test 199 = .ok (.irem, 1) := by decide +kernel
theorem dL_test_200 : decode cL_test 200 = .ok (.invokevirtual 47, 3) := by decide +kernel
theorem dL_test_203 : decode cL_test 203 = .ok (.invokevirtual 50, 3) := by decide +kernel
theorem dL_test_206 : decode cL_test 206 = .ok (.areturn, 1) := by decide +kernel
theorem dL_test_207 : decode cL_test 207 = .ok (.new 32, 3) := by decide +kernel
theorem dL_test_210 : decode cL_test 210 = .ok (.dup, 1) := by decide +kernel
theorem dL_test_211 : decode cL_test 211 = .ok (.invokespecial 34, 3) := by decide +kernel
theorem dL_test_214 : decode cL_test 214 = .ok (.ldc 69, 2) := by decide +kernel
theorem dL_test_216 : decode cL_test 216 = .ok (.invokevirtual 37, 3) := by decide +kernel
theorem dL_test_219 : decode cL_test 219 = .ok (.aload_n 3, 1) := by decide +kernel
theorem dL_test_220 : decode cL_test 220 = .ok (.invokevirtual 37, 3) := by decide +kernel
theorem dL_test_223 : decode cL_test 223 = .ok (.invokevirtual 50, 3) := by decide +kernel
theorem dL_test_226 : decode cL_test 226 = .ok (.areturn, 1) := by decide +kernel
theorem dL_test_227 : decode cL_test 227 = .ok (.new 32, 3) := by decide +kernel
theorem dL_test_230 : decode cL_test 230 = .ok (.dup, 1) := by decide +kernel
theorem dL_test_231 : decode cL_test 231 = .ok (.invokespecial 34, 3) := by decide +kernel
theorem dL_test_234 : decode cL_test 234 = .ok (.ldc 71, 2) := by decide +kernel
theorem dL_test_236 : decode cL_test 236 = .ok (.invokevirtual 37, 3) := by decide +kernel
theorem dL_test_239 : decode cL_test 239 = .ok (.aload_n 3, 1) := by decide +kernel
theorem dL_test_240 : decode cL_test 240 = .ok (.invokevirtual 37, 3) := by decide +kernel
theorem dL_test_243 : decode cL_test 243 = .ok (.ldc 65, 2) := by decide +kernel
theorem dL_test_245 : decode cL_test 245 = .ok (.invokevirtual 37, 3) := by decide +kernel
theorem dL_test_248 : decode cL_test 248 = .ok (.iload 5, 2) := by decide +kernel
theorem dL_test_250 : decode cL_test 250 = .ok (.invokevirtual 47, 3) := by decide +kernel
theorem dL_test_253 : decode cL_test 253 = .ok (.ldc 73, 2) := by decide +kernel
theorem dL_test_255 : decode cL_test 255 = .ok (.invokevirtual 37, 3) := by decide +kernel
theorem dL_test_258 : decode cL_test 258 = .ok (.aload 4, 2) := by decide +kernel
theorem dL_test_260 : decode cL_test 260 = .ok (.invokevirtual 37, 3) := by decide +kernel
theorem dL_test_263 : decode cL_test 263 = .ok (.ldc 75, 2) := by decide +kernel
theorem dL_test_265 : decode cL_test 265 = .ok (.invokevirtual 37, 3) := by decide +kernel
theorem dL_test_268 : decode cL_test 268 = .ok (.invokevirtual 50, 3) := by decide +kernel
theorem dL_test_271 : decode cL_test 271 = .ok (.areturn, 1) := by decide +kernel
theorem dL_test_272 : decode cL_test 272 = .ok (.new 32, 3) := by decide +kernel
theorem dL_test_275 : decode cL_test 275 = .ok (.dup, 1) := by decide +kernel
theorem dL_test_276 : decode cL_test 276 = .ok (.invokespecial 34, 3) := by decide +kernel
theorem dL_test_279 : decode cL_test 279 = .ok (.ldc 77, 2) := by decide +kernel
theorem dL_test_281 : decode cL_test 281 = .ok (.invokevirtual 37, 3) := by decide +kernel
theorem dL_test_284 : decode cL_test 284 = .ok (.aload_n 3, 1) := by decide +kernel
theorem dL_test_285 : decode cL_test 285 = .ok (.invokevirtual 37, 3) := by decide +kernel
theorem dL_test_288 : decode cL_test 288 = .ok (.ldc 79, 2) := by decide +kernel
theorem dL_test_290 : decode cL_test 290 = .ok (.invokevirtual 37, 3) := by decide +kernel
theorem dL_test_293 : decode cL_test 293 = .ok (.iload 5, 2) := by decide +kernel
theorem dL_test_295 : decode cL_test 295 = .ok (.iconst 5, 1) := by decide +kernel
theorem dL_test_296 : decode cL_test 296 = .ok (.irem, 1) := by decide +kernel
theorem dL_test_297 : decode cL_test 297 = .ok (.invokevirtual 47, 3) := by decide +kernel
theorem dL_test_300 : decode cL_test 300 = .ok (.ldc 81, 2) := by decide +kernel
theorem dL_test_302 : decode cL_test 302 = .ok (.invokevirtual 37, 3) := by decide +kernel
theorem dL_test_305 : decode cL_test 305 = .ok (.invokevirtual 50, 3) := by decide +kernel
theorem dL_test_308 : decode cL_test 308 = .ok (.areturn, 1) := by decide +kernel
theorem dL_test_309 : decode cL_test 309 = .ok (.new 32, 3) := by decide +kernel
theorem dL_test_312 : decode cL_test 312 = .ok (.dup, 1) := by decide +kernel
theorem dL_test_313 : decode cL_test 313 = .ok (.invokespecial 34, 3) := by decide +kernel
theorem dL_test_316 : decode cL_test 316 = .ok (.ldc 83, 2) := by decide +kernel
theorem dL_test_318 : decode cL_test 318 = .ok (.invokevirtual 37, 3) := by decide +kernel
theorem dL_test_321 : decode cL_test 321 = .ok (.aload_n 3, 1) := by decide +kernel
theorem dL_test_322 : decode cL_test 322 = .ok (.invokevirtual 37, 3) := by decide +kernel
theorem dL_test_325 : decode cL_test 325 = .ok (.ldc 85, 2) := by decide +kernel
theorem dL_test_327 : decode cL_test 327 = .ok (.invokevirtual 37, 3) := by decide +kernel
theorem dL_test_330 : decode cL_test 330 = .ok (.aload 4, 2) := by decide +kernel
theorem dL_test_332 : decode cL_test 332 = .ok (.invokevirtual 37, 3) := by decide +kernel
theorem dL_test_335 : decode cL_test 335 = .ok (.ldc 87, 2) := by decide +kernel
theorem dL_test_337 : decode cL_test 337 = .ok (.invokevirtual 37, 3) := by decide +kernel
theorem dL_test_340 : decode cL_test 340 = .ok (.iload 5, 2) := by decide +kernel
theorem dL_test_342 : decode cL_test 342 = .ok (.invokevirtual 47, 3) := by decide +kernel
theorem dL_test_345 : decode cL_test 345 = .ok (.ldc 89, 2) := by decide +kernel
theorem dL_test_347 : decode cL_test 347 = .ok (.invokevirtual 37, 3) := by decide +kernel
theorem dL_test_350 : decode cL_test 350 = .ok (.invokevirtual 50, 3) := by decide +kernel
theorem dL_test_353 : decode cL_test 353 = .ok (.areturn, 1) := by decide +kernel
theorem dL_test_354 : decode cL_test 354 = .ok (.new 32, 3) := by decide +kernel
theorem dL_test_357 : decode cL_test 357 = .ok (.dup, 1) := by decide +kernel
theorem dL_test_358 : decode cL_test 358 = .ok (.invokespecial 34, 3) := by decide +kernel
theorem dL_test_361 : decode cL_test 361 = .ok (.ldc 91, 2) := by decide +kernel
theorem dL_test_363 : decode cL_test 363 = .ok (.invokevirtual 37, 3) := by decide +kernel
theorem dL_test_366 : decode cL_test 366 = .ok (.aload_n 3, 1) := by decide +kernel
theorem dL_test_367 : decode cL_test 367 = .ok (.invokevirtual 37, 3) := by decide +kernel
theorem dL_test_370 : decode cL_test 370 = .ok (.ldc 93, 2) := by decide +kernel
theorem dL_test_372 : decode cL_test 372 = .ok (.invokevirtual 37, 3) := by decide +kernel
theorem dL_test_375 : decode cL_test 375 = .ok (.aload_n 2, 1) := by decide +kernel
theorem dL_test_376 : decode cL_test 376 = .ok (.invokevirtual 37, 3) := by decide +kernel
theorem dL_test_379 : decode cL_test 379 = .ok (.ldc 95, 2) := by decide +kernel
theorem dL_test_381 : decode cL_test 381 = .ok (.invokevirtual 37, 3) := by decide +kernel
theorem dL_test_384 : decode cL_test 384 = .ok (.aload_n 2, 1) := by decide +kernel
theorem dL_test_385 : decode cL_test 385 = .ok (.invokevirtual 37, 3) := by decide +kernel
theorem dL_test_388 : decode cL_test 388 = .ok (.ldc 97, 2) := by decide +kernel
theorem dL_test_390 : decode cL_test 390 = .ok (.invokevirtual 37, 3) := by decide +kernel
theorem dL_test_393 : decode cL_test 393 = .ok (.iload 5, 2) := by decide +kernel
theorem dL_test_395 : decode cL_test 395 = .ok (.bipush 20, 2) := by decide +kernel
theorem dL_test_397 : decode cL_test 397 = .ok (.irem, 1) := by decide +kernel
theorem dL_test_398 : decode cL_test 398 = .ok (.invokevirtual 47, 3) := by decide +kernel
theorem dL_test_401 : decode cL_test 401 = .ok (.ldc 73, 2) := by decide +kernel
theorem dL_test_403 : decode cL_test 403 = .ok (.invokevirtual 37, 3) := by decide +kernel
theorem dL_test_406 : decode cL_test 406 = .ok (.aload 4, 2) := by decide +kernel
theorem dL_test_408 : decode cL_test 408 = .ok (.invokevirtual 37, 3) := by decide +kernel
theorem dL_test_411 : decode cL_test 411 = .ok (.ldc 97, 2) := by decide +kernel
theorem dL_test_413 : decode cL_test 413 = .ok (.invokevirtual 37, 3) := by decide +kernel
theorem dL_test_416 : decode cL_test 416 = .ok (.iload 5, 2) := by decide +kernel
theorem dL_test_418 : decode cL_test 418 = .ok (.bipush 9, 2) := by decide +kernel
theorem dL_test_420 : decode cL_test 420 = .ok (.irem, 1) := by decide +kernel
theorem dL_test_421 : decode cL_test 421 = .ok (.invokevirtual 47, 3) := by decide +kernel
theorem dL_test_424 : decode cL_test 424 = .ok (.invokevirtual 50, 3) := by decide +kernel
theorem dL_test_427 : decode cL_test 427 = .ok (.areturn, 1) := by decide +kernel
theorem dL_test_428 : decode cL_test 428 = .ok (.ldc 99, 2) := by decide +kernel
theorem dL_test_430 : decode cL_test 430 = .ok (.areturn, 1) := by decide +kernel
set_option maxRecDepth 20000 in
theorem ggL_test_J4_init_da8c8 : GoodIn wsL_test wsJ4_init_da8c8 := goodIn_r _ [8, 9, 10, 11, 12, 13, 14, 15, 16, 17, 18, 19, 20, 21, 22, 23, 24, 25, 26, 27, 237, 238, 239, 240] (by decide +kernel) (by decide +kernel)
set_option maxRecDepth 20000 in
theorem gL_test_J4_init_da8c8 : GoodIn wsL_test (wsJ4_init_da8c8) := ggL_test_J4_init_da8c8
set_option maxRecDepth 20000 in
theorem ggL_test_J4_append_15ec4_c : GoodIn wsL_test [.code yJ4_append_15ec4 cJ4_append_15ec4 2 (some (.object "java/lang/StringBuilder"))] := goodIn_r _ [31] (by decide +kernel) (by decide +kernel)
set_option maxRecDepth 20000 in
theorem ggL_test_J4_append_15ec4_wsJ4_append_15ec4_r1 : GoodIn wsL_test wsJ4_append_15ec4_r1 := goodIn_r _ [32, 33, 34, 35, 11, 36, 37, 38, 39, 40, 41, 42, 18, 43, 44, 45, 46, 47, 19, 48, 49, 50, 51, 52] (by decide +kernel) (by decide +kernel)
set_option maxRecDepth 20000 in
theorem ggL_test_J4_append_15ec4_wsJ4_append_15ec4_r2 : GoodIn wsL_test wsJ4_append_15ec4_r2 := goodIn_r _ [53, 54, 55, 56, 57, 58, 59, 60, 61, 62, 63, 64, 65, 66, 67, 68, 69, 70, 71, 72, 73, 74, 75, 17] (by decide +kernel) (by decide +kernel)
set_option maxRecDepth 20000 in
theorem ggL_test_J4_append_15ec4_wsJ4_append_15ec4_r3 : GoodIn wsL_test wsJ4_append_15ec4_r3 := goodIn_r _ [76, 77, 78, 79, 80, 81, 82, 83, 84, 85, 86, 87, 16, 88, 89, 22, 90, 91, 92, 93, 94, 95, 96, 97] (by decide +kernel) (by decide +kernel)
set_option maxRecDepth 20000 in
theorem ggL_test_J4_append_15ec4_wsJ4_append_15ec4_r4 : GoodIn wsL_test wsJ4_append_15ec4_r4 := goodIn_r _ [98, 99, 100, 101, 102, 103, 104, 105, 106, 107, 108, 109, 110, 111, 112, 113, 114, 115, 116, 117, 118, 119, 120, 121] (by decide +kernel) (by decide +kernel)
set_option maxRecDepth 20000 in
theorem ggL_test_J4_append_15ec4_wsJ4_append_15ec4_r5 : GoodIn wsL_test wsJ4_append_15ec4_r5 := goodIn_r _ [122, 123, 124, 125, 126, 127, 128, 129, 130, 131, 132, 133, 134, 135, 136, 137, 138, 20, 21, 23, 24, 25, 26, 27] (by decide +kernel) (by decide +kernel)
set_option maxRecDepth 20000 in
theorem ggL_test_J4_append_15ec4_wsJ4_append_15ec4_r6 : GoodIn wsL_test wsJ4_append_15ec4_r6 := goodIn_r _ [139, 140, 141, 142, 143, 144, 145, 146, 147, 148, 149, 150, 151, 152, 153, 154, 155, 156, 157, 158, 159, 160] (by decide +kernel) (by decide +kernel)
set_option maxRecDepth 20000 in
theorem ggL_test_J4_append_15ec4_wsJ40 : GoodIn wsL_test wsJ40 := goodIn_sub (by decide +kernel) (by decide +kernel)
set_option maxRecDepth 20000 in
theorem ggL_test_J4_append_15ec4_wsJ00 : GoodIn wsL_test wsJ00 := goodIn_sub (by decide +kernel) (by decide +kernel)
set_option maxRecDepth 20000 in
theorem ggL_test_J4_append_15ec4 : GoodIn wsL_test wsJ4_append_15ec4 := goodIn_c1 ggL_test_J4_append_15ec4_c (goodIn_app (goodIn_app (goodIn_app ggL_test_J4_append_15ec4_wsJ4_append_15ec4_r1 (goodIn_app ggL_test_J4_append_15ec4_wsJ4_append_15ec4_r2 (goodIn_app ggL_test_J4_append_15ec4_wsJ4_append_15ec4_r3 (goodIn_app ggL_test_J4_append_15ec4_wsJ4_append_15ec4_r4 (goodIn_app ggL_test_J4_append_15ec4_wsJ4_append_15ec4_r5 ggL_test_J4_append_15ec4_wsJ4_append_15ec4_r6))))) ggL_test_J4_append_15ec4_wsJ40) ggL_test_J4_append_15ec4_wsJ00)
set_option maxRecDepth 20000 in
theorem gL_test_J4_append_15ec4 : GoodIn wsL_test (wsV RL 37 RJ4 yJ4_append_15ec4 wsJ4_append_15ec4) := goodIn_app (goodIn_of _ (by decide +kernel)) ggL_test_J4_append_15ec4
set_option maxRecDepth 20000 in
theorem ggL_test_J4_append_bf812 : GoodIn wsL_test wsJ4_append_bf812 := goodIn_2 24 (goodIn_r _ [164, 165, 166, 34, 167, 11, 168, 37, 18, 169, 170, 171, 172, 43, 44, 45, 46, 47, 19, 48, 49, 50, 51, 52] (by decide +kernel) (by decide +kernel)) (goodIn_2 24 (goodIn_r _ [53, 54, 55, 56, 57, 58, 59, 60, 61, 62, 63, 64, 65, 66, 67, 68, 69, 70, 71, 72, 73, 74, 75, 17] (by decide +kernel) (by decide +kernel)) (goodIn_2 24 (goodIn_r _ [76, 77, 78, 79, 80, 81, 82, 83, 84, 85, 86, 87, 16, 173, 174, 175, 176, 177, 178, 179, 22, 180, 91, 92] (by decide +kernel) (by decide +kernel)) (goodIn_2 24 (goodIn_r _ [93, 94, 95, 96, 97, 98, 99, 100, 101, 102, 103, 104, 105, 106, 181, 182, 183, 184, 185, 107, 108, 109, 110, 111] (by decide +kernel) (by decide +kernel)) (goodIn_r _ [237, 238, 239, 240] (by decide +kernel) (by decide +kernel)))))
set_option maxRecDepth 20000 in
theorem gL_test_J4_append_bf812 : GoodIn wsL_test (wsV RL 47 RJ4 yJ4_append_bf812 wsJ4_append_bf812) := goodIn_app (goodIn_of _ (by decide +kernel)) ggL_test_J4_append_bf812
set_option maxRecDepth 20000 in
theorem ggL_test_J4_toString_0e30d : GoodIn wsL_test wsJ4_toString_0e30d := goodIn_2 24 (goodIn_r _ [189, 190, 191, 100, 192, 193, 194, 195, 196, 197, 198, 14, 15, 122, 116, 121, 199, 200, 201, 202, 203, 11, 204, 18] (by decide +kernel) (by decide +kernel)) (goodIn_2 24 (goodIn_r _ [205, 206, 207, 208, 209, 3, 210, 211, 34, 212, 213, 37, 214, 84, 85, 86, 87, 16, 19, 215, 216, 68, 217, 70] (by decide +kernel) (by decide +kernel)) (goodIn_2 24 (goodIn_r _ [71, 72, 73, 74, 75, 218, 219, 220, 17, 76, 77, 60, 78, 79, 80, 81, 82, 221, 222, 223, 224, 225, 22, 226] (by decide +kernel) (by decide +kernel)) (goodIn_2 24 (goodIn_r _ [227, 228, 229, 146, 147, 148, 95, 96, 97, 149, 150, 151, 102, 152, 153, 105, 154, 230, 231, 232, 91, 110, 111, 24] (by decide +kernel) (by decide +kernel)) (goodIn_r _ [25, 26, 27, 233, 234, 235, 236, 261, 262, 263, 264, 237, 238, 239, 240] (by decide +kernel) (by decide +kernel)))))
set_option maxRecDepth 20000 in
theorem gL_test_J4_toString_0e30d : GoodIn wsL_test (wsV RL 50 RJ4 yJ4_toString_0e30d wsJ4_toString_0e30d) := goodIn_app (goodIn_of _ (by decide +kernel)) ggL_test_J4_toString_0e30d
theorem i_L_test_J4 : ∀ w ∈ u_ws RJ4 TJ4 4, w ∈ wsL_test := by decide +kernel
theorem k_L_test_cl32 : Cond.classLink RL 32 RJ4 ∈ wsL_test := by decide +kernel
theorem k_L_test_inJ4 : Cond.instantiable RJ4 4 ∈ wsL_test := by decide +kernel
theorem k_L_test_iiJ4 : Cond.initialized RJ4 ∈ wsL_test := by decide +kernel
theorem k_L_test_ml34 : Cond.methodLink RL 34 yJ4_init_da8c8 ∈ wsL_test := by decide +kernel
theorem k_L_test_imJ4_init_da8c8 : Cond.instanceMethod yJ4_init_da8c8 ∈ wsL_test := by decide +kernel
theorem k_L_test_f41 : Cond.fieldLink RL 41 "TideLotsLaw$Sim" "grounds" "I" ∈ wsL_test := by decide +kernel
theorem i_L_test_X12 : ∀ w ∈ u_ws RX12 TX12 20, w ∈ wsL_test := by decide +kernel
theorem k_L_test_f56 : Cond.fieldLink RL 56 "TideLotsLaw$Sim" "fishers" "I" ∈ wsL_test := by decide +kernel
abbrev rL_test : Room := { frames := 6, cells := 34, slots := 52896, locals := 171 }
noncomputable def b_L_test_0 (Z : Nat → Nat) (M : gMem) (x0 : Option Nat) (x1 : Option Nat) : Option (Option Nat × gMem) :=
  lw (nW M 13 0) fun M1 => bd (f_J4_init_da8c8 Z M1 ((mN M))) fun _ M2 => ck (mT M2 (mN M) = 13) <| bd (f_J4_append_15ec4_S Z M2 ((mN M)) 45) fun r3 M3 => dr x0 fun a5 => ck (mT M3 a5 = 20) <| ck (inb (3 : Int32) (mL M3 a5)) <| dr x1 fun a8 => ck (mT M3 a8 = 11) <| ck (¬ (mI M3 a8 0) = 0) <| dr r3 fun a12 => ck (mT M3 a12 = 13) <| bd (f_J4_append_bf812 Z M3 a12 (((mI M3 a5 ((3 : Int32)).toNatClampNeg) - (mI M3 a5 ((3 : Int32)).toNatClampNeg) / (mI M3 a8 0) * (mI M3 a8 0)))) fun r11 M11 => dr r11 fun a15 => ck (mT M11 a15 = 13) <| bd (f_J4_toString_0e30d Z M11 a15) fun r14 M14 => lw (nW M14 13 0) fun M17 => bd (f_J4_init_da8c8 Z M17 ((mN M14))) fun _ M18 => ck (mT M18 (mN M14) = 13) <| bd (f_J4_append_15ec4_S Z M18 ((mN M14)) 46) fun r19 M19 => ck (mT M19 a5 = 20) <| ck (inb (4 : Int32) (mL M19 a5)) <| ck (mT M19 a8 = 11) <| ck (¬ (mI M19 a8 1) = 0) <| dr r19 fun a26 => ck (mT M19 a26 = 13) <| bd (f_J4_append_bf812 Z M19 a26 (((mI M19 a5 ((4 : Int32)).toNatClampNeg) - (mI M19 a5 ((4 : Int32)).toNatClampNeg) / (mI M19 a8 1) * (mI M19 a8 1)))) fun r25 M25 => dr r25 fun a29 => ck (mT M25 a29 = 13) <| bd (f_J4_toString_0e30d Z M25 a29) fun r28 M28 => lw (nW M28 13 0) fun M31 => bd (f_J4_init_da8c8 Z M31 ((mN M28))) fun _ M32 => ck (mT M32 (mN M28) = 13) <| bd (f_J4_append_15ec4_S Z M32 ((mN M28)) 46) fun r33 M33 => ck (mT M33 a5 = 20) <| ck (inb (5 : Int32) (mL M33 a5)) <| ck (mT M33 a8 = 11) <| ck (¬ (mI M33 a8 1) = 0) <| dr r33 fun a40 => ck (mT M33 a40 = 13) <| bd (f_J4_append_bf812 Z M33 a40 (((mI M33 a5 ((5 : Int32)).toNatClampNeg) - (mI M33 a5 ((5 : Int32)).toNatClampNeg) / (mI M33 a8 1) * (mI M33 a8 1)))) fun r39 M39 => dr r39 fun a43 => ck (mT M39 a43 = 13) <| bd (f_J4_toString_0e30d Z M39 a43) fun r42 M42 => ck (mT M42 a5 = 20) <| ck (inb (6 : Int32) (mL M42 a5)) <| ck (inb (2 : Int32) (mL M42 a5)) <| (if (mI M42 a5 ((2 : Int32)).toNatClampNeg) = (1 : Int32) then lw (nW M42 13 0) fun M49 => bd (f_J4_init_da8c8 Z M49 ((mN M42))) fun _ M50 => ck (mT M50 (mN M42) = 13) <| bd (f_J4_append_15ec4_S Z M50 ((mN M42)) 47) fun r51 M51 => dr r51 fun a54 => ck (mT M51 a54 = 13) <| bd (f_J4_append_15ec4_r Z M51 a54 r14) fun r53 M53 => dr r53 fun a57 => ck (mT M53 a57 = 13) <| bd (f_J4_append_15ec4_S Z M53 a57 48) fun r56 M56 => dr r56 fun a60 => ck (mT M56 a60 = 13) <| bd (f_J4_append_bf812 Z M56 a60 ((mI M42 a5 ((6 : Int32)).toNatClampNeg))) fun r59 M59 => dr r59 fun a63 => ck (mT M59 a63 = 13) <| bd (f_J4_toString_0e30d Z M59 a63) fun r62 M62 => some (r62, M62) else (if (mI M42 a5 ((2 : Int32)).toNatClampNeg) = (2 : Int32) then lw (nW M42 13 0) fun M66 => bd (f_J4_init_da8c8 Z M66 ((mN M42))) fun _ M67 => ck (mT M67 (mN M42) = 13) <| bd (f_J4_append_15ec4_S Z M67 ((mN M42)) 49) fun r68 M68 => dr r68 fun a71 => ck (mT M68 a71 = 13) <| bd (f_J4_append_15ec4_r Z M68 a71 r14) fun r70 M70 => dr r70 fun a74 => ck (mT M70 a74 = 13) <| bd (f_J4_append_15ec4_S Z M70 a74 50) fun r73 M73 => dr r73 fun a77 => ck (mT M73 a77 = 13) <| bd (f_J4_append_bf812 Z M73 a77 (((mI M42 a5 ((6 : Int32)).toNatClampNeg) - (mI M42 a5 ((6 : Int32)).toNatClampNeg) / (4 : Int32) * (4 : Int32)))) fun r76 M76 => dr r76 fun a80 => ck (mT M76 a80 = 13) <| bd (f_J4_append_15ec4_S Z M76 a80 51) fun r79 M79 => dr r79 fun a83 => ck (mT M79 a83 = 13) <| bd (f_J4_append_bf812 Z M79 a83 (((mI M42 a5 ((6 : Int32)).toNatClampNeg) - (mI M42 a5 ((6 : Int32)).toNatClampNeg) / (7 : Int32) * (7 : Int32)))) fun r82 M82 => dr r82 fun a86 => ck (mT M82 a86 = 13) <| bd (f_J4_toString_0e30d Z M82 a86) fun r85 M85 => some (r85, M85) else (if (mI M42 a5 ((2 : Int32)).toNatClampNeg) = (3 : Int32) then lw (nW M42 13 0) fun M89 => bd (f_J4_init_da8c8 Z M89 ((mN M42))) fun _ M90 => ck (mT M90 (mN M42) = 13) <| bd (f_J4_append_15ec4_S Z M90 ((mN M42)) 52) fun r91 M91 => dr r91 fun a94 => ck (mT M91 a94 = 13) <| bd (f_J4_append_15ec4_r Z M91 a94 r28) fun r93 M93 => dr r93 fun a97 => ck (mT M93 a97 = 13) <| bd (f_J4_toString_0e30d Z M93 a97) fun r96 M96 => some (r96, M96) else (if (mI M42 a5 ((2 : Int32)).toNatClampNeg) = (4 : Int32) then lw (nW M42 13 0) fun M100 => bd (f_J4_init_da8c8 Z M100 ((mN M42))) fun _ M101 => ck (mT M101 (mN M42) = 13) <| bd (f_J4_append_15ec4_S Z M101 ((mN M42)) 53) fun r102 M102 => dr r102 fun a105 => ck (mT M102 a105 = 13) <| bd (f_J4_append_15ec4_r Z M102 a105 r28) fun r104 M104 => dr r104 fun a108 => ck (mT M104 a108 = 13) <| bd (f_J4_append_15ec4_S Z M104 a108 50) fun r107 M107 => dr r107 fun a111 => ck (mT M107 a111 = 13) <| bd (f_J4_append_bf812 Z M107 a111 ((mI M42 a5 ((6 : Int32)).toNatClampNeg))) fun r110 M110 => dr r110 fun a114 => ck (mT M110 a114 = 13) <| bd (f_J4_append_15ec4_S Z M110 a114 54) fun r113 M113 => dr r113 fun a117 => ck (mT M113 a117 = 13) <| bd (f_J4_append_15ec4_r Z M113 a117 r42) fun r116 M116 => dr r116 fun a120 => ck (mT M116 a120 = 13) <| bd (f_J4_append_15ec4_S Z M116 a120 55) fun r119 M119 => dr r119 fun a123 => ck (mT M119 a123 = 13) <| bd (f_J4_toString_0e30d Z M119 a123) fun r122 M122 => some (r122, M122) else (if (mI M42 a5 ((2 : Int32)).toNatClampNeg) = (5 : Int32) then lw (nW M42 13 0) fun M126 => bd (f_J4_init_da8c8 Z M126 ((mN M42))) fun _ M127 => ck (mT M127 (mN M42) = 13) <| bd (f_J4_append_15ec4_S Z M127 ((mN M42)) 56) fun r128 M128 => dr r128 fun a131 => ck (mT M128 a131 = 13) <| bd (f_J4_append_15ec4_r Z M128 a131 r28) fun r130 M130 => dr r130 fun a134 => ck (mT M130 a134 = 13) <| bd (f_J4_append_15ec4_S Z M130 a134 57) fun r133 M133 => dr r133 fun a137 => ck (mT M133 a137 = 13) <| bd (f_J4_append_bf812 Z M133 a137 (((mI M42 a5 ((6 : Int32)).toNatClampNeg) - (mI M42 a5 ((6 : Int32)).toNatClampNeg) / (5 : Int32) * (5 : Int32)))) fun r136 M136 => dr r136 fun a140 => ck (mT M136 a140 = 13) <| bd (f_J4_append_15ec4_S Z M136 a140 58) fun r139 M139 => dr r139 fun a143 => ck (mT M139 a143 = 13) <| bd (f_J4_toString_0e30d Z M139 a143) fun r142 M142 => some (r142, M142) else (if (mI M42 a5 ((2 : Int32)).toNatClampNeg) = (6 : Int32) then lw (nW M42 13 0) fun M146 => bd (f_J4_init_da8c8 Z M146 ((mN M42))) fun _ M147 => ck (mT M147 (mN M42) = 13) <| bd (f_J4_append_15ec4_S Z M147 ((mN M42)) 59) fun r148 M148 => dr r148 fun a151 => ck (mT M148 a151 = 13) <| bd (f_J4_append_15ec4_r Z M148 a151 r28) fun r150 M150 => dr r150 fun a154 => ck (mT M150 a154 = 13) <| bd (f_J4_append_15ec4_S Z M150 a154 60) fun r153 M153 => dr r153 fun a157 => ck (mT M153 a157 = 13) <| bd (f_J4_append_15ec4_r Z M153 a157 r42) fun r156 M156 => dr r156 fun a160 => ck (mT M156 a160 = 13) <| bd (f_J4_append_15ec4_S Z M156 a160 61) fun r159 M159 => dr r159 fun a163 => ck (mT M159 a163 = 13) <| bd (f_J4_append_bf812 Z M159 a163 ((mI M42 a5 ((6 : Int32)).toNatClampNeg))) fun r162 M162 => dr r162 fun a166 => ck (mT M162 a166 = 13) <| bd (f_J4_append_15ec4_S Z M162 a166 62) fun r165 M165 => dr r165 fun a169 => ck (mT M165 a169 = 13) <| bd (f_J4_toString_0e30d Z M165 a169) fun r168 M168 => some (r168, M168) else (if (mI M42 a5 ((2 : Int32)).toNatClampNeg) = (7 : Int32) then lw (nW M42 13 0) fun M172 => bd (f_J4_init_da8c8 Z M172 ((mN M42))) fun _ M173 => ck (mT M173 (mN M42) = 13) <| bd (f_J4_append_15ec4_S Z M173 ((mN M42)) 63) fun r174 M174 => dr r174 fun a177 => ck (mT M174 a177 = 13) <| bd (f_J4_append_15ec4_r Z M174 a177 r28) fun r176 M176 => dr r176 fun a180 => ck (mT M176 a180 = 13) <| bd (f_J4_append_15ec4_S Z M176 a180 64) fun r179 M179 => dr r179 fun a183 => ck (mT M179 a183 = 13) <| bd (f_J4_append_15ec4_r Z M179 a183 r14) fun r182 M182 => dr r182 fun a186 => ck (mT M182 a186 = 13) <| bd (f_J4_append_15ec4_S Z M182 a186 65) fun r185 M185 => dr r185 fun a189 => ck (mT M185 a189 = 13) <| bd (f_J4_append_15ec4_r Z M185 a189 r14) fun r188 M188 => dr r188 fun a192 => ck (mT M188 a192 = 13) <| bd (f_J4_append_15ec4_S Z M188 a192 66) fun r191 M191 => dr r191 fun a195 => ck (mT M191 a195 = 13) <| bd (f_J4_append_bf812 Z M191 a195 (((mI M42 a5 ((6 : Int32)).toNatClampNeg) - (mI M42 a5 ((6 : Int32)).toNatClampNeg) / (20 : Int32) * (20 : Int32)))) fun r194 M194 => dr r194 fun a198 => ck (mT M194 a198 = 13) <| bd (f_J4_append_15ec4_S Z M194 a198 54) fun r197 M197 => dr r197 fun a201 => ck (mT M197 a201 = 13) <| bd (f_J4_append_15ec4_r Z M197 a201 r42) fun r200 M200 => dr r200 fun a204 => ck (mT M200 a204 = 13) <| bd (f_J4_append_15ec4_S Z M200 a204 66) fun r203 M203 => dr r203 fun a207 => ck (mT M203 a207 = 13) <| bd (f_J4_append_bf812 Z M203 a207 (((mI M42 a5 ((6 : Int32)).toNatClampNeg) - (mI M42 a5 ((6 : Int32)).toNatClampNeg) / (9 : Int32) * (9 : Int32)))) fun r206 M206 => dr r206 fun a210 => ck (mT M206 a210 = 13) <| bd (f_J4_toString_0e30d Z M206 a210) fun r209 M209 => some (r209, M209) else some ((some (Z (100 + 67))), M42))))))))
noncomputable def f_L_test (Z : Nat → Nat) (M : gMem) (x0 : Option Nat) (x1 : Option Nat) : Option (Option Nat × gMem) :=
  b_L_test_0 Z M x0 x1
set_option maxHeartbeats 4000000 in
set_option maxRecDepth 100000 in
theorem t_L_test_0 (X2 : gX p s m args meth c D cy B (gSt2 Z B H0) RL cL_test wsL_test 6) (hr : meth.sig.returnType = (some (.object "java/lang/String"))) {Q : State → Prop} : ∀ (M : gMem) (x0 : Option Nat) (x1 : Option Nat) (z : Option Nat × gMem), b_L_test_0 Z M x0 x1 = some z → (fun (r : Option Nat × gMem) => Q = gMQ below D cy B H0 args s 34 52896 (some (vR r.1)) r.2) z → gGo p l e rL_test s m args below meth c D cy B H0 6 0 0 Q 0 [(0, vR x0), (1, vR x1)] [] M := by
  intro M x0 x1 z hf hK
  unfold b_L_test_0 at hf
  have X := gX_w X2
  refine g_new (ci := 12) X cdJ4 i_L_test_J4 k_L_test_cl32 k_L_test_inJ4 k_L_test_iiJ4 (by intro i hi; rcases (show i = 0 ∨ i = 1 ∨ i = 2 ∨ i = 3 by omega) with rfl | rfl | rfl | rfl <;> rfl) ⟨by decide, by decide⟩ dL_test_0 ?_
  obtain ⟨M1, hM1, hf⟩ := lw_e hf
  rw [← hM1]
  refine g_dup X dL_test_3 rfl ?_
  obtain ⟨r2, M2, hq2, hf⟩ := bd_e hf
  refine g_callI (b := (mN M)) (As := []) (st := [vR (some (mN M))]) (M1 := M2) X (m_J4_init_da8c8 l hq2) (cwI 0 X.2.2.1 gL_test_J4_init_da8c8 rfl rfl rfl (X.2.2.1 _ k_L_test_iiJ4) (X.2.2.1 _ k_L_test_ml34) (X.2.2.1 _ k_L_test_imJ4_init_da8c8) rfl (by decide +kernel) ⟨Nat.le_of_ble_eq_true rfl, Nat.le_of_ble_eq_true rfl⟩) rfl rfl rfl (Nat.le_of_ble_eq_true rfl) dL_test_4 ⟨by decide, by decide⟩ ?_
  refine g_lds (q := Z (100 + 45)) X (gSt2_lit X2 (35, "g", 45) (by decide +kernel)) dL_test_7 ?_
  obtain ⟨hT4, hf⟩ := ck_e hf
  obtain ⟨r3, M3, hq3, hf⟩ := bd_e hf
  refine g_callV (ci := 12) (b := (mN M)) (As := [vR (some (Z (100 + 45)))]) (st := []) (v := some (vR r3)) (M1 := M3) X2 (m_J4_append_15ec4_S l hq3) (cwV 1 X.2.2.1 gL_test_J4_append_15ec4 rfl rfl rfl (by decide +kernel) ⟨Nat.le_of_ble_eq_true rfl, Nat.le_of_ble_eq_true rfl⟩) rfl rfl rfl hT4 (by decide) rfl (Nat.le_of_ble_eq_true rfl) dL_test_9 ⟨by decide, by decide⟩ ?_
  refine g_aload_n X dL_test_12 rfl rfl ?_
  refine g_iconst (v := (3 : Int32)) X dL_test_13 (by decide) ?_
  obtain ⟨a5, ha5, hf⟩ := dr_e hf
  obtain ⟨hT6, hf⟩ := ck_e hf
  obtain ⟨hg7, hf⟩ := ck_e hf
  refine g_iald X dL_test_14 ha5 hT6 hg7 ?_
  refine g_aload_n X dL_test_15 rfl rfl ?_
  obtain ⟨a8, ha8, hf⟩ := dr_e hf
  obtain ⟨hT9, hf⟩ := ck_e hf
  refine g_get (ci := 10) (v := vI (mI M3 a8 0)) 0 X cdX12 i_L_test_X12 (by decide) k_L_test_f41 rfl dL_test_16 ha8 hT9 rfl ?_
  obtain ⟨hg10, hf⟩ := ck_e hf
  refine g_irem X dL_test_19 hg10 ?_
  obtain ⟨a12, ha12, hf⟩ := dr_e hf
  obtain ⟨hT13, hf⟩ := ck_e hf
  obtain ⟨r11, M11, hq11, hf⟩ := bd_e hf
  refine g_callV (ci := 12) (b := a12) (As := [vI ((mI M3 a5 ((3 : Int32)).toNatClampNeg) - (mI M3 a5 ((3 : Int32)).toNatClampNeg) / (mI M3 a8 0) * (mI M3 a8 0))]) (st := []) (v := some (vR r11)) (M1 := M11) X2 (m_J4_append_bf812 l hq11) (cwV 1 X.2.2.1 gL_test_J4_append_bf812 rfl rfl rfl (by decide +kernel) ⟨Nat.le_of_ble_eq_true rfl, Nat.le_of_ble_eq_true rfl⟩) rfl rfl ha12 hT13 (by decide) rfl (Nat.le_of_ble_eq_true rfl) dL_test_20 ⟨by decide, by decide⟩ ?_
  obtain ⟨a15, ha15, hf⟩ := dr_e hf
  obtain ⟨hT16, hf⟩ := ck_e hf
  obtain ⟨r14, M14, hq14, hf⟩ := bd_e hf
  refine g_callV (ci := 12) (b := a15) (As := []) (st := []) (v := some (vR r14)) (M1 := M14) X2 (m_J4_toString_0e30d l hq14) (cwV 0 X.2.2.1 gL_test_J4_toString_0e30d rfl rfl rfl (by decide +kernel) ⟨Nat.le_of_ble_eq_true rfl, Nat.le_of_ble_eq_true rfl⟩) rfl rfl ha15 hT16 (by decide) rfl (Nat.le_of_ble_eq_true rfl) dL_test_23 ⟨by decide, by decide⟩ ?_
  refine g_astore_n (lv' := [(2, vR r14), (0, vR x0), (1, vR x1)]) X dL_test_26 rfl (by decide) rfl ?_
  refine g_new (ci := 12) X cdJ4 i_L_test_J4 k_L_test_cl32 k_L_test_inJ4 k_L_test_iiJ4 (by intro i hi; rcases (show i = 0 ∨ i = 1 ∨ i = 2 ∨ i = 3 by omega) with rfl | rfl | rfl | rfl <;> rfl) ⟨by decide, by decide⟩ dL_test_27 ?_
  obtain ⟨M17, hM17, hf⟩ := lw_e hf
  rw [← hM17]
  refine g_dup X dL_test_30 rfl ?_
  obtain ⟨r18, M18, hq18, hf⟩ := bd_e hf
  refine g_callI (b := (mN M14)) (As := []) (st := [vR (some (mN M14))]) (M1 := M18) X (m_J4_init_da8c8 l hq18) (cwI 0 X.2.2.1 gL_test_J4_init_da8c8 rfl rfl rfl (X.2.2.1 _ k_L_test_iiJ4) (X.2.2.1 _ k_L_test_ml34) (X.2.2.1 _ k_L_test_imJ4_init_da8c8) rfl (by decide +kernel) ⟨Nat.le_of_ble_eq_true rfl, Nat.le_of_ble_eq_true rfl⟩) rfl rfl rfl (Nat.le_of_ble_eq_true rfl) dL_test_31 ⟨by decide, by decide⟩ ?_
  refine g_lds (q := Z (100 + 46)) X (gSt2_lit X2 (54, "f", 46) (by decide +kernel)) dL_test_34 ?_
  obtain ⟨hT20, hf⟩ := ck_e hf
  obtain ⟨r19, M19, hq19, hf⟩ := bd_e hf
  refine g_callV (ci := 12) (b := (mN M14)) (As := [vR (some (Z (100 + 46)))]) (st := []) (v := some (vR r19)) (M1 := M19) X2 (m_J4_append_15ec4_S l hq19) (cwV 1 X.2.2.1 gL_test_J4_append_15ec4 rfl rfl rfl (by decide +kernel) ⟨Nat.le_of_ble_eq_true rfl, Nat.le_of_ble_eq_true rfl⟩) rfl rfl rfl hT20 (by decide) rfl (Nat.le_of_ble_eq_true rfl) dL_test_36 ⟨by decide, by decide⟩ ?_
  refine g_aload_n X dL_test_39 rfl rfl ?_
  refine g_iconst (v := (4 : Int32)) X dL_test_40 (by decide) ?_
  obtain ⟨hT21, hf⟩ := ck_e hf
  obtain ⟨hg22, hf⟩ := ck_e hf
  refine g_iald X dL_test_41 ha5 hT21 hg22 ?_
  refine g_aload_n X dL_test_42 rfl rfl ?_
  obtain ⟨hT23, hf⟩ := ck_e hf
  refine g_get (ci := 10) (v := vI (mI M19 a8 1)) 1 X cdX12 i_L_test_X12 (by decide) k_L_test_f56 rfl dL_test_43 ha8 hT23 rfl ?_
  obtain ⟨hg24, hf⟩ := ck_e hf
  refine g_irem X dL_test_46 hg24 ?_
  obtain ⟨a26, ha26, hf⟩ := dr_e hf
  obtain ⟨hT27, hf⟩ := ck_e hf
  obtain ⟨r25, M25, hq25, hf⟩ := bd_e hf
  refine g_callV (ci := 12) (b := a26) (As := [vI ((mI M19 a5 ((4 : Int32)).toNatClampNeg) - (mI M19 a5 ((4 : Int32)).toNatClampNeg) / (mI M19 a8 1) * (mI M19 a8 1))]) (st := []) (v := some (vR r25)) (M1 := M25) X2 (m_J4_append_bf812 l hq25) (cwV 1 X.2.2.1 gL_test_J4_append_bf812 rfl rfl rfl (by decide +kernel) ⟨Nat.le_of_ble_eq_true rfl, Nat.le_of_ble_eq_true rfl⟩) rfl rfl ha26 hT27 (by decide) rfl (Nat.le_of_ble_eq_true rfl) dL_test_47 ⟨by decide, by decide⟩ ?_
  obtain ⟨a29, ha29, hf⟩ := dr_e hf
  obtain ⟨hT30, hf⟩ := ck_e hf
  obtain ⟨r28, M28, hq28, hf⟩ := bd_e hf
  refine g_callV (ci := 12) (b := a29) (As := []) (st := []) (v := some (vR r28)) (M1 := M28) X2 (m_J4_toString_0e30d l hq28) (cwV 0 X.2.2.1 gL_test_J4_toString_0e30d rfl rfl rfl (by decide +kernel) ⟨Nat.le_of_ble_eq_true rfl, Nat.le_of_ble_eq_true rfl⟩) rfl rfl ha29 hT30 (by decide) rfl (Nat.le_of_ble_eq_true rfl) dL_test_50 ⟨by decide, by decide⟩ ?_
  refine g_astore_n (lv' := [(3, vR r28), (2, vR r14), (0, vR x0), (1, vR x1)]) X dL_test_53 rfl (by decide) rfl ?_
  refine g_new (ci := 12) X cdJ4 i_L_test_J4 k_L_test_cl32 k_L_test_inJ4 k_L_test_iiJ4 (by intro i hi; rcases (show i = 0 ∨ i = 1 ∨ i = 2 ∨ i = 3 by omega) with rfl | rfl | rfl | rfl <;> rfl) ⟨by decide, by decide⟩ dL_test_54 ?_
  obtain ⟨M31, hM31, hf⟩ := lw_e hf
  rw [← hM31]
  refine g_dup X dL_test_57 rfl ?_
  obtain ⟨r32, M32, hq32, hf⟩ := bd_e hf
  refine g_callI (b := (mN M28)) (As := []) (st := [vR (some (mN M28))]) (M1 := M32) X (m_J4_init_da8c8 l hq32) (cwI 0 X.2.2.1 gL_test_J4_init_da8c8 rfl rfl rfl (X.2.2.1 _ k_L_test_iiJ4) (X.2.2.1 _ k_L_test_ml34) (X.2.2.1 _ k_L_test_imJ4_init_da8c8) rfl (by decide +kernel) ⟨Nat.le_of_ble_eq_true rfl, Nat.le_of_ble_eq_true rfl⟩) rfl rfl rfl (Nat.le_of_ble_eq_true rfl) dL_test_58 ⟨by decide, by decide⟩ ?_
  refine g_lds (q := Z (100 + 46)) X (gSt2_lit X2 (54, "f", 46) (by decide +kernel)) dL_test_61 ?_
  obtain ⟨hT34, hf⟩ := ck_e hf
  obtain ⟨r33, M33, hq33, hf⟩ := bd_e hf
  refine g_callV (ci := 12) (b := (mN M28)) (As := [vR (some (Z (100 + 46)))]) (st := []) (v := some (vR r33)) (M1 := M33) X2 (m_J4_append_15ec4_S l hq33) (cwV 1 X.2.2.1 gL_test_J4_append_15ec4 rfl rfl rfl (by decide +kernel) ⟨Nat.le_of_ble_eq_true rfl, Nat.le_of_ble_eq_true rfl⟩) rfl rfl rfl hT34 (by decide) rfl (Nat.le_of_ble_eq_true rfl) dL_test_63 ⟨by decide, by decide⟩ ?_
  refine g_aload_n X dL_test_66 rfl rfl ?_
  refine g_iconst (v := (5 : Int32)) X dL_test_67 (by decide) ?_
  obtain ⟨hT35, hf⟩ := ck_e hf
  obtain ⟨hg36, hf⟩ := ck_e hf
  refine g_iald X dL_test_68 ha5 hT35 hg36 ?_
  refine g_aload_n X dL_test_69 rfl rfl ?_
  obtain ⟨hT37, hf⟩ := ck_e hf
  refine g_get (ci := 10) (v := vI (mI M33 a8 1)) 1 X cdX12 i_L_test_X12 (by decide) k_L_test_f56 rfl dL_test_70 ha8 hT37 rfl ?_
  obtain ⟨hg38, hf⟩ := ck_e hf
  refine g_irem X dL_test_73 hg38 ?_
  obtain ⟨a40, ha40, hf⟩ := dr_e hf
  obtain ⟨hT41, hf⟩ := ck_e hf
  obtain ⟨r39, M39, hq39, hf⟩ := bd_e hf
  refine g_callV (ci := 12) (b := a40) (As := [vI ((mI M33 a5 ((5 : Int32)).toNatClampNeg) - (mI M33 a5 ((5 : Int32)).toNatClampNeg) / (mI M33 a8 1) * (mI M33 a8 1))]) (st := []) (v := some (vR r39)) (M1 := M39) X2 (m_J4_append_bf812 l hq39) (cwV 1 X.2.2.1 gL_test_J4_append_bf812 rfl rfl rfl (by decide +kernel) ⟨Nat.le_of_ble_eq_true rfl, Nat.le_of_ble_eq_true rfl⟩) rfl rfl ha40 hT41 (by decide) rfl (Nat.le_of_ble_eq_true rfl) dL_test_74 ⟨by decide, by decide⟩ ?_
  obtain ⟨a43, ha43, hf⟩ := dr_e hf
  obtain ⟨hT44, hf⟩ := ck_e hf
  obtain ⟨r42, M42, hq42, hf⟩ := bd_e hf
  refine g_callV (ci := 12) (b := a43) (As := []) (st := []) (v := some (vR r42)) (M1 := M42) X2 (m_J4_toString_0e30d l hq42) (cwV 0 X.2.2.1 gL_test_J4_toString_0e30d rfl rfl rfl (by decide +kernel) ⟨Nat.le_of_ble_eq_true rfl, Nat.le_of_ble_eq_true rfl⟩) rfl rfl ha43 hT44 (by decide) rfl (Nat.le_of_ble_eq_true rfl) dL_test_77 ⟨by decide, by decide⟩ ?_
  refine g_astore (lv' := [(4, vR r42), (3, vR r28), (2, vR r14), (0, vR x0), (1, vR x1)]) X dL_test_80 (by decide) rfl ?_
  refine g_aload_n X dL_test_82 rfl rfl ?_
  refine g_bipush (v := (6 : Int32)) X dL_test_83 (by decide) ?_
  obtain ⟨hT45, hf⟩ := ck_e hf
  obtain ⟨hg46, hf⟩ := ck_e hf
  refine g_iald X dL_test_85 ha5 hT45 hg46 ?_
  refine g_istore (lv' := [(5, vI (mI M42 a5 ((6 : Int32)).toNatClampNeg)), (4, vR r42), (3, vR r28), (2, vR r14), (0, vR x0), (1, vR x1)]) X dL_test_86 (by decide) rfl ?_
  refine g_aload_n X dL_test_88 rfl rfl ?_
  refine g_iconst (v := (2 : Int32)) X dL_test_89 (by decide) ?_
  obtain ⟨hg47, hf⟩ := ck_e hf
  refine g_iald X dL_test_90 ha5 hT45 hg47 ?_
  by_cases hs48 : (mI M42 a5 ((2 : Int32)).toNatClampNeg) = (1 : Int32)
  · have hf := ife_t hs48 hf
    refine g_tabin (tgt := 132) X dL_test_91 hs48 (by decide) (by decide) rfl (by decide) ?_
    refine g_new (ci := 12) X cdJ4 i_L_test_J4 k_L_test_cl32 k_L_test_inJ4 k_L_test_iiJ4 (by intro i hi; rcases (show i = 0 ∨ i = 1 ∨ i = 2 ∨ i = 3 by omega) with rfl | rfl | rfl | rfl <;> rfl) ⟨by decide, by decide⟩ dL_test_132 ?_
    obtain ⟨M49, hM49, hf⟩ := lw_e hf
    rw [← hM49]
    refine g_dup X dL_test_135 rfl ?_
    obtain ⟨r50, M50, hq50, hf⟩ := bd_e hf
    refine g_callI (b := (mN M42)) (As := []) (st := [vR (some (mN M42))]) (M1 := M50) X (m_J4_init_da8c8 l hq50) (cwI 0 X.2.2.1 gL_test_J4_init_da8c8 rfl rfl rfl (X.2.2.1 _ k_L_test_iiJ4) (X.2.2.1 _ k_L_test_ml34) (X.2.2.1 _ k_L_test_imJ4_init_da8c8) rfl (by decide +kernel) ⟨Nat.le_of_ble_eq_true rfl, Nat.le_of_ble_eq_true rfl⟩) rfl rfl rfl (Nat.le_of_ble_eq_true rfl) dL_test_136 ⟨by decide, by decide⟩ ?_
    refine g_lds (q := Z (100 + 47)) X (gSt2_lit X2 (59, " when fish ", 47) (by decide +kernel)) dL_test_139 ?_
    obtain ⟨hT52, hf⟩ := ck_e hf
    obtain ⟨r51, M51, hq51, hf⟩ := bd_e hf
    refine g_callV (ci := 12) (b := (mN M42)) (As := [vR (some (Z (100 + 47)))]) (st := []) (v := some (vR r51)) (M1 := M51) X2 (m_J4_append_15ec4_S l hq51) (cwV 1 X.2.2.1 gL_test_J4_append_15ec4 rfl rfl rfl (by decide +kernel) ⟨Nat.le_of_ble_eq_true rfl, Nat.le_of_ble_eq_true rfl⟩) rfl rfl rfl hT52 (by decide) rfl (Nat.le_of_ble_eq_true rfl) dL_test_141 ⟨by decide, by decide⟩ ?_
    refine g_aload_n X dL_test_144 rfl rfl ?_
    obtain ⟨a54, ha54, hf⟩ := dr_e hf
    obtain ⟨hT55, hf⟩ := ck_e hf
    obtain ⟨r53, M53, hq53, hf⟩ := bd_e hf
    refine g_callV (ci := 12) (b := a54) (As := [vR r14]) (st := []) (v := some (vR r53)) (M1 := M53) X2 (m_J4_append_15ec4_r l hq53) (cwV 1 X.2.2.1 gL_test_J4_append_15ec4 rfl rfl rfl (by decide +kernel) ⟨Nat.le_of_ble_eq_true rfl, Nat.le_of_ble_eq_true rfl⟩) rfl rfl ha54 hT55 (by decide) rfl (Nat.le_of_ble_eq_true rfl) dL_test_145 ⟨by decide, by decide⟩ ?_
    refine g_lds (q := Z (100 + 48)) X (gSt2_lit X2 (61, ">=", 48) (by decide +kernel)) dL_test_148 ?_
    obtain ⟨a57, ha57, hf⟩ := dr_e hf
    obtain ⟨hT58, hf⟩ := ck_e hf
    obtain ⟨r56, M56, hq56, hf⟩ := bd_e hf
    refine g_callV (ci := 12) (b := a57) (As := [vR (some (Z (100 + 48)))]) (st := []) (v := some (vR r56)) (M1 := M56) X2 (m_J4_append_15ec4_S l hq56) (cwV 1 X.2.2.1 gL_test_J4_append_15ec4 rfl rfl rfl (by decide +kernel) ⟨Nat.le_of_ble_eq_true rfl, Nat.le_of_ble_eq_true rfl⟩) rfl rfl ha57 hT58 (by decide) rfl (Nat.le_of_ble_eq_true rfl) dL_test_150 ⟨by decide, by decide⟩ ?_
    refine g_iload X dL_test_153 rfl ?_
    obtain ⟨a60, ha60, hf⟩ := dr_e hf
    obtain ⟨hT61, hf⟩ := ck_e hf
    obtain ⟨r59, M59, hq59, hf⟩ := bd_e hf
    refine g_callV (ci := 12) (b := a60) (As := [vI (mI M42 a5 ((6 : Int32)).toNatClampNeg)]) (st := []) (v := some (vR r59)) (M1 := M59) X2 (m_J4_append_bf812 l hq59) (cwV 1 X.2.2.1 gL_test_J4_append_bf812 rfl rfl rfl (by decide +kernel) ⟨Nat.le_of_ble_eq_true rfl, Nat.le_of_ble_eq_true rfl⟩) rfl rfl ha60 hT61 (by decide) rfl (Nat.le_of_ble_eq_true rfl) dL_test_155 ⟨by decide, by decide⟩ ?_
    obtain ⟨a63, ha63, hf⟩ := dr_e hf
    obtain ⟨hT64, hf⟩ := ck_e hf
    obtain ⟨r62, M62, hq62, hf⟩ := bd_e hf
    refine g_callV (ci := 12) (b := a63) (As := []) (st := []) (v := some (vR r62)) (M1 := M62) X2 (m_J4_toString_0e30d l hq62) (cwV 0 X.2.2.1 gL_test_J4_toString_0e30d rfl rfl rfl (by decide +kernel) ⟨Nat.le_of_ble_eq_true rfl, Nat.le_of_ble_eq_true rfl⟩) rfl rfl ha63 hT64 (by decide) rfl (Nat.le_of_ble_eq_true rfl) dL_test_158 ⟨by decide, by decide⟩ ?_
    cases hf
    refine g_eqQ hK ?_
    refine g_wide (k' := 34) (n' := 52896) (by decide) (by decide) ?_
    exact g_aret X hr (Or.inl ⟨_, rfl⟩) dL_test_161
  · have hf := ife_f hs48 hf
    by_cases hs65 : (mI M42 a5 ((2 : Int32)).toNatClampNeg) = (2 : Int32)
    · have hf := ife_t hs65 hf
      refine g_tabin (tgt := 162) X dL_test_91 hs65 (by decide) (by decide) rfl (by decide) ?_
      refine g_new (ci := 12) X cdJ4 i_L_test_J4 k_L_test_cl32 k_L_test_inJ4 k_L_test_iiJ4 (by intro i hi; rcases (show i = 0 ∨ i = 1 ∨ i = 2 ∨ i = 3 by omega) with rfl | rfl | rfl | rfl <;> rfl) ⟨by decide, by decide⟩ dL_test_162 ?_
      obtain ⟨M66, hM66, hf⟩ := lw_e hf
      rw [← hM66]
      refine g_dup X dL_test_165 rfl ?_
      obtain ⟨r67, M67, hq67, hf⟩ := bd_e hf
      refine g_callI (b := (mN M42)) (As := []) (st := [vR (some (mN M42))]) (M1 := M67) X (m_J4_init_da8c8 l hq67) (cwI 0 X.2.2.1 gL_test_J4_init_da8c8 rfl rfl rfl (X.2.2.1 _ k_L_test_iiJ4) (X.2.2.1 _ k_L_test_ml34) (X.2.2.1 _ k_L_test_imJ4_init_da8c8) rfl (by decide +kernel) ⟨Nat.le_of_ble_eq_true rfl, Nat.le_of_ble_eq_true rfl⟩) rfl rfl rfl (Nat.le_of_ble_eq_true rfl) dL_test_166 ⟨by decide, by decide⟩ ?_
      refine g_lds (q := Z (100 + 49)) X (gSt2_lit X2 (63, " when boats ", 49) (by decide +kernel)) dL_test_169 ?_
      obtain ⟨hT69, hf⟩ := ck_e hf
      obtain ⟨r68, M68, hq68, hf⟩ := bd_e hf
      refine g_callV (ci := 12) (b := (mN M42)) (As := [vR (some (Z (100 + 49)))]) (st := []) (v := some (vR r68)) (M1 := M68) X2 (m_J4_append_15ec4_S l hq68) (cwV 1 X.2.2.1 gL_test_J4_append_15ec4 rfl rfl rfl (by decide +kernel) ⟨Nat.le_of_ble_eq_true rfl, Nat.le_of_ble_eq_true rfl⟩) rfl rfl rfl hT69 (by decide) rfl (Nat.le_of_ble_eq_true rfl) dL_test_171 ⟨by decide, by decide⟩ ?_
      refine g_aload_n X dL_test_174 rfl rfl ?_
      obtain ⟨a71, ha71, hf⟩ := dr_e hf
      obtain ⟨hT72, hf⟩ := ck_e hf
      obtain ⟨r70, M70, hq70, hf⟩ := bd_e hf
      refine g_callV (ci := 12) (b := a71) (As := [vR r14]) (st := []) (v := some (vR r70)) (M1 := M70) X2 (m_J4_append_15ec4_r l hq70) (cwV 1 X.2.2.1 gL_test_J4_append_15ec4 rfl rfl rfl (by decide +kernel) ⟨Nat.le_of_ble_eq_true rfl, Nat.le_of_ble_eq_true rfl⟩) rfl rfl ha71 hT72 (by decide) rfl (Nat.le_of_ble_eq_true rfl) dL_test_175 ⟨by decide, by decide⟩ ?_
      refine g_lds (q := Z (100 + 50)) X (gSt2_lit X2 (65, "<", 50) (by decide +kernel)) dL_test_178 ?_
      obtain ⟨a74, ha74, hf⟩ := dr_e hf
      obtain ⟨hT75, hf⟩ := ck_e hf
      obtain ⟨r73, M73, hq73, hf⟩ := bd_e hf
      refine g_callV (ci := 12) (b := a74) (As := [vR (some (Z (100 + 50)))]) (st := []) (v := some (vR r73)) (M1 := M73) X2 (m_J4_append_15ec4_S l hq73) (cwV 1 X.2.2.1 gL_test_J4_append_15ec4 rfl rfl rfl (by decide +kernel) ⟨Nat.le_of_ble_eq_true rfl, Nat.le_of_ble_eq_true rfl⟩) rfl rfl ha74 hT75 (by decide) rfl (Nat.le_of_ble_eq_true rfl) dL_test_180 ⟨by decide, by decide⟩ ?_
      refine g_iload X dL_test_183 rfl ?_
      refine g_iconst (v := (4 : Int32)) X dL_test_185 (by decide) ?_
      refine g_irem X dL_test_186 (by decide) ?_
      obtain ⟨a77, ha77, hf⟩ := dr_e hf
      obtain ⟨hT78, hf⟩ := ck_e hf
      obtain ⟨r76, M76, hq76, hf⟩ := bd_e hf
      refine g_callV (ci := 12) (b := a77) (As := [vI ((mI M42 a5 ((6 : Int32)).toNatClampNeg) - (mI M42 a5 ((6 : Int32)).toNatClampNeg) / (4 : Int32) * (4 : Int32))]) (st := []) (v := some (vR r76)) (M1 := M76) X2 (m_J4_append_bf812 l hq76) (cwV 1 X.2.2.1 gL_test_J4_append_bf812 rfl rfl rfl (by decide +kernel) ⟨Nat.le_of_ble_eq_true rfl, Nat.le_of_ble_eq_true rfl⟩) rfl rfl ha77 hT78 (by decide) rfl (Nat.le_of_ble_eq_true rfl) dL_test_187 ⟨by decide, by decide⟩ ?_
      refine g_lds (q := Z (100 + 51)) X (gSt2_lit X2 (67, " and tide>", 51) (by decide +kernel)) dL_test_190 ?_
      obtain ⟨a80, ha80, hf⟩ := dr_e hf
      obtain ⟨hT81, hf⟩ := ck_e hf
      obtain ⟨r79, M79, hq79, hf⟩ := bd_e hf
      refine g_callV (ci := 12) (b := a80) (As := [vR (some (Z (100 + 51)))]) (st := []) (v := some (vR r79)) (M1 := M79) X2 (m_J4_append_15ec4_S l hq79) (cwV 1 X.2.2.1 gL_test_J4_append_15ec4 rfl rfl rfl (by decide +kernel) ⟨Nat.le_of_ble_eq_true rfl, Nat.le_of_ble_eq_true rfl⟩) rfl rfl ha80 hT81 (by decide) rfl (Nat.le_of_ble_eq_true rfl) dL_test_192 ⟨by decide, by decide⟩ ?_
      refine g_iload X dL_test_195 rfl ?_
      refine g_bipush (v := (7 : Int32)) X dL_test_197 (by decide) ?_
      refine g_irem X dL_test_199 (by decide) ?_
      obtain ⟨a83, ha83, hf⟩ := dr_e hf
      obtain ⟨hT84, hf⟩ := ck_e hf
      obtain ⟨r82, M82, hq82, hf⟩ := bd_e hf
      refine g_callV (ci := 12) (b := a83) (As := [vI ((mI M42 a5 ((6 : Int32)).toNatClampNeg) - (mI M42 a5 ((6 : Int32)).toNatClampNeg) / (7 : Int32) * (7 : Int32))]) (st := []) (v := some (vR r82)) (M1 := M82) X2 (m_J4_append_bf812 l hq82) (cwV 1 X.2.2.1 gL_test_J4_append_bf812 rfl rfl rfl (by decide +kernel) ⟨Nat.le_of_ble_eq_true rfl, Nat.le_of_ble_eq_true rfl⟩) rfl rfl ha83 hT84 (by decide) rfl (Nat.le_of_ble_eq_true rfl) dL_test_200 ⟨by decide, by decide⟩ ?_
      obtain ⟨a86, ha86, hf⟩ := dr_e hf
      obtain ⟨hT87, hf⟩ := ck_e hf
      obtain ⟨r85, M85, hq85, hf⟩ := bd_e hf
      refine g_callV (ci := 12) (b := a86) (As := []) (st := []) (v := some (vR r85)) (M1 := M85) X2 (m_J4_toString_0e30d l hq85) (cwV 0 X.2.2.1 gL_test_J4_toString_0e30d rfl rfl rfl (by decide +kernel) ⟨Nat.le_of_ble_eq_true rfl, Nat.le_of_ble_eq_true rfl⟩) rfl rfl ha86 hT87 (by decide) rfl (Nat.le_of_ble_eq_true rfl) dL_test_203 ⟨by decide, by decide⟩ ?_
      cases hf
      refine g_eqQ hK ?_
      refine g_wide (k' := 34) (n' := 52896) (by decide) (by decide) ?_
      exact g_aret X hr (Or.inl ⟨_, rfl⟩) dL_test_206
    · have hf := ife_f hs65 hf
      by_cases hs88 : (mI M42 a5 ((2 : Int32)).toNatClampNeg) = (3 : Int32)
      · have hf := ife_t hs88 hf
        refine g_tabin (tgt := 207) X dL_test_91 hs88 (by decide) (by decide) rfl (by decide) ?_
        refine g_new (ci := 12) X cdJ4 i_L_test_J4 k_L_test_cl32 k_L_test_inJ4 k_L_test_iiJ4 (by intro i hi; rcases (show i = 0 ∨ i = 1 ∨ i = 2 ∨ i = 3 by omega) with rfl | rfl | rfl | rfl <;> rfl) ⟨by decide, by decide⟩ dL_test_207 ?_
        obtain ⟨M89, hM89, hf⟩ := lw_e hf
        rw [← hM89]
        refine g_dup X dL_test_210 rfl ?_
        obtain ⟨r90, M90, hq90, hf⟩ := bd_e hf
        refine g_callI (b := (mN M42)) (As := []) (st := [vR (some (mN M42))]) (M1 := M90) X (m_J4_init_da8c8 l hq90) (cwI 0 X.2.2.1 gL_test_J4_init_da8c8 rfl rfl rfl (X.2.2.1 _ k_L_test_iiJ4) (X.2.2.1 _ k_L_test_ml34) (X.2.2.1 _ k_L_test_imJ4_init_da8c8) rfl (by decide +kernel) ⟨Nat.le_of_ble_eq_true rfl, Nat.le_of_ble_eq_true rfl⟩) rfl rfl rfl (Nat.le_of_ble_eq_true rfl) dL_test_211 ⟨by decide, by decide⟩ ?_
        refine g_lds (q := Z (100 + 52)) X (gSt2_lit X2 (69, " when not cheats ", 52) (by decide +kernel)) dL_test_214 ?_
        obtain ⟨hT92, hf⟩ := ck_e hf
        obtain ⟨r91, M91, hq91, hf⟩ := bd_e hf
        refine g_callV (ci := 12) (b := (mN M42)) (As := [vR (some (Z (100 + 52)))]) (st := []) (v := some (vR r91)) (M1 := M91) X2 (m_J4_append_15ec4_S l hq91) (cwV 1 X.2.2.1 gL_test_J4_append_15ec4 rfl rfl rfl (by decide +kernel) ⟨Nat.le_of_ble_eq_true rfl, Nat.le_of_ble_eq_true rfl⟩) rfl rfl rfl hT92 (by decide) rfl (Nat.le_of_ble_eq_true rfl) dL_test_216 ⟨by decide, by decide⟩ ?_
        refine g_aload_n X dL_test_219 rfl rfl ?_
        obtain ⟨a94, ha94, hf⟩ := dr_e hf
        obtain ⟨hT95, hf⟩ := ck_e hf
        obtain ⟨r93, M93, hq93, hf⟩ := bd_e hf
        refine g_callV (ci := 12) (b := a94) (As := [vR r28]) (st := []) (v := some (vR r93)) (M1 := M93) X2 (m_J4_append_15ec4_r l hq93) (cwV 1 X.2.2.1 gL_test_J4_append_15ec4 rfl rfl rfl (by decide +kernel) ⟨Nat.le_of_ble_eq_true rfl, Nat.le_of_ble_eq_true rfl⟩) rfl rfl ha94 hT95 (by decide) rfl (Nat.le_of_ble_eq_true rfl) dL_test_220 ⟨by decide, by decide⟩ ?_
        obtain ⟨a97, ha97, hf⟩ := dr_e hf
        obtain ⟨hT98, hf⟩ := ck_e hf
        obtain ⟨r96, M96, hq96, hf⟩ := bd_e hf
        refine g_callV (ci := 12) (b := a97) (As := []) (st := []) (v := some (vR r96)) (M1 := M96) X2 (m_J4_toString_0e30d l hq96) (cwV 0 X.2.2.1 gL_test_J4_toString_0e30d rfl rfl rfl (by decide +kernel) ⟨Nat.le_of_ble_eq_true rfl, Nat.le_of_ble_eq_true rfl⟩) rfl rfl ha97 hT98 (by decide) rfl (Nat.le_of_ble_eq_true rfl) dL_test_223 ⟨by decide, by decide⟩ ?_
        cases hf
        refine g_eqQ hK ?_
        refine g_wide (k' := 34) (n' := 52896) (by decide) (by decide) ?_
        exact g_aret X hr (Or.inl ⟨_, rfl⟩) dL_test_226
      · have hf := ife_f hs88 hf
        by_cases hs99 : (mI M42 a5 ((2 : Int32)).toNatClampNeg) = (4 : Int32)
        · have hf := ife_t hs99 hf
          refine g_tabin (tgt := 227) X dL_test_91 hs99 (by decide) (by decide) rfl (by decide) ?_
          refine g_new (ci := 12) X cdJ4 i_L_test_J4 k_L_test_cl32 k_L_test_inJ4 k_L_test_iiJ4 (by intro i hi; rcases (show i = 0 ∨ i = 1 ∨ i = 2 ∨ i = 3 by omega) with rfl | rfl | rfl | rfl <;> rfl) ⟨by decide, by decide⟩ dL_test_227 ?_
          obtain ⟨M100, hM100, hf⟩ := lw_e hf
          rw [← hM100]
          refine g_dup X dL_test_230 rfl ?_
          obtain ⟨r101, M101, hq101, hf⟩ := bd_e hf
          refine g_callI (b := (mN M42)) (As := []) (st := [vR (some (mN M42))]) (M1 := M101) X (m_J4_init_da8c8 l hq101) (cwI 0 X.2.2.1 gL_test_J4_init_da8c8 rfl rfl rfl (X.2.2.1 _ k_L_test_iiJ4) (X.2.2.1 _ k_L_test_ml34) (X.2.2.1 _ k_L_test_imJ4_init_da8c8) rfl (by decide +kernel) ⟨Nat.le_of_ble_eq_true rfl, Nat.le_of_ble_eq_true rfl⟩) rfl rfl rfl (Nat.le_of_ble_eq_true rfl) dL_test_231 ⟨by decide, by decide⟩ ?_
          refine g_lds (q := Z (100 + 53)) X (gSt2_lit X2 (71, " when [store ", 53) (by decide +kernel)) dL_test_234 ?_
          obtain ⟨hT103, hf⟩ := ck_e hf
          obtain ⟨r102, M102, hq102, hf⟩ := bd_e hf
          refine g_callV (ci := 12) (b := (mN M42)) (As := [vR (some (Z (100 + 53)))]) (st := []) (v := some (vR r102)) (M1 := M102) X2 (m_J4_append_15ec4_S l hq102) (cwV 1 X.2.2.1 gL_test_J4_append_15ec4 rfl rfl rfl (by decide +kernel) ⟨Nat.le_of_ble_eq_true rfl, Nat.le_of_ble_eq_true rfl⟩) rfl rfl rfl hT103 (by decide) rfl (Nat.le_of_ble_eq_true rfl) dL_test_236 ⟨by decide, by decide⟩ ?_
          refine g_aload_n X dL_test_239 rfl rfl ?_
          obtain ⟨a105, ha105, hf⟩ := dr_e hf
          obtain ⟨hT106, hf⟩ := ck_e hf
          obtain ⟨r104, M104, hq104, hf⟩ := bd_e hf
          refine g_callV (ci := 12) (b := a105) (As := [vR r28]) (st := []) (v := some (vR r104)) (M1 := M104) X2 (m_J4_append_15ec4_r l hq104) (cwV 1 X.2.2.1 gL_test_J4_append_15ec4 rfl rfl rfl (by decide +kernel) ⟨Nat.le_of_ble_eq_true rfl, Nat.le_of_ble_eq_true rfl⟩) rfl rfl ha105 hT106 (by decide) rfl (Nat.le_of_ble_eq_true rfl) dL_test_240 ⟨by decide, by decide⟩ ?_
          refine g_lds (q := Z (100 + 50)) X (gSt2_lit X2 (65, "<", 50) (by decide +kernel)) dL_test_243 ?_
          obtain ⟨a108, ha108, hf⟩ := dr_e hf
          obtain ⟨hT109, hf⟩ := ck_e hf
          obtain ⟨r107, M107, hq107, hf⟩ := bd_e hf
          refine g_callV (ci := 12) (b := a108) (As := [vR (some (Z (100 + 50)))]) (st := []) (v := some (vR r107)) (M1 := M107) X2 (m_J4_append_15ec4_S l hq107) (cwV 1 X.2.2.1 gL_test_J4_append_15ec4 rfl rfl rfl (by decide +kernel) ⟨Nat.le_of_ble_eq_true rfl, Nat.le_of_ble_eq_true rfl⟩) rfl rfl ha108 hT109 (by decide) rfl (Nat.le_of_ble_eq_true rfl) dL_test_245 ⟨by decide, by decide⟩ ?_
          refine g_iload X dL_test_248 rfl ?_
          obtain ⟨a111, ha111, hf⟩ := dr_e hf
          obtain ⟨hT112, hf⟩ := ck_e hf
          obtain ⟨r110, M110, hq110, hf⟩ := bd_e hf
          refine g_callV (ci := 12) (b := a111) (As := [vI (mI M42 a5 ((6 : Int32)).toNatClampNeg)]) (st := []) (v := some (vR r110)) (M1 := M110) X2 (m_J4_append_bf812 l hq110) (cwV 1 X.2.2.1 gL_test_J4_append_bf812 rfl rfl rfl (by decide +kernel) ⟨Nat.le_of_ble_eq_true rfl, Nat.le_of_ble_eq_true rfl⟩) rfl rfl ha111 hT112 (by decide) rfl (Nat.le_of_ble_eq_true rfl) dL_test_250 ⟨by decide, by decide⟩ ?_
          refine g_lds (q := Z (100 + 54)) X (gSt2_lit X2 (73, " or catch ", 54) (by decide +kernel)) dL_test_253 ?_
          obtain ⟨a114, ha114, hf⟩ := dr_e hf
          obtain ⟨hT115, hf⟩ := ck_e hf
          obtain ⟨r113, M113, hq113, hf⟩ := bd_e hf
          refine g_callV (ci := 12) (b := a114) (As := [vR (some (Z (100 + 54)))]) (st := []) (v := some (vR r113)) (M1 := M113) X2 (m_J4_append_15ec4_S l hq113) (cwV 1 X.2.2.1 gL_test_J4_append_15ec4 rfl rfl rfl (by decide +kernel) ⟨Nat.le_of_ble_eq_true rfl, Nat.le_of_ble_eq_true rfl⟩) rfl rfl ha114 hT115 (by decide) rfl (Nat.le_of_ble_eq_true rfl) dL_test_255 ⟨by decide, by decide⟩ ?_
          refine g_aload X dL_test_258 rfl ?_
          obtain ⟨a117, ha117, hf⟩ := dr_e hf
          obtain ⟨hT118, hf⟩ := ck_e hf
          obtain ⟨r116, M116, hq116, hf⟩ := bd_e hf
          refine g_callV (ci := 12) (b := a117) (As := [vR r42]) (st := []) (v := some (vR r116)) (M1 := M116) X2 (m_J4_append_15ec4_r l hq116) (cwV 1 X.2.2.1 gL_test_J4_append_15ec4 rfl rfl rfl (by decide +kernel) ⟨Nat.le_of_ble_eq_true rfl, Nat.le_of_ble_eq_true rfl⟩) rfl rfl ha117 hT118 (by decide) rfl (Nat.le_of_ble_eq_true rfl) dL_test_260 ⟨by decide, by decide⟩ ?_
          refine g_lds (q := Z (100 + 55)) X (gSt2_lit X2 (75, "=0]", 55) (by decide +kernel)) dL_test_263 ?_
          obtain ⟨a120, ha120, hf⟩ := dr_e hf
          obtain ⟨hT121, hf⟩ := ck_e hf
          obtain ⟨r119, M119, hq119, hf⟩ := bd_e hf
          refine g_callV (ci := 12) (b := a120) (As := [vR (some (Z (100 + 55)))]) (st := []) (v := some (vR r119)) (M1 := M119) X2 (m_J4_append_15ec4_S l hq119) (cwV 1 X.2.2.1 gL_test_J4_append_15ec4 rfl rfl rfl (by decide +kernel) ⟨Nat.le_of_ble_eq_true rfl, Nat.le_of_ble_eq_true rfl⟩) rfl rfl ha120 hT121 (by decide) rfl (Nat.le_of_ble_eq_true rfl) dL_test_265 ⟨by decide, by decide⟩ ?_
          obtain ⟨a123, ha123, hf⟩ := dr_e hf
          obtain ⟨hT124, hf⟩ := ck_e hf
          obtain ⟨r122, M122, hq122, hf⟩ := bd_e hf
          refine g_callV (ci := 12) (b := a123) (As := []) (st := []) (v := some (vR r122)) (M1 := M122) X2 (m_J4_toString_0e30d l hq122) (cwV 0 X.2.2.1 gL_test_J4_toString_0e30d rfl rfl rfl (by decide +kernel) ⟨Nat.le_of_ble_eq_true rfl, Nat.le_of_ble_eq_true rfl⟩) rfl rfl ha123 hT124 (by decide) rfl (Nat.le_of_ble_eq_true rfl) dL_test_268 ⟨by decide, by decide⟩ ?_
          cases hf
          refine g_eqQ hK ?_
          refine g_wide (k' := 34) (n' := 52896) (by decide) (by decide) ?_
          exact g_aret X hr (Or.inl ⟨_, rfl⟩) dL_test_271
        · have hf := ife_f hs99 hf
          by_cases hs125 : (mI M42 a5 ((2 : Int32)).toNatClampNeg) = (5 : Int32)
          · have hf := ife_t hs125 hf
            refine g_tabin (tgt := 272) X dL_test_91 hs125 (by decide) (by decide) rfl (by decide) ?_
            refine g_new (ci := 12) X cdJ4 i_L_test_J4 k_L_test_cl32 k_L_test_inJ4 k_L_test_iiJ4 (by intro i hi; rcases (show i = 0 ∨ i = 1 ∨ i = 2 ∨ i = 3 by omega) with rfl | rfl | rfl | rfl <;> rfl) ⟨by decide, by decide⟩ dL_test_272 ?_
            obtain ⟨M126, hM126, hf⟩ := lw_e hf
            rw [← hM126]
            refine g_dup X dL_test_275 rfl ?_
            obtain ⟨r127, M127, hq127, hf⟩ := bd_e hf
            refine g_callI (b := (mN M42)) (As := []) (st := [vR (some (mN M42))]) (M1 := M127) X (m_J4_init_da8c8 l hq127) (cwI 0 X.2.2.1 gL_test_J4_init_da8c8 rfl rfl rfl (X.2.2.1 _ k_L_test_iiJ4) (X.2.2.1 _ k_L_test_ml34) (X.2.2.1 _ k_L_test_imJ4_init_da8c8) rfl (by decide +kernel) ⟨Nat.le_of_ble_eq_true rfl, Nat.le_of_ble_eq_true rfl⟩) rfl rfl rfl (Nat.le_of_ble_eq_true rfl) dL_test_276 ⟨by decide, by decide⟩ ?_
            refine g_lds (q := Z (100 + 56)) X (gSt2_lit X2 (77, " when mesh ", 56) (by decide +kernel)) dL_test_279 ?_
            obtain ⟨hT129, hf⟩ := ck_e hf
            obtain ⟨r128, M128, hq128, hf⟩ := bd_e hf
            refine g_callV (ci := 12) (b := (mN M42)) (As := [vR (some (Z (100 + 56)))]) (st := []) (v := some (vR r128)) (M1 := M128) X2 (m_J4_append_15ec4_S l hq128) (cwV 1 X.2.2.1 gL_test_J4_append_15ec4 rfl rfl rfl (by decide +kernel) ⟨Nat.le_of_ble_eq_true rfl, Nat.le_of_ble_eq_true rfl⟩) rfl rfl rfl hT129 (by decide) rfl (Nat.le_of_ble_eq_true rfl) dL_test_281 ⟨by decide, by decide⟩ ?_
            refine g_aload_n X dL_test_284 rfl rfl ?_
            obtain ⟨a131, ha131, hf⟩ := dr_e hf
            obtain ⟨hT132, hf⟩ := ck_e hf
            obtain ⟨r130, M130, hq130, hf⟩ := bd_e hf
            refine g_callV (ci := 12) (b := a131) (As := [vR r28]) (st := []) (v := some (vR r130)) (M1 := M130) X2 (m_J4_append_15ec4_r l hq130) (cwV 1 X.2.2.1 gL_test_J4_append_15ec4 rfl rfl rfl (by decide +kernel) ⟨Nat.le_of_ble_eq_true rfl, Nat.le_of_ble_eq_true rfl⟩) rfl rfl ha131 hT132 (by decide) rfl (Nat.le_of_ble_eq_true rfl) dL_test_285 ⟨by decide, by decide⟩ ?_
            refine g_lds (q := Z (100 + 57)) X (gSt2_lit X2 (79, " > ", 57) (by decide +kernel)) dL_test_288 ?_
            obtain ⟨a134, ha134, hf⟩ := dr_e hf
            obtain ⟨hT135, hf⟩ := ck_e hf
            obtain ⟨r133, M133, hq133, hf⟩ := bd_e hf
            refine g_callV (ci := 12) (b := a134) (As := [vR (some (Z (100 + 57)))]) (st := []) (v := some (vR r133)) (M1 := M133) X2 (m_J4_append_15ec4_S l hq133) (cwV 1 X.2.2.1 gL_test_J4_append_15ec4 rfl rfl rfl (by decide +kernel) ⟨Nat.le_of_ble_eq_true rfl, Nat.le_of_ble_eq_true rfl⟩) rfl rfl ha134 hT135 (by decide) rfl (Nat.le_of_ble_eq_true rfl) dL_test_290 ⟨by decide, by decide⟩ ?_
            refine g_iload X dL_test_293 rfl ?_
            refine g_iconst (v := (5 : Int32)) X dL_test_295 (by decide) ?_
            refine g_irem X dL_test_296 (by decide) ?_
            obtain ⟨a137, ha137, hf⟩ := dr_e hf
            obtain ⟨hT138, hf⟩ := ck_e hf
            obtain ⟨r136, M136, hq136, hf⟩ := bd_e hf
            refine g_callV (ci := 12) (b := a137) (As := [vI ((mI M42 a5 ((6 : Int32)).toNatClampNeg) - (mI M42 a5 ((6 : Int32)).toNatClampNeg) / (5 : Int32) * (5 : Int32))]) (st := []) (v := some (vR r136)) (M1 := M136) X2 (m_J4_append_bf812 l hq136) (cwV 1 X.2.2.1 gL_test_J4_append_bf812 rfl rfl rfl (by decide +kernel) ⟨Nat.le_of_ble_eq_true rfl, Nat.le_of_ble_eq_true rfl⟩) rfl rfl ha137 hT138 (by decide) rfl (Nat.le_of_ble_eq_true rfl) dL_test_297 ⟨by decide, by decide⟩ ?_
            refine g_lds (q := Z (100 + 58)) X (gSt2_lit X2 (81, " or tide/3*3=tide", 58) (by decide +kernel)) dL_test_300 ?_
            obtain ⟨a140, ha140, hf⟩ := dr_e hf
            obtain ⟨hT141, hf⟩ := ck_e hf
            obtain ⟨r139, M139, hq139, hf⟩ := bd_e hf
            refine g_callV (ci := 12) (b := a140) (As := [vR (some (Z (100 + 58)))]) (st := []) (v := some (vR r139)) (M1 := M139) X2 (m_J4_append_15ec4_S l hq139) (cwV 1 X.2.2.1 gL_test_J4_append_15ec4 rfl rfl rfl (by decide +kernel) ⟨Nat.le_of_ble_eq_true rfl, Nat.le_of_ble_eq_true rfl⟩) rfl rfl ha140 hT141 (by decide) rfl (Nat.le_of_ble_eq_true rfl) dL_test_302 ⟨by decide, by decide⟩ ?_
            obtain ⟨a143, ha143, hf⟩ := dr_e hf
            obtain ⟨hT144, hf⟩ := ck_e hf
            obtain ⟨r142, M142, hq142, hf⟩ := bd_e hf
            refine g_callV (ci := 12) (b := a143) (As := []) (st := []) (v := some (vR r142)) (M1 := M142) X2 (m_J4_toString_0e30d l hq142) (cwV 0 X.2.2.1 gL_test_J4_toString_0e30d rfl rfl rfl (by decide +kernel) ⟨Nat.le_of_ble_eq_true rfl, Nat.le_of_ble_eq_true rfl⟩) rfl rfl ha143 hT144 (by decide) rfl (Nat.le_of_ble_eq_true rfl) dL_test_305 ⟨by decide, by decide⟩ ?_
            cases hf
            refine g_eqQ hK ?_
            refine g_wide (k' := 34) (n' := 52896) (by decide) (by decide) ?_
            exact g_aret X hr (Or.inl ⟨_, rfl⟩) dL_test_308
          · have hf := ife_f hs125 hf
            by_cases hs145 : (mI M42 a5 ((2 : Int32)).toNatClampNeg) = (6 : Int32)
            · have hf := ife_t hs145 hf
              refine g_tabin (tgt := 309) X dL_test_91 hs145 (by decide) (by decide) rfl (by decide) ?_
              refine g_new (ci := 12) X cdJ4 i_L_test_J4 k_L_test_cl32 k_L_test_inJ4 k_L_test_iiJ4 (by intro i hi; rcases (show i = 0 ∨ i = 1 ∨ i = 2 ∨ i = 3 by omega) with rfl | rfl | rfl | rfl <;> rfl) ⟨by decide, by decide⟩ dL_test_309 ?_
              obtain ⟨M146, hM146, hf⟩ := lw_e hf
              rw [← hM146]
              refine g_dup X dL_test_312 rfl ?_
              obtain ⟨r147, M147, hq147, hf⟩ := bd_e hf
              refine g_callI (b := (mN M42)) (As := []) (st := [vR (some (mN M42))]) (M1 := M147) X (m_J4_init_da8c8 l hq147) (cwI 0 X.2.2.1 gL_test_J4_init_da8c8 rfl rfl rfl (X.2.2.1 _ k_L_test_iiJ4) (X.2.2.1 _ k_L_test_ml34) (X.2.2.1 _ k_L_test_imJ4_init_da8c8) rfl (by decide +kernel) ⟨Nat.le_of_ble_eq_true rfl, Nat.le_of_ble_eq_true rfl⟩) rfl rfl rfl (Nat.le_of_ble_eq_true rfl) dL_test_313 ⟨by decide, by decide⟩ ?_
              refine g_lds (q := Z (100 + 59)) X (gSt2_lit X2 (83, " when min(store ", 59) (by decide +kernel)) dL_test_316 ?_
              obtain ⟨hT149, hf⟩ := ck_e hf
              obtain ⟨r148, M148, hq148, hf⟩ := bd_e hf
              refine g_callV (ci := 12) (b := (mN M42)) (As := [vR (some (Z (100 + 59)))]) (st := []) (v := some (vR r148)) (M1 := M148) X2 (m_J4_append_15ec4_S l hq148) (cwV 1 X.2.2.1 gL_test_J4_append_15ec4 rfl rfl rfl (by decide +kernel) ⟨Nat.le_of_ble_eq_true rfl, Nat.le_of_ble_eq_true rfl⟩) rfl rfl rfl hT149 (by decide) rfl (Nat.le_of_ble_eq_true rfl) dL_test_318 ⟨by decide, by decide⟩ ?_
              refine g_aload_n X dL_test_321 rfl rfl ?_
              obtain ⟨a151, ha151, hf⟩ := dr_e hf
              obtain ⟨hT152, hf⟩ := ck_e hf
              obtain ⟨r150, M150, hq150, hf⟩ := bd_e hf
              refine g_callV (ci := 12) (b := a151) (As := [vR r28]) (st := []) (v := some (vR r150)) (M1 := M150) X2 (m_J4_append_15ec4_r l hq150) (cwV 1 X.2.2.1 gL_test_J4_append_15ec4 rfl rfl rfl (by decide +kernel) ⟨Nat.le_of_ble_eq_true rfl, Nat.le_of_ble_eq_true rfl⟩) rfl rfl ha151 hT152 (by decide) rfl (Nat.le_of_ble_eq_true rfl) dL_test_322 ⟨by decide, by decide⟩ ?_
              refine g_lds (q := Z (100 + 60)) X (gSt2_lit X2 (85, ",store ", 60) (by decide +kernel)) dL_test_325 ?_
              obtain ⟨a154, ha154, hf⟩ := dr_e hf
              obtain ⟨hT155, hf⟩ := ck_e hf
              obtain ⟨r153, M153, hq153, hf⟩ := bd_e hf
              refine g_callV (ci := 12) (b := a154) (As := [vR (some (Z (100 + 60)))]) (st := []) (v := some (vR r153)) (M1 := M153) X2 (m_J4_append_15ec4_S l hq153) (cwV 1 X.2.2.1 gL_test_J4_append_15ec4 rfl rfl rfl (by decide +kernel) ⟨Nat.le_of_ble_eq_true rfl, Nat.le_of_ble_eq_true rfl⟩) rfl rfl ha154 hT155 (by decide) rfl (Nat.le_of_ble_eq_true rfl) dL_test_327 ⟨by decide, by decide⟩ ?_
              refine g_aload X dL_test_330 rfl ?_
              obtain ⟨a157, ha157, hf⟩ := dr_e hf
              obtain ⟨hT158, hf⟩ := ck_e hf
              obtain ⟨r156, M156, hq156, hf⟩ := bd_e hf
              refine g_callV (ci := 12) (b := a157) (As := [vR r42]) (st := []) (v := some (vR r156)) (M1 := M156) X2 (m_J4_append_15ec4_r l hq156) (cwV 1 X.2.2.1 gL_test_J4_append_15ec4 rfl rfl rfl (by decide +kernel) ⟨Nat.le_of_ble_eq_true rfl, Nat.le_of_ble_eq_true rfl⟩) rfl rfl ha157 hT158 (by decide) rfl (Nat.le_of_ble_eq_true rfl) dL_test_332 ⟨by decide, by decide⟩ ?_
              refine g_lds (q := Z (100 + 61)) X (gSt2_lit X2 (87, ")<=", 61) (by decide +kernel)) dL_test_335 ?_
              obtain ⟨a160, ha160, hf⟩ := dr_e hf
              obtain ⟨hT161, hf⟩ := ck_e hf
              obtain ⟨r159, M159, hq159, hf⟩ := bd_e hf
              refine g_callV (ci := 12) (b := a160) (As := [vR (some (Z (100 + 61)))]) (st := []) (v := some (vR r159)) (M1 := M159) X2 (m_J4_append_15ec4_S l hq159) (cwV 1 X.2.2.1 gL_test_J4_append_15ec4 rfl rfl rfl (by decide +kernel) ⟨Nat.le_of_ble_eq_true rfl, Nat.le_of_ble_eq_true rfl⟩) rfl rfl ha160 hT161 (by decide) rfl (Nat.le_of_ble_eq_true rfl) dL_test_337 ⟨by decide, by decide⟩ ?_
              refine g_iload X dL_test_340 rfl ?_
              obtain ⟨a163, ha163, hf⟩ := dr_e hf
              obtain ⟨hT164, hf⟩ := ck_e hf
              obtain ⟨r162, M162, hq162, hf⟩ := bd_e hf
              refine g_callV (ci := 12) (b := a163) (As := [vI (mI M42 a5 ((6 : Int32)).toNatClampNeg)]) (st := []) (v := some (vR r162)) (M1 := M162) X2 (m_J4_append_bf812 l hq162) (cwV 1 X.2.2.1 gL_test_J4_append_bf812 rfl rfl rfl (by decide +kernel) ⟨Nat.le_of_ble_eq_true rfl, Nat.le_of_ble_eq_true rfl⟩) rfl rfl ha163 hT164 (by decide) rfl (Nat.le_of_ble_eq_true rfl) dL_test_342 ⟨by decide, by decide⟩ ?_
              refine g_lds (q := Z (100 + 62)) X (gSt2_lit X2 (89, "-tide", 62) (by decide +kernel)) dL_test_345 ?_
              obtain ⟨a166, ha166, hf⟩ := dr_e hf
              obtain ⟨hT167, hf⟩ := ck_e hf
              obtain ⟨r165, M165, hq165, hf⟩ := bd_e hf
              refine g_callV (ci := 12) (b := a166) (As := [vR (some (Z (100 + 62)))]) (st := []) (v := some (vR r165)) (M1 := M165) X2 (m_J4_append_15ec4_S l hq165) (cwV 1 X.2.2.1 gL_test_J4_append_15ec4 rfl rfl rfl (by decide +kernel) ⟨Nat.le_of_ble_eq_true rfl, Nat.le_of_ble_eq_true rfl⟩) rfl rfl ha166 hT167 (by decide) rfl (Nat.le_of_ble_eq_true rfl) dL_test_347 ⟨by decide, by decide⟩ ?_
              obtain ⟨a169, ha169, hf⟩ := dr_e hf
              obtain ⟨hT170, hf⟩ := ck_e hf
              obtain ⟨r168, M168, hq168, hf⟩ := bd_e hf
              refine g_callV (ci := 12) (b := a169) (As := []) (st := []) (v := some (vR r168)) (M1 := M168) X2 (m_J4_toString_0e30d l hq168) (cwV 0 X.2.2.1 gL_test_J4_toString_0e30d rfl rfl rfl (by decide +kernel) ⟨Nat.le_of_ble_eq_true rfl, Nat.le_of_ble_eq_true rfl⟩) rfl rfl ha169 hT170 (by decide) rfl (Nat.le_of_ble_eq_true rfl) dL_test_350 ⟨by decide, by decide⟩ ?_
              cases hf
              refine g_eqQ hK ?_
              refine g_wide (k' := 34) (n' := 52896) (by decide) (by decide) ?_
              exact g_aret X hr (Or.inl ⟨_, rfl⟩) dL_test_353
            · have hf := ife_f hs145 hf
              by_cases hs171 : (mI M42 a5 ((2 : Int32)).toNatClampNeg) = (7 : Int32)
              · have hf := ife_t hs171 hf
                refine g_tabin (tgt := 354) X dL_test_91 hs171 (by decide) (by decide) rfl (by decide) ?_
                refine g_new (ci := 12) X cdJ4 i_L_test_J4 k_L_test_cl32 k_L_test_inJ4 k_L_test_iiJ4 (by intro i hi; rcases (show i = 0 ∨ i = 1 ∨ i = 2 ∨ i = 3 by omega) with rfl | rfl | rfl | rfl <;> rfl) ⟨by decide, by decide⟩ dL_test_354 ?_
                obtain ⟨M172, hM172, hf⟩ := lw_e hf
                rw [← hM172]
                refine g_dup X dL_test_357 rfl ?_
                obtain ⟨r173, M173, hq173, hf⟩ := bd_e hf
                refine g_callI (b := (mN M42)) (As := []) (st := [vR (some (mN M42))]) (M1 := M173) X (m_J4_init_da8c8 l hq173) (cwI 0 X.2.2.1 gL_test_J4_init_da8c8 rfl rfl rfl (X.2.2.1 _ k_L_test_iiJ4) (X.2.2.1 _ k_L_test_ml34) (X.2.2.1 _ k_L_test_imJ4_init_da8c8) rfl (by decide +kernel) ⟨Nat.le_of_ble_eq_true rfl, Nat.le_of_ble_eq_true rfl⟩) rfl rfl rfl (Nat.le_of_ble_eq_true rfl) dL_test_358 ⟨by decide, by decide⟩ ?_
                refine g_lds (q := Z (100 + 63)) X (gSt2_lit X2 (91, " when cheats ", 63) (by decide +kernel)) dL_test_361 ?_
                obtain ⟨hT175, hf⟩ := ck_e hf
                obtain ⟨r174, M174, hq174, hf⟩ := bd_e hf
                refine g_callV (ci := 12) (b := (mN M42)) (As := [vR (some (Z (100 + 63)))]) (st := []) (v := some (vR r174)) (M1 := M174) X2 (m_J4_append_15ec4_S l hq174) (cwV 1 X.2.2.1 gL_test_J4_append_15ec4 rfl rfl rfl (by decide +kernel) ⟨Nat.le_of_ble_eq_true rfl, Nat.le_of_ble_eq_true rfl⟩) rfl rfl rfl hT175 (by decide) rfl (Nat.le_of_ble_eq_true rfl) dL_test_363 ⟨by decide, by decide⟩ ?_
                refine g_aload_n X dL_test_366 rfl rfl ?_
                obtain ⟨a177, ha177, hf⟩ := dr_e hf
                obtain ⟨hT178, hf⟩ := ck_e hf
                obtain ⟨r176, M176, hq176, hf⟩ := bd_e hf
                refine g_callV (ci := 12) (b := a177) (As := [vR r28]) (st := []) (v := some (vR r176)) (M1 := M176) X2 (m_J4_append_15ec4_r l hq176) (cwV 1 X.2.2.1 gL_test_J4_append_15ec4 rfl rfl rfl (by decide +kernel) ⟨Nat.le_of_ble_eq_true rfl, Nat.le_of_ble_eq_true rfl⟩) rfl rfl ha177 hT178 (by decide) rfl (Nat.le_of_ble_eq_true rfl) dL_test_367 ⟨by decide, by decide⟩ ?_
                refine g_lds (q := Z (100 + 64)) X (gSt2_lit X2 (93, " and fish ", 64) (by decide +kernel)) dL_test_370 ?_
                obtain ⟨a180, ha180, hf⟩ := dr_e hf
                obtain ⟨hT181, hf⟩ := ck_e hf
                obtain ⟨r179, M179, hq179, hf⟩ := bd_e hf
                refine g_callV (ci := 12) (b := a180) (As := [vR (some (Z (100 + 64)))]) (st := []) (v := some (vR r179)) (M1 := M179) X2 (m_J4_append_15ec4_S l hq179) (cwV 1 X.2.2.1 gL_test_J4_append_15ec4 rfl rfl rfl (by decide +kernel) ⟨Nat.le_of_ble_eq_true rfl, Nat.le_of_ble_eq_true rfl⟩) rfl rfl ha180 hT181 (by decide) rfl (Nat.le_of_ble_eq_true rfl) dL_test_372 ⟨by decide, by decide⟩ ?_
                refine g_aload_n X dL_test_375 rfl rfl ?_
                obtain ⟨a183, ha183, hf⟩ := dr_e hf
                obtain ⟨hT184, hf⟩ := ck_e hf
                obtain ⟨r182, M182, hq182, hf⟩ := bd_e hf
                refine g_callV (ci := 12) (b := a183) (As := [vR r14]) (st := []) (v := some (vR r182)) (M1 := M182) X2 (m_J4_append_15ec4_r l hq182) (cwV 1 X.2.2.1 gL_test_J4_append_15ec4 rfl rfl rfl (by decide +kernel) ⟨Nat.le_of_ble_eq_true rfl, Nat.le_of_ble_eq_true rfl⟩) rfl rfl ha183 hT184 (by decide) rfl (Nat.le_of_ble_eq_true rfl) dL_test_376 ⟨by decide, by decide⟩ ?_
                refine g_lds (q := Z (100 + 65)) X (gSt2_lit X2 (95, "-boats ", 65) (by decide +kernel)) dL_test_379 ?_
                obtain ⟨a186, ha186, hf⟩ := dr_e hf
                obtain ⟨hT187, hf⟩ := ck_e hf
                obtain ⟨r185, M185, hq185, hf⟩ := bd_e hf
                refine g_callV (ci := 12) (b := a186) (As := [vR (some (Z (100 + 65)))]) (st := []) (v := some (vR r185)) (M1 := M185) X2 (m_J4_append_15ec4_S l hq185) (cwV 1 X.2.2.1 gL_test_J4_append_15ec4 rfl rfl rfl (by decide +kernel) ⟨Nat.le_of_ble_eq_true rfl, Nat.le_of_ble_eq_true rfl⟩) rfl rfl ha186 hT187 (by decide) rfl (Nat.le_of_ble_eq_true rfl) dL_test_381 ⟨by decide, by decide⟩ ?_
                refine g_aload_n X dL_test_384 rfl rfl ?_
                obtain ⟨a189, ha189, hf⟩ := dr_e hf
                obtain ⟨hT190, hf⟩ := ck_e hf
                obtain ⟨r188, M188, hq188, hf⟩ := bd_e hf
                refine g_callV (ci := 12) (b := a189) (As := [vR r14]) (st := []) (v := some (vR r188)) (M1 := M188) X2 (m_J4_append_15ec4_r l hq188) (cwV 1 X.2.2.1 gL_test_J4_append_15ec4 rfl rfl rfl (by decide +kernel) ⟨Nat.le_of_ble_eq_true rfl, Nat.le_of_ble_eq_true rfl⟩) rfl rfl ha189 hT190 (by decide) rfl (Nat.le_of_ble_eq_true rfl) dL_test_385 ⟨by decide, by decide⟩ ?_
                refine g_lds (q := Z (100 + 66)) X (gSt2_lit X2 (97, ">", 66) (by decide +kernel)) dL_test_388 ?_
                obtain ⟨a192, ha192, hf⟩ := dr_e hf
                obtain ⟨hT193, hf⟩ := ck_e hf
                obtain ⟨r191, M191, hq191, hf⟩ := bd_e hf
                refine g_callV (ci := 12) (b := a192) (As := [vR (some (Z (100 + 66)))]) (st := []) (v := some (vR r191)) (M1 := M191) X2 (m_J4_append_15ec4_S l hq191) (cwV 1 X.2.2.1 gL_test_J4_append_15ec4 rfl rfl rfl (by decide +kernel) ⟨Nat.le_of_ble_eq_true rfl, Nat.le_of_ble_eq_true rfl⟩) rfl rfl ha192 hT193 (by decide) rfl (Nat.le_of_ble_eq_true rfl) dL_test_390 ⟨by decide, by decide⟩ ?_
                refine g_iload X dL_test_393 rfl ?_
                refine g_bipush (v := (20 : Int32)) X dL_test_395 (by decide) ?_
                refine g_irem X dL_test_397 (by decide) ?_
                obtain ⟨a195, ha195, hf⟩ := dr_e hf
                obtain ⟨hT196, hf⟩ := ck_e hf
                obtain ⟨r194, M194, hq194, hf⟩ := bd_e hf
                refine g_callV (ci := 12) (b := a195) (As := [vI ((mI M42 a5 ((6 : Int32)).toNatClampNeg) - (mI M42 a5 ((6 : Int32)).toNatClampNeg) / (20 : Int32) * (20 : Int32))]) (st := []) (v := some (vR r194)) (M1 := M194) X2 (m_J4_append_bf812 l hq194) (cwV 1 X.2.2.1 gL_test_J4_append_bf812 rfl rfl rfl (by decide +kernel) ⟨Nat.le_of_ble_eq_true rfl, Nat.le_of_ble_eq_true rfl⟩) rfl rfl ha195 hT196 (by decide) rfl (Nat.le_of_ble_eq_true rfl) dL_test_398 ⟨by decide, by decide⟩ ?_
                refine g_lds (q := Z (100 + 54)) X (gSt2_lit X2 (73, " or catch ", 54) (by decide +kernel)) dL_test_401 ?_
                obtain ⟨a198, ha198, hf⟩ := dr_e hf
                obtain ⟨hT199, hf⟩ := ck_e hf
                obtain ⟨r197, M197, hq197, hf⟩ := bd_e hf
                refine g_callV (ci := 12) (b := a198) (As := [vR (some (Z (100 + 54)))]) (st := []) (v := some (vR r197)) (M1 := M197) X2 (m_J4_append_15ec4_S l hq197) (cwV 1 X.2.2.1 gL_test_J4_append_15ec4 rfl rfl rfl (by decide +kernel) ⟨Nat.le_of_ble_eq_true rfl, Nat.le_of_ble_eq_true rfl⟩) rfl rfl ha198 hT199 (by decide) rfl (Nat.le_of_ble_eq_true rfl) dL_test_403 ⟨by decide, by decide⟩ ?_
                refine g_aload X dL_test_406 rfl ?_
                obtain ⟨a201, ha201, hf⟩ := dr_e hf
                obtain ⟨hT202, hf⟩ := ck_e hf
                obtain ⟨r200, M200, hq200, hf⟩ := bd_e hf
                refine g_callV (ci := 12) (b := a201) (As := [vR r42]) (st := []) (v := some (vR r200)) (M1 := M200) X2 (m_J4_append_15ec4_r l hq200) (cwV 1 X.2.2.1 gL_test_J4_append_15ec4 rfl rfl rfl (by decide +kernel) ⟨Nat.le_of_ble_eq_true rfl, Nat.le_of_ble_eq_true rfl⟩) rfl rfl ha201 hT202 (by decide) rfl (Nat.le_of_ble_eq_true rfl) dL_test_408 ⟨by decide, by decide⟩ ?_
                refine g_lds (q := Z (100 + 66)) X (gSt2_lit X2 (97, ">", 66) (by decide +kernel)) dL_test_411 ?_
                obtain ⟨a204, ha204, hf⟩ := dr_e hf
                obtain ⟨hT205, hf⟩ := ck_e hf
                obtain ⟨r203, M203, hq203, hf⟩ := bd_e hf
                refine g_callV (ci := 12) (b := a204) (As := [vR (some (Z (100 + 66)))]) (st := []) (v := some (vR r203)) (M1 := M203) X2 (m_J4_append_15ec4_S l hq203) (cwV 1 X.2.2.1 gL_test_J4_append_15ec4 rfl rfl rfl (by decide +kernel) ⟨Nat.le_of_ble_eq_true rfl, Nat.le_of_ble_eq_true rfl⟩) rfl rfl ha204 hT205 (by decide) rfl (Nat.le_of_ble_eq_true rfl) dL_test_413 ⟨by decide, by decide⟩ ?_
                refine g_iload X dL_test_416 rfl ?_
                refine g_bipush (v := (9 : Int32)) X dL_test_418 (by decide) ?_
                refine g_irem X dL_test_420 (by decide) ?_
                obtain ⟨a207, ha207, hf⟩ := dr_e hf
                obtain ⟨hT208, hf⟩ := ck_e hf
                obtain ⟨r206, M206, hq206, hf⟩ := bd_e hf
                refine g_callV (ci := 12) (b := a207) (As := [vI ((mI M42 a5 ((6 : Int32)).toNatClampNeg) - (mI M42 a5 ((6 : Int32)).toNatClampNeg) / (9 : Int32) * (9 : Int32))]) (st := []) (v := some (vR r206)) (M1 := M206) X2 (m_J4_append_bf812 l hq206) (cwV 1 X.2.2.1 gL_test_J4_append_bf812 rfl rfl rfl (by decide +kernel) ⟨Nat.le_of_ble_eq_true rfl, Nat.le_of_ble_eq_true rfl⟩) rfl rfl ha207 hT208 (by decide) rfl (Nat.le_of_ble_eq_true rfl) dL_test_421 ⟨by decide, by decide⟩ ?_
                obtain ⟨a210, ha210, hf⟩ := dr_e hf
                obtain ⟨hT211, hf⟩ := ck_e hf
                obtain ⟨r209, M209, hq209, hf⟩ := bd_e hf
                refine g_callV (ci := 12) (b := a210) (As := []) (st := []) (v := some (vR r209)) (M1 := M209) X2 (m_J4_toString_0e30d l hq209) (cwV 0 X.2.2.1 gL_test_J4_toString_0e30d rfl rfl rfl (by decide +kernel) ⟨Nat.le_of_ble_eq_true rfl, Nat.le_of_ble_eq_true rfl⟩) rfl rfl ha210 hT211 (by decide) rfl (Nat.le_of_ble_eq_true rfl) dL_test_424 ⟨by decide, by decide⟩ ?_
                cases hf
                refine g_eqQ hK ?_
                exact g_aret X hr (Or.inl ⟨_, rfl⟩) dL_test_427
              · have hf := ife_f hs171 hf
                refine g_tabout (tgt := 428) X dL_test_91 (gtab_out 7 (1) (by decide) (by decide) (fun i hi => match i, hi with | 0, _ => fun e => hs48 (e.trans (by decide)) | 1, _ => fun e => hs65 (e.trans (by decide)) | 2, _ => fun e => hs88 (e.trans (by decide)) | 3, _ => fun e => hs99 (e.trans (by decide)) | 4, _ => fun e => hs125 (e.trans (by decide)) | 5, _ => fun e => hs145 (e.trans (by decide)) | 6, _ => fun e => hs171 (e.trans (by decide)) | i + 7, h => absurd h (by omega))) (by decide) ?_
                refine g_lds (q := Z (100 + 67)) X (gSt2_lit X2 (99, "", 67) (by decide +kernel)) dL_test_428 ?_
                cases hf
                refine g_eqQ hK ?_
                refine g_wide (k' := 34) (n' := 52896) (by decide) (by decide) ?_
                exact g_aret X hr (Or.inl ⟨_, rfl⟩) dL_test_430
set_option maxHeartbeats 4000000 in
set_option maxRecDepth 100000 in
theorem m_L_test (l : Launch) {D : va_G} {cy : Nat → ClassId} {B : Nat} {H0 : Heap} {Z : Nat → Nat} {M M1 : gMem} {x0 : Option Nat} {x1 : Option Nat} {r : Option Nat} (hf : f_L_test Z M x0 x1 = some (r, M1)) : Met l yL_test wsL_test rL_test (va_Pc (List.map gv [vR x0, vR x1]) (gPre D cy B H0 (gSt2 Z B H0) M)) (gQ D cy B H0 (some (vR r)) M1) 34 52896 (gA B) := by
  refine Met.ofW (cc := cL_test) (maxL := 6) (ret := (some (.object "java/lang/String"))) (by decide) rfl ?_
  intro p e s m args below meth c s₁ Bd hml hv
  obtain ⟨rfl, hW, hKK, hFs⟩ := hv
  have X2 : gX p s m _ meth c D cy B (gSt2 Z B H0) RL cL_test wsL_test 6 := ⟨Bd.exec, Bd.bytes, atoms_spec (ws := wsL_test) Bd.pre, findClass_of_methodNamed Bd.named, hml, hKK, by rw [hW.1]; exact hW.2.1, Bd.notSynchronized, hFs⟩
  have hr := Bd.returns
  rcases x0 with _ | x0
  · rcases x1 with _ | x1
    · have hl := lv_entry ([.null, .null]) (n := 6) (Nat.le_of_ble_eq_true rfl)
      show W p l e rL_test s m _ below meth c s.heap [] 0 0 _ (entryFrame m ([.null, .null] : List Value).toArray 6)
      rw [lg_entry_eq]
      generalize (lg_sl ([.null, .null]) ++ List.replicate (6 - (lg_sl ([.null, .null])).length) Slot.unset).toArray = ls at hl ⊢
      have hl : lv_has ls 6 (List.map gq [(0, vR none), (1, vR none)]) := hl
      exact t_L_test_0 X2 hr _ _ _ _ hf rfl s.heap [] ls hW va_S.rf (lv_has_sub hl (lvsub_of _ _ [0, 1] rfl))
    · have hl := lv_entry ([.null, .ref x1]) (n := 6) (Nat.le_of_ble_eq_true rfl)
      show W p l e rL_test s m _ below meth c s.heap [] 0 0 _ (entryFrame m ([.null, .ref x1] : List Value).toArray 6)
      rw [lg_entry_eq]
      generalize (lg_sl ([.null, .ref x1]) ++ List.replicate (6 - (lg_sl ([.null, .ref x1])).length) Slot.unset).toArray = ls at hl ⊢
      have hl : lv_has ls 6 (List.map gq [(0, vR none), (1, vR (some x1))]) := hl
      exact t_L_test_0 X2 hr _ _ _ _ hf rfl s.heap [] ls hW va_S.rf (lv_has_sub hl (lvsub_of _ _ [0, 1] rfl))
  · rcases x1 with _ | x1
    · have hl := lv_entry ([.ref x0, .null]) (n := 6) (Nat.le_of_ble_eq_true rfl)
      show W p l e rL_test s m _ below meth c s.heap [] 0 0 _ (entryFrame m ([.ref x0, .null] : List Value).toArray 6)
      rw [lg_entry_eq]
      generalize (lg_sl ([.ref x0, .null]) ++ List.replicate (6 - (lg_sl ([.ref x0, .null])).length) Slot.unset).toArray = ls at hl ⊢
      have hl : lv_has ls 6 (List.map gq [(0, vR (some x0)), (1, vR none)]) := hl
      exact t_L_test_0 X2 hr _ _ _ _ hf rfl s.heap [] ls hW va_S.rf (lv_has_sub hl (lvsub_of _ _ [0, 1] rfl))
    · have hl := lv_entry ([.ref x0, .ref x1]) (n := 6) (Nat.le_of_ble_eq_true rfl)
      show W p l e rL_test s m _ below meth c s.heap [] 0 0 _ (entryFrame m ([.ref x0, .ref x1] : List Value).toArray 6)
      rw [lg_entry_eq]
      generalize (lg_sl ([.ref x0, .ref x1]) ++ List.replicate (6 - (lg_sl ([.ref x0, .ref x1])).length) Slot.unset).toArray = ls at hl ⊢
      have hl : lv_has ls 6 (List.map gq [(0, vR (some x0)), (1, vR (some x1))]) := hl
      exact t_L_test_0 X2 hr _ _ _ _ hf rfl s.heap [] ls hW va_S.rf (lv_has_sub hl (lvsub_of _ _ [0, 1] rfl))
end
