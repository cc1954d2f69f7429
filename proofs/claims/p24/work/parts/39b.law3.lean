section
variable {p : Program} {l : Launch} {e : Env} {s : State} {m : MethodId} {args : Array Value} {below : List Frame} {meth : Method} {c : Code} {D : va_G} {cy : Nat → ClassId} {B : Nat} {H0 : Heap} {Z : Nat → Nat}
/-! ## TideLotsLaw.shore([ILjava/lang/StringBuilder;)LTideLotsLaw$Sim; -/
theorem dL_shore_0 : decode cL_shore 0 = .ok (.new 42, 3) := by decide +kernel
theorem dL_shore_3 : decode cL_shore 3 = .ok (.dup, 1) := by decide +kernel
theorem dL_shore_4 : decode cL_shore 4 = .ok (.invokespecial 117, 3) := by decide +kernel
theorem dL_shore_7 : decode cL_shore 7 = .ok (.astore_n 2, 1) := by decide +kernel
theorem dL_shore_8 : decode cL_shore 8 = .ok (.aload_n 2, 1) := by decide +kernel
theorem dL_shore_9 : decode cL_shore 9 = .ok (.iconst 1, 1) := by decide +kernel
theorem dL_shore_10 : decode cL_shore 10 = .ok (.aload_n 0, 1) := by decide +kernel
theorem dL_shore_11 : decode cL_shore 11 = .ok (.iconst 0, 1) := by decide +kernel
theorem dL_shore_12 : decode cL_shore 12 = .ok (.invokestatic 118, 3) := by decide +kernel
theorem dL_shore_15 : decode cL_shore 15 = .ok (.iconst 4, 1) := by decide +kernel
theorem dL_shore_16 : decode cL_shore 16 = .ok (.invokestatic 124, 3) := by decide +kernel
theorem dL_shore_19 : decode cL_shore 19 = .ok (.iadd, 1) := by decide +kernel
theorem dL_shore_20 : decode cL_shore 20 = .ok (.putfield 41, 3) := by decide +kernel
theorem dL_shore_23 : decode cL_shore 23 = .ok (.iconst 0, 1) := by decide +kernel
theorem dL_shore_24 : decode cL_shore 24 = .ok (.istore_n 3, 1) := by decide +kernel
theorem dL_shore_25 : decode cL_shore 25 = .ok (.iload_n 3, 1) := by decide +kernel
theorem dL_shore_26 : decode cL_shore 26 = .ok (.aload_n 2, 1) := by decide +kernel
theorem dL_shore_27 : decode cL_shore 27 = .ok (.getfield 41, 3) := by decide +kernel
theorem dL_shore_30 : decode cL_shore 30 = .ok (.if_icmp .ge 204, 3) := by decide +kernel
theorem dL_shore_33 : decode cL_shore 33 = .ok (.aload_n 0, 1) := by decide +kernel
theorem dL_shore_34 : decode cL_shore 34 = .ok (.iconst 1, 1) := by decide +kernel
theorem dL_shore_35 : decode cL_shore 35 = .ok (.iload_n 3, 1) := by decide +kernel
theorem dL_shore_36 : decode cL_shore 36 = .ok (.iconst 2, 1) := by decide +kernel
theorem dL_shore_37 : decode cL_shore 37 = .ok (.irem, 1) := by decide +kernel
theorem dL_shore_38 : decode cL_shore 38 = .ok (.iadd, 1) := by decide +kernel
theorem dL_shore_39 : decode cL_shore 39 = .ok (.invokestatic 118, 3) := by decide +kernel
theorem dL_shore_42 : decode cL_shore 42 = .ok (.iload_n 3, 1) := by decide +kernel
theorem dL_shore_43 : decode cL_shore 43 = .ok (.iconst 2, 1) := by decide +kernel
theorem dL_shore_44 : decode cL_shore 44 = .ok (.idiv, 1) := by decide +kernel
theorem dL_shore_45 : decode cL_shore 45 = .ok (.bipush 7, 2) := by decide +kernel
theorem dL_shore_47 : decode cL_shore 47 = .ok (.imul, 1) := by decide +kernel
theorem dL_shore_48 : decode cL_shore 48 = .ok (.ishr, 1) := by decide +kernel
theorem dL_shore_49 : decode cL_shore 49 = .ok (.istore 4, 2) := by decide +kernel
theorem dL_shore_51 : decode cL_shore 51 = .ok (.aload_n 2, 1) := by decide +kernel
theorem dL_shore_52 : decode cL_shore 52 = .ok (.getfield 128, 3) := by decide +kernel
theorem dL_shore_55 : decode cL_shore 55 = .ok (.iload_n 3, 1) := by decide +kernel
theorem dL_shore_56 : decode cL_shore 56 = .ok (.aaload, 1) := by decide +kernel
theorem dL_shore_57 : decode cL_shore 57 = .ok (.iconst 0, 1) := by decide +kernel
theorem dL_shore_58 : decode cL_shore 58 = .ok (.iconst 1, 1) := by decide +kernel
theorem dL_shore_59 : decode cL_shore 59 = .ok (.iload 4, 2) := by decide +kernel
theorem dL_shore_61 : decode cL_shore 61 = .ok (.iload 4, 2) := by decide +kernel
theorem dL_shore_63 : decode cL_shore 63 = .ok (.iconst 4, 1) := by decide +kernel
theorem dL_shore_64 : decode cL_shore 64 = .ok (.ishr, 1) := by decide +kernel
theorem dL_shore_65 : decode cL_shore 65 = .ok (.iconst 2, 1) := by decide +kernel
theorem dL_shore_66 : decode cL_shore 66 = .ok (.invokestatic 124, 3) := by decide +kernel
theorem dL_shore_69 : decode cL_shore 69 = .ok (.ifCond .ne 8, 3) := by decide +kernel
theorem dL_shore_72 : decode cL_shore 72 = .ok (.bipush 8, 2) := by decide +kernel
theorem dL_shore_74 : decode cL_shore 74 = .ok (.goto 4, 3) := by decide +kernel
theorem dL_shore_77 : decode cL_shore 77 = .ok (.iconst 2, 1) := by decide +kernel
theorem dL_shore_78 : decode cL_shore 78 = .ok (.invokestatic 124, 3) := by decide +kernel
theorem dL_shore_81 : decode cL_shore 81 = .ok (.iadd, 1) := by decide +kernel
theorem dL_shore_82 : decode cL_shore 82 = .ok (.iastore, 1) := by decide +kernel
theorem dL_shore_83 : decode cL_shore 83 = .ok (.aload_n 1, 1) := by decide +kernel
theorem dL_shore_84 : decode cL_shore 84 = .ok (.ldc 132, 2) := by decide +kernel
theorem dL_shore_86 : decode cL_shore 86 = .ok (.invokevirtual 37, 3) := by decide +kernel
theorem dL_shore_89 : decode cL_shore 89 = .ok (.iload_n 3, 1) := by decide +kernel
theorem dL_shore_90 : decode cL_shore 90 = .ok (.invokevirtual 47, 3) := by decide +kernel
theorem dL_shore_93 : decode cL_shore 93 = .ok (.ldc 134, 2) := by decide +kernel
theorem dL_shore_95 : decode cL_shore 95 = .ok (.invokevirtual 37, 3) := by decide +kernel
theorem dL_shore_98 : decode cL_shore 98 = .ok (.aload_n 2, 1) := by decide +kernel
theorem dL_shore_99 : decode cL_shore 99 = .ok (.getfield 128, 3) := by decide +kernel
theorem dL_shore_102 : decode cL_shore 102 = .ok (.iload_n 3, 1) := by decide +kernel
theorem dL_shore_103 : decode cL_shore 103 = .ok (.aaload, 1) := by decide +kernel
theorem dL_shore_104 : decode cL_shore 104 = .ok (.iconst 0, 1) := by decide +kernel
theorem dL_shore_105 : decode cL_shore 105 = .ok (.iaload, 1) := by decide +kernel
theorem dL_shore_106 : decode cL_shore 106 = .ok (.invokevirtual 47, 3) := by decide +kernel
theorem dL_shore_109 : decode cL_shore 109 = .ok (.ldc 136, 2) := by decide +kernel
theorem dL_shore_111 : decode cL_shore 111 = .ok (.invokevirtual 37, 3) := by decide +kernel
theorem dL_shore_114 : decode cL_shore 114 = .ok (.pop, 1) := by decide +kernel
theorem dL_shore_115 : decode cL_shore 115 = .ok (.iconst 1, 1) := by decide +kernel
theorem dL_shore_116 : decode cL_shore 116 = .ok (.iload 4, 2) := by decide +kernel
theorem dL_shore_118 : decode cL_shore 118 = .ok (.iconst 2, 1) := by decide +kernel
theorem dL_shore_119 : decode cL_shore 119 = .ok (.ishr, 1) := by decide +kernel
theorem dL_shore_120 : decode cL_shore 120 = .ok (.iconst 5, 1) := by decide +kernel
theorem dL_shore_121 : decode cL_shore 121 = .ok (.invokestatic 124, 3) := by decide +kernel
theorem dL_shore_124 : decode cL_shore 124 = .ok (.iadd, 1) := by decide +kernel
theorem dL_shore_125 : decode cL_shore 125 = .ok (.istore 5, 2) := by decide +kernel
theorem dL_shore_127 : decode cL_shore 127 = .ok (.iconst 1, 1) := by decide +kernel
theorem dL_shore_128 : decode cL_shore 128 = .ok (.istore 6, 2) := by decide +kernel
theorem dL_shore_130 : decode cL_shore 130 = .ok (.iload 6, 2) := by decide +kernel
theorem dL_shore_132 : decode cL_shore 132 = .ok (.iload 5, 2) := by decide +kernel
theorem dL_shore_134 : decode cL_shore 134 = .ok (.if_icmp .gt 76, 3) := by decide +kernel
theorem dL_shore_137 : decode cL_shore 137 = .ok (.aload_n 2, 1) := by decide +kernel
theorem dL_shore_138 : decode cL_shore 138 = .ok (.getfield 128, 3) := by decide +kernel
theorem dL_shore_141 : decode cL_shore 141 = .ok (.iload_n 3, 1) := by decide +kernel
theorem dL_shore_142 : decode cL_shore 142 = .ok (.aaload, 1) := by decide +kernel
theorem dL_shore_143 : decode cL_shore 143 = .ok (.iload 6, 2) := by decide +kernel
theorem dL_shore_145 : decode cL_shore 145 = .ok (.iload 4, 2) := by decide +kernel
theorem dL_shore_147 : decode cL_shore 147 = .ok (.iconst 2, 1) := by decide +kernel
theorem dL_shore_148 : decode cL_shore 148 = .ok (.iload 6, 2) := by decide +kernel
theorem dL_shore_150 : decode cL_shore 150 = .ok (.imul, 1) := by decide +kernel
theorem dL_shore_151 : decode cL_shore 151 = .ok (.ishr, 1) := by decide +kernel
theorem dL_shore_152 : decode cL_shore 152 = .ok (.iload 4, 2) := by decide +kernel
theorem dL_shore_154 : decode cL_shore 154 = .ok (.iconst 5, 1) := by decide +kernel
theorem dL_shore_155 : decode cL_shore 155 = .ok (.ishr, 1) := by decide +kernel
theorem dL_shore_156 : decode cL_shore 156 = .ok (.iconst 2, 1) := by decide +kernel
theorem dL_shore_157 : decode cL_shore 157 = .ok (.invokestatic 124, 3) := by decide +kernel
theorem dL_shore_160 : decode cL_shore 160 = .ok (.ifCond .ne 8, 3) := by decide +kernel
theorem dL_shore_163 : decode cL_shore 163 = .ok (.bipush 100, 2) := by decide +kernel
theorem dL_shore_165 : decode cL_shore 165 = .ok (.goto 5, 3) := by decide +kernel
theorem dL_shore_168 : decode cL_shore 168 = .ok (.bipush 12, 2) := by decide +kernel
theorem dL_shore_170 : decode cL_shore 170 = .ok (.invokestatic 124, 3) := by decide +kernel
theorem dL_shore_173 : decode cL_shore 173 = .ok (.iastore, 1) := by decide +kernel
theorem dL_shore_174 : decode cL_shore 174 = .ok (.aload_n 1, 1) := by decide +kernel
theorem dL_shore_175 : decode cL_shore 175 = .ok (.iload 6, 2) := by decide +kernel
theorem dL_shore_177 : decode cL_shore 177 = .ok (.iconst 1, 1) := by decide +kernel
theorem dL_shore_178 : decode cL_shore 178 = .ok (.if_icmp .le 8, 3) := by decide +kernel
theorem dL_shore_181 : decode cL_shore 181 = .ok (.ldc 138, 2) := by decide +kernel
theorem dL_shore_183 : decode cL_shore 183 = .ok (.goto 5, 3) := by decide +kernel
theorem dL_shore_186 : decode cL_shore 186 = .ok (.ldc 99, 2) := by decide +kernel
theorem dL_shore_188 : decode cL_shore 188 = .ok (.invokevirtual 37, 3) := by decide +kernel
theorem dL_shore_191 : decode cL_shore 191 = .ok (.aload_n 2, 1) := by decide +kernel
theorem dL_shore_192 : decode cL_shore 192 = .ok (.getfield 128, 3) := by decide +kernel
theorem dL_shore_195 : decode cL_shore 195 = .ok (.iload_n 3, 1) := by decide +kernel
theorem dL_shore_196 : decode cL_shore 196 = .ok (.aaload, 1) := by decide +kernel
theorem dL_shore_197 : decode cL_shore 197 = .ok (.iload 6, 2) := by decide +kernel
theorem dL_shore_199 : decode cL_shore 199 = .ok (.iaload, 1) := by decide +kernel
theorem dL_shore_200 : decode cL_shore 200 = .ok (.invokevirtual 47, 3) := by decide +kernel
theorem dL_shore_203 : decode cL_shore 203 = .ok (.pop, 1) := by decide +kernel
theorem dL_shore_204 : decode cL_shore 204 = .ok (.iinc 6 1, 3) := by decide +kernel
theorem dL_shore_207 : decode cL_shore 207 = .ok (.goto (-77), 3) := by decide +kernel
theorem dL_shore_210 : decode cL_shore 210 = .ok (.aload_n 1, 1) := by decide +kernel
theorem dL_shore_211 : decode cL_shore 211 = .ok (.iload_n 3, 1) := by decide +kernel
theorem dL_shore_212 : decode cL_shore 212 = .ok (.iconst 2, 1) := by decide +kernel
theorem dL_shore_213 : decode cL_shore 213 = .ok (.irem, 1) := by decide +kernel
theorem dL_shore_214 : decode cL_shore 214 = .ok (.ifCond .ne 8, 3) := by decide +kernel
theorem dL_shore_217 : decode cL_shore 217 = .ok (.ldc 140, 2) := by decide +kernel
theorem dL_shore_219 : decode cL_shore 219 = .ok (.goto 5, 3) := by decide +kernel
theorem dL_shore_222 : decode cL_shore 222 = .ok (.ldc 142, 2) := by decide +kernel
theorem dL_shore_224 : decode cL_shore 224 = .ok (.invokevirtual 37, 3) := by decide +kernel
theorem dL_shore_227 : decode cL_shore 227 = .ok (.pop, 1) := by decide +kernel
theorem dL_shore_228 : decode cL_shore 228 = .ok (.iinc 3 1, 3) := by decide +kernel
theorem dL_shore_231 : decode cL_shore 231 = .ok (.goto (-206), 3) := by decide +kernel
theorem dL_shore_234 : decode cL_shore 234 = .ok (.aload_n 2, 1) := by decide +kernel
theorem dL_shore_235 : decode cL_shore 235 = .ok (.iconst 1, 1) := by decide +kernel
theorem dL_shore_236 : decode cL_shore 236 = .ok (.aload_n 0, 1) := by decide +kernel
theorem dL_shore_237 : decode cL_shore 237 = .ok (.iconst 3, 1) := by decide +kernel
theorem dL_shore_238 : decode cL_shore 238 = .ok (.invokestatic 118, 3) := by decide +kernel
theorem dL_shore_241 : decode cL_shore 241 = .ok (.bipush 6, 2) := by decide +kernel
theorem dL_shore_243 : decode cL_shore 243 = .ok (.invokestatic 124, 3) := by decide +kernel
theorem dL_shore_246 : decode cL_shore 246 = .ok (.iadd, 1) := by decide +kernel
theorem dL_shore_247 : decode cL_shore 247 = .ok (.putfield 56, 3) := by decide +kernel
theorem dL_shore_250 : decode cL_shore 250 = .ok (.iconst 0, 1) := by decide +kernel
theorem dL_shore_251 : decode cL_shore 251 = .ok (.istore_n 3, 1) := by decide +kernel
theorem dL_shore_252 : decode cL_shore 252 = .ok (.iload_n 3, 1) := by decide +kernel
theorem dL_shore_253 : decode cL_shore 253 = .ok (.aload_n 2, 1) := by decide +kernel
theorem dL_shore_254 : decode cL_shore 254 = .ok (.getfield 56, 3) := by decide +kernel
theorem dL_shore_257 : decode cL_shore 257 = .ok (.if_icmp .ge 177, 3) := by decide +kernel
theorem dL_shore_260 : decode cL_shore 260 = .ok (.aload_n 0, 1) := by decide +kernel
theorem dL_shore_261 : decode cL_shore 261 = .ok (.iconst 4, 1) := by decide +kernel
theorem dL_shore_262 : decode cL_shore 262 = .ok (.iload_n 3, 1) := by decide +kernel
theorem dL_shore_263 : decode cL_shore 263 = .ok (.iconst 3, 1) := by decide +kernel
theorem dL_shore_264 : decode cL_shore 264 = .ok (.irem, 1) := by decide +kernel
theorem dL_shore_265 : decode cL_shore 265 = .ok (.iadd, 1) := by decide +kernel
theorem dL_shore_266 : decode cL_shore 266 = .ok (.invokestatic 118, 3) := by decide +kernel
theorem dL_shore_269 : decode cL_shore 269 = .ok (.iload_n 3, 1) := by decide +kernel
theorem dL_shore_270 : decode cL_shore 270 = .ok (.iconst 3, 1) := by decide +kernel
theorem dL_shore_271 : decode cL_shore 271 = .ok (.idiv, 1) := by decide +kernel
theorem dL_shore_272 : decode cL_shore 272 = .ok (.bipush 9, 2) := by decide +kernel
theorem dL_shore_274 : decode cL_shore 274 = .ok (.imul, 1) := by decide +kernel
theorem dL_shore_275 : decode cL_shore 275 = .ok (.ishr, 1) := by decide +kernel
theorem dL_shore_276 : decode cL_shore 276 = .ok (.istore 4, 2) := by decide +kernel
theorem dL_shore_278 : decode cL_shore 278 = .ok (.iconst 4, 1) := by decide +kernel
theorem dL_shore_279 : decode cL_shore 279 = .ok (.newarray .int, 2) := by decide +kernel
theorem dL_shore_281 : decode cL_shore 281 = .ok (.dup, 1) := by decide +kernel
theorem dL_shore_282 : decode cL_shore 282 = .ok (.iconst 0, 1) := by decide +kernel
theorem dL_shore_283 : decode cL_shore 283 = .ok (.iconst 1, 1) := by decide +kernel
theorem dL_shore_284 : decode cL_shore 284 = .ok (.iload 4, 2) := by decide +kernel
theorem dL_shore_286 : decode cL_shore 286 = .ok (.iconst 5, 1) := by decide +kernel
theorem dL_shore_287 : decode cL_shore 287 = .ok (.invokestatic 124, 3) := by decide +kernel
theorem dL_shore_290 : decode cL_shore 290 = .ok (.iadd, 1) := by decide +kernel
theorem dL_shore_291 : decode cL_shore 291 = .ok (.iastore, 1) := by decide +kernel
theorem dL_shore_292 : decode cL_shore 292 = .ok (.dup, 1) := by decide +kernel
theorem dL_shore_293 : decode cL_shore 293 = .ok (.iconst 1, 1) := by decide +kernel
theorem dL_shore_294 : decode cL_shore 294 = .ok (.iconst 0, 1) := by decide +kernel
theorem dL_shore_295 : decode cL_shore 295 = .ok (.iastore, 1) := by decide +kernel
theorem dL_shore_296 : decode cL_shore 296 = .ok (.dup, 1) := by decide +kernel
theorem dL_shore_297 : decode cL_shore 297 = .ok (.iconst 2, 1) := by decide +kernel
theorem dL_shore_298 : decode cL_shore 298 = .ok (.iconst 1, 1) := by decide +kernel
theorem dL_shore_299 : decode cL_shore 299 = .ok (.iload 4, 2) := by decide +kernel
theorem dL_shore_301 : decode cL_shore 301 = .ok (.iconst 3, 1) := by decide +kernel
theorem dL_shore_302 : decode cL_shore 302 = .ok (.ishr, 1) := by decide +kernel
theorem dL_shore_303 : decode cL_shore 303 = .ok (.iload 4, 2) := by decide +kernel
theorem dL_shore_305 : decode cL_shore 305 = .ok (.bipush 8, 2) := by decide +kernel
theorem dL_shore_307 : decode cL_shore 307 = .ok (.ishr, 1) := by decide +kernel
theorem dL_shore_308 : decode cL_shore 308 = .ok (.iconst 2, 1) := by decide +kernel
theorem dL_shore_309 : decode cL_shore 309 = .ok (.invokestatic 124, 3) := by decide +kernel
theorem dL_shore_312 : decode cL_shore 312 = .ok (.ifCond .ne 8, 3) := by decide +kernel
theorem dL_shore_315 : decode cL_shore 315 = .ok (.bipush 99, 2) := by decide +kernel
theorem dL_shore_317 : decode cL_shore 317 = .ok (.goto 5, 3) := by decide +kernel
theorem dL_shore_320 : decode cL_shore 320 = .ok (.bipush 25, 2) := by decide +kernel
theorem dL_shore_322 : decode cL_shore 322 = .ok (.invokestatic 124, 3) := by decide +kernel
theorem dL_shore_325 : decode cL_shore 325 = .ok (.iadd, 1) := by decide +kernel
theorem dL_shore_326 : decode cL_shore 326 = .ok (.iastore, 1) := by decide +kernel
theorem dL_shore_327 : decode cL_shore 327 = .ok (.dup, 1) := by decide +kernel
theorem dL_shore_328 : decode cL_shore 328 = .ok (.iconst 3, 1) := by decide +kernel
theorem dL_shore_329 : decode cL_shore 329 = .ok (.iconst 1, 1) := by decide +kernel
theorem dL_shore_330 : decode cL_shore 330 = .ok (.iload 4, 2) := by decide +kernel
theorem dL_shore_332 : decode cL_shore 332 = .ok (.iconst 5, 1) := by decide +kernel
theorem dL_shore_333 : decode cL_shore 333 = .ok (.ishr, 1) := by decide +kernel
theorem dL_shore_334 : decode cL_shore 334 = .ok (.iload 4, 2) := by decide +kernel
theorem dL_shore_336 : decode cL_shore 336 = .ok (.bipush 7, 2) := by decide +kernel
theorem dL_shore_338 : decode cL_shore 338 = .ok (.ishr, 1) := by decide +kernel
theorem dL_shore_339 : decode cL_shore 339 = .ok (.iconst 2, 1) := by decide +kernel
theorem dL_shore_340 : decode cL_shore 340 = .ok (.invokestatic 124, 3) := by decide +kernel
theorem dL_shore_343 : decode cL_shore 343 = .ok (.ifCond .ne 8, 3) := by decide +kernel
theorem dL_shore_346 : decode cL_shore 346 = .ok (.bipush 40, 2) := by decide +kernel
theorem dL_shore_348 : decode cL_shore 348 = .ok (.goto 5, 3) := by decide +kernel
theorem dL_shore_351 : decode cL_shore 351 = .ok (.bipush 9, 2) := by decide +kernel
theorem dL_shore_353 : decode cL_shore 353 = .ok (.invokestatic 124, 3) := by decide +kernel
theorem dL_shore_356 : decode cL_shore 356 = .ok (.iadd, 1) := by decide +kernel
theorem dL_shore_357 : decode cL_shore 357 = .ok (.iastore, 1) := by decide +kernel
theorem dL_shore_358 : decode cL_shore 358 = .ok (.astore 5, 2) := by decide +kernel
theorem dL_shore_360 : decode cL_shore 360 = .ok (.aload 5, 2) := by decide +kernel
theorem dL_shore_362 : decode cL_shore 362 = .ok (.iconst 1, 1) := by decide +kernel
theorem dL_shore_363 : decode cL_shore 363 = .ok (.aload 5, 2) := by decide +kernel
theorem dL_shore_365 : decode cL_shore 365 = .ok (.iconst 0, 1) := by decide +kernel
theorem dL_shore_366 : decode cL_shore 366 = .ok (.iaload, 1) := by decide +kernel
theorem dL_shore_367 : decode cL_shore 367 = .ok (.iastore, 1) := by decide +kernel
theorem dL_shore_368 : decode cL_shore 368 = .ok (.aload_n 2, 1) := by decide +kernel
theorem dL_shore_369 : decode cL_shore 369 = .ok (.getfield 144, 3) := by decide +kernel
theorem dL_shore_372 : decode cL_shore 372 = .ok (.iload_n 3, 1) := by decide +kernel
theorem dL_shore_373 : decode cL_shore 373 = .ok (.aload 5, 2) := by decide +kernel
theorem dL_shore_375 : decode cL_shore 375 = .ok (.aastore, 1) := by decide +kernel
theorem dL_shore_376 : decode cL_shore 376 = .ok (.aload_n 1, 1) := by decide +kernel
theorem dL_shore_377 : decode cL_shore 377 = .ok (.ldc 147, 2) := by decide +kernel
theorem dL_shore_379 : decode cL_shore 379 = .ok (.invokevirtual 37, 3) := by decide +kernel
theorem dL_shore_382 : decode cL_shore 382 = .ok (.iload_n 3, 1) := by decide +kernel
theorem dL_shore_383 : decode cL_shore 383 = .ok (.invokevirtual 47, 3) := by decide +kernel
theorem dL_shore_386 : decode cL_shore 386 = .ok (.ldc 149, 2) := by decide +kernel
theorem dL_shore_388 : decode cL_shore 388 = .ok (.invokevirtual 37, 3) := by decide +kernel
theorem dL_shore_391 : decode cL_shore 391 = .ok (.aload 5, 2) := by decide +kernel
theorem dL_shore_393 : decode cL_shore 393 = .ok (.iconst 0, 1) := by decide +kernel
theorem dL_shore_394 : decode cL_shore 394 = .ok (.iaload, 1) := by decide +kernel
theorem dL_shore_395 : decode cL_shore 395 = .ok (.invokevirtual 47, 3) := by decide +kernel
theorem dL_shore_398 : decode cL_shore 398 = .ok (.ldc 151, 2) := by decide +kernel
theorem dL_shore_400 : decode cL_shore 400 = .ok (.invokevirtual 37, 3) := by decide +kernel
theorem dL_shore_403 : decode cL_shore 403 = .ok (.aload 5, 2) := by decide +kernel
theorem dL_shore_405 : decode cL_shore 405 = .ok (.iconst 2, 1) := by decide +kernel
theorem dL_shore_406 : decode cL_shore 406 = .ok (.iaload, 1) := by decide +kernel
theorem dL_shore_407 : decode cL_shore 407 = .ok (.invokevirtual 47, 3) := by decide +kernel
theorem dL_shore_410 : decode cL_shore 410 = .ok (.ldc 153, 2) := by decide +kernel
theorem dL_shore_412 : decode cL_shore 412 = .ok (.invokevirtual 37, 3) := by decide +kernel
theorem dL_shore_415 : decode cL_shore 415 = .ok (.aload 5, 2) := by decide +kernel
theorem dL_shore_417 : decode cL_shore 417 = .ok (.iconst 3, 1) := by decide +kernel
theorem dL_shore_418 : decode cL_shore 418 = .ok (.iaload, 1) := by decide +kernel
theorem dL_shore_419 : decode cL_shore 419 = .ok (.invokevirtual 47, 3) := by decide +kernel
theorem dL_shore_422 : decode cL_shore 422 = .ok (.ldc 140, 2) := by decide +kernel
theorem dL_shore_424 : decode cL_shore 424 = .ok (.invokevirtual 37, 3) := by decide +kernel
theorem dL_shore_427 : decode cL_shore 427 = .ok (.pop, 1) := by decide +kernel
theorem dL_shore_428 : decode cL_shore 428 = .ok (.iinc 3 1, 3) := by decide +kernel
theorem dL_shore_431 : decode cL_shore 431 = .ok (.goto (-179), 3) := by decide +kernel
theorem dL_shore_434 : decode cL_shore 434 = .ok (.aload_n 2, 1) := by decide +kernel
theorem dL_shore_435 : decode cL_shore 435 = .ok (.aload_n 0, 1) := by decide +kernel
theorem dL_shore_436 : decode cL_shore 436 = .ok (.bipush 7, 2) := by decide +kernel
theorem dL_shore_438 : decode cL_shore 438 = .ok (.invokestatic 118, 3) := by decide +kernel
theorem dL_shore_441 : decode cL_shore 441 = .ok (.bipush 9, 2) := by decide +kernel
theorem dL_shore_443 : decode cL_shore 443 = .ok (.invokestatic 124, 3) := by decide +kernel
theorem dL_shore_446 : decode cL_shore 446 = .ok (.putfield 155, 3) := by decide +kernel
theorem dL_shore_449 : decode cL_shore 449 = .ok (.iconst 0, 1) := by decide +kernel
theorem dL_shore_450 : decode cL_shore 450 = .ok (.istore_n 3, 1) := by decide +kernel
theorem dL_shore_451 : decode cL_shore 451 = .ok (.iload_n 3, 1) := by decide +kernel
theorem dL_shore_452 : decode cL_shore 452 = .ok (.aload_n 2, 1) := by decide +kernel
theorem dL_shore_453 : decode cL_shore 453 = .ok (.getfield 155, 3) := by decide +kernel
theorem dL_shore_456 : decode cL_shore 456 = .ok (.if_icmp .ge 185, 3) := by decide +kernel
theorem dL_shore_459 : decode cL_shore 459 = .ok (.aload_n 0, 1) := by decide +kernel
theorem dL_shore_460 : decode cL_shore 460 = .ok (.bipush 8, 2) := by decide +kernel
theorem dL_shore_462 : decode cL_shore 462 = .ok (.iload_n 3, 1) := by decide +kernel
theorem dL_shore_463 : decode cL_shore 463 = .ok (.iconst 3, 1) := by decide +kernel
theorem dL_shore_464 : decode cL_shore 464 = .ok (.irem, 1) := by decide +kernel
theorem dL_shore_465 : decode cL_shore 465 = .ok (.iadd, 1) := by decide +kernel
theorem dL_shore_466 : decode cL_shore 466 = .ok (.invokestatic 118, 3) := by decide +kernel
theorem dL_shore_469 : decode cL_shore 469 = .ok (.iload_n 3, 1) := by decide +kernel
theorem dL_shore_470 : decode cL_shore 470 = .ok (.iconst 3, 1) := by decide +kernel
theorem dL_shore_471 : decode cL_shore 471 = .ok (.idiv, 1) := by decide +kernel
theorem dL_shore_472 : decode cL_shore 472 = .ok (.iconst 4, 1) := by decide +kernel
theorem dL_shore_473 : decode cL_shore 473 = .ok (.imul, 1) := by decide +kernel
theorem dL_shore_474 : decode cL_shore 474 = .ok (.ishr, 1) := by decide +kernel
theorem dL_shore_475 : decode cL_shore 475 = .ok (.bipush 61, 2) := by decide +kernel
theorem dL_shore_477 : decode cL_shore 477 = .ok (.iload_n 3, 1) := by decide +kernel
theorem dL_shore_478 : decode cL_shore 478 = .ok (.imul, 1) := by decide +kernel
theorem dL_shore_479 : decode cL_shore 479 = .ok (.iadd, 1) := by decide +kernel
theorem dL_shore_480 : decode cL_shore 480 = .ok (.istore 4, 2) := by decide +kernel
theorem dL_shore_482 : decode cL_shore 482 = .ok (.bipush 7, 2) := by decide +kernel
theorem dL_shore_484 : decode cL_shore 484 = .ok (.newarray .int, 2) := by decide +kernel
theorem dL_shore_486 : decode cL_shore 486 = .ok (.dup, 1) := by decide +kernel
theorem dL_shore_487 : decode cL_shore 487 = .ok (.iconst 0, 1) := by decide +kernel
theorem dL_shore_488 : decode cL_shore 488 = .ok (.iload 4, 2) := by decide +kernel
theorem dL_shore_490 : decode cL_shore 490 = .ok (.aload_n 2, 1) := by decide +kernel
theorem dL_shore_491 : decode cL_shore 491 = .ok (.getfield 56, 3) := by decide +kernel
theorem dL_shore_494 : decode cL_shore 494 = .ok (.invokestatic 124, 3) := by decide +kernel
theorem dL_shore_497 : decode cL_shore 497 = .ok (.iastore, 1) := by decide +kernel
theorem dL_shore_498 : decode cL_shore 498 = .ok (.dup, 1) := by decide +kernel
theorem dL_shore_499 : decode cL_shore 499 = .ok (.iconst 1, 1) := by decide +kernel
theorem dL_shore_500 : decode cL_shore 500 = .ok (.iload 4, 2) := by decide +kernel
theorem dL_shore_502 : decode cL_shore 502 = .ok (.iconst 2, 1) := by decide +kernel
theorem dL_shore_503 : decode cL_shore 503 = .ok (.ishr, 1) := by decide +kernel
theorem dL_shore_504 : decode cL_shore 504 = .ok (.aload_n 2, 1) := by decide +kernel
theorem dL_shore_505 : decode cL_shore 505 = .ok (.getfield 41, 3) := by decide +kernel
theorem dL_shore_508 : decode cL_shore 508 = .ok (.invokestatic 124, 3) := by decide +kernel
theorem dL_shore_511 : decode cL_shore 511 = .ok (.iastore, 1) := by decide +kernel
theorem dL_shore_512 : decode cL_shore 512 = .ok (.dup, 1) := by decide +kernel
theorem dL_shore_513 : decode cL_shore 513 = .ok (.iconst 2, 1) := by decide +kernel
theorem dL_shore_514 : decode cL_shore 514 = .ok (.iload 4, 2) := by decide +kernel
theorem dL_shore_516 : decode cL_shore 516 = .ok (.iconst 4, 1) := by decide +kernel
theorem dL_shore_517 : decode cL_shore 517 = .ok (.ishr, 1) := by decide +kernel
theorem dL_shore_518 : decode cL_shore 518 = .ok (.bipush 8, 2) := by decide +kernel
theorem dL_shore_520 : decode cL_shore 520 = .ok (.invokestatic 124, 3) := by decide +kernel
theorem dL_shore_523 : decode cL_shore 523 = .ok (.iastore, 1) := by decide +kernel
theorem dL_shore_524 : decode cL_shore 524 = .ok (.dup, 1) := by decide +kernel
theorem dL_shore_525 : decode cL_shore 525 = .ok (.iconst 3, 1) := by decide +kernel
theorem dL_shore_526 : decode cL_shore 526 = .ok (.iload 4, 2) := by decide +kernel
theorem dL_shore_528 : decode cL_shore 528 = .ok (.iconst 3, 1) := by decide +kernel
theorem dL_shore_529 : decode cL_shore 529 = .ok (.ishr, 1) := by decide +kernel
theorem dL_shore_530 : decode cL_shore 530 = .ok (.bipush 8, 2) := by decide +kernel
theorem dL_shore_532 : decode cL_shore 532 = .ok (.invokestatic 124, 3) := by decide +kernel
theorem dL_shore_535 : decode cL_shore 535 = .ok (.iastore, 1) := by decide +kernel
theorem dL_shore_536 : decode cL_shore 536 = .ok (.dup, 1) := by decide +kernel
theorem dL_shore_537 : decode cL_shore 537 = .ok (.iconst 4, 1) := by decide +kernel
theorem dL_shore_538 : decode cL_shore 538 = .ok (.iload 4, 2) := by decide +kernel
theorem dL_shore_540 : decode cL_shore 540 = .ok (.iconst 5, 1) := by decide +kernel
theorem dL_shore_541 : decode cL_shore 541 = .ok (.ishr, 1) := by decide +kernel
theorem dL_shore_542 : decode cL_shore 542 = .ok (.bipush 8, 2) := by decide +kernel
theorem dL_shore_544 : decode cL_shore 544 = .ok (.invokestatic 124, 3) := by decide +kernel
theorem dL_shore_547 : decode cL_shore 547 = .ok (.iastore, 1) := by decide +kernel
theorem dL_shore_548 : decode cL_shore 548 = .ok (.dup, 1) := by decide +kernel
theorem dL_shore_549 : decode cL_shore 549 = .ok (.iconst 5, 1) := by decide +kernel
theorem dL_shore_550 : decode cL_shore 550 = .ok (.iload 4, 2) := by decide +kernel
theorem dL_shore_552 : decode cL_shore 552 = .ok (.bipush 6, 2) := by decide +kernel
theorem dL_shore_554 : decode cL_shore 554 = .ok (.ishr, 1) := by decide +kernel
theorem dL_shore_555 : decode cL_shore 555 = .ok (.bipush 8, 2) := by decide +kernel
theorem dL_shore_557 : decode cL_shore 557 = .ok (.invokestatic 124, 3) := by decide +kernel
theorem dL_shore_560 : decode cL_shore 560 = .ok (.iastore, 1) := by decide +kernel
theorem dL_shore_561 : decode cL_shore 561 = .ok (.dup, 1) := by decide +kernel
theorem dL_shore_562 : decode cL_shore 562 = .ok (.bipush 6, 2) := by decide +kernel
theorem dL_shore_564 : decode cL_shore 564 = .ok (.iload 4, 2) := by decide +kernel
theorem dL_shore_566 : decode cL_shore 566 = .ok (.iconst 1, 1) := by decide +kernel
theorem dL_shore_567 : decode cL_shore 567 = .ok (.ishr, 1) := by decide +kernel
theorem dL_shore_568 : decode cL_shore 568 = .ok (.bipush 60, 2) := by decide +kernel
theorem dL_shore_570 : decode cL_shore 570 = .ok (.invokestatic 124, 3) := by decide +kernel
theorem dL_shore_573 : decode cL_shore 573 = .ok (.iastore, 1) := by decide +kernel
theorem dL_shore_574 : decode cL_shore 574 = .ok (.astore 5, 2) := by decide +kernel
theorem dL_shore_576 : decode cL_shore 576 = .ok (.aload_n 2, 1) := by decide +kernel
theorem dL_shore_577 : decode cL_shore 577 = .ok (.getfield 158, 3) := by decide +kernel
theorem dL_shore_580 : decode cL_shore 580 = .ok (.iload_n 3, 1) := by decide +kernel
theorem dL_shore_581 : decode cL_shore 581 = .ok (.aload 5, 2) := by decide +kernel
theorem dL_shore_583 : decode cL_shore 583 = .ok (.aastore, 1) := by decide +kernel
theorem dL_shore_584 : decode cL_shore 584 = .ok (.aload_n 1, 1) := by decide +kernel
theorem dL_shore_585 : decode cL_shore 585 = .ok (.ldc 161, 2) := by decide +kernel
theorem dL_shore_587 : decode cL_shore 587 = .ok (.invokevirtual 37, 3) := by decide +kernel
theorem dL_shore_590 : decode cL_shore 590 = .ok (.aload 5, 2) := by decide +kernel
theorem dL_shore_592 : decode cL_shore 592 = .ok (.iconst 0, 1) := by decide +kernel
theorem dL_shore_593 : decode cL_shore 593 = .ok (.iaload, 1) := by decide +kernel
theorem dL_shore_594 : decode cL_shore 594 = .ok (.invokevirtual 47, 3) := by decide +kernel
theorem dL_shore_597 : decode cL_shore 597 = .ok (.ldc 163, 2) := by decide +kernel
theorem dL_shore_599 : decode cL_shore 599 = .ok (.invokevirtual 37, 3) := by decide +kernel
theorem dL_shore_602 : decode cL_shore 602 = .ok (.aload 5, 2) := by decide +kernel
theorem dL_shore_604 : decode cL_shore 604 = .ok (.iconst 1, 1) := by decide +kernel
theorem dL_shore_605 : decode cL_shore 605 = .ok (.iaload, 1) := by decide +kernel
theorem dL_shore_606 : decode cL_shore 606 = .ok (.invokevirtual 47, 3) := by decide +kernel
theorem dL_shore_609 : decode cL_shore 609 = .ok (.aload 5, 2) := by decide +kernel
theorem dL_shore_611 : decode cL_shore 611 = .ok (.aload_n 2, 1) := by decide +kernel
theorem dL_shore_612 : decode cL_shore 612 = .ok (.invokestatic 165, 3) := by decide +kernel
theorem dL_shore_615 : decode cL_shore 615 = .ok (.invokevirtual 37, 3) := by decide +kernel
theorem dL_shore_618 : decode cL_shore 618 = .ok (.iload_n 3, 1) := by decide +kernel
theorem dL_shore_619 : decode cL_shore 619 = .ok (.iconst 3, 1) := by decide +kernel
theorem dL_shore_620 : decode cL_shore 620 = .ok (.irem, 1) := by decide +kernel
theorem dL_shore_621 : decode cL_shore 621 = .ok (.ifCond .ne 8, 3) := by decide +kernel
theorem dL_shore_624 : decode cL_shore 624 = .ok (.ldc 169, 2) := by decide +kernel
theorem dL_shore_626 : decode cL_shore 626 = .ok (.goto 5, 3) := by decide +kernel
theorem dL_shore_629 : decode cL_shore 629 = .ok (.ldc 140, 2) := by decide +kernel
theorem dL_shore_631 : decode cL_shore 631 = .ok (.invokevirtual 37, 3) := by decide +kernel
theorem dL_shore_634 : decode cL_shore 634 = .ok (.pop, 1) := by decide +kernel
theorem dL_shore_635 : decode cL_shore 635 = .ok (.iinc 3 1, 3) := by decide +kernel
theorem dL_shore_638 : decode cL_shore 638 = .ok (.goto (-187), 3) := by decide +kernel
theorem dL_shore_641 : decode cL_shore 641 = .ok (.aload_n 2, 1) := by decide +kernel
theorem dL_shore_642 : decode cL_shore 642 = .ok (.aload_n 0, 1) := by decide +kernel
theorem dL_shore_643 : decode cL_shore 643 = .ok (.bipush 11, 2) := by decide +kernel
theorem dL_shore_645 : decode cL_shore 645 = .ok (.invokestatic 118, 3) := by decide +kernel
theorem dL_shore_648 : decode cL_shore 648 = .ok (.iconst 4, 1) := by decide +kernel
theorem dL_shore_649 : decode cL_shore 649 = .ok (.invokestatic 124, 3) := by decide +kernel
theorem dL_shore_652 : decode cL_shore 652 = .ok (.putfield 171, 3) := by decide +kernel
theorem dL_shore_655 : decode cL_shore 655 = .ok (.iconst 0, 1) := by decide +kernel
theorem dL_shore_656 : decode cL_shore 656 = .ok (.istore_n 3, 1) := by decide +kernel
theorem dL_shore_657 : decode cL_shore 657 = .ok (.iload_n 3, 1) := by decide +kernel
theorem dL_shore_658 : decode cL_shore 658 = .ok (.aload_n 2, 1) := by decide +kernel
theorem dL_shore_659 : decode cL_shore 659 = .ok (.getfield 171, 3) := by decide +kernel
theorem dL_shore_662 : decode cL_shore 662 = .ok (.if_icmp .ge 264, 3) := by decide +kernel
theorem dL_shore_665 : decode cL_shore 665 = .ok (.aload_n 0, 1) := by decide +kernel
theorem dL_shore_666 : decode cL_shore 666 = .ok (.bipush 12, 2) := by decide +kernel
theorem dL_shore_668 : decode cL_shore 668 = .ok (.iload_n 3, 1) := by decide +kernel
theorem dL_shore_669 : decode cL_shore 669 = .ok (.iadd, 1) := by decide +kernel
theorem dL_shore_670 : decode cL_shore 670 = .ok (.invokestatic 118, 3) := by decide +kernel
theorem dL_shore_673 : decode cL_shore 673 = .ok (.istore 4, 2) := by decide +kernel
theorem dL_shore_675 : decode cL_shore 675 = .ok (.iconst 1, 1) := by decide +kernel
theorem dL_shore_676 : decode cL_shore 676 = .ok (.iload 4, 2) := by decide +kernel
theorem dL_shore_678 : decode cL_shore 678 = .ok (.aload_n 2, 1) := by decide +kernel
theorem dL_shore_679 : decode cL_shore 679 = .ok (.getfield 56, 3) := by decide +kernel
theorem dL_shore_682 : decode cL_shore 682 = .ok (.invokestatic 124, 3) := by decide +kernel
theorem dL_shore_685 : decode cL_shore 685 = .ok (.iadd, 1) := by decide +kernel
theorem dL_shore_686 : decode cL_shore 686 = .ok (.istore 5, 2) := by decide +kernel
theorem dL_shore_688 : decode cL_shore 688 = .ok (.iload 5, 2) := by decide +kernel
theorem dL_shore_690 : decode cL_shore 690 = .ok (.newarray .int, 2) := by decide +kernel
theorem dL_shore_692 : decode cL_shore 692 = .ok (.astore 6, 2) := by decide +kernel
theorem dL_shore_694 : decode cL_shore 694 = .ok (.iconst 4, 1) := by decide +kernel
theorem dL_shore_695 : decode cL_shore 695 = .ok (.newarray .int, 2) := by decide +kernel
theorem dL_shore_697 : decode cL_shore 697 = .ok (.dup, 1) := by decide +kernel
theorem dL_shore_698 : decode cL_shore 698 = .ok (.iconst 0, 1) := by decide +kernel
theorem dL_shore_699 : decode cL_shore 699 = .ok (.iload 4, 2) := by decide +kernel
theorem dL_shore_701 : decode cL_shore 701 = .ok (.bipush 7, 2) := by decide +kernel
theorem dL_shore_703 : decode cL_shore 703 = .ok (.ishr, 1) := by decide +kernel
theorem dL_shore_704 : decode cL_shore 704 = .ok (.iconst 2, 1) := by decide +kernel
theorem dL_shore_705 : decode cL_shore 705 = .ok (.invokestatic 124, 3) := by decide +kernel
theorem dL_shore_708 : decode cL_shore 708 = .ok (.ifCond .ne 7, 3) := by decide +kernel
theorem dL_shore_711 : decode cL_shore 711 = .ok (.iconst (-1), 1) := by decide +kernel
theorem dL_shore_712 : decode cL_shore 712 = .ok (.goto 14, 3) := by decide +kernel
theorem dL_shore_715 : decode cL_shore 715 = .ok (.iload 4, 2) := by decide +kernel
theorem dL_shore_717 : decode cL_shore 717 = .ok (.iconst 2, 1) := by decide +kernel
theorem dL_shore_718 : decode cL_shore 718 = .ok (.ishr, 1) := by decide +kernel
theorem dL_shore_719 : decode cL_shore 719 = .ok (.aload_n 2, 1) := by decide +kernel
theorem dL_shore_720 : decode cL_shore 720 = .ok (.getfield 41, 3) := by decide +kernel
theorem dL_shore_723 : decode cL_shore 723 = .ok (.invokestatic 124, 3) := by decide +kernel
theorem dL_shore_726 : decode cL_shore 726 = .ok (.iastore, 1) := by decide +kernel
theorem dL_shore_727 : decode cL_shore 727 = .ok (.dup, 1) := by decide +kernel
theorem dL_shore_728 : decode cL_shore 728 = .ok (.iconst 1, 1) := by decide +kernel
theorem dL_shore_729 : decode cL_shore 729 = .ok (.iload 4, 2) := by decide +kernel
theorem dL_shore_731 : decode cL_shore 731 = .ok (.iconst 5, 1) := by decide +kernel
theorem dL_shore_732 : decode cL_shore 732 = .ok (.ishr, 1) := by decide +kernel
theorem dL_shore_733 : decode cL_shore 733 = .ok (.iconst 5, 1) := by decide +kernel
theorem dL_shore_734 : decode cL_shore 734 = .ok (.invokestatic 124, 3) := by decide +kernel
theorem dL_shore_737 : decode cL_shore 737 = .ok (.iastore, 1) := by decide +kernel
theorem dL_shore_738 : decode cL_shore 738 = .ok (.dup, 1) := by decide +kernel
theorem dL_shore_739 : decode cL_shore 739 = .ok (.iconst 2, 1) := by decide +kernel
theorem dL_shore_740 : decode cL_shore 740 = .ok (.iload 4, 2) := by decide +kernel
theorem dL_shore_742 : decode cL_shore 742 = .ok (.iconst 3, 1) := by decide +kernel
theorem dL_shore_743 : decode cL_shore 743 = .ok (.ishr, 1) := by decide +kernel
theorem dL_shore_744 : decode cL_shore 744 = .ok (.bipush 120, 2) := by decide +kernel
theorem dL_shore_746 : decode cL_shore 746 = .ok (.invokestatic 124, 3) := by decide +kernel
theorem dL_shore_749 : decode cL_shore 749 = .ok (.iastore, 1) := by decide +kernel
theorem dL_shore_750 : decode cL_shore 750 = .ok (.dup, 1) := by decide +kernel
theorem dL_shore_751 : decode cL_shore 751 = .ok (.iconst 3, 1) := by decide +kernel
theorem dL_shore_752 : decode cL_shore 752 = .ok (.iload 4, 2) := by decide +kernel
theorem dL_shore_754 : decode cL_shore 754 = .ok (.bipush 6, 2) := by decide +kernel
theorem dL_shore_756 : decode cL_shore 756 = .ok (.ishr, 1) := by decide +kernel
theorem dL_shore_757 : decode cL_shore 757 = .ok (.bipush 30, 2) := by decide +kernel
theorem dL_shore_759 : decode cL_shore 759 = .ok (.invokestatic 124, 3) := by decide +kernel
theorem dL_shore_762 : decode cL_shore 762 = .ok (.iastore, 1) := by decide +kernel
theorem dL_shore_763 : decode cL_shore 763 = .ok (.astore 7, 2) := by decide +kernel
theorem dL_shore_765 : decode cL_shore 765 = .ok (.aload_n 2, 1) := by decide +kernel
theorem dL_shore_766 : decode cL_shore 766 = .ok (.getfield 174, 3) := by decide +kernel
theorem dL_shore_769 : decode cL_shore 769 = .ok (.iload_n 3, 1) := by decide +kernel
theorem dL_shore_770 : decode cL_shore 770 = .ok (.aload 7, 2) := by decide +kernel
theorem dL_shore_772 : decode cL_shore 772 = .ok (.aastore, 1) := by decide +kernel
theorem dL_shore_773 : decode cL_shore 773 = .ok (.aload_n 1, 1) := by decide +kernel
theorem dL_shore_774 : decode cL_shore 774 = .ok (.ldc 177, 2) := by decide +kernel
theorem dL_shore_776 : decode cL_shore 776 = .ok (.invokevirtual 37, 3) := by decide +kernel
theorem dL_shore_779 : decode cL_shore 779 = .ok (.iload_n 3, 1) := by decide +kernel
theorem dL_shore_780 : decode cL_shore 780 = .ok (.invokevirtual 47, 3) := by decide +kernel
theorem dL_shore_783 : decode cL_shore 783 = .ok (.ldc 179, 2) := by decide +kernel
theorem dL_shore_785 : decode cL_shore 785 = .ok (.invokevirtual 37, 3) := by decide +kernel
theorem dL_shore_788 : decode cL_shore 788 = .ok (.pop, 1) := by decide +kernel
theorem dL_shore_789 : decode cL_shore 789 = .ok (.iconst 0, 1) := by decide +kernel
theorem dL_shore_790 : decode cL_shore 790 = .ok (.istore 8, 2) := by decide +kernel
theorem dL_shore_792 : decode cL_shore 792 = .ok (.iload 8, 2) := by decide +kernel
theorem dL_shore_794 : decode cL_shore 794 = .ok (.iload 5, 2) := by decide +kernel
theorem dL_shore_796 : decode cL_shore 796 = .ok (.if_icmp .ge 63, 3) := by decide +kernel
theorem dL_shore_799 : decode cL_shore 799 = .ok (.aload 6, 2) := by decide +kernel
theorem dL_shore_801 : decode cL_shore 801 = .ok (.iload 8, 2) := by decide +kernel
theorem dL_shore_803 : decode cL_shore 803 = .ok (.iload 4, 2) := by decide +kernel
theorem dL_shore_805 : decode cL_shore 805 = .ok (.iconst 4, 1) := by decide +kernel
theorem dL_shore_806 : decode cL_shore 806 = .ok (.ishr, 1) := by decide +kernel
theorem dL_shore_807 : decode cL_shore 807 = .ok (.aload_n 2, 1) := by decide +kernel
theorem dL_shore_808 : decode cL_shore 808 = .ok (.getfield 56, 3) := by decide +kernel
theorem dL_shore_811 : decode cL_shore 811 = .ok (.invokestatic 124, 3) := by decide +kernel
theorem dL_shore_814 : decode cL_shore 814 = .ok (.iload 8, 2) := by decide +kernel
theorem dL_shore_816 : decode cL_shore 816 = .ok (.iadd, 1) := by decide +kernel
theorem dL_shore_817 : decode cL_shore 817 = .ok (.aload_n 2, 1) := by decide +kernel
theorem dL_shore_818 : decode cL_shore 818 = .ok (.getfield 56, 3) := by decide +kernel
theorem dL_shore_821 : decode cL_shore 821 = .ok (.irem, 1) := by decide +kernel
theorem dL_shore_822 : decode cL_shore 822 = .ok (.iastore, 1) := by decide +kernel
theorem dL_shore_823 : decode cL_shore 823 = .ok (.aload_n 1, 1) := by decide +kernel
theorem dL_shore_824 : decode cL_shore 824 = .ok (.iload 8, 2) := by decide +kernel
theorem dL_shore_826 : decode cL_shore 826 = .ok (.ifCond .le 8, 3) := by decide +kernel
theorem dL_shore_829 : decode cL_shore 829 = .ok (.ldc 138, 2) := by decide +kernel
theorem dL_shore_831 : decode cL_shore 831 = .ok (.goto 5, 3) := by decide +kernel
theorem dL_shore_834 : decode cL_shore 834 = .ok (.ldc 99, 2) := by decide +kernel
theorem dL_shore_836 : decode cL_shore 836 = .ok (.invokevirtual 37, 3) := by decide +kernel
theorem dL_shore_839 : decode cL_shore 839 = .ok (.ldc 54, 2) := by decide +kernel
theorem dL_shore_841 : decode cL_shore 841 = .ok (.invokevirtual 37, 3) := by decide +kernel
theorem dL_shore_844 : decode cL_shore 844 = .ok (.aload 6, 2) := by decide +kernel
theorem dL_shore_846 : decode cL_shore 846 = .ok (.iload 8, 2) := by decide +kernel
theorem dL_shore_848 : decode cL_shore 848 = .ok (.iaload, 1) := by decide +kernel
theorem dL_shore_849 : decode cL_shore 849 = .ok (.invokevirtual 47, 3) := by decide +kernel
theorem dL_shore_852 : decode cL_shore 852 = .ok (.pop, 1) := by decide +kernel
theorem dL_shore_853 : decode cL_shore 853 = .ok (.iinc 8 1, 3) := by decide +kernel
theorem dL_shore_856 : decode cL_shore 856 = .ok (.goto (-64), 3) := by decide +kernel
theorem dL_shore_859 : decode cL_shore 859 = .ok (.aload_n 2, 1) := by decide +kernel
theorem dL_shore_860 : decode cL_shore 860 = .ok (.getfield 181, 3) := by decide +kernel
theorem dL_shore_863 : decode cL_shore 863 = .ok (.iload_n 3, 1) := by decide +kernel
theorem dL_shore_864 : decode cL_shore 864 = .ok (.aload 6, 2) := by decide +kernel
theorem dL_shore_866 : decode cL_shore 866 = .ok (.aastore, 1) := by decide +kernel
theorem dL_shore_867 : decode cL_shore 867 = .ok (.aload 7, 2) := by decide +kernel
theorem dL_shore_869 : decode cL_shore 869 = .ok (.iconst 0, 1) := by decide +kernel
theorem dL_shore_870 : decode cL_shore 870 = .ok (.iaload, 1) := by decide +kernel
theorem dL_shore_871 : decode cL_shore 871 = .ok (.ifCond .ge 13, 3) := by decide +kernel
theorem dL_shore_874 : decode cL_shore 874 = .ok (.aload_n 1, 1) := by decide +kernel
theorem dL_shore_875 : decode cL_shore 875 = .ok (.ldc 184, 2) := by decide +kernel
theorem dL_shore_877 : decode cL_shore 877 = .ok (.invokevirtual 37, 3) := by decide +kernel
theorem dL_shore_880 : decode cL_shore 880 = .ok (.pop, 1) := by decide +kernel
theorem dL_shore_881 : decode cL_shore 881 = .ok (.goto 39, 3) := by decide +kernel
theorem dL_shore_884 : decode cL_shore 884 = .ok (.aload_n 1, 1) := by decide +kernel
theorem dL_shore_885 : decode cL_shore 885 = .ok (.ldc 186, 2) := by decide +kernel
theorem dL_shore_887 : decode cL_shore 887 = .ok (.invokevirtual 37, 3) := by decide +kernel
theorem dL_shore_890 : decode cL_shore 890 = .ok (.aload 7, 2) := by decide +kernel
theorem dL_shore_892 : decode cL_shore 892 = .ok (.iconst 0, 1) := by decide +kernel
theorem dL_shore_893 : decode cL_shore 893 = .ok (.iaload, 1) := by decide +kernel
theorem dL_shore_894 : decode cL_shore 894 = .ok (.invokevirtual 47, 3) := by decide +kernel
theorem dL_shore_897 : decode cL_shore 897 = .ok (.ldc 188, 2) := by decide +kernel
theorem dL_shore_899 : decode cL_shore 899 = .ok (.invokevirtual 37, 3) := by decide +kernel
theorem dL_shore_902 : decode cL_shore 902 = .ok (.aload 7, 2) := by decide +kernel
theorem dL_shore_904 : decode cL_shore 904 = .ok (.aload 6, 2) := by decide +kernel
theorem dL_shore_906 : decode cL_shore 906 = .ok (.iconst 0, 1) := by decide +kernel
theorem dL_shore_907 : decode cL_shore 907 = .ok (.iaload, 1) := by decide +kernel
theorem dL_shore_908 : decode cL_shore 908 = .ok (.invokestatic 190, 3) := by decide +kernel
theorem dL_shore_911 : decode cL_shore 911 = .ok (.invokevirtual 37, 3) := by decide +kernel
theorem dL_shore_914 : decode cL_shore 914 = .ok (.ldc 140, 2) := by decide +kernel
theorem dL_shore_916 : decode cL_shore 916 = .ok (.invokevirtual 37, 3) := by decide +kernel
theorem dL_shore_919 : decode cL_shore 919 = .ok (.pop, 1) := by decide +kernel
theorem dL_shore_920 : decode cL_shore 920 = .ok (.iinc 3 1, 3) := by decide +kernel
theorem dL_shore_923 : decode cL_shore 923 = .ok (.goto (-266), 3) := by decide +kernel
theorem dL_shore_926 : decode cL_shore 926 = .ok (.aload_n 2, 1) := by decide +kernel
theorem dL_shore_927 : decode cL_shore 927 = .ok (.areturn, 1) := by decide +kernel
set_option maxRecDepth 20000 in
theorem ggL_shore_J4_append_15ec4_c : GoodIn wsL_shore [.code yJ4_append_15ec4 cJ4_append_15ec4 2 (some (.object "java/lang/StringBuilder"))] := goodIn_r _ [50] (by decide +kernel) (by decide +kernel)
set_option maxRecDepth 20000 in
theorem ggL_shore_J4_append_15ec4_wsJ4_append_15ec4_r1 : GoodIn wsL_shore wsJ4_append_15ec4_r1 := goodIn_r _ [51, 52, 53, 54, 55, 56, 57, 58, 59, 60, 61, 62, 63, 64, 65, 66, 67, 68, 69, 70, 71, 72, 73, 74] (by decide +kernel) (by decide +kernel)
set_option maxRecDepth 20000 in
theorem ggL_shore_J4_append_15ec4_wsJ4_append_15ec4_r2 : GoodIn wsL_shore wsJ4_append_15ec4_r2 := goodIn_r _ [75, 76, 77, 78, 79, 80, 81, 82, 83, 84, 85, 86, 87, 88, 89, 90, 91, 92, 93, 94, 95, 96, 97, 98] (by decide +kernel) (by decide +kernel)
set_option maxRecDepth 20000 in
theorem ggL_shore_J4_append_15ec4_wsJ4_append_15ec4_r3 : GoodIn wsL_shore wsJ4_append_15ec4_r3 := goodIn_r _ [99, 100, 101, 102, 103, 104, 105, 106, 107, 108, 109, 110, 111, 112, 113, 114, 115, 116, 117, 118, 119, 120, 121, 122] (by decide +kernel) (by decide +kernel)
set_option maxRecDepth 20000 in
theorem ggL_shore_J4_append_15ec4_wsJ4_append_15ec4_r4 : GoodIn wsL_shore wsJ4_append_15ec4_r4 := goodIn_r _ [123, 124, 125, 126, 127, 128, 129, 130, 131, 132, 133, 134, 135, 136, 137, 138, 139, 140, 141, 142, 143, 144, 145, 146] (by decide +kernel) (by decide +kernel)
set_option maxRecDepth 20000 in
theorem ggL_shore_J4_append_15ec4_wsJ4_append_15ec4_r5 : GoodIn wsL_shore wsJ4_append_15ec4_r5 := goodIn_r _ [147, 148, 149, 150, 151, 152, 153, 154, 155, 156, 157, 158, 159, 160, 161, 162, 163, 164, 165, 166, 167, 168, 169, 170] (by decide +kernel) (by decide +kernel)
set_option maxRecDepth 20000 in
theorem ggL_shore_J4_append_15ec4_wsJ4_append_15ec4_r6 : GoodIn wsL_shore wsJ4_append_15ec4_r6 := goodIn_r _ [171, 172, 173, 174, 175, 176, 177, 178, 179, 180, 181, 182, 183, 184, 185, 186, 187, 188, 189, 190, 191, 192] (by decide +kernel) (by decide +kernel)
set_option maxRecDepth 20000 in
theorem ggL_shore_J4_append_15ec4_wsJ40 : GoodIn wsL_shore wsJ40 := goodIn_sub (by decide +kernel) (by decide +kernel)
set_option maxRecDepth 20000 in
theorem ggL_shore_J4_append_15ec4_wsJ00 : GoodIn wsL_shore wsJ00 := goodIn_sub (by decide +kernel) (by decide +kernel)
set_option maxRecDepth 20000 in
theorem ggL_shore_J4_append_15ec4 : GoodIn wsL_shore wsJ4_append_15ec4 := goodIn_c1 ggL_shore_J4_append_15ec4_c (goodIn_app (goodIn_app (goodIn_app ggL_shore_J4_append_15ec4_wsJ4_append_15ec4_r1 (goodIn_app ggL_shore_J4_append_15ec4_wsJ4_append_15ec4_r2 (goodIn_app ggL_shore_J4_append_15ec4_wsJ4_append_15ec4_r3 (goodIn_app ggL_shore_J4_append_15ec4_wsJ4_append_15ec4_r4 (goodIn_app ggL_shore_J4_append_15ec4_wsJ4_append_15ec4_r5 ggL_shore_J4_append_15ec4_wsJ4_append_15ec4_r6))))) ggL_shore_J4_append_15ec4_wsJ40) ggL_shore_J4_append_15ec4_wsJ00)
set_option maxRecDepth 20000 in
theorem gL_shore_J4_append_15ec4 : GoodIn wsL_shore (wsV RL 37 RJ4 yJ4_append_15ec4 wsJ4_append_15ec4) := goodIn_app (goodIn_of _ (by decide +kernel)) ggL_shore_J4_append_15ec4
set_option maxRecDepth 20000 in
theorem ggL_shore_J4_append_bf812 : GoodIn wsL_shore wsJ4_append_bf812 := goodIn_2 24 (goodIn_r _ [196, 197, 198, 53, 199, 55, 200, 57, 63, 201, 202, 203, 204, 64, 65, 66, 67, 68, 69, 70, 71, 72, 73, 74] (by decide +kernel) (by decide +kernel)) (goodIn_2 24 (goodIn_r _ [75, 76, 77, 78, 79, 80, 81, 82, 83, 84, 85, 86, 87, 88, 89, 90, 91, 92, 93, 94, 95, 96, 97, 98] (by decide +kernel) (by decide +kernel)) (goodIn_2 24 (goodIn_r _ [99, 100, 101, 102, 103, 104, 105, 106, 107, 108, 109, 110, 111, 205, 206, 207, 208, 209, 210, 211, 114, 212, 116, 117] (by decide +kernel) (by decide +kernel)) (goodIn_2 24 (goodIn_r _ [118, 119, 120, 121, 122, 123, 124, 125, 126, 127, 128, 129, 130, 131, 213, 214, 215, 216, 217, 132, 133, 134, 135, 136] (by decide +kernel) (by decide +kernel)) (goodIn_r _ [304, 305, 306, 307] (by decide +kernel) (by decide +kernel)))))
set_option maxRecDepth 20000 in
theorem gL_shore_J4_append_bf812 : GoodIn wsL_shore (wsV RL 47 RJ4 yJ4_append_bf812 wsJ4_append_bf812) := goodIn_app (goodIn_of _ (by decide +kernel)) ggL_shore_J4_append_bf812
set_option maxRecDepth 20000 in
theorem ggL_shore_L_sum_c : GoodIn wsL_shore [.code yL_sum cL_sum 3 (some (.object "java/lang/String"))] := goodIn_r _ [283] (by decide +kernel) (by decide +kernel)
set_option maxRecDepth 20000 in
theorem ggL_shore_L_sum_wsL_sum_r1 : GoodIn wsL_shore wsL_sum_r1 := goodIn_r _ [221, 222, 49, 223, 224, 225, 226, 227, 55, 228, 229, 17, 18, 111, 98, 63, 69, 164, 165, 114, 166, 167, 168, 169] (by decide +kernel) (by decide +kernel)
set_option maxRecDepth 20000 in
theorem ggL_shore_L_sum_wsL_sum_r2 : GoodIn wsL_shore wsL_sum_r2 := goodIn_r _ [170, 46, 47, 48, 50, 51, 52, 53, 54, 56, 57, 58, 59, 60, 61, 62, 64, 65, 66, 67, 68, 70, 71, 72] (by decide +kernel) (by decide +kernel)
set_option maxRecDepth 20000 in
theorem ggL_shore_L_sum_wsL_sum_r3 : GoodIn wsL_shore wsL_sum_r3 := goodIn_r _ [73, 74, 75, 76, 77, 78, 79, 80, 81, 82, 83, 84, 85, 86, 87, 88, 89, 90, 91, 92, 93, 94, 95, 96] (by decide +kernel) (by decide +kernel)
set_option maxRecDepth 20000 in
theorem ggL_shore_L_sum_wsL_sum_r4 : GoodIn wsL_shore wsL_sum_r4 := goodIn_r _ [97, 99, 100, 101, 102, 103, 104, 105, 106, 107, 108, 109, 110, 112, 113, 115, 116, 117, 118, 119, 120, 121, 122, 123] (by decide +kernel) (by decide +kernel)
set_option maxRecDepth 20000 in
theorem ggL_shore_L_sum_wsL_sum_r5 : GoodIn wsL_shore wsL_sum_r5 := goodIn_r _ [124, 125, 126, 127, 128, 129, 130, 131, 132, 133, 134, 135, 136, 137, 138, 139, 140, 141, 142, 143, 144, 145, 146, 147] (by decide +kernel) (by decide +kernel)
set_option maxRecDepth 20000 in
theorem ggL_shore_L_sum_wsL_sum_r6 : GoodIn wsL_shore wsL_sum_r6 := goodIn_r _ [148, 149, 150, 151, 152, 153, 154, 155, 156, 157, 158, 159, 160, 161, 162, 163, 171, 172, 173, 174, 175, 176, 177, 178] (by decide +kernel) (by decide +kernel)
set_option maxRecDepth 20000 in
theorem ggL_shore_L_sum_wsL_sum_r7 : GoodIn wsL_shore wsL_sum_r7 := goodIn_r _ [179, 180, 181, 182, 183, 184, 185, 186, 187, 188, 189, 190, 191, 192, 193, 194, 195, 196, 197, 198, 199, 200, 201, 202] (by decide +kernel) (by decide +kernel)
set_option maxRecDepth 20000 in
theorem ggL_shore_L_sum_wsL_sum_r8 : GoodIn wsL_shore wsL_sum_r8 := goodIn_r _ [203, 204, 205, 206, 207, 208, 209, 210, 211, 212, 213, 214, 215, 216, 217, 230, 231, 232, 233, 234, 235, 236, 237, 238] (by decide +kernel) (by decide +kernel)
set_option maxRecDepth 20000 in
theorem ggL_shore_L_sum_wsL_sum_r9 : GoodIn wsL_shore wsL_sum_r9 := goodIn_r _ [239, 240, 241, 242, 243, 244, 245, 246, 247, 248, 249, 250, 251, 252, 253, 254, 255, 256, 257, 258, 259, 260, 261, 262] (by decide +kernel) (by decide +kernel)
set_option maxRecDepth 20000 in
theorem ggL_shore_L_sum_wsL_sum_r10 : GoodIn wsL_shore wsL_sum_r10 := goodIn_r _ [263, 264, 265, 266, 267, 268, 269, 270, 271, 272, 273, 274, 275, 276, 277, 278, 279, 280] (by decide +kernel) (by decide +kernel)
set_option maxRecDepth 20000 in
theorem ggL_shore_L_sum_wsJ40 : GoodIn wsL_shore wsJ40 := goodIn_sub (by decide +kernel) (by decide +kernel)
set_option maxRecDepth 20000 in
theorem ggL_shore_L_sum_wsJ00 : GoodIn wsL_shore wsJ00 := goodIn_sub (by decide +kernel) (by decide +kernel)
set_option maxRecDepth 20000 in
theorem ggL_shore_L_sum : GoodIn wsL_shore wsL_sum := goodIn_c1 ggL_shore_L_sum_c (goodIn_app (goodIn_app (goodIn_app ggL_shore_L_sum_wsL_sum_r1 (goodIn_app ggL_shore_L_sum_wsL_sum_r2 (goodIn_app ggL_shore_L_sum_wsL_sum_r3 (goodIn_app ggL_shore_L_sum_wsL_sum_r4 (goodIn_app ggL_shore_L_sum_wsL_sum_r5 (goodIn_app ggL_shore_L_sum_wsL_sum_r6 (goodIn_app ggL_shore_L_sum_wsL_sum_r7 (goodIn_app ggL_shore_L_sum_wsL_sum_r8 (goodIn_app ggL_shore_L_sum_wsL_sum_r9 ggL_shore_L_sum_wsL_sum_r10))))))))) ggL_shore_L_sum_wsJ40) ggL_shore_L_sum_wsJ00)
set_option maxRecDepth 20000 in
theorem gL_shore_L_sum : GoodIn wsL_shore (va_wsS RL 190 yL_sum wsL_sum) := goodIn_app (goodIn_of _ (by decide +kernel)) ggL_shore_L_sum
set_option maxRecDepth 20000 in
theorem ggL_shore_L_below : GoodIn wsL_shore wsL_below := goodIn_r _ [44, 45] (by decide +kernel) (by decide +kernel)
set_option maxRecDepth 20000 in
theorem gL_shore_L_below : GoodIn wsL_shore (va_wsS RL 124 yL_below wsL_below) := goodIn_app (goodIn_of _ (by decide +kernel)) ggL_shore_L_below
set_option maxRecDepth 20000 in
theorem ggL_shore_L_cell : GoodIn wsL_shore wsL_cell := goodIn_r _ [40, 41] (by decide +kernel) (by decide +kernel)
set_option maxRecDepth 20000 in
theorem gL_shore_L_cell : GoodIn wsL_shore (va_wsS RL 118 yL_cell wsL_cell) := goodIn_app (goodIn_of _ (by decide +kernel)) ggL_shore_L_cell
set_option maxRecDepth 20000 in
theorem ggL_shore_L_test_c : GoodIn wsL_shore [.code yL_test cL_test 6 (some (.object "java/lang/String"))] := goodIn_r _ [220] (by decide +kernel) (by decide +kernel)
set_option maxRecDepth 20000 in
theorem ggL_shore_L_test_wsL_test_r1 : GoodIn wsL_shore wsL_test_r1 := goodIn_r _ [221, 222, 49, 4, 6, 223, 224, 225, 226, 227, 55, 228, 229, 17, 18, 111, 98, 63, 69, 164, 165, 114, 166, 167] (by decide +kernel) (by decide +kernel)
set_option maxRecDepth 20000 in
theorem ggL_shore_L_test_wsL_test_r2 : GoodIn wsL_shore wsL_test_r2 := goodIn_r _ [168, 169, 170, 46, 47, 48, 50, 51, 52, 53, 54, 56, 57, 58, 59, 60, 61, 62, 64, 65, 66, 67, 68, 70] (by decide +kernel) (by decide +kernel)
set_option maxRecDepth 20000 in
theorem ggL_shore_L_test_wsL_test_r3 : GoodIn wsL_shore wsL_test_r3 := goodIn_r _ [71, 72, 73, 74, 75, 76, 77, 78, 79, 80, 81, 82, 83, 84, 85, 86, 87, 88, 89, 90, 91, 92, 93, 94] (by decide +kernel) (by decide +kernel)
set_option maxRecDepth 20000 in
theorem ggL_shore_L_test_wsL_test_r4 : GoodIn wsL_shore wsL_test_r4 := goodIn_r _ [95, 96, 97, 99, 100, 101, 102, 103, 104, 105, 106, 107, 108, 109, 110, 112, 113, 115, 116, 117, 118, 119, 120, 121] (by decide +kernel) (by decide +kernel)
set_option maxRecDepth 20000 in
theorem ggL_shore_L_test_wsL_test_r5 : GoodIn wsL_shore wsL_test_r5 := goodIn_r _ [122, 123, 124, 125, 126, 127, 128, 129, 130, 131, 132, 133, 134, 135, 136, 137, 138, 139, 140, 141, 142, 143, 144, 145] (by decide +kernel) (by decide +kernel)
set_option maxRecDepth 20000 in
theorem ggL_shore_L_test_wsL_test_r6 : GoodIn wsL_shore wsL_test_r6 := goodIn_r _ [146, 147, 148, 149, 150, 151, 152, 153, 154, 155, 156, 157, 158, 159, 160, 161, 162, 163, 171, 172, 173, 174, 175, 176] (by decide +kernel) (by decide +kernel)
set_option maxRecDepth 20000 in
theorem ggL_shore_L_test_wsL_test_r7 : GoodIn wsL_shore wsL_test_r7 := goodIn_r _ [177, 178, 179, 180, 181, 182, 183, 184, 185, 186, 187, 188, 189, 190, 191, 192, 193, 194, 195, 196, 197, 198, 199, 200] (by decide +kernel) (by decide +kernel)
set_option maxRecDepth 20000 in
theorem ggL_shore_L_test_wsL_test_r8 : GoodIn wsL_shore wsL_test_r8 := goodIn_r _ [201, 202, 203, 204, 205, 206, 207, 208, 209, 210, 211, 212, 213, 214, 215, 216, 217, 230, 231, 232, 233, 234, 235, 236] (by decide +kernel) (by decide +kernel)
set_option maxRecDepth 20000 in
theorem ggL_shore_L_test_wsL_test_r9 : GoodIn wsL_shore wsL_test_r9 := goodIn_r _ [237, 238, 239, 240, 241, 242, 243, 244, 245, 246, 247, 248, 249, 250, 251, 252, 253, 254, 255, 256, 257, 258, 259, 260] (by decide +kernel) (by decide +kernel)
set_option maxRecDepth 20000 in
theorem ggL_shore_L_test_wsL_test_r10 : GoodIn wsL_shore wsL_test_r10 := goodIn_r _ [261, 262, 263, 264, 265, 266, 267, 268, 269, 270, 271, 272, 273, 274, 275, 276, 277, 278, 279, 280] (by decide +kernel) (by decide +kernel)
set_option maxRecDepth 20000 in
theorem ggL_shore_L_test_wsJ40 : GoodIn wsL_shore wsJ40 := goodIn_sub (by decide +kernel) (by decide +kernel)
set_option maxRecDepth 20000 in
theorem ggL_shore_L_test_wsX120 : GoodIn wsL_shore wsX120 := goodIn_sub (by decide +kernel) (by decide +kernel)
set_option maxRecDepth 20000 in
theorem ggL_shore_L_test_wsJ00 : GoodIn wsL_shore wsJ00 := goodIn_sub (by decide +kernel) (by decide +kernel)
set_option maxRecDepth 20000 in
theorem ggL_shore_L_test : GoodIn wsL_shore wsL_test := goodIn_c1 ggL_shore_L_test_c (goodIn_app (goodIn_app (goodIn_app (goodIn_app ggL_shore_L_test_wsL_test_r1 (goodIn_app ggL_shore_L_test_wsL_test_r2 (goodIn_app ggL_shore_L_test_wsL_test_r3 (goodIn_app ggL_shore_L_test_wsL_test_r4 (goodIn_app ggL_shore_L_test_wsL_test_r5 (goodIn_app ggL_shore_L_test_wsL_test_r6 (goodIn_app ggL_shore_L_test_wsL_test_r7 (goodIn_app ggL_shore_L_test_wsL_test_r8 (goodIn_app ggL_shore_L_test_wsL_test_r9 ggL_shore_L_test_wsL_test_r10))))))))) ggL_shore_L_test_wsJ40) ggL_shore_L_test_wsX120) ggL_shore_L_test_wsJ00)
set_option maxRecDepth 20000 in
theorem gL_shore_L_test : GoodIn wsL_shore (va_wsS RL 165 yL_test wsL_test) := goodIn_app (goodIn_of _ (by decide +kernel)) ggL_shore_L_test
set_option maxRecDepth 20000 in
theorem ggL_shore_X12_init : GoodIn wsL_shore wsX12_init := goodIn_2 24 (goodIn_r _ [15, 16, 17, 18, 19, 7, 20, 21, 22, 23, 24, 25, 26, 27, 28, 29, 30, 31, 32, 33, 34, 35, 36, 284] (by decide +kernel) (by decide +kernel)) (goodIn_r _ [285, 286, 287, 288, 289, 290, 291, 292, 293, 294, 295, 296, 297, 298, 299, 300, 301, 302, 303] (by decide +kernel) (by decide +kernel))
set_option maxRecDepth 20000 in
theorem gL_shore_X12_init_n117 : GoodIn wsL_shore (wsX12_init) := ggL_shore_X12_init
theorem k_L_shore_f181 : Cond.fieldLink RL 181 "TideLotsLaw$Sim" "member" "[[I" ∈ wsL_shore := by decide +kernel
theorem i_L_shore_X12 : ∀ w ∈ u_ws RX12 TX12 20, w ∈ wsL_shore := by decide +kernel
theorem k_L_shore_f56 : Cond.fieldLink RL 56 "TideLotsLaw$Sim" "fishers" "I" ∈ wsL_shore := by decide +kernel
theorem k_L_shore_f174 : Cond.fieldLink RL 174 "TideLotsLaw$Sim" "pact" "[[I" ∈ wsL_shore := by decide +kernel
theorem k_L_shore_f171 : Cond.fieldLink RL 171 "TideLotsLaw$Sim" "pacts" "I" ∈ wsL_shore := by decide +kernel
theorem k_L_shore_acint : Cond.arrayClass .int ∈ wsL_shore := by decide +kernel
theorem k_L_shore_f41 : Cond.fieldLink RL 41 "TideLotsLaw$Sim" "grounds" "I" ∈ wsL_shore := by decide +kernel
theorem k_L_shore_f155 : Cond.fieldLink RL 155 "TideLotsLaw$Sim" "goes" "I" ∈ wsL_shore := by decide +kernel
theorem k_L_shore_f158 : Cond.fieldLink RL 158 "TideLotsLaw$Sim" "go" "[[I" ∈ wsL_shore := by decide +kernel
theorem k_L_shore_f144 : Cond.fieldLink RL 144 "TideLotsLaw$Sim" "fisher" "[[I" ∈ wsL_shore := by decide +kernel
theorem k_L_shore_f128 : Cond.fieldLink RL 128 "TideLotsLaw$Sim" "ground" "[[I" ∈ wsL_shore := by decide +kernel
theorem k_L_shore_cl42 : Cond.classLink RL 42 RX12 ∈ wsL_shore := by decide +kernel
theorem k_L_shore_inX12 : Cond.instantiable RX12 20 ∈ wsL_shore := by decide +kernel
theorem k_L_shore_iiX12 : Cond.initialized RX12 ∈ wsL_shore := by decide +kernel
theorem kn_L_117 : Cond.methodLinkNest "TideLotsLaw" (117 : Nat) ({ cls := "TideLotsLaw$Sim", name := "<init>", desc := "()V" } : MethodName) "TideLotsLaw" ∈ gNs := by decide +kernel
theorem k_L_shore_imX12_init : Cond.instanceMethod yX12_init ∈ wsL_shore := by decide +kernel
abbrev rL_shore : Room := { frames := 7, cells := 800, slots := 1200000, locals := 196 }
noncomputable def b_L_shore_920 (Z : Nat → Nat) (M : gMem) (kc : Nat) (kn : Nat) (x1 : Option Nat) (x2 : Option Nat) (x3 : Int32) : Option ((gMem × Nat × Nat × Int32) ⊕ (Option Nat × gMem)) :=
  some (.inl (M, kc, kn, (x3 + (1 : Int32))))
noncomputable def b_L_shore_836 (Z : Nat → Nat) (M : gMem) (kc : Nat) (kn : Nat) (x1 : Option Nat) (x2 : Option Nat) (x3 : Int32) (x4 : Int32) (x5 : Int32) (x6 : Option Nat) (x7 : Option Nat) (x8 : Int32) (s0 : Option Nat) (s1 : Nat) : Option ((gMem × Nat × Nat × Int32) ⊕ ((gMem × Nat × Nat × Int32) ⊕ (Option Nat × gMem))) :=
  dr s0 fun a2 => ck (mT M a2 = 13) <| ck (kc + 1 ≤ 800 ∧ kn + 2400 ≤ 1200000) <| bd (f_J4_append_15ec4_S Z M a2 s1) fun r1 M1 => dr r1 fun a6 => ck (mT M1 a6 = 13) <| ck ((kc + 1) + 1 ≤ 800 ∧ (kn + 2400) + 2400 ≤ 1200000) <| bd (f_J4_append_15ec4_S Z M1 a6 46) fun r5 M5 => dr x6 fun a9 => ck (mT M5 a9 = 20) <| ck (inb x8 (mL M5 a9)) <| dr r5 fun a13 => ck (mT M5 a13 = 13) <| ck (((kc + 1) + 1) + 1 ≤ 800 ∧ ((kn + 2400) + 2400) + 2400 ≤ 1200000) <| bd (f_J4_append_bf812 Z M5 a13 ((mI M5 a9 x8.toNatClampNeg))) fun r12 M12 => some (.inl (M12, (((kc + 1) + 1) + 1), (((kn + 2400) + 2400) + 2400), (x8 + (1 : Int32))))
noncomputable def bb_L_shore_792 (Z : Nat → Nat) (M : gMem) (kc : Nat) (kn : Nat) (x1 : Option Nat) (x2 : Option Nat) (x3 : Int32) (x4 : Int32) (x5 : Int32) (x6 : Option Nat) (x7 : Option Nat) (x8 : Int32) : Option ((gMem × Nat × Nat × Int32) ⊕ ((gMem × Nat × Nat × Int32) ⊕ (Option Nat × gMem))) :=
  (if x5 ≤ x8 then dr x2 fun a16 => ck (mT M a16 = 11) <| dr ((mR M a16 7)) fun a18 => ck (mT M a18 = 28) <| ck (inb x3 (mL M a18)) <| dr x6 fun a21 => ck (mT M a21 = 20) <| lw (wR M a18 x3.toNatClampNeg x6) fun M23 => dr x7 fun a27 => ck (mT M23 a27 = 20) <| ck (inb (0 : Int32) (mL M23 a27)) <| (if 0 ≤ (mI M23 a27 ((0 : Int32)).toNatClampNeg) then dr x1 fun a31 => ck (mT M23 a31 = 13) <| ck (kc + 1 ≤ 800 ∧ kn + 2400 ≤ 1200000) <| bd (f_J4_append_15ec4_S Z M23 a31 92) fun r30 M30 => ck (mT M30 a27 = 20) <| ck (inb (0 : Int32) (mL M30 a27)) <| dr r30 fun a37 => ck (mT M30 a37 = 13) <| ck ((kc + 1) + 1 ≤ 800 ∧ (kn + 2400) + 2400 ≤ 1200000) <| bd (f_J4_append_bf812 Z M30 a37 ((mI M30 a27 ((0 : Int32)).toNatClampNeg))) fun r36 M36 => dr r36 fun a41 => ck (mT M36 a41 = 13) <| ck (((kc + 1) + 1) + 1 ≤ 800 ∧ ((kn + 2400) + 2400) + 2400 ≤ 1200000) <| bd (f_J4_append_15ec4_S Z M36 a41 93) fun r40 M40 => ck (mT M40 a21 = 20) <| ck (inb (0 : Int32) (mL M40 a21)) <| ck ((((kc + 1) + 1) + 1) + 9 ≤ 800 ∧ (((kn + 2400) + 2400) + 2400) + 14424 ≤ 1200000) <| bd (f_L_sum Z M40 x7 ((mI M40 a21 ((0 : Int32)).toNatClampNeg))) fun r46 M46 => dr r40 fun a49 => ck (mT M46 a49 = 13) <| ck (((((kc + 1) + 1) + 1) + 9) + 1 ≤ 800 ∧ ((((kn + 2400) + 2400) + 2400) + 14424) + 2400 ≤ 1200000) <| bd (f_J4_append_15ec4_E Z M46 a49 r46) fun r48 M48 => dr r48 fun a53 => ck (mT M48 a53 = 13) <| ck ((((((kc + 1) + 1) + 1) + 9) + 1) + 1 ≤ 800 ∧ (((((kn + 2400) + 2400) + 2400) + 14424) + 2400) + 2400 ≤ 1200000) <| bd (f_J4_append_15ec4_S Z M48 a53 80) fun r52 M52 => oI (b_L_shore_920 Z M52 (((((((kc + 1) + 1) + 1) + 9) + 1) + 1)) (((((((kn + 2400) + 2400) + 2400) + 14424) + 2400) + 2400)) x1 x2 x3) else dr x1 fun a58 => ck (mT M23 a58 = 13) <| ck (kc + 1 ≤ 800 ∧ kn + 2400 ≤ 1200000) <| bd (f_J4_append_15ec4_S Z M23 a58 91) fun r57 M57 => oI (b_L_shore_920 Z M57 ((kc + 1)) ((kn + 2400)) x1 x2 x3)) else dr x2 fun a62 => ck (mT M a62 = 11) <| ck (kc + 0 ≤ 800 ∧ kn + 0 ≤ 1200000) <| bd (f_L_below M ((x4 >>> ((4 : Int32) &&& 31))) ((mI M a62 1))) fun r64 M64 => ck (mT M64 a62 = 11) <| ck (¬ (mI M64 a62 1) = 0) <| dr x6 fun a68 => ck (mT M64 a68 = 20) <| ck (inb x8 (mL M64 a68)) <| lw (wI M64 a68 x8.toNatClampNeg (((r64 + x8) - (r64 + x8) / (mI M64 a62 1) * (mI M64 a62 1)))) fun M71 => (if x8 ≤ 0 then b_L_shore_836 Z M71 ((kc + 0)) ((kn + 0)) x1 x2 x3 x4 x5 x6 x7 x8 x1 67 else b_L_shore_836 Z M71 ((kc + 0)) ((kn + 0)) x1 x2 x3 x4 x5 x6 x7 x8 x1 79))
noncomputable def lp_L_shore_792 (Z : Nat → Nat) (M : gMem) (kc : Nat) (kn : Nat) (x1 : Option Nat) (x2 : Option Nat) (x3 : Int32) (x4 : Int32) (x5 : Int32) (x6 : Option Nat) (x7 : Option Nat) (x8 : Int32) : Option ((gMem × Nat × Nat × Int32) ⊕ (Option Nat × gMem)) :=
  lp (fun (q : gMem × Nat × Nat × Int32) => bb_L_shore_792 Z q.1 q.2.1 q.2.2.1 x1 x2 x3 x4 x5 x6 x7 q.2.2.2) (M, kc, kn, x8)
noncomputable def b_L_shore_726 (Z : Nat → Nat) (M : gMem) (kc : Nat) (kn : Nat) (x1 : Option Nat) (x2 : Option Nat) (x3 : Int32) (x4 : Int32) (x5 : Int32) (x6 : Option Nat) (s0 : Option Nat) (s1 : Option Nat) (s2 : Int32) (s3 : Int32) : Option ((gMem × Nat × Nat × Int32) ⊕ (Option Nat × gMem)) :=
  dr s1 fun a74 => ck (mT M a74 = 20) <| ck (inb s2 (mL M a74)) <| lw (wI M a74 s2.toNatClampNeg s3) fun M77 => ck (kc + 0 ≤ 800 ∧ kn + 0 ≤ 1200000) <| bd (f_L_below M77 ((x4 >>> ((5 : Int32) &&& 31))) ((5 : Int32))) fun r79 M79 => dr s0 fun a81 => ck (mT M79 a81 = 20) <| ck (inb (1 : Int32) (mL M79 a81)) <| lw (wI M79 a81 ((1 : Int32)).toNatClampNeg r79) fun M84 => ck ((kc + 0) + 0 ≤ 800 ∧ (kn + 0) + 0 ≤ 1200000) <| bd (f_L_below M84 ((x4 >>> ((3 : Int32) &&& 31))) ((120 : Int32))) fun r86 M86 => ck (mT M86 a81 = 20) <| ck (inb (2 : Int32) (mL M86 a81)) <| lw (wI M86 a81 ((2 : Int32)).toNatClampNeg r86) fun M90 => ck (((kc + 0) + 0) + 0 ≤ 800 ∧ ((kn + 0) + 0) + 0 ≤ 1200000) <| bd (f_L_below M90 ((x4 >>> ((6 : Int32) &&& 31))) ((30 : Int32))) fun r92 M92 => ck (mT M92 a81 = 20) <| ck (inb (3 : Int32) (mL M92 a81)) <| lw (wI M92 a81 ((3 : Int32)).toNatClampNeg r92) fun M96 => dr x2 fun a98 => ck (mT M96 a98 = 11) <| dr ((mR M96 a98 6)) fun a100 => ck (mT M96 a100 = 28) <| ck (inb x3 (mL M96 a100)) <| lw (wR M96 a100 x3.toNatClampNeg s0) fun M103 => dr x1 fun a108 => ck (mT M103 a108 = 13) <| ck ((((kc + 0) + 0) + 0) + 1 ≤ 800 ∧ (((kn + 0) + 0) + 0) + 2400 ≤ 1200000) <| bd (f_J4_append_15ec4_S Z M103 a108 89) fun r107 M107 => dr r107 fun a112 => ck (mT M107 a112 = 13) <| ck (((((kc + 0) + 0) + 0) + 1) + 1 ≤ 800 ∧ ((((kn + 0) + 0) + 0) + 2400) + 2400 ≤ 1200000) <| bd (f_J4_append_bf812 Z M107 a112 x3) fun r111 M111 => dr r111 fun a116 => ck (mT M111 a116 = 13) <| ck ((((((kc + 0) + 0) + 0) + 1) + 1) + 1 ≤ 800 ∧ (((((kn + 0) + 0) + 0) + 2400) + 2400) + 2400 ≤ 1200000) <| bd (f_J4_append_15ec4_S Z M111 a116 90) fun r115 M115 => lp_L_shore_792 Z M115 (((((((kc + 0) + 0) + 0) + 1) + 1) + 1)) (((((((kn + 0) + 0) + 0) + 2400) + 2400) + 2400)) x1 x2 x3 x4 x5 x6 s0 ((0 : Int32))
noncomputable def bb_L_shore_657 (Z : Nat → Nat) (M : gMem) (kc : Nat) (kn : Nat) (x1 : Option Nat) (x2 : Option Nat) (x3 : Int32) : Option ((gMem × Nat × Nat × Int32) ⊕ (Option Nat × gMem)) :=
  dr x2 fun a119 => ck (mT M a119 = 11) <| (if (mI M a119 8) ≤ x3 then ck (kc ≤ 800 ∧ kn ≤ 1200000) <| oI (some (x2, M)) else ck (kc + 0 ≤ 800 ∧ kn + 0 ≤ 1200000) <| bd (f_L_cell Z M  (((12 : Int32) + x3))) fun r123 M123 => ck (mT M123 a119 = 11) <| ck ((kc + 0) + 0 ≤ 800 ∧ (kn + 0) + 0 ≤ 1200000) <| bd (f_L_below M123 r123 ((mI M123 a119 1))) fun r126 M126 => ck (¬ ((1 : Int32) + r126) < 0) <| ck ((((1 : Int32) + r126)).toNatClampNeg ≤ 8) <| ck (((kc + 0) + 0) + 1 ≤ 800 ∧ ((kn + 0) + 0) + 8 ≤ 1200000) <| lw (nW M126 20 (((1 : Int32) + r126)).toNatClampNeg) fun M131 => ck ((((kc + 0) + 0) + 1) + 1 ≤ 800 ∧ (((kn + 0) + 0) + 8) + 4 ≤ 1200000) <| lw (nW M131 20 ((4 : Int32)).toNatClampNeg) fun M133 => ck (((((kc + 0) + 0) + 1) + 1) + 0 ≤ 800 ∧ ((((kn + 0) + 0) + 8) + 4) + 0 ≤ 1200000) <| bd (f_L_below M133 ((r123 >>> ((7 : Int32) &&& 31))) ((2 : Int32))) fun r134 M134 => (if r134 = 0 then b_L_shore_726 Z M134 ((((((kc + 0) + 0) + 1) + 1) + 0)) ((((((kn + 0) + 0) + 8) + 4) + 0)) x1 x2 x3 r123 (((1 : Int32) + r126)) ((some (mN M126))) ((some (mN M131))) ((some (mN M131))) ((0 : Int32)) ((-1 : Int32)) else ck (mT M134 a119 = 11) <| ck ((((((kc + 0) + 0) + 1) + 1) + 0) + 0 ≤ 800 ∧ (((((kn + 0) + 0) + 8) + 4) + 0) + 0 ≤ 1200000) <| bd (f_L_below M134 ((r123 >>> ((2 : Int32) &&& 31))) ((mI M134 a119 0))) fun r137 M137 => b_L_shore_726 Z M137 (((((((kc + 0) + 0) + 1) + 1) + 0) + 0)) (((((((kn + 0) + 0) + 8) + 4) + 0) + 0)) x1 x2 x3 r123 (((1 : Int32) + r126)) ((some (mN M126))) ((some (mN M131))) ((some (mN M131))) ((0 : Int32)) r137))
noncomputable def lp_L_shore_657 (Z : Nat → Nat) (M : gMem) (kc : Nat) (kn : Nat) (x1 : Option Nat) (x2 : Option Nat) (x3 : Int32) : Option (Option Nat × gMem) :=
  lp (fun (q : gMem × Nat × Nat × Int32) => bb_L_shore_657 Z q.1 q.2.1 q.2.2.1 x1 x2 q.2.2.2) (M, kc, kn, x3)
noncomputable def b_L_shore_631 (Z : Nat → Nat) (M : gMem) (kc : Nat) (kn : Nat) (x1 : Option Nat) (x2 : Option Nat) (x3 : Int32) (s0 : Option Nat) (s1 : Nat) : Option ((gMem × Nat × Nat × Int32) ⊕ (Option Nat × gMem)) :=
  dr s0 fun a140 => ck (mT M a140 = 13) <| ck (kc + 1 ≤ 800 ∧ kn + 2400 ≤ 1200000) <| bd (f_J4_append_15ec4_S Z M a140 s1) fun r139 M139 => some (.inl (M139, (kc + 1), (kn + 2400), (x3 + (1 : Int32))))
noncomputable def bb_L_shore_451 (Z : Nat → Nat) (M : gMem) (kc : Nat) (kn : Nat) (x1 : Option Nat) (x2 : Option Nat) (x3 : Int32) : Option ((gMem × Nat × Nat × Int32) ⊕ (Option Nat × gMem)) :=
  dr x2 fun a143 => ck (mT M a143 = 11) <| (if (mI M a143 5) ≤ x3 then ck (kc + 0 ≤ 800 ∧ kn + 0 ≤ 1200000) <| bd (f_L_cell Z M  ((11 : Int32))) fun r145 M145 => ck ((kc + 0) + 0 ≤ 800 ∧ (kn + 0) + 0 ≤ 1200000) <| bd (f_L_below M145 r145 ((4 : Int32))) fun r147 M147 => ck (mT M147 a143 = 11) <| lw (wI M147 a143 8 r147) fun M150 => oI (lp_L_shore_657 Z M150 (((kc + 0) + 0)) (((kn + 0) + 0)) x1 x2 ((0 : Int32))) else ck (kc + 0 ≤ 800 ∧ kn + 0 ≤ 1200000) <| bd (f_L_cell Z M  (((8 : Int32) + (x3 - x3 / (3 : Int32) * (3 : Int32))))) fun r153 M153 => ck ((kc + 0) + 1 ≤ 800 ∧ (kn + 0) + 7 ≤ 1200000) <| lw (nW M153 20 ((7 : Int32)).toNatClampNeg) fun M156 => ck (mT M156 a143 = 11) <| ck (((kc + 0) + 1) + 0 ≤ 800 ∧ ((kn + 0) + 7) + 0 ≤ 1200000) <| bd (f_L_below M156 (((r153 >>> (((x3 / (3 : Int32)) * (4 : Int32)) &&& 31)) + ((61 : Int32) * x3))) ((mI M156 a143 1))) fun r158 M158 => ck (mT M158 (mN M153) = 20) <| ck (inb (0 : Int32) (mL M158 (mN M153))) <| lw (wI M158 (mN M153) ((0 : Int32)).toNatClampNeg r158) fun M162 => ck (mT M162 a143 = 11) <| ck ((((kc + 0) + 1) + 0) + 0 ≤ 800 ∧ (((kn + 0) + 7) + 0) + 0 ≤ 1200000) <| bd (f_L_below M162 ((((r153 >>> (((x3 / (3 : Int32)) * (4 : Int32)) &&& 31)) + ((61 : Int32) * x3)) >>> ((2 : Int32) &&& 31))) ((mI M162 a143 0))) fun r165 M165 => ck (mT M165 (mN M153) = 20) <| ck (inb (1 : Int32) (mL M165 (mN M153))) <| lw (wI M165 (mN M153) ((1 : Int32)).toNatClampNeg r165) fun M169 => ck (((((kc + 0) + 1) + 0) + 0) + 0 ≤ 800 ∧ ((((kn + 0) + 7) + 0) + 0) + 0 ≤ 1200000) <| bd (f_L_below M169 ((((r153 >>> (((x3 / (3 : Int32)) * (4 : Int32)) &&& 31)) + ((61 : Int32) * x3)) >>> ((4 : Int32) &&& 31))) ((8 : Int32))) fun r171 M171 => ck (mT M171 (mN M153) = 20) <| ck (inb (2 : Int32) (mL M171 (mN M153))) <| lw (wI M171 (mN M153) ((2 : Int32)).toNatClampNeg r171) fun M175 => ck ((((((kc + 0) + 1) + 0) + 0) + 0) + 0 ≤ 800 ∧ (((((kn + 0) + 7) + 0) + 0) + 0) + 0 ≤ 1200000) <| bd (f_L_below M175 ((((r153 >>> (((x3 / (3 : Int32)) * (4 : Int32)) &&& 31)) + ((61 : Int32) * x3)) >>> ((3 : Int32) &&& 31))) ((8 : Int32))) fun r177 M177 => ck (mT M177 (mN M153) = 20) <| ck (inb (3 : Int32) (mL M177 (mN M153))) <| lw (wI M177 (mN M153) ((3 : Int32)).toNatClampNeg r177) fun M181 => ck (((((((kc + 0) + 1) + 0) + 0) + 0) + 0) + 0 ≤ 800 ∧ ((((((kn + 0) + 7) + 0) + 0) + 0) + 0) + 0 ≤ 1200000) <| bd (f_L_below M181 ((((r153 >>> (((x3 / (3 : Int32)) * (4 : Int32)) &&& 31)) + ((61 : Int32) * x3)) >>> ((5 : Int32) &&& 31))) ((8 : Int32))) fun r183 M183 => ck (mT M183 (mN M153) = 20) <| ck (inb (4 : Int32) (mL M183 (mN M153))) <| lw (wI M183 (mN M153) ((4 : Int32)).toNatClampNeg r183) fun M187 => ck ((((((((kc + 0) + 1) + 0) + 0) + 0) + 0) + 0) + 0 ≤ 800 ∧ (((((((kn + 0) + 7) + 0) + 0) + 0) + 0) + 0) + 0 ≤ 1200000) <| bd (f_L_below M187 ((((r153 >>> (((x3 / (3 : Int32)) * (4 : Int32)) &&& 31)) + ((61 : Int32) * x3)) >>> ((6 : Int32) &&& 31))) ((8 : Int32))) fun r189 M189 => ck (mT M189 (mN M153) = 20) <| ck (inb (5 : Int32) (mL M189 (mN M153))) <| lw (wI M189 (mN M153) ((5 : Int32)).toNatClampNeg r189) fun M193 => ck (((((((((kc + 0) + 1) + 0) + 0) + 0) + 0) + 0) + 0) + 0 ≤ 800 ∧ ((((((((kn + 0) + 7) + 0) + 0) + 0) + 0) + 0) + 0) + 0 ≤ 1200000) <| bd (f_L_below M193 ((((r153 >>> (((x3 / (3 : Int32)) * (4 : Int32)) &&& 31)) + ((61 : Int32) * x3)) >>> ((1 : Int32) &&& 31))) ((60 : Int32))) fun r195 M195 => ck (mT M195 (mN M153) = 20) <| ck (inb (6 : Int32) (mL M195 (mN M153))) <| lw (wI M195 (mN M153) ((6 : Int32)).toNatClampNeg r195) fun M199 => ck (mT M199 a143 = 11) <| dr ((mR M199 a143 4)) fun a202 => ck (mT M199 a202 = 28) <| ck (inb x3 (mL M199 a202)) <| lw (wR M199 a202 x3.toNatClampNeg ((some (mN M153)))) fun M205 => dr x1 fun a210 => ck (mT M205 a210 = 13) <| ck ((((((((((kc + 0) + 1) + 0) + 0) + 0) + 0) + 0) + 0) + 0) + 1 ≤ 800 ∧ (((((((((kn + 0) + 7) + 0) + 0) + 0) + 0) + 0) + 0) + 0) + 2400 ≤ 1200000) <| bd (f_J4_append_15ec4_S Z M205 a210 86) fun r209 M209 => ck (mT M209 (mN M153) = 20) <| ck (inb (0 : Int32) (mL M209 (mN M153))) <| dr r209 fun a216 => ck (mT M209 a216 = 13) <| ck (((((((((((kc + 0) + 1) + 0) + 0) + 0) + 0) + 0) + 0) + 0) + 1) + 1 ≤ 800 ∧ ((((((((((kn + 0) + 7) + 0) + 0) + 0) + 0) + 0) + 0) + 0) + 2400) + 2400 ≤ 1200000) <| bd (f_J4_append_bf812 Z M209 a216 ((mI M209 (mN M153) ((0 : Int32)).toNatClampNeg))) fun r215 M215 => dr r215 fun a220 => ck (mT M215 a220 = 13) <| ck ((((((((((((kc + 0) + 1) + 0) + 0) + 0) + 0) + 0) + 0) + 0) + 1) + 1) + 1 ≤ 800 ∧ (((((((((((kn + 0) + 7) + 0) + 0) + 0) + 0) + 0) + 0) + 0) + 2400) + 2400) + 2400 ≤ 1200000) <| bd (f_J4_append_15ec4_S Z M215 a220 87) fun r219 M219 => ck (mT M219 (mN M153) = 20) <| ck (inb (1 : Int32) (mL M219 (mN M153))) <| dr r219 fun a226 => ck (mT M219 a226 = 13) <| ck (((((((((((((kc + 0) + 1) + 0) + 0) + 0) + 0) + 0) + 0) + 0) + 1) + 1) + 1) + 1 ≤ 800 ∧ ((((((((((((kn + 0) + 7) + 0) + 0) + 0) + 0) + 0) + 0) + 0) + 2400) + 2400) + 2400) + 2400 ≤ 1200000) <| bd (f_J4_append_bf812 Z M219 a226 ((mI M219 (mN M153) ((1 : Int32)).toNatClampNeg))) fun r225 M225 => ck ((((((((((((((kc + 0) + 1) + 0) + 0) + 0) + 0) + 0) + 0) + 0) + 1) + 1) + 1) + 1) + 34 ≤ 800 ∧ (((((((((((((kn + 0) + 7) + 0) + 0) + 0) + 0) + 0) + 0) + 0) + 2400) + 2400) + 2400) + 2400) + 52896 ≤ 1200000) <| bd (f_L_test Z M225 ((some (mN M153))) x2) fun r229 M229 => dr r225 fun a232 => ck (mT M229 a232 = 13) <| ck (((((((((((((((kc + 0) + 1) + 0) + 0) + 0) + 0) + 0) + 0) + 0) + 1) + 1) + 1) + 1) + 34) + 1 ≤ 800 ∧ ((((((((((((((kn + 0) + 7) + 0) + 0) + 0) + 0) + 0) + 0) + 0) + 2400) + 2400) + 2400) + 2400) + 52896) + 2400 ≤ 1200000) <| bd (f_J4_append_15ec4_E Z M229 a232 r229) fun r231 M231 => (if (x3 - x3 / (3 : Int32) * (3 : Int32)) = 0 then b_L_shore_631 Z M231 ((((((((((((((((kc + 0) + 1) + 0) + 0) + 0) + 0) + 0) + 0) + 0) + 1) + 1) + 1) + 1) + 34) + 1)) ((((((((((((((((kn + 0) + 7) + 0) + 0) + 0) + 0) + 0) + 0) + 0) + 2400) + 2400) + 2400) + 2400) + 52896) + 2400)) x1 x2 x3 r231 88 else b_L_shore_631 Z M231 ((((((((((((((((kc + 0) + 1) + 0) + 0) + 0) + 0) + 0) + 0) + 0) + 1) + 1) + 1) + 1) + 34) + 1)) ((((((((((((((((kn + 0) + 7) + 0) + 0) + 0) + 0) + 0) + 0) + 0) + 2400) + 2400) + 2400) + 2400) + 52896) + 2400)) x1 x2 x3 r231 80))
noncomputable def lp_L_shore_451 (Z : Nat → Nat) (M : gMem) (kc : Nat) (kn : Nat) (x1 : Option Nat) (x2 : Option Nat) (x3 : Int32) : Option (Option Nat × gMem) :=
  lp (fun (q : gMem × Nat × Nat × Int32) => bb_L_shore_451 Z q.1 q.2.1 q.2.2.1 x1 x2 q.2.2.2) (M, kc, kn, x3)
noncomputable def b_L_shore_353 (Z : Nat → Nat) (M : gMem) (kc : Nat) (kn : Nat) (x1 : Option Nat) (x2 : Option Nat) (x3 : Int32) (s0 : Option Nat) (s1 : Option Nat) (s2 : Int32) (s3 : Int32) (s4 : Int32) (s5 : Int32) : Option ((gMem × Nat × Nat × Int32) ⊕ (Option Nat × gMem)) :=
  ck (kc + 0 ≤ 800 ∧ kn + 0 ≤ 1200000) <| bd (f_L_below M s4 s5) fun r235 M235 => dr s1 fun a237 => ck (mT M235 a237 = 20) <| ck (inb s2 (mL M235 a237)) <| lw (wI M235 a237 s2.toNatClampNeg ((s3 + r235))) fun M240 => dr s0 fun a242 => ck (mT M240 a242 = 20) <| ck (inb (0 : Int32) (mL M240 a242)) <| ck (inb (1 : Int32) (mL M240 a242)) <| lw (wI M240 a242 ((1 : Int32)).toNatClampNeg ((mI M240 a242 ((0 : Int32)).toNatClampNeg))) fun M246 => dr x2 fun a249 => ck (mT M246 a249 = 11) <| dr ((mR M246 a249 3)) fun a251 => ck (mT M246 a251 = 28) <| ck (inb x3 (mL M246 a251)) <| lw (wR M246 a251 x3.toNatClampNeg s0) fun M254 => dr x1 fun a260 => ck (mT M254 a260 = 13) <| ck ((kc + 0) + 1 ≤ 800 ∧ (kn + 0) + 2400 ≤ 1200000) <| bd (f_J4_append_15ec4_S Z M254 a260 82) fun r259 M259 => dr r259 fun a264 => ck (mT M259 a264 = 13) <| ck (((kc + 0) + 1) + 1 ≤ 800 ∧ ((kn + 0) + 2400) + 2400 ≤ 1200000) <| bd (f_J4_append_bf812 Z M259 a264 x3) fun r263 M263 => dr r263 fun a268 => ck (mT M263 a268 = 13) <| ck ((((kc + 0) + 1) + 1) + 1 ≤ 800 ∧ (((kn + 0) + 2400) + 2400) + 2400 ≤ 1200000) <| bd (f_J4_append_15ec4_S Z M263 a268 83) fun r267 M267 => ck (mT M267 a242 = 20) <| ck (inb (0 : Int32) (mL M267 a242)) <| dr r267 fun a274 => ck (mT M267 a274 = 13) <| ck (((((kc + 0) + 1) + 1) + 1) + 1 ≤ 800 ∧ ((((kn + 0) + 2400) + 2400) + 2400) + 2400 ≤ 1200000) <| bd (f_J4_append_bf812 Z M267 a274 ((mI M267 a242 ((0 : Int32)).toNatClampNeg))) fun r273 M273 => dr r273 fun a278 => ck (mT M273 a278 = 13) <| ck ((((((kc + 0) + 1) + 1) + 1) + 1) + 1 ≤ 800 ∧ (((((kn + 0) + 2400) + 2400) + 2400) + 2400) + 2400 ≤ 1200000) <| bd (f_J4_append_15ec4_S Z M273 a278 84) fun r277 M277 => ck (mT M277 a242 = 20) <| ck (inb (2 : Int32) (mL M277 a242)) <| dr r277 fun a284 => ck (mT M277 a284 = 13) <| ck (((((((kc + 0) + 1) + 1) + 1) + 1) + 1) + 1 ≤ 800 ∧ ((((((kn + 0) + 2400) + 2400) + 2400) + 2400) + 2400) + 2400 ≤ 1200000) <| bd (f_J4_append_bf812 Z M277 a284 ((mI M277 a242 ((2 : Int32)).toNatClampNeg))) fun r283 M283 => dr r283 fun a288 => ck (mT M283 a288 = 13) <| ck ((((((((kc + 0) + 1) + 1) + 1) + 1) + 1) + 1) + 1 ≤ 800 ∧ (((((((kn + 0) + 2400) + 2400) + 2400) + 2400) + 2400) + 2400) + 2400 ≤ 1200000) <| bd (f_J4_append_15ec4_S Z M283 a288 85) fun r287 M287 => ck (mT M287 a242 = 20) <| ck (inb (3 : Int32) (mL M287 a242)) <| dr r287 fun a294 => ck (mT M287 a294 = 13) <| ck (((((((((kc + 0) + 1) + 1) + 1) + 1) + 1) + 1) + 1) + 1 ≤ 800 ∧ ((((((((kn + 0) + 2400) + 2400) + 2400) + 2400) + 2400) + 2400) + 2400) + 2400 ≤ 1200000) <| bd (f_J4_append_bf812 Z M287 a294 ((mI M287 a242 ((3 : Int32)).toNatClampNeg))) fun r293 M293 => dr r293 fun a298 => ck (mT M293 a298 = 13) <| ck ((((((((((kc + 0) + 1) + 1) + 1) + 1) + 1) + 1) + 1) + 1) + 1 ≤ 800 ∧ (((((((((kn + 0) + 2400) + 2400) + 2400) + 2400) + 2400) + 2400) + 2400) + 2400) + 2400 ≤ 1200000) <| bd (f_J4_append_15ec4_S Z M293 a298 80) fun r297 M297 => some (.inl (M297, ((((((((((kc + 0) + 1) + 1) + 1) + 1) + 1) + 1) + 1) + 1) + 1), ((((((((((kn + 0) + 2400) + 2400) + 2400) + 2400) + 2400) + 2400) + 2400) + 2400) + 2400), (x3 + (1 : Int32))))
noncomputable def b_L_shore_322 (Z : Nat → Nat) (M : gMem) (kc : Nat) (kn : Nat) (x1 : Option Nat) (x2 : Option Nat) (x3 : Int32) (x4 : Int32) (s0 : Option Nat) (s1 : Option Nat) (s2 : Int32) (s3 : Int32) (s4 : Int32) (s5 : Int32) : Option ((gMem × Nat × Nat × Int32) ⊕ (Option Nat × gMem)) :=
  ck (kc + 0 ≤ 800 ∧ kn + 0 ≤ 1200000) <| bd (f_L_below M s4 s5) fun r301 M301 => dr s1 fun a303 => ck (mT M301 a303 = 20) <| ck (inb s2 (mL M301 a303)) <| lw (wI M301 a303 s2.toNatClampNeg ((s3 + r301))) fun M306 => ck ((kc + 0) + 0 ≤ 800 ∧ (kn + 0) + 0 ≤ 1200000) <| bd (f_L_below M306 ((x4 >>> ((7 : Int32) &&& 31))) ((2 : Int32))) fun r308 M308 => (if r308 = 0 then b_L_shore_353 Z M308 (((kc + 0) + 0)) (((kn + 0) + 0)) x1 x2 x3 s0 s0 ((3 : Int32)) ((1 : Int32)) ((x4 >>> ((5 : Int32) &&& 31))) ((40 : Int32)) else b_L_shore_353 Z M308 (((kc + 0) + 0)) (((kn + 0) + 0)) x1 x2 x3 s0 s0 ((3 : Int32)) ((1 : Int32)) ((x4 >>> ((5 : Int32) &&& 31))) ((9 : Int32)))
noncomputable def bb_L_shore_252 (Z : Nat → Nat) (M : gMem) (kc : Nat) (kn : Nat) (x1 : Option Nat) (x2 : Option Nat) (x3 : Int32) : Option ((gMem × Nat × Nat × Int32) ⊕ (Option Nat × gMem)) :=
  dr x2 fun a310 => ck (mT M a310 = 11) <| (if (mI M a310 1) ≤ x3 then ck (kc + 0 ≤ 800 ∧ kn + 0 ≤ 1200000) <| bd (f_L_cell Z M  ((7 : Int32))) fun r312 M312 => ck ((kc + 0) + 0 ≤ 800 ∧ (kn + 0) + 0 ≤ 1200000) <| bd (f_L_below M312 r312 ((9 : Int32))) fun r314 M314 => ck (mT M314 a310 = 11) <| lw (wI M314 a310 5 r314) fun M317 => oI (lp_L_shore_451 Z M317 (((kc + 0) + 0)) (((kn + 0) + 0)) x1 x2 ((0 : Int32))) else ck (kc + 0 ≤ 800 ∧ kn + 0 ≤ 1200000) <| bd (f_L_cell Z M  (((4 : Int32) + (x3 - x3 / (3 : Int32) * (3 : Int32))))) fun r320 M320 => ck ((kc + 0) + 1 ≤ 800 ∧ (kn + 0) + 4 ≤ 1200000) <| lw (nW M320 20 ((4 : Int32)).toNatClampNeg) fun M323 => ck (((kc + 0) + 1) + 0 ≤ 800 ∧ ((kn + 0) + 4) + 0 ≤ 1200000) <| bd (f_L_below M323 ((r320 >>> (((x3 / (3 : Int32)) * (9 : Int32)) &&& 31))) ((5 : Int32))) fun r324 M324 => ck (mT M324 (mN M320) = 20) <| ck (inb (0 : Int32) (mL M324 (mN M320))) <| lw (wI M324 (mN M320) ((0 : Int32)).toNatClampNeg (((1 : Int32) + r324))) fun M328 => ck (inb (1 : Int32) (mL M328 (mN M320))) <| lw (wI M328 (mN M320) ((1 : Int32)).toNatClampNeg ((0 : Int32))) fun M331 => ck ((((kc + 0) + 1) + 0) + 0 ≤ 800 ∧ (((kn + 0) + 4) + 0) + 0 ≤ 1200000) <| bd (f_L_below M331 (((r320 >>> (((x3 / (3 : Int32)) * (9 : Int32)) &&& 31)) >>> ((8 : Int32) &&& 31))) ((2 : Int32))) fun r333 M333 => (if r333 = 0 then b_L_shore_322 Z M333 (((((kc + 0) + 1) + 0) + 0)) (((((kn + 0) + 4) + 0) + 0)) x1 x2 x3 ((r320 >>> (((x3 / (3 : Int32)) * (9 : Int32)) &&& 31))) ((some (mN M320))) ((some (mN M320))) ((2 : Int32)) ((1 : Int32)) (((r320 >>> (((x3 / (3 : Int32)) * (9 : Int32)) &&& 31)) >>> ((3 : Int32) &&& 31))) ((99 : Int32)) else b_L_shore_322 Z M333 (((((kc + 0) + 1) + 0) + 0)) (((((kn + 0) + 4) + 0) + 0)) x1 x2 x3 ((r320 >>> (((x3 / (3 : Int32)) * (9 : Int32)) &&& 31))) ((some (mN M320))) ((some (mN M320))) ((2 : Int32)) ((1 : Int32)) (((r320 >>> (((x3 / (3 : Int32)) * (9 : Int32)) &&& 31)) >>> ((3 : Int32) &&& 31))) ((25 : Int32))))
noncomputable def lp_L_shore_252 (Z : Nat → Nat) (M : gMem) (kc : Nat) (kn : Nat) (x1 : Option Nat) (x2 : Option Nat) (x3 : Int32) : Option (Option Nat × gMem) :=
  lp (fun (q : gMem × Nat × Nat × Int32) => bb_L_shore_252 Z q.1 q.2.1 q.2.2.1 x1 x2 q.2.2.2) (M, kc, kn, x3)
noncomputable def b_L_shore_224 (Z : Nat → Nat) (M : gMem) (kc : Nat) (kn : Nat) (x1 : Option Nat) (x2 : Option Nat) (x3 : Int32) (s0 : Option Nat) (s1 : Nat) : Option ((gMem × Nat × Nat × Int32) ⊕ (Option Nat × gMem)) :=
  dr s0 fun a336 => ck (mT M a336 = 13) <| ck (kc + 1 ≤ 800 ∧ kn + 2400 ≤ 1200000) <| bd (f_J4_append_15ec4_S Z M a336 s1) fun r335 M335 => some (.inl (M335, (kc + 1), (kn + 2400), (x3 + (1 : Int32))))
noncomputable def b_L_shore_188 (Z : Nat → Nat) (M : gMem) (kc : Nat) (kn : Nat) (x1 : Option Nat) (x2 : Option Nat) (x3 : Int32) (x4 : Int32) (x5 : Int32) (x6 : Int32) (s0 : Option Nat) (s1 : Nat) : Option ((gMem × Nat × Nat × Int32) ⊕ ((gMem × Nat × Nat × Int32) ⊕ (Option Nat × gMem))) :=
  dr s0 fun a340 => ck (mT M a340 = 13) <| ck (kc + 1 ≤ 800 ∧ kn + 2400 ≤ 1200000) <| bd (f_J4_append_15ec4_S Z M a340 s1) fun r339 M339 => dr x2 fun a343 => ck (mT M339 a343 = 11) <| dr ((mR M339 a343 2)) fun a345 => ck (mT M339 a345 = 28) <| ck (inb x3 (mL M339 a345)) <| dr ((mR M339 a345 x3.toNatClampNeg)) fun a348 => ck (mT M339 a348 = 20) <| ck (inb x6 (mL M339 a348)) <| dr r339 fun a352 => ck (mT M339 a352 = 13) <| ck ((kc + 1) + 1 ≤ 800 ∧ (kn + 2400) + 2400 ≤ 1200000) <| bd (f_J4_append_bf812 Z M339 a352 ((mI M339 a348 x6.toNatClampNeg))) fun r351 M351 => some (.inl (M351, ((kc + 1) + 1), ((kn + 2400) + 2400), (x6 + (1 : Int32))))
noncomputable def b_L_shore_170 (Z : Nat → Nat) (M : gMem) (kc : Nat) (kn : Nat) (x1 : Option Nat) (x2 : Option Nat) (x3 : Int32) (x4 : Int32) (x5 : Int32) (x6 : Int32) (s0 : Option Nat) (s1 : Int32) (s2 : Int32) (s3 : Int32) : Option ((gMem × Nat × Nat × Int32) ⊕ ((gMem × Nat × Nat × Int32) ⊕ (Option Nat × gMem))) :=
  ck (kc + 0 ≤ 800 ∧ kn + 0 ≤ 1200000) <| bd (f_L_below M s2 s3) fun r355 M355 => dr s0 fun a357 => ck (mT M355 a357 = 20) <| ck (inb s1 (mL M355 a357)) <| lw (wI M355 a357 s1.toNatClampNeg r355) fun M360 => (if x6 ≤ (1 : Int32) then b_L_shore_188 Z M360 ((kc + 0)) ((kn + 0)) x1 x2 x3 x4 x5 x6 x1 67 else b_L_shore_188 Z M360 ((kc + 0)) ((kn + 0)) x1 x2 x3 x4 x5 x6 x1 79)
noncomputable def bb_L_shore_130 (Z : Nat → Nat) (M : gMem) (kc : Nat) (kn : Nat) (x1 : Option Nat) (x2 : Option Nat) (x3 : Int32) (x4 : Int32) (x5 : Int32) (x6 : Int32) : Option ((gMem × Nat × Nat × Int32) ⊕ ((gMem × Nat × Nat × Int32) ⊕ (Option Nat × gMem))) :=
  (if x5 < x6 then (if (x3 - x3 / (2 : Int32) * (2 : Int32)) = 0 then oI (b_L_shore_224 Z M kc kn x1 x2 x3 x1 80) else oI (b_L_shore_224 Z M kc kn x1 x2 x3 x1 81)) else dr x2 fun a364 => ck (mT M a364 = 11) <| dr ((mR M a364 2)) fun a366 => ck (mT M a366 = 28) <| ck (inb x3 (mL M a366)) <| ck (kc + 0 ≤ 800 ∧ kn + 0 ≤ 1200000) <| bd (f_L_below M ((x4 >>> ((5 : Int32) &&& 31))) ((2 : Int32))) fun r369 M369 => (if r369 = 0 then b_L_shore_170 Z M369 ((kc + 0)) ((kn + 0)) x1 x2 x3 x4 x5 x6 ((mR M a366 x3.toNatClampNeg)) x6 ((x4 >>> (((2 : Int32) * x6) &&& 31))) ((100 : Int32)) else b_L_shore_170 Z M369 ((kc + 0)) ((kn + 0)) x1 x2 x3 x4 x5 x6 ((mR M a366 x3.toNatClampNeg)) x6 ((x4 >>> (((2 : Int32) * x6) &&& 31))) ((12 : Int32))))
noncomputable def lp_L_shore_130 (Z : Nat → Nat) (M : gMem) (kc : Nat) (kn : Nat) (x1 : Option Nat) (x2 : Option Nat) (x3 : Int32) (x4 : Int32) (x5 : Int32) (x6 : Int32) : Option ((gMem × Nat × Nat × Int32) ⊕ (Option Nat × gMem)) :=
  lp (fun (q : gMem × Nat × Nat × Int32) => bb_L_shore_130 Z q.1 q.2.1 q.2.2.1 x1 x2 x3 x4 x5 q.2.2.2) (M, kc, kn, x6)
noncomputable def b_L_shore_78 (Z : Nat → Nat) (M : gMem) (kc : Nat) (kn : Nat) (x1 : Option Nat) (x2 : Option Nat) (x3 : Int32) (x4 : Int32) (s0 : Option Nat) (s1 : Int32) (s2 : Int32) (s3 : Int32) (s4 : Int32) : Option ((gMem × Nat × Nat × Int32) ⊕ (Option Nat × gMem)) :=
  ck (kc + 0 ≤ 800 ∧ kn + 0 ≤ 1200000) <| bd (f_L_below M s3 s4) fun r371 M371 => dr s0 fun a373 => ck (mT M371 a373 = 20) <| ck (inb s1 (mL M371 a373)) <| lw (wI M371 a373 s1.toNatClampNeg ((s2 + r371))) fun M376 => dr x1 fun a379 => ck (mT M376 a379 = 13) <| ck ((kc + 0) + 1 ≤ 800 ∧ (kn + 0) + 2400 ≤ 1200000) <| bd (f_J4_append_15ec4_S Z M376 a379 76) fun r378 M378 => dr r378 fun a383 => ck (mT M378 a383 = 13) <| ck (((kc + 0) + 1) + 1 ≤ 800 ∧ ((kn + 0) + 2400) + 2400 ≤ 1200000) <| bd (f_J4_append_bf812 Z M378 a383 x3) fun r382 M382 => dr r382 fun a387 => ck (mT M382 a387 = 13) <| ck ((((kc + 0) + 1) + 1) + 1 ≤ 800 ∧ (((kn + 0) + 2400) + 2400) + 2400 ≤ 1200000) <| bd (f_J4_append_15ec4_S Z M382 a387 77) fun r386 M386 => dr x2 fun a390 => ck (mT M386 a390 = 11) <| dr ((mR M386 a390 2)) fun a392 => ck (mT M386 a392 = 28) <| ck (inb x3 (mL M386 a392)) <| dr ((mR M386 a392 x3.toNatClampNeg)) fun a395 => ck (mT M386 a395 = 20) <| ck (inb (0 : Int32) (mL M386 a395)) <| dr r386 fun a399 => ck (mT M386 a399 = 13) <| ck (((((kc + 0) + 1) + 1) + 1) + 1 ≤ 800 ∧ ((((kn + 0) + 2400) + 2400) + 2400) + 2400 ≤ 1200000) <| bd (f_J4_append_bf812 Z M386 a399 ((mI M386 a395 ((0 : Int32)).toNatClampNeg))) fun r398 M398 => dr r398 fun a403 => ck (mT M398 a403 = 13) <| ck ((((((kc + 0) + 1) + 1) + 1) + 1) + 1 ≤ 800 ∧ (((((kn + 0) + 2400) + 2400) + 2400) + 2400) + 2400 ≤ 1200000) <| bd (f_J4_append_15ec4_S Z M398 a403 78) fun r402 M402 => ck (((((((kc + 0) + 1) + 1) + 1) + 1) + 1) + 0 ≤ 800 ∧ ((((((kn + 0) + 2400) + 2400) + 2400) + 2400) + 2400) + 0 ≤ 1200000) <| bd (f_L_below M402 ((x4 >>> ((2 : Int32) &&& 31))) ((5 : Int32))) fun r406 M406 => lp_L_shore_130 Z M406 ((((((((kc + 0) + 1) + 1) + 1) + 1) + 1) + 0)) ((((((((kn + 0) + 2400) + 2400) + 2400) + 2400) + 2400) + 0)) x1 x2 x3 x4 (((1 : Int32) + r406)) ((1 : Int32))
noncomputable def bb_L_shore_25 (Z : Nat → Nat) (M : gMem) (kc : Nat) (kn : Nat) (x1 : Option Nat) (x2 : Option Nat) (x3 : Int32) : Option ((gMem × Nat × Nat × Int32) ⊕ (Option Nat × gMem)) :=
  dr x2 fun a408 => ck (mT M a408 = 11) <| (if (mI M a408 0) ≤ x3 then ck (kc + 0 ≤ 800 ∧ kn + 0 ≤ 1200000) <| bd (f_L_cell Z M  ((3 : Int32))) fun r410 M410 => ck ((kc + 0) + 0 ≤ 800 ∧ (kn + 0) + 0 ≤ 1200000) <| bd (f_L_below M410 r410 ((6 : Int32))) fun r412 M412 => ck (mT M412 a408 = 11) <| lw (wI M412 a408 1 (((1 : Int32) + r412))) fun M415 => oI (lp_L_shore_252 Z M415 (((kc + 0) + 0)) (((kn + 0) + 0)) x1 x2 ((0 : Int32))) else ck (kc + 0 ≤ 800 ∧ kn + 0 ≤ 1200000) <| bd (f_L_cell Z M  (((1 : Int32) + (x3 - x3 / (2 : Int32) * (2 : Int32))))) fun r418 M418 => ck (mT M418 a408 = 11) <| dr ((mR M418 a408 2)) fun a421 => ck (mT M418 a421 = 28) <| ck (inb x3 (mL M418 a421)) <| ck ((kc + 0) + 0 ≤ 800 ∧ (kn + 0) + 0 ≤ 1200000) <| bd (f_L_below M418 (((r418 >>> (((x3 / (2 : Int32)) * (7 : Int32)) &&& 31)) >>> ((4 : Int32) &&& 31))) ((2 : Int32))) fun r424 M424 => (if r424 = 0 then b_L_shore_78 Z M424 (((kc + 0) + 0)) (((kn + 0) + 0)) x1 x2 x3 ((r418 >>> (((x3 / (2 : Int32)) * (7 : Int32)) &&& 31))) ((mR M418 a421 x3.toNatClampNeg)) ((0 : Int32)) ((1 : Int32)) ((r418 >>> (((x3 / (2 : Int32)) * (7 : Int32)) &&& 31))) ((8 : Int32)) else b_L_shore_78 Z M424 (((kc + 0) + 0)) (((kn + 0) + 0)) x1 x2 x3 ((r418 >>> (((x3 / (2 : Int32)) * (7 : Int32)) &&& 31))) ((mR M418 a421 x3.toNatClampNeg)) ((0 : Int32)) ((1 : Int32)) ((r418 >>> (((x3 / (2 : Int32)) * (7 : Int32)) &&& 31))) ((2 : Int32))))
noncomputable def lp_L_shore_25 (Z : Nat → Nat) (M : gMem) (kc : Nat) (kn : Nat) (x1 : Option Nat) (x2 : Option Nat) (x3 : Int32) : Option (Option Nat × gMem) :=
  lp (fun (q : gMem × Nat × Nat × Int32) => bb_L_shore_25 Z q.1 q.2.1 q.2.2.1 x1 x2 q.2.2.2) (M, kc, kn, x3)
noncomputable def b_L_shore_0 (Z : Nat → Nat) (M : gMem) (kc : Nat) (kn : Nat) (x1 : Option Nat) : Option (Option Nat × gMem) :=
  ck (kc + 1 ≤ 800 ∧ kn + 20 ≤ 1200000) <| lw (nW M 11 0) fun M427 => ck ((kc + 1) + 74 ≤ 800 ∧ (kn + 20) + 476 ≤ 1200000) <| bd (f_X12_init M427 ((mN M))) fun _ M428 => ck (((kc + 1) + 74) + 0 ≤ 800 ∧ ((kn + 20) + 476) + 0 ≤ 1200000) <| bd (f_L_cell Z M428  ((0 : Int32))) fun r430 M430 => ck ((((kc + 1) + 74) + 0) + 0 ≤ 800 ∧ (((kn + 20) + 476) + 0) + 0 ≤ 1200000) <| bd (f_L_below M430 r430 ((4 : Int32))) fun r432 M432 => ck (mT M432 (mN M) = 11) <| lw (wI M432 (mN M) 0 (((1 : Int32) + r432))) fun M435 => lp_L_shore_25 Z M435 (((((kc + 1) + 74) + 0) + 0)) (((((kn + 20) + 476) + 0) + 0)) x1 ((some (mN M))) ((0 : Int32))
noncomputable def f_L_shore (Z : Nat → Nat) (M : gMem) (x1 : Option Nat) : Option (Option Nat × gMem) :=
  b_L_shore_0 Z M 0 0 x1
set_option maxHeartbeats 4000000 in
set_option maxRecDepth 100000 in
theorem t_L_shore_920 (X2 : gX p s m args meth c D cy B (gSt2 Z B H0) RL cL_shore wsL_shore 9) (hr : meth.sig.returnType = (some (.object "TideLotsLaw$Sim"))) {Q : State → Prop} : ∀ (M : gMem) (kc : Nat) (kn : Nat) (x1 : Option Nat) (x2 : Option Nat) (x3 : Int32) (z : (gMem × Nat × Nat × Int32) ⊕ (Option Nat × gMem)), b_L_shore_920 Z M kc kn x1 x2 x3 = some z → (Sum.elim (fun (q : gMem × Nat × Nat × Int32) => gGo p l e rL_shore s m args below meth c D cy B H0 9 q.2.1 q.2.2.1 Q 657 [(0, vR (some (Z 400))), (1, vR x1), (2, vR x2), (3, vI q.2.2.2)] [] q.1) (fun (r : Option Nat × gMem) => Q = gMQ below D cy B H0 args s 800 1200000 (some (vR r.1)) r.2)) z → gGo p l e rL_shore s m args below meth c D cy B H0 9 kc kn Q 920 [(0, vR (some (Z 400))), (1, vR x1), (2, vR x2), (3, vI x3)] [] M := by
  intro M kc kn x1 x2 x3 z hf hK
  unfold b_L_shore_920 at hf
  have X := gX_w X2
  refine g_iinc (v := (1 : Int32)) (lv' := [(3, vI (x3 + (1 : Int32))), (0, vR (some (Z 400))), (1, vR x1), (2, vR x2)]) X dL_shore_920 rfl (by decide) (by decide) rfl ?_
  refine g_goto (tgt := 657) X dL_shore_923 (by decide) ?_
  cases hf
  refine g_sub (lvsub_of _ _ [1, 2, 3, 0] rfl) ?_
  exact hK
set_option maxHeartbeats 4000000 in
set_option maxRecDepth 100000 in
theorem t_L_shore_836 (X2 : gX p s m args meth c D cy B (gSt2 Z B H0) RL cL_shore wsL_shore 9) (hr : meth.sig.returnType = (some (.object "TideLotsLaw$Sim"))) {Q : State → Prop} : ∀ (M : gMem) (kc : Nat) (kn : Nat) (x1 : Option Nat) (x2 : Option Nat) (x3 : Int32) (x4 : Int32) (x5 : Int32) (x6 : Option Nat) (x7 : Option Nat) (x8 : Int32) (s0 : Option Nat) (s1 : Nat) (z : (gMem × Nat × Nat × Int32) ⊕ ((gMem × Nat × Nat × Int32) ⊕ (Option Nat × gMem))), b_L_shore_836 Z M kc kn x1 x2 x3 x4 x5 x6 x7 x8 s0 s1 = some z → (Sum.elim (fun (q : gMem × Nat × Nat × Int32) => gGo p l e rL_shore s m args below meth c D cy B H0 9 q.2.1 q.2.2.1 Q 792 [(0, vR (some (Z 400))), (1, vR x1), (2, vR x2), (3, vI x3), (4, vI x4), (5, vI x5), (6, vR x6), (7, vR x7), (8, vI q.2.2.2)] [] q.1) (Sum.elim (fun (q : gMem × Nat × Nat × Int32) => gGo p l e rL_shore s m args below meth c D cy B H0 9 q.2.1 q.2.2.1 Q 657 [(0, vR (some (Z 400))), (1, vR x1), (2, vR x2), (3, vI q.2.2.2)] [] q.1) (fun (r : Option Nat × gMem) => Q = gMQ below D cy B H0 args s 800 1200000 (some (vR r.1)) r.2))) z → gGo p l e rL_shore s m args below meth c D cy B H0 9 kc kn Q 836 [(0, vR (some (Z 400))), (1, vR x1), (2, vR x2), (3, vI x3), (4, vI x4), (5, vI x5), (6, vR x6), (7, vR x7), (8, vI x8)] [vR (some (Z (100 + s1))), vR s0] M := by
  intro M kc kn x1 x2 x3 x4 x5 x6 x7 x8 s0 s1 z hf hK
  unfold b_L_shore_836 at hf
  have X := gX_w X2
  obtain ⟨a2, ha2, hf⟩ := dr_e hf
  obtain ⟨hT3, hf⟩ := ck_e hf
  obtain ⟨hg4, hf⟩ := ck_e hf
  obtain ⟨r1, M1, hq1, hf⟩ := bd_e hf
  refine g_callV (ci := 12) (b := a2) (As := [vR (some (Z (100 + s1)))]) (st := []) (v := some (vR r1)) (M1 := M1) X2 (m_J4_append_15ec4_S l hq1) (cwV 1 X.2.2.1 gL_shore_J4_append_15ec4 rfl rfl rfl (by decide +kernel) ⟨Nat.le_of_ble_eq_true rfl, Nat.le_of_ble_eq_true rfl⟩) rfl rfl ha2 hT3 (by decide) rfl (Nat.le_of_ble_eq_true rfl) dL_shore_836 ⟨hg4.1, hg4.2⟩ ?_
  refine g_lds (q := Z (100 + 46)) X (gSt2_lit X2 (54, "f", 46) (by decide +kernel)) dL_shore_839 ?_
  obtain ⟨a6, ha6, hf⟩ := dr_e hf
  obtain ⟨hT7, hf⟩ := ck_e hf
  obtain ⟨hg8, hf⟩ := ck_e hf
  obtain ⟨r5, M5, hq5, hf⟩ := bd_e hf
  refine g_callV (ci := 12) (b := a6) (As := [vR (some (Z (100 + 46)))]) (st := []) (v := some (vR r5)) (M1 := M5) X2 (m_J4_append_15ec4_S l hq5) (cwV 1 X.2.2.1 gL_shore_J4_append_15ec4 rfl rfl rfl (by decide +kernel) ⟨Nat.le_of_ble_eq_true rfl, Nat.le_of_ble_eq_true rfl⟩) rfl rfl ha6 hT7 (by decide) rfl (Nat.le_of_ble_eq_true rfl) dL_shore_841 ⟨hg8.1, hg8.2⟩ ?_
  refine g_aload X dL_shore_844 rfl ?_
  refine g_iload X dL_shore_846 rfl ?_
  obtain ⟨a9, ha9, hf⟩ := dr_e hf
  obtain ⟨hT10, hf⟩ := ck_e hf
  obtain ⟨hg11, hf⟩ := ck_e hf
  refine g_iald X dL_shore_848 ha9 hT10 hg11 ?_
  obtain ⟨a13, ha13, hf⟩ := dr_e hf
  obtain ⟨hT14, hf⟩ := ck_e hf
  obtain ⟨hg15, hf⟩ := ck_e hf
  obtain ⟨r12, M12, hq12, hf⟩ := bd_e hf
  refine g_callV (ci := 12) (b := a13) (As := [vI (mI M5 a9 x8.toNatClampNeg)]) (st := []) (v := some (vR r12)) (M1 := M12) X2 (m_J4_append_bf812 l hq12) (cwV 1 X.2.2.1 gL_shore_J4_append_bf812 rfl rfl rfl (by decide +kernel) ⟨Nat.le_of_ble_eq_true rfl, Nat.le_of_ble_eq_true rfl⟩) rfl rfl ha13 hT14 (by decide) rfl (Nat.le_of_ble_eq_true rfl) dL_shore_849 ⟨hg15.1, hg15.2⟩ ?_
  refine g_pop X dL_shore_852 rfl ?_
  refine g_iinc (v := (1 : Int32)) (lv' := [(8, vI (x8 + (1 : Int32))), (0, vR (some (Z 400))), (1, vR x1), (2, vR x2), (3, vI x3), (4, vI x4), (5, vI x5), (6, vR x6), (7, vR x7)]) X dL_shore_853 rfl (by decide) (by decide) rfl ?_
  refine g_goto (tgt := 792) X dL_shore_856 (by decide) ?_
  cases hf
  refine g_sub (lvsub_of _ _ [1, 2, 3, 4, 5, 6, 7, 8, 0] rfl) ?_
  exact hK
set_option maxHeartbeats 4000000 in
set_option maxRecDepth 100000 in
theorem tb_L_shore_792 (X2 : gX p s m args meth c D cy B (gSt2 Z B H0) RL cL_shore wsL_shore 9) (hr : meth.sig.returnType = (some (.object "TideLotsLaw$Sim"))) {Q : State → Prop} : ∀ (M : gMem) (kc : Nat) (kn : Nat) (x1 : Option Nat) (x2 : Option Nat) (x3 : Int32) (x4 : Int32) (x5 : Int32) (x6 : Option Nat) (x7 : Option Nat) (x8 : Int32) (z : (gMem × Nat × Nat × Int32) ⊕ ((gMem × Nat × Nat × Int32) ⊕ (Option Nat × gMem))), bb_L_shore_792 Z M kc kn x1 x2 x3 x4 x5 x6 x7 x8 = some z → (Sum.elim (fun (q : gMem × Nat × Nat × Int32) => gGo p l e rL_shore s m args below meth c D cy B H0 9 q.2.1 q.2.2.1 Q 792 [(0, vR (some (Z 400))), (1, vR x1), (2, vR x2), (3, vI x3), (4, vI x4), (5, vI x5), (6, vR x6), (7, vR x7), (8, vI q.2.2.2)] [] q.1) (Sum.elim (fun (q : gMem × Nat × Nat × Int32) => gGo p l e rL_shore s m args below meth c D cy B H0 9 q.2.1 q.2.2.1 Q 657 [(0, vR (some (Z 400))), (1, vR x1), (2, vR x2), (3, vI q.2.2.2)] [] q.1) (fun (r : Option Nat × gMem) => Q = gMQ below D cy B H0 args s 800 1200000 (some (vR r.1)) r.2))) z → gGo p l e rL_shore s m args below meth c D cy B H0 9 kc kn Q 792 [(0, vR (some (Z 400))), (1, vR x1), (2, vR x2), (3, vI x3), (4, vI x4), (5, vI x5), (6, vR x6), (7, vR x7), (8, vI x8)] [] M := by
  intro M kc kn x1 x2 x3 x4 x5 x6 x7 x8 z hf hK
  unfold bb_L_shore_792 at hf
  have X := gX_w X2
  refine g_iload X dL_shore_792 rfl ?_
  refine g_iload X dL_shore_794 rfl ?_
  refine g_icmp_ge (tgt := 859) X dL_shore_796 (by decide) (fun hc => ?_) (fun hc => ?_)
  · have hf := ife_t hc hf
    refine g_aload_n X dL_shore_859 rfl rfl ?_
    obtain ⟨a16, ha16, hf⟩ := dr_e hf
    obtain ⟨hT17, hf⟩ := ck_e hf
    refine g_get (ci := 10) (v := vR (mR M a16 7)) 7 X cdX12 i_L_shore_X12 (by decide) k_L_shore_f181 rfl dL_shore_860 ha16 hT17 rfl ?_
    refine g_iload_n X dL_shore_863 rfl rfl ?_
    refine g_aload X dL_shore_864 rfl ?_
    obtain ⟨a18, ha18, hf⟩ := dr_e hf
    obtain ⟨hT19, hf⟩ := ck_e hf
    obtain ⟨hg20, hf⟩ := ck_e hf
    obtain ⟨a21, ha21, hf⟩ := dr_e hf
    obtain ⟨hT22, hf⟩ := ck_e hf
    refine g_aastA X (gN2w X2 _ (by decide +kernel)) dL_shore_866 ha18 hT19 hg20 ha21 hT22 ?_
    obtain ⟨M23, hM23, hf⟩ := lw_e hf
    rw [← hM23]
    have hT24 : mT M23 a16 = 11 := by rw [hM23]; exact hT17
    have hT25 : mT M23 a18 = 28 := by rw [hM23]; exact hT19
    have hT26 : mT M23 a21 = 20 := by rw [hM23]; exact hT22
    refine g_aload X dL_shore_867 rfl ?_
    refine g_iconst (v := (0 : Int32)) X dL_shore_869 (by decide) ?_
    obtain ⟨a27, ha27, hf⟩ := dr_e hf
    obtain ⟨hT28, hf⟩ := ck_e hf
    obtain ⟨hg29, hf⟩ := ck_e hf
    refine g_iald X dL_shore_870 ha27 hT28 hg29 ?_
    refine g_if_ge (tgt := 884) X dL_shore_871 (by decide) (fun hc => ?_) (fun hc => ?_)
    · have hf := ife_t hc hf
      refine g_aload_n X dL_shore_884 rfl rfl ?_
      refine g_lds (q := Z (100 + 92)) X (gSt2_lit X2 (186, " spare g", 92) (by decide +kernel)) dL_shore_885 ?_
      obtain ⟨a31, ha31, hf⟩ := dr_e hf
      obtain ⟨hT32, hf⟩ := ck_e hf
      obtain ⟨hg33, hf⟩ := ck_e hf
      obtain ⟨r30, M30, hq30, hf⟩ := bd_e hf
      refine g_callV (ci := 12) (b := a31) (As := [vR (some (Z (100 + 92)))]) (st := []) (v := some (vR r30)) (M1 := M30) X2 (m_J4_append_15ec4_S l hq30) (cwV 1 X.2.2.1 gL_shore_J4_append_15ec4 rfl rfl rfl (by decide +kernel) ⟨Nat.le_of_ble_eq_true rfl, Nat.le_of_ble_eq_true rfl⟩) rfl rfl ha31 hT32 (by decide) rfl (Nat.le_of_ble_eq_true rfl) dL_shore_887 ⟨hg33.1, hg33.2⟩ ?_
      refine g_aload X dL_shore_890 rfl ?_
      refine g_iconst (v := (0 : Int32)) X dL_shore_892 (by decide) ?_
      obtain ⟨hT34, hf⟩ := ck_e hf
      obtain ⟨hg35, hf⟩ := ck_e hf
      refine g_iald X dL_shore_893 ha27 hT34 hg35 ?_
      obtain ⟨a37, ha37, hf⟩ := dr_e hf
      obtain ⟨hT38, hf⟩ := ck_e hf
      obtain ⟨hg39, hf⟩ := ck_e hf
      obtain ⟨r36, M36, hq36, hf⟩ := bd_e hf
      refine g_callV (ci := 12) (b := a37) (As := [vI (mI M30 a27 ((0 : Int32)).toNatClampNeg)]) (st := []) (v := some (vR r36)) (M1 := M36) X2 (m_J4_append_bf812 l hq36) (cwV 1 X.2.2.1 gL_shore_J4_append_bf812 rfl rfl rfl (by decide +kernel) ⟨Nat.le_of_ble_eq_true rfl, Nat.le_of_ble_eq_true rfl⟩) rfl rfl ha37 hT38 (by decide) rfl (Nat.le_of_ble_eq_true rfl) dL_shore_894 ⟨hg39.1, hg39.2⟩ ?_
      refine g_lds (q := Z (100 + 93)) X (gSt2_lit X2 (188, " below ", 93) (by decide +kernel)) dL_shore_897 ?_
      obtain ⟨a41, ha41, hf⟩ := dr_e hf
      obtain ⟨hT42, hf⟩ := ck_e hf
      obtain ⟨hg43, hf⟩ := ck_e hf
      obtain ⟨r40, M40, hq40, hf⟩ := bd_e hf
      refine g_callV (ci := 12) (b := a41) (As := [vR (some (Z (100 + 93)))]) (st := []) (v := some (vR r40)) (M1 := M40) X2 (m_J4_append_15ec4_S l hq40) (cwV 1 X.2.2.1 gL_shore_J4_append_15ec4 rfl rfl rfl (by decide +kernel) ⟨Nat.le_of_ble_eq_true rfl, Nat.le_of_ble_eq_true rfl⟩) rfl rfl ha41 hT42 (by decide) rfl (Nat.le_of_ble_eq_true rfl) dL_shore_899 ⟨hg43.1, hg43.2⟩ ?_
      refine g_aload X dL_shore_902 rfl ?_
      refine g_aload X dL_shore_904 rfl ?_
      refine g_iconst (v := (0 : Int32)) X dL_shore_906 (by decide) ?_
      obtain ⟨hT44, hf⟩ := ck_e hf
      obtain ⟨hg45, hf⟩ := ck_e hf
      refine g_iald X dL_shore_907 ha21 hT44 hg45 ?_
      obtain ⟨hg47, hf⟩ := ck_e hf
      obtain ⟨r46, M46, hq46, hf⟩ := bd_e hf
      refine g_callS (As := [vR x7, vI (mI M40 a21 ((0 : Int32)).toNatClampNeg)]) (st := [vR r40]) (v := some (vR r46)) (M1 := M46) X2 (m_L_sum l hq46) (va_cwS 2 X.2.2.1 gL_shore_L_sum rfl rfl rfl (by decide +kernel) ⟨Nat.le_of_ble_eq_true rfl, Nat.le_of_ble_eq_true rfl⟩) rfl rfl (Nat.le_of_ble_eq_true rfl) dL_shore_908 ⟨hg47.1, hg47.2⟩ ?_
      obtain ⟨a49, ha49, hf⟩ := dr_e hf
      obtain ⟨hT50, hf⟩ := ck_e hf
      obtain ⟨hg51, hf⟩ := ck_e hf
      obtain ⟨r48, M48, hq48, hf⟩ := bd_e hf
      refine g_callV (ci := 12) (b := a49) (As := [vR r46]) (st := []) (v := some (vR r48)) (M1 := M48) X2 (m_J4_append_15ec4_E l hq48) (cwV 1 X.2.2.1 gL_shore_J4_append_15ec4 rfl rfl rfl (by decide +kernel) ⟨Nat.le_of_ble_eq_true rfl, Nat.le_of_ble_eq_true rfl⟩) rfl rfl ha49 hT50 (by decide) rfl (Nat.le_of_ble_eq_true rfl) dL_shore_911 ⟨hg51.1, hg51.2⟩ ?_
      refine g_lds (q := Z (100 + 80)) X (gSt2_lit X2 (140, ";", 80) (by decide +kernel)) dL_shore_914 ?_
      obtain ⟨a53, ha53, hf⟩ := dr_e hf
      obtain ⟨hT54, hf⟩ := ck_e hf
      obtain ⟨hg55, hf⟩ := ck_e hf
      obtain ⟨r52, M52, hq52, hf⟩ := bd_e hf
      refine g_callV (ci := 12) (b := a53) (As := [vR (some (Z (100 + 80)))]) (st := []) (v := some (vR r52)) (M1 := M52) X2 (m_J4_append_15ec4_S l hq52) (cwV 1 X.2.2.1 gL_shore_J4_append_15ec4 rfl rfl rfl (by decide +kernel) ⟨Nat.le_of_ble_eq_true rfl, Nat.le_of_ble_eq_true rfl⟩) rfl rfl ha53 hT54 (by decide) rfl (Nat.le_of_ble_eq_true rfl) dL_shore_916 ⟨hg55.1, hg55.2⟩ ?_
      refine g_pop X dL_shore_919 rfl ?_
      obtain ⟨w56, hw56, hz56⟩ := oI_e hf
      subst hz56
      have hf := hw56
      refine g_sub (lvsub_of _ _ [0, 1, 2, 3] rfl) ?_
      exact t_L_shore_920 X2 hr _ _ _ _ _ _ _ hf hK
    · have hf := ife_f hc hf
      refine g_aload_n X dL_shore_874 rfl rfl ?_
      refine g_lds (q := Z (100 + 91)) X (gSt2_lit X2 (184, " split;", 91) (by decide +kernel)) dL_shore_875 ?_
      obtain ⟨a58, ha58, hf⟩ := dr_e hf
      obtain ⟨hT59, hf⟩ := ck_e hf
      obtain ⟨hg60, hf⟩ := ck_e hf
      obtain ⟨r57, M57, hq57, hf⟩ := bd_e hf
      refine g_callV (ci := 12) (b := a58) (As := [vR (some (Z (100 + 91)))]) (st := []) (v := some (vR r57)) (M1 := M57) X2 (m_J4_append_15ec4_S l hq57) (cwV 1 X.2.2.1 gL_shore_J4_append_15ec4 rfl rfl rfl (by decide +kernel) ⟨Nat.le_of_ble_eq_true rfl, Nat.le_of_ble_eq_true rfl⟩) rfl rfl ha58 hT59 (by decide) rfl (Nat.le_of_ble_eq_true rfl) dL_shore_877 ⟨hg60.1, hg60.2⟩ ?_
      refine g_pop X dL_shore_880 rfl ?_
      refine g_goto (tgt := 920) X dL_shore_881 (by decide) ?_
      obtain ⟨w61, hw61, hz61⟩ := oI_e hf
      subst hz61
      have hf := hw61
      refine g_sub (lvsub_of _ _ [0, 1, 2, 3] rfl) ?_
      exact t_L_shore_920 X2 hr _ _ _ _ _ _ _ hf hK
  · have hf := ife_f hc hf
    refine g_aload X dL_shore_799 rfl ?_
    refine g_iload X dL_shore_801 rfl ?_
    refine g_iload X dL_shore_803 rfl ?_
    refine g_iconst (v := (4 : Int32)) X dL_shore_805 (by decide) ?_
    refine g_ishr X dL_shore_806 ?_
    refine g_aload_n X dL_shore_807 rfl rfl ?_
    obtain ⟨a62, ha62, hf⟩ := dr_e hf
    obtain ⟨hT63, hf⟩ := ck_e hf
    refine g_get (ci := 10) (v := vI (mI M a62 1)) 1 X cdX12 i_L_shore_X12 (by decide) k_L_shore_f56 rfl dL_shore_808 ha62 hT63 rfl ?_
    obtain ⟨hg65, hf⟩ := ck_e hf
    obtain ⟨r64, M64, hq64, hf⟩ := bd_e hf
    refine g_callS (As := [vI (x4 >>> ((4 : Int32) &&& 31)), vI (mI M a62 1)]) (st := [vI x8, vR x6]) (v := some (vI r64)) (M1 := M64) X (m_L_below l hq64) (va_cwS 2 X.2.2.1 gL_shore_L_below rfl rfl rfl (by decide +kernel) ⟨Nat.le_of_ble_eq_true rfl, Nat.le_of_ble_eq_true rfl⟩) rfl rfl (Nat.le_of_ble_eq_true rfl) dL_shore_811 ⟨hg65.1, hg65.2⟩ ?_
    refine g_iload X dL_shore_814 rfl ?_
    refine g_iadd X dL_shore_816 ?_
    refine g_aload_n X dL_shore_817 rfl rfl ?_
    obtain ⟨hT66, hf⟩ := ck_e hf
    refine g_get (ci := 10) (v := vI (mI M64 a62 1)) 1 X cdX12 i_L_shore_X12 (by decide) k_L_shore_f56 rfl dL_shore_818 ha62 hT66 rfl ?_
    obtain ⟨hg67, hf⟩ := ck_e hf
    refine g_irem X dL_shore_821 hg67 ?_
    obtain ⟨a68, ha68, hf⟩ := dr_e hf
    obtain ⟨hT69, hf⟩ := ck_e hf
    obtain ⟨hg70, hf⟩ := ck_e hf
    refine g_iast X dL_shore_822 ha68 hT69 hg70 ?_
    obtain ⟨M71, hM71, hf⟩ := lw_e hf
    rw [← hM71]
    have hT72 : mT M71 a62 = 11 := by rw [hM71]; exact hT66
    have hT73 : mT M71 a68 = 20 := by rw [hM71]; exact hT69
    refine g_aload_n X dL_shore_823 rfl rfl ?_
    refine g_iload X dL_shore_824 rfl ?_
    refine g_if_le (tgt := 834) X dL_shore_826 (by decide) (fun hc => ?_) (fun hc => ?_)
    · have hf := ife_t hc hf
      refine g_lds (q := Z (100 + 67)) X (gSt2_lit X2 (99, "", 67) (by decide +kernel)) dL_shore_834 ?_
      refine g_sub (lvsub_of _ _ [0, 1, 2, 3, 4, 5, 6, 7, 8] rfl) ?_
      exact t_L_shore_836 X2 hr _ _ _ _ _ _ _ _ _ _ _ _ _ _ hf hK
    · have hf := ife_f hc hf
      refine g_lds (q := Z (100 + 79)) X (gSt2_lit X2 (138, ",", 79) (by decide +kernel)) dL_shore_829 ?_
      refine g_goto (tgt := 836) X dL_shore_831 (by decide) ?_
      refine g_sub (lvsub_of _ _ [0, 1, 2, 3, 4, 5, 6, 7, 8] rfl) ?_
      exact t_L_shore_836 X2 hr _ _ _ _ _ _ _ _ _ _ _ _ _ _ hf hK
set_option maxHeartbeats 4000000 in
set_option maxRecDepth 100000 in
theorem tl_L_shore_792 (X2 : gX p s m args meth c D cy B (gSt2 Z B H0) RL cL_shore wsL_shore 9) (hr : meth.sig.returnType = (some (.object "TideLotsLaw$Sim"))) {Q : State → Prop} : ∀ (M : gMem) (kc : Nat) (kn : Nat) (x1 : Option Nat) (x2 : Option Nat) (x3 : Int32) (x4 : Int32) (x5 : Int32) (x6 : Option Nat) (x7 : Option Nat) (x8 : Int32) (z : (gMem × Nat × Nat × Int32) ⊕ (Option Nat × gMem)), lp_L_shore_792 Z M kc kn x1 x2 x3 x4 x5 x6 x7 x8 = some z → (Sum.elim (fun (q : gMem × Nat × Nat × Int32) => gGo p l e rL_shore s m args below meth c D cy B H0 9 q.2.1 q.2.2.1 Q 657 [(0, vR (some (Z 400))), (1, vR x1), (2, vR x2), (3, vI q.2.2.2)] [] q.1) (fun (r : Option Nat × gMem) => Q = gMQ below D cy B H0 args s 800 1200000 (some (vR r.1)) r.2)) z → gGo p l e rL_shore s m args below meth c D cy B H0 9 kc kn Q 792 [(0, vR (some (Z 400))), (1, vR x1), (2, vR x2), (3, vI x3), (4, vI x4), (5, vI x5), (6, vR x6), (7, vR x7), (8, vI x8)] [] M := by
  intro M kc kn x1 x2 x3 x4 x5 x6 x7 x8 z hf hK
  refine lp_ind (P := (fun (q : gMem × Nat × Nat × Int32) (z : (gMem × Nat × Nat × Int32) ⊕ (Option Nat × gMem)) => (Sum.elim (fun (q : gMem × Nat × Nat × Int32) => gGo p l e rL_shore s m args below meth c D cy B H0 9 q.2.1 q.2.2.1 Q 657 [(0, vR (some (Z 400))), (1, vR x1), (2, vR x2), (3, vI q.2.2.2)] [] q.1) (fun (r : Option Nat × gMem) => Q = gMQ below D cy B H0 args s 800 1200000 (some (vR r.1)) r.2)) z → gGo p l e rL_shore s m args below meth c D cy B H0 9 q.2.1 q.2.2.1 Q 792 [(0, vR (some (Z 400))), (1, vR x1), (2, vR x2), (3, vI x3), (4, vI x4), (5, vI x5), (6, vR x6), (7, vR x7), (8, vI q.2.2.2)] [] q.1)) (fun q z hq => ?_) _ _ hf hK
  intro hK
  obtain ⟨w, hw, hm⟩ := hq
  refine tb_L_shore_792 X2 hr _ _ _ _ _ _ _ _ _ _ _ w hw ?_
  cases w with
  | inl a => exact hm hK
  | inr b => cases hm; exact hK
set_option maxHeartbeats 4000000 in
set_option maxRecDepth 100000 in
theorem t_L_shore_726 (X2 : gX p s m args meth c D cy B (gSt2 Z B H0) RL cL_shore wsL_shore 9) (hr : meth.sig.returnType = (some (.object "TideLotsLaw$Sim"))) {Q : State → Prop} : ∀ (M : gMem) (kc : Nat) (kn : Nat) (x1 : Option Nat) (x2 : Option Nat) (x3 : Int32) (x4 : Int32) (x5 : Int32) (x6 : Option Nat) (s0 : Option Nat) (s1 : Option Nat) (s2 : Int32) (s3 : Int32) (z : (gMem × Nat × Nat × Int32) ⊕ (Option Nat × gMem)), b_L_shore_726 Z M kc kn x1 x2 x3 x4 x5 x6 s0 s1 s2 s3 = some z → (Sum.elim (fun (q : gMem × Nat × Nat × Int32) => gGo p l e rL_shore s m args below meth c D cy B H0 9 q.2.1 q.2.2.1 Q 657 [(0, vR (some (Z 400))), (1, vR x1), (2, vR x2), (3, vI q.2.2.2)] [] q.1) (fun (r : Option Nat × gMem) => Q = gMQ below D cy B H0 args s 800 1200000 (some (vR r.1)) r.2)) z → gGo p l e rL_shore s m args below meth c D cy B H0 9 kc kn Q 726 [(0, vR (some (Z 400))), (1, vR x1), (2, vR x2), (3, vI x3), (4, vI x4), (5, vI x5), (6, vR x6)] [vI s3, vI s2, vR s1, vR s0] M := by
  intro M kc kn x1 x2 x3 x4 x5 x6 s0 s1 s2 s3 z hf hK
  unfold b_L_shore_726 at hf
  have X := gX_w X2
  obtain ⟨a74, ha74, hf⟩ := dr_e hf
  obtain ⟨hT75, hf⟩ := ck_e hf
  obtain ⟨hg76, hf⟩ := ck_e hf
  refine g_iast X dL_shore_726 ha74 hT75 hg76 ?_
  obtain ⟨M77, hM77, hf⟩ := lw_e hf
  rw [← hM77]
  have hT78 : mT M77 a74 = 20 := by rw [hM77]; exact hT75
  refine g_dup X dL_shore_727 rfl ?_
  refine g_iconst (v := (1 : Int32)) X dL_shore_728 (by decide) ?_
  refine g_iload X dL_shore_729 rfl ?_
  refine g_iconst (v := (5 : Int32)) X dL_shore_731 (by decide) ?_
  refine g_ishr X dL_shore_732 ?_
  refine g_iconst (v := (5 : Int32)) X dL_shore_733 (by decide) ?_
  obtain ⟨hg80, hf⟩ := ck_e hf
  obtain ⟨r79, M79, hq79, hf⟩ := bd_e hf
  refine g_callS (As := [vI (x4 >>> ((5 : Int32) &&& 31)), vI (5 : Int32)]) (st := [vI (1 : Int32), vR s0, vR s0]) (v := some (vI r79)) (M1 := M79) X (m_L_below l hq79) (va_cwS 2 X.2.2.1 gL_shore_L_below rfl rfl rfl (by decide +kernel) ⟨Nat.le_of_ble_eq_true rfl, Nat.le_of_ble_eq_true rfl⟩) rfl rfl (Nat.le_of_ble_eq_true rfl) dL_shore_734 ⟨hg80.1, hg80.2⟩ ?_
  obtain ⟨a81, ha81, hf⟩ := dr_e hf
  obtain ⟨hT82, hf⟩ := ck_e hf
  obtain ⟨hg83, hf⟩ := ck_e hf
  refine g_iast X dL_shore_737 ha81 hT82 hg83 ?_
  obtain ⟨M84, hM84, hf⟩ := lw_e hf
  rw [← hM84]
  have hT85 : mT M84 a81 = 20 := by rw [hM84]; exact hT82
  refine g_dup X dL_shore_738 rfl ?_
  refine g_iconst (v := (2 : Int32)) X dL_shore_739 (by decide) ?_
  refine g_iload X dL_shore_740 rfl ?_
  refine g_iconst (v := (3 : Int32)) X dL_shore_742 (by decide) ?_
  refine g_ishr X dL_shore_743 ?_
  refine g_bipush (v := (120 : Int32)) X dL_shore_744 (by decide) ?_
  obtain ⟨hg87, hf⟩ := ck_e hf
  obtain ⟨r86, M86, hq86, hf⟩ := bd_e hf
  refine g_callS (As := [vI (x4 >>> ((3 : Int32) &&& 31)), vI (120 : Int32)]) (st := [vI (2 : Int32), vR s0, vR s0]) (v := some (vI r86)) (M1 := M86) X (m_L_below l hq86) (va_cwS 2 X.2.2.1 gL_shore_L_below rfl rfl rfl (by decide +kernel) ⟨Nat.le_of_ble_eq_true rfl, Nat.le_of_ble_eq_true rfl⟩) rfl rfl (Nat.le_of_ble_eq_true rfl) dL_shore_746 ⟨hg87.1, hg87.2⟩ ?_
  obtain ⟨hT88, hf⟩ := ck_e hf
  obtain ⟨hg89, hf⟩ := ck_e hf
  refine g_iast X dL_shore_749 ha81 hT88 hg89 ?_
  obtain ⟨M90, hM90, hf⟩ := lw_e hf
  rw [← hM90]
  have hT91 : mT M90 a81 = 20 := by rw [hM90]; exact hT88
  refine g_dup X dL_shore_750 rfl ?_
  refine g_iconst (v := (3 : Int32)) X dL_shore_751 (by decide) ?_
  refine g_iload X dL_shore_752 rfl ?_
  refine g_bipush (v := (6 : Int32)) X dL_shore_754 (by decide) ?_
  refine g_ishr X dL_shore_756 ?_
  refine g_bipush (v := (30 : Int32)) X dL_shore_757 (by decide) ?_
  obtain ⟨hg93, hf⟩ := ck_e hf
  obtain ⟨r92, M92, hq92, hf⟩ := bd_e hf
  refine g_callS (As := [vI (x4 >>> ((6 : Int32) &&& 31)), vI (30 : Int32)]) (st := [vI (3 : Int32), vR s0, vR s0]) (v := some (vI r92)) (M1 := M92) X (m_L_below l hq92) (va_cwS 2 X.2.2.1 gL_shore_L_below rfl rfl rfl (by decide +kernel) ⟨Nat.le_of_ble_eq_true rfl, Nat.le_of_ble_eq_true rfl⟩) rfl rfl (Nat.le_of_ble_eq_true rfl) dL_shore_759 ⟨hg93.1, hg93.2⟩ ?_
  obtain ⟨hT94, hf⟩ := ck_e hf
  obtain ⟨hg95, hf⟩ := ck_e hf
  refine g_iast X dL_shore_762 ha81 hT94 hg95 ?_
  obtain ⟨M96, hM96, hf⟩ := lw_e hf
  rw [← hM96]
  have hT97 : mT M96 a81 = 20 := by rw [hM96]; exact hT94
  refine g_astore (lv' := [(7, vR s0), (0, vR (some (Z 400))), (1, vR x1), (2, vR x2), (3, vI x3), (4, vI x4), (5, vI x5), (6, vR x6)]) X dL_shore_763 (by decide) rfl ?_
  refine g_aload_n X dL_shore_765 rfl rfl ?_
  obtain ⟨a98, ha98, hf⟩ := dr_e hf
  obtain ⟨hT99, hf⟩ := ck_e hf
  refine g_get (ci := 10) (v := vR (mR M96 a98 6)) 6 X cdX12 i_L_shore_X12 (by decide) k_L_shore_f174 rfl dL_shore_766 ha98 hT99 rfl ?_
  refine g_iload_n X dL_shore_769 rfl rfl ?_
  refine g_aload X dL_shore_770 rfl ?_
  obtain ⟨a100, ha100, hf⟩ := dr_e hf
  obtain ⟨hT101, hf⟩ := ck_e hf
  obtain ⟨hg102, hf⟩ := ck_e hf
  refine g_aastA X (gN2w X2 _ (by decide +kernel)) dL_shore_772 ha100 hT101 hg102 ha81 hT97 ?_
  obtain ⟨M103, hM103, hf⟩ := lw_e hf
  rw [← hM103]
  have hT104 : mT M103 a81 = 20 := by rw [hM103]; exact hT97
  have hT105 : mT M103 a98 = 11 := by rw [hM103]; exact hT99
  have hT106 : mT M103 a100 = 28 := by rw [hM103]; exact hT101
  refine g_aload_n X dL_shore_773 rfl rfl ?_
  refine g_lds (q := Z (100 + 89)) X (gSt2_lit X2 (177, "pact p", 89) (by decide +kernel)) dL_shore_774 ?_
  obtain ⟨a108, ha108, hf⟩ := dr_e hf
  obtain ⟨hT109, hf⟩ := ck_e hf
  obtain ⟨hg110, hf⟩ := ck_e hf
  obtain ⟨r107, M107, hq107, hf⟩ := bd_e hf
  refine g_callV (ci := 12) (b := a108) (As := [vR (some (Z (100 + 89)))]) (st := []) (v := some (vR r107)) (M1 := M107) X2 (m_J4_append_15ec4_S l hq107) (cwV 1 X.2.2.1 gL_shore_J4_append_15ec4 rfl rfl rfl (by decide +kernel) ⟨Nat.le_of_ble_eq_true rfl, Nat.le_of_ble_eq_true rfl⟩) rfl rfl ha108 hT109 (by decide) rfl (Nat.le_of_ble_eq_true rfl) dL_shore_776 ⟨hg110.1, hg110.2⟩ ?_
  refine g_iload_n X dL_shore_779 rfl rfl ?_
  obtain ⟨a112, ha112, hf⟩ := dr_e hf
  obtain ⟨hT113, hf⟩ := ck_e hf
  obtain ⟨hg114, hf⟩ := ck_e hf
  obtain ⟨r111, M111, hq111, hf⟩ := bd_e hf
  refine g_callV (ci := 12) (b := a112) (As := [vI x3]) (st := []) (v := some (vR r111)) (M1 := M111) X2 (m_J4_append_bf812 l hq111) (cwV 1 X.2.2.1 gL_shore_J4_append_bf812 rfl rfl rfl (by decide +kernel) ⟨Nat.le_of_ble_eq_true rfl, Nat.le_of_ble_eq_true rfl⟩) rfl rfl ha112 hT113 (by decide) rfl (Nat.le_of_ble_eq_true rfl) dL_shore_780 ⟨hg114.1, hg114.2⟩ ?_
  refine g_lds (q := Z (100 + 90)) X (gSt2_lit X2 (179, " of ", 90) (by decide +kernel)) dL_shore_783 ?_
  obtain ⟨a116, ha116, hf⟩ := dr_e hf
  obtain ⟨hT117, hf⟩ := ck_e hf
  obtain ⟨hg118, hf⟩ := ck_e hf
  obtain ⟨r115, M115, hq115, hf⟩ := bd_e hf
  refine g_callV (ci := 12) (b := a116) (As := [vR (some (Z (100 + 90)))]) (st := []) (v := some (vR r115)) (M1 := M115) X2 (m_J4_append_15ec4_S l hq115) (cwV 1 X.2.2.1 gL_shore_J4_append_15ec4 rfl rfl rfl (by decide +kernel) ⟨Nat.le_of_ble_eq_true rfl, Nat.le_of_ble_eq_true rfl⟩) rfl rfl ha116 hT117 (by decide) rfl (Nat.le_of_ble_eq_true rfl) dL_shore_785 ⟨hg118.1, hg118.2⟩ ?_
  refine g_pop X dL_shore_788 rfl ?_
  refine g_iconst (v := (0 : Int32)) X dL_shore_789 (by decide) ?_
  refine g_istore (lv' := [(8, vI (0 : Int32)), (7, vR s0), (0, vR (some (Z 400))), (1, vR x1), (2, vR x2), (3, vI x3), (4, vI x4), (5, vI x5), (6, vR x6)]) X dL_shore_790 (by decide) rfl ?_
  refine g_sub (lvsub_of _ _ [2, 3, 4, 5, 6, 7, 8, 1, 0] rfl) ?_
  exact tl_L_shore_792 X2 hr _ _ _ _ _ _ _ _ _ _ _ _ hf hK
set_option maxHeartbeats 4000000 in
set_option maxRecDepth 100000 in
theorem tb_L_shore_657 (X2 : gX p s m args meth c D cy B (gSt2 Z B H0) RL cL_shore wsL_shore 9) (hr : meth.sig.returnType = (some (.object "TideLotsLaw$Sim"))) {Q : State → Prop} : ∀ (M : gMem) (kc : Nat) (kn : Nat) (x1 : Option Nat) (x2 : Option Nat) (x3 : Int32) (z : (gMem × Nat × Nat × Int32) ⊕ (Option Nat × gMem)), bb_L_shore_657 Z M kc kn x1 x2 x3 = some z → (Sum.elim (fun (q : gMem × Nat × Nat × Int32) => gGo p l e rL_shore s m args below meth c D cy B H0 9 q.2.1 q.2.2.1 Q 657 [(0, vR (some (Z 400))), (1, vR x1), (2, vR x2), (3, vI q.2.2.2)] [] q.1) (fun (r : Option Nat × gMem) => Q = gMQ below D cy B H0 args s 800 1200000 (some (vR r.1)) r.2)) z → gGo p l e rL_shore s m args below meth c D cy B H0 9 kc kn Q 657 [(0, vR (some (Z 400))), (1, vR x1), (2, vR x2), (3, vI x3)] [] M := by
  intro M kc kn x1 x2 x3 z hf hK
  unfold bb_L_shore_657 at hf
  have X := gX_w X2
  refine g_iload_n X dL_shore_657 rfl rfl ?_
  refine g_aload_n X dL_shore_658 rfl rfl ?_
  obtain ⟨a119, ha119, hf⟩ := dr_e hf
  obtain ⟨hT120, hf⟩ := ck_e hf
  refine g_get (ci := 10) (v := vI (mI M a119 8)) 8 X cdX12 i_L_shore_X12 (by decide) k_L_shore_f171 rfl dL_shore_659 ha119 hT120 rfl ?_
  refine g_icmp_ge (tgt := 926) X dL_shore_662 (by decide) (fun hc => ?_) (fun hc => ?_)
  · have hf := ife_t hc hf
    refine g_aload_n X dL_shore_926 rfl rfl ?_
    obtain ⟨hg121, hf⟩ := ck_e hf
    obtain ⟨w122, hw122, hz122⟩ := oI_e hf
    subst hz122
    have hf := hw122
    cases hf
    refine g_eqQ hK ?_
    refine g_wide (k' := 800) (n' := 1200000) hg121.1 hg121.2 ?_
    exact g_aret X hr (Or.inl ⟨_, rfl⟩) dL_shore_927
  · have hf := ife_f hc hf
    refine g_aload_n X dL_shore_665 rfl rfl ?_
    refine g_bipush (v := (12 : Int32)) X dL_shore_666 (by decide) ?_
    refine g_iload_n X dL_shore_668 rfl rfl ?_
    refine g_iadd X dL_shore_669 ?_
    obtain ⟨hg124, hf⟩ := ck_e hf
    obtain ⟨r123, M123, hq123, hf⟩ := bd_e hf
    refine g_callS (As := [vR (some (Z 400)), vI ((12 : Int32) + x3)]) (st := []) (v := some (vI r123)) (M1 := M123) X2 (m_L_cell l hq123) (va_cwS 2 X.2.2.1 gL_shore_L_cell rfl rfl rfl (by decide +kernel) ⟨Nat.le_of_ble_eq_true rfl, Nat.le_of_ble_eq_true rfl⟩) rfl rfl (Nat.le_of_ble_eq_true rfl) dL_shore_670 ⟨hg124.1, hg124.2⟩ ?_
    refine g_istore (lv' := [(4, vI r123), (0, vR (some (Z 400))), (1, vR x1), (2, vR x2), (3, vI x3)]) X dL_shore_673 (by decide) rfl ?_
    refine g_iconst (v := (1 : Int32)) X dL_shore_675 (by decide) ?_
    refine g_iload X dL_shore_676 rfl ?_
    refine g_aload_n X dL_shore_678 rfl rfl ?_
    obtain ⟨hT125, hf⟩ := ck_e hf
    refine g_get (ci := 10) (v := vI (mI M123 a119 1)) 1 X cdX12 i_L_shore_X12 (by decide) k_L_shore_f56 rfl dL_shore_679 ha119 hT125 rfl ?_
    obtain ⟨hg127, hf⟩ := ck_e hf
    obtain ⟨r126, M126, hq126, hf⟩ := bd_e hf
    refine g_callS (As := [vI r123, vI (mI M123 a119 1)]) (st := [vI (1 : Int32)]) (v := some (vI r126)) (M1 := M126) X (m_L_below l hq126) (va_cwS 2 X.2.2.1 gL_shore_L_below rfl rfl rfl (by decide +kernel) ⟨Nat.le_of_ble_eq_true rfl, Nat.le_of_ble_eq_true rfl⟩) rfl rfl (Nat.le_of_ble_eq_true rfl) dL_shore_682 ⟨hg127.1, hg127.2⟩ ?_
    refine g_iadd X dL_shore_685 ?_
    refine g_istore (lv' := [(5, vI ((1 : Int32) + r126)), (4, vI r123), (0, vR (some (Z 400))), (1, vR x1), (2, vR x2), (3, vI x3)]) X dL_shore_686 (by decide) rfl ?_
    refine g_iload X dL_shore_688 rfl ?_
    obtain ⟨hg128, hf⟩ := ck_e hf
    obtain ⟨hg129, hf⟩ := ck_e hf
    obtain ⟨hg130, hf⟩ := ck_e hf
    refine g_newa (at' := .int) (t0 := 0) X k_L_shore_acint (by exact Or.inl ⟨rfl, rfl⟩) hg128 (by omega) ⟨hg130.1, Nat.le_trans (Nat.add_le_add_left hg129 _) hg130.2⟩ dL_shore_690 ?_
    refine g_wide (k' := (((kc + 0) + 0) + 1)) (n' := (((kn + 0) + 0) + 8)) (Nat.le_refl _) (Nat.add_le_add_left hg129 _) ?_
    obtain ⟨M131, hM131, hf⟩ := lw_e hf
    rw [← hM131]
    refine g_astore (lv' := [(6, vR (some (mN M126))), (5, vI ((1 : Int32) + r126)), (4, vI r123), (0, vR (some (Z 400))), (1, vR x1), (2, vR x2), (3, vI x3)]) X dL_shore_692 (by decide) rfl ?_
    refine g_iconst (v := (4 : Int32)) X dL_shore_694 (by decide) ?_
    obtain ⟨hg132, hf⟩ := ck_e hf
    refine g_newa (at' := .int) (t0 := 0) X k_L_shore_acint (by exact Or.inl ⟨rfl, rfl⟩) (by decide) (by decide) ⟨hg132.1, hg132.2⟩ dL_shore_695 ?_
    obtain ⟨M133, hM133, hf⟩ := lw_e hf
    rw [← hM133]
    refine g_dup X dL_shore_697 rfl ?_
    refine g_iconst (v := (0 : Int32)) X dL_shore_698 (by decide) ?_
    refine g_iload X dL_shore_699 rfl ?_
    refine g_bipush (v := (7 : Int32)) X dL_shore_701 (by decide) ?_
    refine g_ishr X dL_shore_703 ?_
    refine g_iconst (v := (2 : Int32)) X dL_shore_704 (by decide) ?_
    obtain ⟨hg135, hf⟩ := ck_e hf
    obtain ⟨r134, M134, hq134, hf⟩ := bd_e hf
    refine g_callS (As := [vI (r123 >>> ((7 : Int32) &&& 31)), vI (2 : Int32)]) (st := [vI (0 : Int32), vR (some (mN M131)), vR (some (mN M131))]) (v := some (vI r134)) (M1 := M134) X (m_L_below l hq134) (va_cwS 2 X.2.2.1 gL_shore_L_below rfl rfl rfl (by decide +kernel) ⟨Nat.le_of_ble_eq_true rfl, Nat.le_of_ble_eq_true rfl⟩) rfl rfl (Nat.le_of_ble_eq_true rfl) dL_shore_705 ⟨hg135.1, hg135.2⟩ ?_
    refine g_if_ne (tgt := 715) X dL_shore_708 (by decide) (fun hc => ?_) (fun hc => ?_)
    · have hf := ife_f hc hf
      refine g_iload X dL_shore_715 rfl ?_
      refine g_iconst (v := (2 : Int32)) X dL_shore_717 (by decide) ?_
      refine g_ishr X dL_shore_718 ?_
      refine g_aload_n X dL_shore_719 rfl rfl ?_
      obtain ⟨hT136, hf⟩ := ck_e hf
      refine g_get (ci := 10) (v := vI (mI M134 a119 0)) 0 X cdX12 i_L_shore_X12 (by decide) k_L_shore_f41 rfl dL_shore_720 ha119 hT136 rfl ?_
      obtain ⟨hg138, hf⟩ := ck_e hf
      obtain ⟨r137, M137, hq137, hf⟩ := bd_e hf
      refine g_callS (As := [vI (r123 >>> ((2 : Int32) &&& 31)), vI (mI M134 a119 0)]) (st := [vI (0 : Int32), vR (some (mN M131)), vR (some (mN M131))]) (v := some (vI r137)) (M1 := M137) X (m_L_below l hq137) (va_cwS 2 X.2.2.1 gL_shore_L_below rfl rfl rfl (by decide +kernel) ⟨Nat.le_of_ble_eq_true rfl, Nat.le_of_ble_eq_true rfl⟩) rfl rfl (Nat.le_of_ble_eq_true rfl) dL_shore_723 ⟨hg138.1, hg138.2⟩ ?_
      refine g_sub (lvsub_of _ _ [3, 4, 5, 6, 2, 1, 0] rfl) ?_
      exact t_L_shore_726 X2 hr _ _ _ _ _ _ _ _ _ _ _ _ _ _ hf hK
    · have hf := ife_t hc hf
      refine g_iconst (v := (-1 : Int32)) X dL_shore_711 (by decide) ?_
      refine g_goto (tgt := 726) X dL_shore_712 (by decide) ?_
      refine g_sub (lvsub_of _ _ [3, 4, 5, 6, 2, 1, 0] rfl) ?_
      exact t_L_shore_726 X2 hr _ _ _ _ _ _ _ _ _ _ _ _ _ _ hf hK
set_option maxHeartbeats 4000000 in
set_option maxRecDepth 100000 in
theorem tl_L_shore_657 (X2 : gX p s m args meth c D cy B (gSt2 Z B H0) RL cL_shore wsL_shore 9) (hr : meth.sig.returnType = (some (.object "TideLotsLaw$Sim"))) {Q : State → Prop} : ∀ (M : gMem) (kc : Nat) (kn : Nat) (x1 : Option Nat) (x2 : Option Nat) (x3 : Int32) (z : Option Nat × gMem), lp_L_shore_657 Z M kc kn x1 x2 x3 = some z → (fun (r : Option Nat × gMem) => Q = gMQ below D cy B H0 args s 800 1200000 (some (vR r.1)) r.2) z → gGo p l e rL_shore s m args below meth c D cy B H0 9 kc kn Q 657 [(0, vR (some (Z 400))), (1, vR x1), (2, vR x2), (3, vI x3)] [] M := by
  intro M kc kn x1 x2 x3 z hf hK
  refine lp_ind (P := (fun (q : gMem × Nat × Nat × Int32) (z : Option Nat × gMem) => (fun (r : Option Nat × gMem) => Q = gMQ below D cy B H0 args s 800 1200000 (some (vR r.1)) r.2) z → gGo p l e rL_shore s m args below meth c D cy B H0 9 q.2.1 q.2.2.1 Q 657 [(0, vR (some (Z 400))), (1, vR x1), (2, vR x2), (3, vI q.2.2.2)] [] q.1)) (fun q z hq => ?_) _ _ hf hK
  intro hK
  obtain ⟨w, hw, hm⟩ := hq
  refine tb_L_shore_657 X2 hr _ _ _ _ _ _ w hw ?_
  cases w with
  | inl a => exact hm hK
  | inr b => cases hm; exact hK
set_option maxHeartbeats 4000000 in
set_option maxRecDepth 100000 in
theorem t_L_shore_631 (X2 : gX p s m args meth c D cy B (gSt2 Z B H0) RL cL_shore wsL_shore 9) (hr : meth.sig.returnType = (some (.object "TideLotsLaw$Sim"))) {Q : State → Prop} : ∀ (M : gMem) (kc : Nat) (kn : Nat) (x1 : Option Nat) (x2 : Option Nat) (x3 : Int32) (s0 : Option Nat) (s1 : Nat) (z : (gMem × Nat × Nat × Int32) ⊕ (Option Nat × gMem)), b_L_shore_631 Z M kc kn x1 x2 x3 s0 s1 = some z → (Sum.elim (fun (q : gMem × Nat × Nat × Int32) => gGo p l e rL_shore s m args below meth c D cy B H0 9 q.2.1 q.2.2.1 Q 451 [(0, vR (some (Z 400))), (1, vR x1), (2, vR x2), (3, vI q.2.2.2)] [] q.1) (fun (r : Option Nat × gMem) => Q = gMQ below D cy B H0 args s 800 1200000 (some (vR r.1)) r.2)) z → gGo p l e rL_shore s m args below meth c D cy B H0 9 kc kn Q 631 [(0, vR (some (Z 400))), (1, vR x1), (2, vR x2), (3, vI x3)] [vR (some (Z (100 + s1))), vR s0] M := by
  intro M kc kn x1 x2 x3 s0 s1 z hf hK
  unfold b_L_shore_631 at hf
  have X := gX_w X2
  obtain ⟨a140, ha140, hf⟩ := dr_e hf
  obtain ⟨hT141, hf⟩ := ck_e hf
  obtain ⟨hg142, hf⟩ := ck_e hf
  obtain ⟨r139, M139, hq139, hf⟩ := bd_e hf
  refine g_callV (ci := 12) (b := a140) (As := [vR (some (Z (100 + s1)))]) (st := []) (v := some (vR r139)) (M1 := M139) X2 (m_J4_append_15ec4_S l hq139) (cwV 1 X.2.2.1 gL_shore_J4_append_15ec4 rfl rfl rfl (by decide +kernel) ⟨Nat.le_of_ble_eq_true rfl, Nat.le_of_ble_eq_true rfl⟩) rfl rfl ha140 hT141 (by decide) rfl (Nat.le_of_ble_eq_true rfl) dL_shore_631 ⟨hg142.1, hg142.2⟩ ?_
  refine g_pop X dL_shore_634 rfl ?_
  refine g_iinc (v := (1 : Int32)) (lv' := [(3, vI (x3 + (1 : Int32))), (0, vR (some (Z 400))), (1, vR x1), (2, vR x2)]) X dL_shore_635 rfl (by decide) (by decide) rfl ?_
  refine g_goto (tgt := 451) X dL_shore_638 (by decide) ?_
  cases hf
  refine g_sub (lvsub_of _ _ [1, 2, 3, 0] rfl) ?_
  exact hK
set_option maxHeartbeats 4000000 in
set_option maxRecDepth 100000 in
theorem tb_L_shore_451 (X2 : gX p s m args meth c D cy B (gSt2 Z B H0) RL cL_shore wsL_shore 9) (hr : meth.sig.returnType = (some (.object "TideLotsLaw$Sim"))) {Q : State → Prop} : ∀ (M : gMem) (kc : Nat) (kn : Nat) (x1 : Option Nat) (x2 : Option Nat) (x3 : Int32) (z : (gMem × Nat × Nat × Int32) ⊕ (Option Nat × gMem)), bb_L_shore_451 Z M kc kn x1 x2 x3 = some z → (Sum.elim (fun (q : gMem × Nat × Nat × Int32) => gGo p l e rL_shore s m args below meth c D cy B H0 9 q.2.1 q.2.2.1 Q 451 [(0, vR (some (Z 400))), (1, vR x1), (2, vR x2), (3, vI q.2.2.2)] [] q.1) (fun (r : Option Nat × gMem) => Q = gMQ below D cy B H0 args s 800 1200000 (some (vR r.1)) r.2)) z → gGo p l e rL_shore s m args below meth c D cy B H0 9 kc kn Q 451 [(0, vR (some (Z 400))), (1, vR x1), (2, vR x2), (3, vI x3)] [] M := by
  intro M kc kn x1 x2 x3 z hf hK
  unfold bb_L_shore_451 at hf
  have X := gX_w X2
  refine g_iload_n X dL_shore_451 rfl rfl ?_
  refine g_aload_n X dL_shore_452 rfl rfl ?_
  obtain ⟨a143, ha143, hf⟩ := dr_e hf
  obtain ⟨hT144, hf⟩ := ck_e hf
  refine g_get (ci := 10) (v := vI (mI M a143 5)) 5 X cdX12 i_L_shore_X12 (by decide) k_L_shore_f155 rfl dL_shore_453 ha143 hT144 rfl ?_
  refine g_icmp_ge (tgt := 641) X dL_shore_456 (by decide) (fun hc => ?_) (fun hc => ?_)
  · have hf := ife_t hc hf
    refine g_aload_n X dL_shore_641 rfl rfl ?_
    refine g_aload_n X dL_shore_642 rfl rfl ?_
    refine g_bipush (v := (11 : Int32)) X dL_shore_643 (by decide) ?_
    obtain ⟨hg146, hf⟩ := ck_e hf
    obtain ⟨r145, M145, hq145, hf⟩ := bd_e hf
    refine g_callS (As := [vR (some (Z 400)), vI (11 : Int32)]) (st := [vR x2]) (v := some (vI r145)) (M1 := M145) X2 (m_L_cell l hq145) (va_cwS 2 X.2.2.1 gL_shore_L_cell rfl rfl rfl (by decide +kernel) ⟨Nat.le_of_ble_eq_true rfl, Nat.le_of_ble_eq_true rfl⟩) rfl rfl (Nat.le_of_ble_eq_true rfl) dL_shore_645 ⟨hg146.1, hg146.2⟩ ?_
    refine g_iconst (v := (4 : Int32)) X dL_shore_648 (by decide) ?_
    obtain ⟨hg148, hf⟩ := ck_e hf
    obtain ⟨r147, M147, hq147, hf⟩ := bd_e hf
    refine g_callS (As := [vI r145, vI (4 : Int32)]) (st := [vR x2]) (v := some (vI r147)) (M1 := M147) X (m_L_below l hq147) (va_cwS 2 X.2.2.1 gL_shore_L_below rfl rfl rfl (by decide +kernel) ⟨Nat.le_of_ble_eq_true rfl, Nat.le_of_ble_eq_true rfl⟩) rfl rfl (Nat.le_of_ble_eq_true rfl) dL_shore_649 ⟨hg148.1, hg148.2⟩ ?_
    obtain ⟨hT149, hf⟩ := ck_e hf
    refine g_putI (ci := 10) 8 X cdX12 i_L_shore_X12 (by decide) k_L_shore_f171 rfl dL_shore_652 ha143 hT149 (Or.inl rfl) rfl rfl rfl ?_
    obtain ⟨M150, hM150, hf⟩ := lw_e hf
    rw [← hM150]
    have hT151 : mT M150 a143 = 11 := by rw [hM150]; exact hT149
    refine g_iconst (v := (0 : Int32)) X dL_shore_655 (by decide) ?_
    refine g_istore_n (lv' := [(3, vI (0 : Int32)), (0, vR (some (Z 400))), (1, vR x1), (2, vR x2)]) X dL_shore_656 rfl (by decide) rfl ?_
    obtain ⟨w152, hw152, hz152⟩ := oI_e hf
    subst hz152
    have hf := hw152
    refine g_sub (lvsub_of _ _ [1, 2, 3, 0] rfl) ?_
    exact tl_L_shore_657 X2 hr _ _ _ _ _ _ _ hf hK
  · have hf := ife_f hc hf
    refine g_aload_n X dL_shore_459 rfl rfl ?_
    refine g_bipush (v := (8 : Int32)) X dL_shore_460 (by decide) ?_
    refine g_iload_n X dL_shore_462 rfl rfl ?_
    refine g_iconst (v := (3 : Int32)) X dL_shore_463 (by decide) ?_
    refine g_irem X dL_shore_464 (by decide) ?_
    refine g_iadd X dL_shore_465 ?_
    obtain ⟨hg154, hf⟩ := ck_e hf
    obtain ⟨r153, M153, hq153, hf⟩ := bd_e hf
    refine g_callS (As := [vR (some (Z 400)), vI ((8 : Int32) + (x3 - x3 / (3 : Int32) * (3 : Int32)))]) (st := []) (v := some (vI r153)) (M1 := M153) X2 (m_L_cell l hq153) (va_cwS 2 X.2.2.1 gL_shore_L_cell rfl rfl rfl (by decide +kernel) ⟨Nat.le_of_ble_eq_true rfl, Nat.le_of_ble_eq_true rfl⟩) rfl rfl (Nat.le_of_ble_eq_true rfl) dL_shore_466 ⟨hg154.1, hg154.2⟩ ?_
    refine g_iload_n X dL_shore_469 rfl rfl ?_
    refine g_iconst (v := (3 : Int32)) X dL_shore_470 (by decide) ?_
    refine g_idiv X dL_shore_471 (by decide) ?_
    refine g_iconst (v := (4 : Int32)) X dL_shore_472 (by decide) ?_
    refine g_imul X dL_shore_473 ?_
    refine g_ishr X dL_shore_474 ?_
    refine g_bipush (v := (61 : Int32)) X dL_shore_475 (by decide) ?_
    refine g_iload_n X dL_shore_477 rfl rfl ?_
    refine g_imul X dL_shore_478 ?_
    refine g_iadd X dL_shore_479 ?_
    refine g_istore (lv' := [(4, vI ((r153 >>> (((x3 / (3 : Int32)) * (4 : Int32)) &&& 31)) + ((61 : Int32) * x3))), (0, vR (some (Z 400))), (1, vR x1), (2, vR x2), (3, vI x3)]) X dL_shore_480 (by decide) rfl ?_
    refine g_bipush (v := (7 : Int32)) X dL_shore_482 (by decide) ?_
    obtain ⟨hg155, hf⟩ := ck_e hf
    refine g_newa (at' := .int) (t0 := 0) X k_L_shore_acint (by exact Or.inl ⟨rfl, rfl⟩) (by decide) (by decide) ⟨hg155.1, hg155.2⟩ dL_shore_484 ?_
    obtain ⟨M156, hM156, hf⟩ := lw_e hf
    rw [← hM156]
    refine g_dup X dL_shore_486 rfl ?_
    refine g_iconst (v := (0 : Int32)) X dL_shore_487 (by decide) ?_
    refine g_iload X dL_shore_488 rfl ?_
    refine g_aload_n X dL_shore_490 rfl rfl ?_
    obtain ⟨hT157, hf⟩ := ck_e hf
    refine g_get (ci := 10) (v := vI (mI M156 a143 1)) 1 X cdX12 i_L_shore_X12 (by decide) k_L_shore_f56 rfl dL_shore_491 ha143 hT157 rfl ?_
    obtain ⟨hg159, hf⟩ := ck_e hf
    obtain ⟨r158, M158, hq158, hf⟩ := bd_e hf
    refine g_callS (As := [vI ((r153 >>> (((x3 / (3 : Int32)) * (4 : Int32)) &&& 31)) + ((61 : Int32) * x3)), vI (mI M156 a143 1)]) (st := [vI (0 : Int32), vR (some (mN M153)), vR (some (mN M153))]) (v := some (vI r158)) (M1 := M158) X (m_L_below l hq158) (va_cwS 2 X.2.2.1 gL_shore_L_below rfl rfl rfl (by decide +kernel) ⟨Nat.le_of_ble_eq_true rfl, Nat.le_of_ble_eq_true rfl⟩) rfl rfl (Nat.le_of_ble_eq_true rfl) dL_shore_494 ⟨hg159.1, hg159.2⟩ ?_
    obtain ⟨hT160, hf⟩ := ck_e hf
    obtain ⟨hg161, hf⟩ := ck_e hf
    refine g_iast X dL_shore_497 rfl hT160 hg161 ?_
    obtain ⟨M162, hM162, hf⟩ := lw_e hf
    rw [← hM162]
    have hT163 : mT M162 (mN M153) = 20 := by rw [hM162]; exact hT160
    refine g_dup X dL_shore_498 rfl ?_
    refine g_iconst (v := (1 : Int32)) X dL_shore_499 (by decide) ?_
    refine g_iload X dL_shore_500 rfl ?_
    refine g_iconst (v := (2 : Int32)) X dL_shore_502 (by decide) ?_
    refine g_ishr X dL_shore_503 ?_
    refine g_aload_n X dL_shore_504 rfl rfl ?_
    obtain ⟨hT164, hf⟩ := ck_e hf
    refine g_get (ci := 10) (v := vI (mI M162 a143 0)) 0 X cdX12 i_L_shore_X12 (by decide) k_L_shore_f41 rfl dL_shore_505 ha143 hT164 rfl ?_
    obtain ⟨hg166, hf⟩ := ck_e hf
    obtain ⟨r165, M165, hq165, hf⟩ := bd_e hf
    refine g_callS (As := [vI (((r153 >>> (((x3 / (3 : Int32)) * (4 : Int32)) &&& 31)) + ((61 : Int32) * x3)) >>> ((2 : Int32) &&& 31)), vI (mI M162 a143 0)]) (st := [vI (1 : Int32), vR (some (mN M153)), vR (some (mN M153))]) (v := some (vI r165)) (M1 := M165) X (m_L_below l hq165) (va_cwS 2 X.2.2.1 gL_shore_L_below rfl rfl rfl (by decide +kernel) ⟨Nat.le_of_ble_eq_true rfl, Nat.le_of_ble_eq_true rfl⟩) rfl rfl (Nat.le_of_ble_eq_true rfl) dL_shore_508 ⟨hg166.1, hg166.2⟩ ?_
    obtain ⟨hT167, hf⟩ := ck_e hf
    obtain ⟨hg168, hf⟩ := ck_e hf
    refine g_iast X dL_shore_511 rfl hT167 hg168 ?_
    obtain ⟨M169, hM169, hf⟩ := lw_e hf
    rw [← hM169]
    have hT170 : mT M169 (mN M153) = 20 := by rw [hM169]; exact hT167
    refine g_dup X dL_shore_512 rfl ?_
    refine g_iconst (v := (2 : Int32)) X dL_shore_513 (by decide) ?_
    refine g_iload X dL_shore_514 rfl ?_
    refine g_iconst (v := (4 : Int32)) X dL_shore_516 (by decide) ?_
    refine g_ishr X dL_shore_517 ?_
    refine g_bipush (v := (8 : Int32)) X dL_shore_518 (by decide) ?_
    obtain ⟨hg172, hf⟩ := ck_e hf
    obtain ⟨r171, M171, hq171, hf⟩ := bd_e hf
    refine g_callS (As := [vI (((r153 >>> (((x3 / (3 : Int32)) * (4 : Int32)) &&& 31)) + ((61 : Int32) * x3)) >>> ((4 : Int32) &&& 31)), vI (8 : Int32)]) (st := [vI (2 : Int32), vR (some (mN M153)), vR (some (mN M153))]) (v := some (vI r171)) (M1 := M171) X (m_L_below l hq171) (va_cwS 2 X.2.2.1 gL_shore_L_below rfl rfl rfl (by decide +kernel) ⟨Nat.le_of_ble_eq_true rfl, Nat.le_of_ble_eq_true rfl⟩) rfl rfl (Nat.le_of_ble_eq_true rfl) dL_shore_520 ⟨hg172.1, hg172.2⟩ ?_
    obtain ⟨hT173, hf⟩ := ck_e hf
    obtain ⟨hg174, hf⟩ := ck_e hf
    refine g_iast X dL_shore_523 rfl hT173 hg174 ?_
    obtain ⟨M175, hM175, hf⟩ := lw_e hf
    rw [← hM175]
    have hT176 : mT M175 (mN M153) = 20 := by rw [hM175]; exact hT173
    refine g_dup X dL_shore_524 rfl ?_
    refine g_iconst (v := (3 : Int32)) X dL_shore_525 (by decide) ?_
    refine g_iload X dL_shore_526 rfl ?_
    refine g_iconst (v := (3 : Int32)) X dL_shore_528 (by decide) ?_
    refine g_ishr X dL_shore_529 ?_
    refine g_bipush (v := (8 : Int32)) X dL_shore_530 (by decide) ?_
    obtain ⟨hg178, hf⟩ := ck_e hf
    obtain ⟨r177, M177, hq177, hf⟩ := bd_e hf
    refine g_callS (As := [vI (((r153 >>> (((x3 / (3 : Int32)) * (4 : Int32)) &&& 31)) + ((61 : Int32) * x3)) >>> ((3 : Int32) &&& 31)), vI (8 : Int32)]) (st := [vI (3 : Int32), vR (some (mN M153)), vR (some (mN M153))]) (v := some (vI r177)) (M1 := M177) X (m_L_below l hq177) (va_cwS 2 X.2.2.1 gL_shore_L_below rfl rfl rfl (by decide +kernel) ⟨Nat.le_of_ble_eq_true rfl, Nat.le_of_ble_eq_true rfl⟩) rfl rfl (Nat.le_of_ble_eq_true rfl) dL_shore_532 ⟨hg178.1, hg178.2⟩ ?_
    obtain ⟨hT179, hf⟩ := ck_e hf
    obtain ⟨hg180, hf⟩ := ck_e hf
    refine g_iast X dL_shore_535 rfl hT179 hg180 ?_
    obtain ⟨M181, hM181, hf⟩ := lw_e hf
    rw [← hM181]
    have hT182 : mT M181 (mN M153) = 20 := by rw [hM181]; exact hT179
    refine g_dup X dL_shore_536 rfl ?_
    refine g_iconst (v := (4 : Int32)) X dL_shore_537 (by decide) ?_
    refine g_iload X dL_shore_538 rfl ?_
    refine g_iconst (v := (5 : Int32)) X dL_shore_540 (by decide) ?_
    refine g_ishr X dL_shore_541 ?_
    refine g_bipush (v := (8 : Int32)) X dL_shore_542 (by decide) ?_
    obtain ⟨hg184, hf⟩ := ck_e hf
    obtain ⟨r183, M183, hq183, hf⟩ := bd_e hf
    refine g_callS (As := [vI (((r153 >>> (((x3 / (3 : Int32)) * (4 : Int32)) &&& 31)) + ((61 : Int32) * x3)) >>> ((5 : Int32) &&& 31)), vI (8 : Int32)]) (st := [vI (4 : Int32), vR (some (mN M153)), vR (some (mN M153))]) (v := some (vI r183)) (M1 := M183) X (m_L_below l hq183) (va_cwS 2 X.2.2.1 gL_shore_L_below rfl rfl rfl (by decide +kernel) ⟨Nat.le_of_ble_eq_true rfl, Nat.le_of_ble_eq_true rfl⟩) rfl rfl (Nat.le_of_ble_eq_true rfl) dL_shore_544 ⟨hg184.1, hg184.2⟩ ?_
    obtain ⟨hT185, hf⟩ := ck_e hf
    obtain ⟨hg186, hf⟩ := ck_e hf
    refine g_iast X dL_shore_547 rfl hT185 hg186 ?_
    obtain ⟨M187, hM187, hf⟩ := lw_e hf
    rw [← hM187]
    have hT188 : mT M187 (mN M153) = 20 := by rw [hM187]; exact hT185
    refine g_dup X dL_shore_548 rfl ?_
    refine g_iconst (v := (5 : Int32)) X dL_shore_549 (by decide) ?_
    refine g_iload X dL_shore_550 rfl ?_
    refine g_bipush (v := (6 : Int32)) X dL_shore_552 (by decide) ?_
    refine g_ishr X dL_shore_554 ?_
    refine g_bipush (v := (8 : Int32)) X dL_shore_555 (by decide) ?_
    obtain ⟨hg190, hf⟩ := ck_e hf
    obtain ⟨r189, M189, hq189, hf⟩ := bd_e hf
    refine g_callS (As := [vI (((r153 >>> (((x3 / (3 : Int32)) * (4 : Int32)) &&& 31)) + ((61 : Int32) * x3)) >>> ((6 : Int32) &&& 31)), vI (8 : Int32)]) (st := [vI (5 : Int32), vR (some (mN M153)), vR (some (mN M153))]) (v := some (vI r189)) (M1 := M189) X (m_L_below l hq189) (va_cwS 2 X.2.2.1 gL_shore_L_below rfl rfl rfl (by decide +kernel) ⟨Nat.le_of_ble_eq_true rfl, Nat.le_of_ble_eq_true rfl⟩) rfl rfl (Nat.le_of_ble_eq_true rfl) dL_shore_557 ⟨hg190.1, hg190.2⟩ ?_
    obtain ⟨hT191, hf⟩ := ck_e hf
    obtain ⟨hg192, hf⟩ := ck_e hf
    refine g_iast X dL_shore_560 rfl hT191 hg192 ?_
    obtain ⟨M193, hM193, hf⟩ := lw_e hf
    rw [← hM193]
    have hT194 : mT M193 (mN M153) = 20 := by rw [hM193]; exact hT191
    refine g_dup X dL_shore_561 rfl ?_
    refine g_bipush (v := (6 : Int32)) X dL_shore_562 (by decide) ?_
    refine g_iload X dL_shore_564 rfl ?_
    refine g_iconst (v := (1 : Int32)) X dL_shore_566 (by decide) ?_
    refine g_ishr X dL_shore_567 ?_
    refine g_bipush (v := (60 : Int32)) X dL_shore_568 (by decide) ?_
    obtain ⟨hg196, hf⟩ := ck_e hf
    obtain ⟨r195, M195, hq195, hf⟩ := bd_e hf
    refine g_callS (As := [vI (((r153 >>> (((x3 / (3 : Int32)) * (4 : Int32)) &&& 31)) + ((61 : Int32) * x3)) >>> ((1 : Int32) &&& 31)), vI (60 : Int32)]) (st := [vI (6 : Int32), vR (some (mN M153)), vR (some (mN M153))]) (v := some (vI r195)) (M1 := M195) X (m_L_below l hq195) (va_cwS 2 X.2.2.1 gL_shore_L_below rfl rfl rfl (by decide +kernel) ⟨Nat.le_of_ble_eq_true rfl, Nat.le_of_ble_eq_true rfl⟩) rfl rfl (Nat.le_of_ble_eq_true rfl) dL_shore_570 ⟨hg196.1, hg196.2⟩ ?_
    obtain ⟨hT197, hf⟩ := ck_e hf
    obtain ⟨hg198, hf⟩ := ck_e hf
    refine g_iast X dL_shore_573 rfl hT197 hg198 ?_
    obtain ⟨M199, hM199, hf⟩ := lw_e hf
    rw [← hM199]
    have hT200 : mT M199 (mN M153) = 20 := by rw [hM199]; exact hT197
    refine g_astore (lv' := [(5, vR (some (mN M153))), (4, vI ((r153 >>> (((x3 / (3 : Int32)) * (4 : Int32)) &&& 31)) + ((61 : Int32) * x3))), (0, vR (some (Z 400))), (1, vR x1), (2, vR x2), (3, vI x3)]) X dL_shore_574 (by decide) rfl ?_
    refine g_aload_n X dL_shore_576 rfl rfl ?_
    obtain ⟨hT201, hf⟩ := ck_e hf
    refine g_get (ci := 10) (v := vR (mR M199 a143 4)) 4 X cdX12 i_L_shore_X12 (by decide) k_L_shore_f158 rfl dL_shore_577 ha143 hT201 rfl ?_
    refine g_iload_n X dL_shore_580 rfl rfl ?_
    refine g_aload X dL_shore_581 rfl ?_
    obtain ⟨a202, ha202, hf⟩ := dr_e hf
    obtain ⟨hT203, hf⟩ := ck_e hf
    obtain ⟨hg204, hf⟩ := ck_e hf
    refine g_aastA X (gN2w X2 _ (by decide +kernel)) dL_shore_583 ha202 hT203 hg204 rfl hT200 ?_
    obtain ⟨M205, hM205, hf⟩ := lw_e hf
    rw [← hM205]
    have hT206 : mT M205 (mN M153) = 20 := by rw [hM205]; exact hT200
    have hT207 : mT M205 a143 = 11 := by rw [hM205]; exact hT201
    have hT208 : mT M205 a202 = 28 := by rw [hM205]; exact hT203
    refine g_aload_n X dL_shore_584 rfl rfl ?_
    refine g_lds (q := Z (100 + 86)) X (gSt2_lit X2 (161, "go f", 86) (by decide +kernel)) dL_shore_585 ?_
    obtain ⟨a210, ha210, hf⟩ := dr_e hf
    obtain ⟨hT211, hf⟩ := ck_e hf
    obtain ⟨hg212, hf⟩ := ck_e hf
    obtain ⟨r209, M209, hq209, hf⟩ := bd_e hf
    refine g_callV (ci := 12) (b := a210) (As := [vR (some (Z (100 + 86)))]) (st := []) (v := some (vR r209)) (M1 := M209) X2 (m_J4_append_15ec4_S l hq209) (cwV 1 X.2.2.1 gL_shore_J4_append_15ec4 rfl rfl rfl (by decide +kernel) ⟨Nat.le_of_ble_eq_true rfl, Nat.le_of_ble_eq_true rfl⟩) rfl rfl ha210 hT211 (by decide) rfl (Nat.le_of_ble_eq_true rfl) dL_shore_587 ⟨hg212.1, hg212.2⟩ ?_
    refine g_aload X dL_shore_590 rfl ?_
    refine g_iconst (v := (0 : Int32)) X dL_shore_592 (by decide) ?_
    obtain ⟨hT213, hf⟩ := ck_e hf
    obtain ⟨hg214, hf⟩ := ck_e hf
    refine g_iald X dL_shore_593 rfl hT213 hg214 ?_
    obtain ⟨a216, ha216, hf⟩ := dr_e hf
    obtain ⟨hT217, hf⟩ := ck_e hf
    obtain ⟨hg218, hf⟩ := ck_e hf
    obtain ⟨r215, M215, hq215, hf⟩ := bd_e hf
    refine g_callV (ci := 12) (b := a216) (As := [vI (mI M209 (mN M153) ((0 : Int32)).toNatClampNeg)]) (st := []) (v := some (vR r215)) (M1 := M215) X2 (m_J4_append_bf812 l hq215) (cwV 1 X.2.2.1 gL_shore_J4_append_bf812 rfl rfl rfl (by decide +kernel) ⟨Nat.le_of_ble_eq_true rfl, Nat.le_of_ble_eq_true rfl⟩) rfl rfl ha216 hT217 (by decide) rfl (Nat.le_of_ble_eq_true rfl) dL_shore_594 ⟨hg218.1, hg218.2⟩ ?_
    refine g_lds (q := Z (100 + 87)) X (gSt2_lit X2 (163, " to g", 87) (by decide +kernel)) dL_shore_597 ?_
    obtain ⟨a220, ha220, hf⟩ := dr_e hf
    obtain ⟨hT221, hf⟩ := ck_e hf
    obtain ⟨hg222, hf⟩ := ck_e hf
    obtain ⟨r219, M219, hq219, hf⟩ := bd_e hf
    refine g_callV (ci := 12) (b := a220) (As := [vR (some (Z (100 + 87)))]) (st := []) (v := some (vR r219)) (M1 := M219) X2 (m_J4_append_15ec4_S l hq219) (cwV 1 X.2.2.1 gL_shore_J4_append_15ec4 rfl rfl rfl (by decide +kernel) ⟨Nat.le_of_ble_eq_true rfl, Nat.le_of_ble_eq_true rfl⟩) rfl rfl ha220 hT221 (by decide) rfl (Nat.le_of_ble_eq_true rfl) dL_shore_599 ⟨hg222.1, hg222.2⟩ ?_
    refine g_aload X dL_shore_602 rfl ?_
    refine g_iconst (v := (1 : Int32)) X dL_shore_604 (by decide) ?_
    obtain ⟨hT223, hf⟩ := ck_e hf
    obtain ⟨hg224, hf⟩ := ck_e hf
    refine g_iald X dL_shore_605 rfl hT223 hg224 ?_
    obtain ⟨a226, ha226, hf⟩ := dr_e hf
    obtain ⟨hT227, hf⟩ := ck_e hf
    obtain ⟨hg228, hf⟩ := ck_e hf
    obtain ⟨r225, M225, hq225, hf⟩ := bd_e hf
    refine g_callV (ci := 12) (b := a226) (As := [vI (mI M219 (mN M153) ((1 : Int32)).toNatClampNeg)]) (st := []) (v := some (vR r225)) (M1 := M225) X2 (m_J4_append_bf812 l hq225) (cwV 1 X.2.2.1 gL_shore_J4_append_bf812 rfl rfl rfl (by decide +kernel) ⟨Nat.le_of_ble_eq_true rfl, Nat.le_of_ble_eq_true rfl⟩) rfl rfl ha226 hT227 (by decide) rfl (Nat.le_of_ble_eq_true rfl) dL_shore_606 ⟨hg228.1, hg228.2⟩ ?_
    refine g_aload X dL_shore_609 rfl ?_
    refine g_aload_n X dL_shore_611 rfl rfl ?_
    obtain ⟨hg230, hf⟩ := ck_e hf
    obtain ⟨r229, M229, hq229, hf⟩ := bd_e hf
    refine g_callS (As := [vR (some (mN M153)), vR x2]) (st := [vR r225]) (v := some (vR r229)) (M1 := M229) X2 (m_L_test l hq229) (va_cwS 2 X.2.2.1 gL_shore_L_test rfl rfl rfl (by decide +kernel) ⟨Nat.le_of_ble_eq_true rfl, Nat.le_of_ble_eq_true rfl⟩) rfl rfl (Nat.le_of_ble_eq_true rfl) dL_shore_612 ⟨hg230.1, hg230.2⟩ ?_
    obtain ⟨a232, ha232, hf⟩ := dr_e hf
    obtain ⟨hT233, hf⟩ := ck_e hf
    obtain ⟨hg234, hf⟩ := ck_e hf
    obtain ⟨r231, M231, hq231, hf⟩ := bd_e hf
    refine g_callV (ci := 12) (b := a232) (As := [vR r229]) (st := []) (v := some (vR r231)) (M1 := M231) X2 (m_J4_append_15ec4_E l hq231) (cwV 1 X.2.2.1 gL_shore_J4_append_15ec4 rfl rfl rfl (by decide +kernel) ⟨Nat.le_of_ble_eq_true rfl, Nat.le_of_ble_eq_true rfl⟩) rfl rfl ha232 hT233 (by decide) rfl (Nat.le_of_ble_eq_true rfl) dL_shore_615 ⟨hg234.1, hg234.2⟩ ?_
    refine g_iload_n X dL_shore_618 rfl rfl ?_
    refine g_iconst (v := (3 : Int32)) X dL_shore_619 (by decide) ?_
    refine g_irem X dL_shore_620 (by decide) ?_
    refine g_if_ne (tgt := 629) X dL_shore_621 (by decide) (fun hc => ?_) (fun hc => ?_)
    · have hf := ife_f hc hf
      refine g_lds (q := Z (100 + 80)) X (gSt2_lit X2 (140, ";", 80) (by decide +kernel)) dL_shore_629 ?_
      refine g_sub (lvsub_of _ _ [2, 3, 4, 5] rfl) ?_
      exact t_L_shore_631 X2 hr _ _ _ _ _ _ _ _ _ hf hK
    · have hf := ife_t hc hf
      refine g_lds (q := Z (100 + 88)) X (gSt2_lit X2 (169, ";\n", 88) (by decide +kernel)) dL_shore_624 ?_
      refine g_goto (tgt := 631) X dL_shore_626 (by decide) ?_
      refine g_sub (lvsub_of _ _ [2, 3, 4, 5] rfl) ?_
      exact t_L_shore_631 X2 hr _ _ _ _ _ _ _ _ _ hf hK
set_option maxHeartbeats 4000000 in
set_option maxRecDepth 100000 in
theorem tl_L_shore_451 (X2 : gX p s m args meth c D cy B (gSt2 Z B H0) RL cL_shore wsL_shore 9) (hr : meth.sig.returnType = (some (.object "TideLotsLaw$Sim"))) {Q : State → Prop} : ∀ (M : gMem) (kc : Nat) (kn : Nat) (x1 : Option Nat) (x2 : Option Nat) (x3 : Int32) (z : Option Nat × gMem), lp_L_shore_451 Z M kc kn x1 x2 x3 = some z → (fun (r : Option Nat × gMem) => Q = gMQ below D cy B H0 args s 800 1200000 (some (vR r.1)) r.2) z → gGo p l e rL_shore s m args below meth c D cy B H0 9 kc kn Q 451 [(0, vR (some (Z 400))), (1, vR x1), (2, vR x2), (3, vI x3)] [] M := by
  intro M kc kn x1 x2 x3 z hf hK
  refine lp_ind (P := (fun (q : gMem × Nat × Nat × Int32) (z : Option Nat × gMem) => (fun (r : Option Nat × gMem) => Q = gMQ below D cy B H0 args s 800 1200000 (some (vR r.1)) r.2) z → gGo p l e rL_shore s m args below meth c D cy B H0 9 q.2.1 q.2.2.1 Q 451 [(0, vR (some (Z 400))), (1, vR x1), (2, vR x2), (3, vI q.2.2.2)] [] q.1)) (fun q z hq => ?_) _ _ hf hK
  intro hK
  obtain ⟨w, hw, hm⟩ := hq
  refine tb_L_shore_451 X2 hr _ _ _ _ _ _ w hw ?_
  cases w with
  | inl a => exact hm hK
  | inr b => cases hm; exact hK
set_option maxHeartbeats 4000000 in
set_option maxRecDepth 100000 in
theorem t_L_shore_353 (X2 : gX p s m args meth c D cy B (gSt2 Z B H0) RL cL_shore wsL_shore 9) (hr : meth.sig.returnType = (some (.object "TideLotsLaw$Sim"))) {Q : State → Prop} : ∀ (M : gMem) (kc : Nat) (kn : Nat) (x1 : Option Nat) (x2 : Option Nat) (x3 : Int32) (s0 : Option Nat) (s1 : Option Nat) (s2 : Int32) (s3 : Int32) (s4 : Int32) (s5 : Int32) (z : (gMem × Nat × Nat × Int32) ⊕ (Option Nat × gMem)), b_L_shore_353 Z M kc kn x1 x2 x3 s0 s1 s2 s3 s4 s5 = some z → (Sum.elim (fun (q : gMem × Nat × Nat × Int32) => gGo p l e rL_shore s m args below meth c D cy B H0 9 q.2.1 q.2.2.1 Q 252 [(0, vR (some (Z 400))), (1, vR x1), (2, vR x2), (3, vI q.2.2.2)] [] q.1) (fun (r : Option Nat × gMem) => Q = gMQ below D cy B H0 args s 800 1200000 (some (vR r.1)) r.2)) z → gGo p l e rL_shore s m args below meth c D cy B H0 9 kc kn Q 353 [(0, vR (some (Z 400))), (1, vR x1), (2, vR x2), (3, vI x3)] [vI s5, vI s4, vI s3, vI s2, vR s1, vR s0] M := by
  intro M kc kn x1 x2 x3 s0 s1 s2 s3 s4 s5 z hf hK
  unfold b_L_shore_353 at hf
  have X := gX_w X2
  obtain ⟨hg236, hf⟩ := ck_e hf
  obtain ⟨r235, M235, hq235, hf⟩ := bd_e hf
  refine g_callS (As := [vI s4, vI s5]) (st := [vI s3, vI s2, vR s1, vR s0]) (v := some (vI r235)) (M1 := M235) X (m_L_below l hq235) (va_cwS 2 X.2.2.1 gL_shore_L_below rfl rfl rfl (by decide +kernel) ⟨Nat.le_of_ble_eq_true rfl, Nat.le_of_ble_eq_true rfl⟩) rfl rfl (Nat.le_of_ble_eq_true rfl) dL_shore_353 ⟨hg236.1, hg236.2⟩ ?_
  refine g_iadd X dL_shore_356 ?_
  obtain ⟨a237, ha237, hf⟩ := dr_e hf
  obtain ⟨hT238, hf⟩ := ck_e hf
  obtain ⟨hg239, hf⟩ := ck_e hf
  refine g_iast X dL_shore_357 ha237 hT238 hg239 ?_
  obtain ⟨M240, hM240, hf⟩ := lw_e hf
  rw [← hM240]
  have hT241 : mT M240 a237 = 20 := by rw [hM240]; exact hT238
  refine g_astore (lv' := [(5, vR s0), (0, vR (some (Z 400))), (1, vR x1), (2, vR x2), (3, vI x3)]) X dL_shore_358 (by decide) rfl ?_
  refine g_aload X dL_shore_360 rfl ?_
  refine g_iconst (v := (1 : Int32)) X dL_shore_362 (by decide) ?_
  refine g_aload X dL_shore_363 rfl ?_
  refine g_iconst (v := (0 : Int32)) X dL_shore_365 (by decide) ?_
  obtain ⟨a242, ha242, hf⟩ := dr_e hf
  obtain ⟨hT243, hf⟩ := ck_e hf
  obtain ⟨hg244, hf⟩ := ck_e hf
  refine g_iald X dL_shore_366 ha242 hT243 hg244 ?_
  obtain ⟨hg245, hf⟩ := ck_e hf
  refine g_iast X dL_shore_367 ha242 hT243 hg245 ?_
  obtain ⟨M246, hM246, hf⟩ := lw_e hf
  rw [← hM246]
  have hT247 : mT M246 a237 = 20 := by rw [hM246]; exact hT241
  have hT248 : mT M246 a242 = 20 := by rw [hM246]; exact hT243
  refine g_aload_n X dL_shore_368 rfl rfl ?_
  obtain ⟨a249, ha249, hf⟩ := dr_e hf
  obtain ⟨hT250, hf⟩ := ck_e hf
  refine g_get (ci := 10) (v := vR (mR M246 a249 3)) 3 X cdX12 i_L_shore_X12 (by decide) k_L_shore_f144 rfl dL_shore_369 ha249 hT250 rfl ?_
  refine g_iload_n X dL_shore_372 rfl rfl ?_
  refine g_aload X dL_shore_373 rfl ?_
  obtain ⟨a251, ha251, hf⟩ := dr_e hf
  obtain ⟨hT252, hf⟩ := ck_e hf
  obtain ⟨hg253, hf⟩ := ck_e hf
  refine g_aastA X (gN2w X2 _ (by decide +kernel)) dL_shore_375 ha251 hT252 hg253 ha242 hT248 ?_
  obtain ⟨M254, hM254, hf⟩ := lw_e hf
  rw [← hM254]
  have hT255 : mT M254 a237 = 20 := by rw [hM254]; exact hT247
  have hT256 : mT M254 a242 = 20 := by rw [hM254]; exact hT248
  have hT257 : mT M254 a249 = 11 := by rw [hM254]; exact hT250
  have hT258 : mT M254 a251 = 28 := by rw [hM254]; exact hT252
  refine g_aload_n X dL_shore_376 rfl rfl ?_
  refine g_lds (q := Z (100 + 82)) X (gSt2_lit X2 (147, "fisher f", 82) (by decide +kernel)) dL_shore_377 ?_
  obtain ⟨a260, ha260, hf⟩ := dr_e hf
  obtain ⟨hT261, hf⟩ := ck_e hf
  obtain ⟨hg262, hf⟩ := ck_e hf
  obtain ⟨r259, M259, hq259, hf⟩ := bd_e hf
  refine g_callV (ci := 12) (b := a260) (As := [vR (some (Z (100 + 82)))]) (st := []) (v := some (vR r259)) (M1 := M259) X2 (m_J4_append_15ec4_S l hq259) (cwV 1 X.2.2.1 gL_shore_J4_append_15ec4 rfl rfl rfl (by decide +kernel) ⟨Nat.le_of_ble_eq_true rfl, Nat.le_of_ble_eq_true rfl⟩) rfl rfl ha260 hT261 (by decide) rfl (Nat.le_of_ble_eq_true rfl) dL_shore_379 ⟨hg262.1, hg262.2⟩ ?_
  refine g_iload_n X dL_shore_382 rfl rfl ?_
  obtain ⟨a264, ha264, hf⟩ := dr_e hf
  obtain ⟨hT265, hf⟩ := ck_e hf
  obtain ⟨hg266, hf⟩ := ck_e hf
  obtain ⟨r263, M263, hq263, hf⟩ := bd_e hf
  refine g_callV (ci := 12) (b := a264) (As := [vI x3]) (st := []) (v := some (vR r263)) (M1 := M263) X2 (m_J4_append_bf812 l hq263) (cwV 1 X.2.2.1 gL_shore_J4_append_bf812 rfl rfl rfl (by decide +kernel) ⟨Nat.le_of_ble_eq_true rfl, Nat.le_of_ble_eq_true rfl⟩) rfl rfl ha264 hT265 (by decide) rfl (Nat.le_of_ble_eq_true rfl) dL_shore_383 ⟨hg266.1, hg266.2⟩ ?_
  refine g_lds (q := Z (100 + 83)) X (gSt2_lit X2 (149, " mesh ", 83) (by decide +kernel)) dL_shore_386 ?_
  obtain ⟨a268, ha268, hf⟩ := dr_e hf
  obtain ⟨hT269, hf⟩ := ck_e hf
  obtain ⟨hg270, hf⟩ := ck_e hf
  obtain ⟨r267, M267, hq267, hf⟩ := bd_e hf
  refine g_callV (ci := 12) (b := a268) (As := [vR (some (Z (100 + 83)))]) (st := []) (v := some (vR r267)) (M1 := M267) X2 (m_J4_append_15ec4_S l hq267) (cwV 1 X.2.2.1 gL_shore_J4_append_15ec4 rfl rfl rfl (by decide +kernel) ⟨Nat.le_of_ble_eq_true rfl, Nat.le_of_ble_eq_true rfl⟩) rfl rfl ha268 hT269 (by decide) rfl (Nat.le_of_ble_eq_true rfl) dL_shore_388 ⟨hg270.1, hg270.2⟩ ?_
  refine g_aload X dL_shore_391 rfl ?_
  refine g_iconst (v := (0 : Int32)) X dL_shore_393 (by decide) ?_
  obtain ⟨hT271, hf⟩ := ck_e hf
  obtain ⟨hg272, hf⟩ := ck_e hf
  refine g_iald X dL_shore_394 ha242 hT271 hg272 ?_
  obtain ⟨a274, ha274, hf⟩ := dr_e hf
  obtain ⟨hT275, hf⟩ := ck_e hf
  obtain ⟨hg276, hf⟩ := ck_e hf
  obtain ⟨r273, M273, hq273, hf⟩ := bd_e hf
  refine g_callV (ci := 12) (b := a274) (As := [vI (mI M267 a242 ((0 : Int32)).toNatClampNeg)]) (st := []) (v := some (vR r273)) (M1 := M273) X2 (m_J4_append_bf812 l hq273) (cwV 1 X.2.2.1 gL_shore_J4_append_bf812 rfl rfl rfl (by decide +kernel) ⟨Nat.le_of_ble_eq_true rfl, Nat.le_of_ble_eq_true rfl⟩) rfl rfl ha274 hT275 (by decide) rfl (Nat.le_of_ble_eq_true rfl) dL_shore_395 ⟨hg276.1, hg276.2⟩ ?_
  refine g_lds (q := Z (100 + 84)) X (gSt2_lit X2 (151, " net ", 84) (by decide +kernel)) dL_shore_398 ?_
  obtain ⟨a278, ha278, hf⟩ := dr_e hf
  obtain ⟨hT279, hf⟩ := ck_e hf
  obtain ⟨hg280, hf⟩ := ck_e hf
  obtain ⟨r277, M277, hq277, hf⟩ := bd_e hf
  refine g_callV (ci := 12) (b := a278) (As := [vR (some (Z (100 + 84)))]) (st := []) (v := some (vR r277)) (M1 := M277) X2 (m_J4_append_15ec4_S l hq277) (cwV 1 X.2.2.1 gL_shore_J4_append_15ec4 rfl rfl rfl (by decide +kernel) ⟨Nat.le_of_ble_eq_true rfl, Nat.le_of_ble_eq_true rfl⟩) rfl rfl ha278 hT279 (by decide) rfl (Nat.le_of_ble_eq_true rfl) dL_shore_400 ⟨hg280.1, hg280.2⟩ ?_
  refine g_aload X dL_shore_403 rfl ?_
  refine g_iconst (v := (2 : Int32)) X dL_shore_405 (by decide) ?_
  obtain ⟨hT281, hf⟩ := ck_e hf
  obtain ⟨hg282, hf⟩ := ck_e hf
  refine g_iald X dL_shore_406 ha242 hT281 hg282 ?_
  obtain ⟨a284, ha284, hf⟩ := dr_e hf
  obtain ⟨hT285, hf⟩ := ck_e hf
  obtain ⟨hg286, hf⟩ := ck_e hf
  obtain ⟨r283, M283, hq283, hf⟩ := bd_e hf
  refine g_callV (ci := 12) (b := a284) (As := [vI (mI M277 a242 ((2 : Int32)).toNatClampNeg)]) (st := []) (v := some (vR r283)) (M1 := M283) X2 (m_J4_append_bf812 l hq283) (cwV 1 X.2.2.1 gL_shore_J4_append_bf812 rfl rfl rfl (by decide +kernel) ⟨Nat.le_of_ble_eq_true rfl, Nat.le_of_ble_eq_true rfl⟩) rfl rfl ha284 hT285 (by decide) rfl (Nat.le_of_ble_eq_true rfl) dL_shore_407 ⟨hg286.1, hg286.2⟩ ?_
  refine g_lds (q := Z (100 + 85)) X (gSt2_lit X2 (153, " hold ", 85) (by decide +kernel)) dL_shore_410 ?_
  obtain ⟨a288, ha288, hf⟩ := dr_e hf
  obtain ⟨hT289, hf⟩ := ck_e hf
  obtain ⟨hg290, hf⟩ := ck_e hf
  obtain ⟨r287, M287, hq287, hf⟩ := bd_e hf
  refine g_callV (ci := 12) (b := a288) (As := [vR (some (Z (100 + 85)))]) (st := []) (v := some (vR r287)) (M1 := M287) X2 (m_J4_append_15ec4_S l hq287) (cwV 1 X.2.2.1 gL_shore_J4_append_15ec4 rfl rfl rfl (by decide +kernel) ⟨Nat.le_of_ble_eq_true rfl, Nat.le_of_ble_eq_true rfl⟩) rfl rfl ha288 hT289 (by decide) rfl (Nat.le_of_ble_eq_true rfl) dL_shore_412 ⟨hg290.1, hg290.2⟩ ?_
  refine g_aload X dL_shore_415 rfl ?_
  refine g_iconst (v := (3 : Int32)) X dL_shore_417 (by decide) ?_
  obtain ⟨hT291, hf⟩ := ck_e hf
  obtain ⟨hg292, hf⟩ := ck_e hf
  refine g_iald X dL_shore_418 ha242 hT291 hg292 ?_
  obtain ⟨a294, ha294, hf⟩ := dr_e hf
  obtain ⟨hT295, hf⟩ := ck_e hf
  obtain ⟨hg296, hf⟩ := ck_e hf
  obtain ⟨r293, M293, hq293, hf⟩ := bd_e hf
  refine g_callV (ci := 12) (b := a294) (As := [vI (mI M287 a242 ((3 : Int32)).toNatClampNeg)]) (st := []) (v := some (vR r293)) (M1 := M293) X2 (m_J4_append_bf812 l hq293) (cwV 1 X.2.2.1 gL_shore_J4_append_bf812 rfl rfl rfl (by decide +kernel) ⟨Nat.le_of_ble_eq_true rfl, Nat.le_of_ble_eq_true rfl⟩) rfl rfl ha294 hT295 (by decide) rfl (Nat.le_of_ble_eq_true rfl) dL_shore_419 ⟨hg296.1, hg296.2⟩ ?_
  refine g_lds (q := Z (100 + 80)) X (gSt2_lit X2 (140, ";", 80) (by decide +kernel)) dL_shore_422 ?_
  obtain ⟨a298, ha298, hf⟩ := dr_e hf
  obtain ⟨hT299, hf⟩ := ck_e hf
  obtain ⟨hg300, hf⟩ := ck_e hf
  obtain ⟨r297, M297, hq297, hf⟩ := bd_e hf
  refine g_callV (ci := 12) (b := a298) (As := [vR (some (Z (100 + 80)))]) (st := []) (v := some (vR r297)) (M1 := M297) X2 (m_J4_append_15ec4_S l hq297) (cwV 1 X.2.2.1 gL_shore_J4_append_15ec4 rfl rfl rfl (by decide +kernel) ⟨Nat.le_of_ble_eq_true rfl, Nat.le_of_ble_eq_true rfl⟩) rfl rfl ha298 hT299 (by decide) rfl (Nat.le_of_ble_eq_true rfl) dL_shore_424 ⟨hg300.1, hg300.2⟩ ?_
  refine g_pop X dL_shore_427 rfl ?_
  refine g_iinc (v := (1 : Int32)) (lv' := [(3, vI (x3 + (1 : Int32))), (5, vR s0), (0, vR (some (Z 400))), (1, vR x1), (2, vR x2)]) X dL_shore_428 rfl (by decide) (by decide) rfl ?_
  refine g_goto (tgt := 252) X dL_shore_431 (by decide) ?_
  cases hf
  refine g_sub (lvsub_of _ _ [2, 3, 4, 0] rfl) ?_
  exact hK
set_option maxHeartbeats 4000000 in
set_option maxRecDepth 100000 in
theorem t_L_shore_322 (X2 : gX p s m args meth c D cy B (gSt2 Z B H0) RL cL_shore wsL_shore 9) (hr : meth.sig.returnType = (some (.object "TideLotsLaw$Sim"))) {Q : State → Prop} : ∀ (M : gMem) (kc : Nat) (kn : Nat) (x1 : Option Nat) (x2 : Option Nat) (x3 : Int32) (x4 : Int32) (s0 : Option Nat) (s1 : Option Nat) (s2 : Int32) (s3 : Int32) (s4 : Int32) (s5 : Int32) (z : (gMem × Nat × Nat × Int32) ⊕ (Option Nat × gMem)), b_L_shore_322 Z M kc kn x1 x2 x3 x4 s0 s1 s2 s3 s4 s5 = some z → (Sum.elim (fun (q : gMem × Nat × Nat × Int32) => gGo p l e rL_shore s m args below meth c D cy B H0 9 q.2.1 q.2.2.1 Q 252 [(0, vR (some (Z 400))), (1, vR x1), (2, vR x2), (3, vI q.2.2.2)] [] q.1) (fun (r : Option Nat × gMem) => Q = gMQ below D cy B H0 args s 800 1200000 (some (vR r.1)) r.2)) z → gGo p l e rL_shore s m args below meth c D cy B H0 9 kc kn Q 322 [(0, vR (some (Z 400))), (1, vR x1), (2, vR x2), (3, vI x3), (4, vI x4)] [vI s5, vI s4, vI s3, vI s2, vR s1, vR s0] M := by
  intro M kc kn x1 x2 x3 x4 s0 s1 s2 s3 s4 s5 z hf hK
  unfold b_L_shore_322 at hf
  have X := gX_w X2
  obtain ⟨hg302, hf⟩ := ck_e hf
  obtain ⟨r301, M301, hq301, hf⟩ := bd_e hf
  refine g_callS (As := [vI s4, vI s5]) (st := [vI s3, vI s2, vR s1, vR s0]) (v := some (vI r301)) (M1 := M301) X (m_L_below l hq301) (va_cwS 2 X.2.2.1 gL_shore_L_below rfl rfl rfl (by decide +kernel) ⟨Nat.le_of_ble_eq_true rfl, Nat.le_of_ble_eq_true rfl⟩) rfl rfl (Nat.le_of_ble_eq_true rfl) dL_shore_322 ⟨hg302.1, hg302.2⟩ ?_
  refine g_iadd X dL_shore_325 ?_
  obtain ⟨a303, ha303, hf⟩ := dr_e hf
  obtain ⟨hT304, hf⟩ := ck_e hf
  obtain ⟨hg305, hf⟩ := ck_e hf
  refine g_iast X dL_shore_326 ha303 hT304 hg305 ?_
  obtain ⟨M306, hM306, hf⟩ := lw_e hf
  rw [← hM306]
  have hT307 : mT M306 a303 = 20 := by rw [hM306]; exact hT304
  refine g_dup X dL_shore_327 rfl ?_
  refine g_iconst (v := (3 : Int32)) X dL_shore_328 (by decide) ?_
  refine g_iconst (v := (1 : Int32)) X dL_shore_329 (by decide) ?_
  refine g_iload X dL_shore_330 rfl ?_
  refine g_iconst (v := (5 : Int32)) X dL_shore_332 (by decide) ?_
  refine g_ishr X dL_shore_333 ?_
  refine g_iload X dL_shore_334 rfl ?_
  refine g_bipush (v := (7 : Int32)) X dL_shore_336 (by decide) ?_
  refine g_ishr X dL_shore_338 ?_
  refine g_iconst (v := (2 : Int32)) X dL_shore_339 (by decide) ?_
  obtain ⟨hg309, hf⟩ := ck_e hf
  obtain ⟨r308, M308, hq308, hf⟩ := bd_e hf
  refine g_callS (As := [vI (x4 >>> ((7 : Int32) &&& 31)), vI (2 : Int32)]) (st := [vI (x4 >>> ((5 : Int32) &&& 31)), vI (1 : Int32), vI (3 : Int32), vR s0, vR s0]) (v := some (vI r308)) (M1 := M308) X (m_L_below l hq308) (va_cwS 2 X.2.2.1 gL_shore_L_below rfl rfl rfl (by decide +kernel) ⟨Nat.le_of_ble_eq_true rfl, Nat.le_of_ble_eq_true rfl⟩) rfl rfl (Nat.le_of_ble_eq_true rfl) dL_shore_340 ⟨hg309.1, hg309.2⟩ ?_
  refine g_if_ne (tgt := 351) X dL_shore_343 (by decide) (fun hc => ?_) (fun hc => ?_)
  · have hf := ife_f hc hf
    refine g_bipush (v := (9 : Int32)) X dL_shore_351 (by decide) ?_
    refine g_sub (lvsub_of _ _ [0, 1, 2, 3] rfl) ?_
    exact t_L_shore_353 X2 hr _ _ _ _ _ _ _ _ _ _ _ _ _ hf hK
  · have hf := ife_t hc hf
    refine g_bipush (v := (40 : Int32)) X dL_shore_346 (by decide) ?_
    refine g_goto (tgt := 353) X dL_shore_348 (by decide) ?_
    refine g_sub (lvsub_of _ _ [0, 1, 2, 3] rfl) ?_
    exact t_L_shore_353 X2 hr _ _ _ _ _ _ _ _ _ _ _ _ _ hf hK
set_option maxHeartbeats 4000000 in
set_option maxRecDepth 100000 in
theorem tb_L_shore_252 (X2 : gX p s m args meth c D cy B (gSt2 Z B H0) RL cL_shore wsL_shore 9) (hr : meth.sig.returnType = (some (.object "TideLotsLaw$Sim"))) {Q : State → Prop} : ∀ (M : gMem) (kc : Nat) (kn : Nat) (x1 : Option Nat) (x2 : Option Nat) (x3 : Int32) (z : (gMem × Nat × Nat × Int32) ⊕ (Option Nat × gMem)), bb_L_shore_252 Z M kc kn x1 x2 x3 = some z → (Sum.elim (fun (q : gMem × Nat × Nat × Int32) => gGo p l e rL_shore s m args below meth c D cy B H0 9 q.2.1 q.2.2.1 Q 252 [(0, vR (some (Z 400))), (1, vR x1), (2, vR x2), (3, vI q.2.2.2)] [] q.1) (fun (r : Option Nat × gMem) => Q = gMQ below D cy B H0 args s 800 1200000 (some (vR r.1)) r.2)) z → gGo p l e rL_shore s m args below meth c D cy B H0 9 kc kn Q 252 [(0, vR (some (Z 400))), (1, vR x1), (2, vR x2), (3, vI x3)] [] M := by
  intro M kc kn x1 x2 x3 z hf hK
  unfold bb_L_shore_252 at hf
  have X := gX_w X2
  refine g_iload_n X dL_shore_252 rfl rfl ?_
  refine g_aload_n X dL_shore_253 rfl rfl ?_
  obtain ⟨a310, ha310, hf⟩ := dr_e hf
  obtain ⟨hT311, hf⟩ := ck_e hf
  refine g_get (ci := 10) (v := vI (mI M a310 1)) 1 X cdX12 i_L_shore_X12 (by decide) k_L_shore_f56 rfl dL_shore_254 ha310 hT311 rfl ?_
  refine g_icmp_ge (tgt := 434) X dL_shore_257 (by decide) (fun hc => ?_) (fun hc => ?_)
  · have hf := ife_t hc hf
    refine g_aload_n X dL_shore_434 rfl rfl ?_
    refine g_aload_n X dL_shore_435 rfl rfl ?_
    refine g_bipush (v := (7 : Int32)) X dL_shore_436 (by decide) ?_
    obtain ⟨hg313, hf⟩ := ck_e hf
    obtain ⟨r312, M312, hq312, hf⟩ := bd_e hf
    refine g_callS (As := [vR (some (Z 400)), vI (7 : Int32)]) (st := [vR x2]) (v := some (vI r312)) (M1 := M312) X2 (m_L_cell l hq312) (va_cwS 2 X.2.2.1 gL_shore_L_cell rfl rfl rfl (by decide +kernel) ⟨Nat.le_of_ble_eq_true rfl, Nat.le_of_ble_eq_true rfl⟩) rfl rfl (Nat.le_of_ble_eq_true rfl) dL_shore_438 ⟨hg313.1, hg313.2⟩ ?_
    refine g_bipush (v := (9 : Int32)) X dL_shore_441 (by decide) ?_
    obtain ⟨hg315, hf⟩ := ck_e hf
    obtain ⟨r314, M314, hq314, hf⟩ := bd_e hf
    refine g_callS (As := [vI r312, vI (9 : Int32)]) (st := [vR x2]) (v := some (vI r314)) (M1 := M314) X (m_L_below l hq314) (va_cwS 2 X.2.2.1 gL_shore_L_below rfl rfl rfl (by decide +kernel) ⟨Nat.le_of_ble_eq_true rfl, Nat.le_of_ble_eq_true rfl⟩) rfl rfl (Nat.le_of_ble_eq_true rfl) dL_shore_443 ⟨hg315.1, hg315.2⟩ ?_
    obtain ⟨hT316, hf⟩ := ck_e hf
    refine g_putI (ci := 10) 5 X cdX12 i_L_shore_X12 (by decide) k_L_shore_f155 rfl dL_shore_446 ha310 hT316 (Or.inl rfl) rfl rfl rfl ?_
    obtain ⟨M317, hM317, hf⟩ := lw_e hf
    rw [← hM317]
    have hT318 : mT M317 a310 = 11 := by rw [hM317]; exact hT316
    refine g_iconst (v := (0 : Int32)) X dL_shore_449 (by decide) ?_
    refine g_istore_n (lv' := [(3, vI (0 : Int32)), (0, vR (some (Z 400))), (1, vR x1), (2, vR x2)]) X dL_shore_450 rfl (by decide) rfl ?_
    obtain ⟨w319, hw319, hz319⟩ := oI_e hf
    subst hz319
    have hf := hw319
    refine g_sub (lvsub_of _ _ [1, 2, 3, 0] rfl) ?_
    exact tl_L_shore_451 X2 hr _ _ _ _ _ _ _ hf hK
  · have hf := ife_f hc hf
    refine g_aload_n X dL_shore_260 rfl rfl ?_
    refine g_iconst (v := (4 : Int32)) X dL_shore_261 (by decide) ?_
    refine g_iload_n X dL_shore_262 rfl rfl ?_
    refine g_iconst (v := (3 : Int32)) X dL_shore_263 (by decide) ?_
    refine g_irem X dL_shore_264 (by decide) ?_
    refine g_iadd X dL_shore_265 ?_
    obtain ⟨hg321, hf⟩ := ck_e hf
    obtain ⟨r320, M320, hq320, hf⟩ := bd_e hf
    refine g_callS (As := [vR (some (Z 400)), vI ((4 : Int32) + (x3 - x3 / (3 : Int32) * (3 : Int32)))]) (st := []) (v := some (vI r320)) (M1 := M320) X2 (m_L_cell l hq320) (va_cwS 2 X.2.2.1 gL_shore_L_cell rfl rfl rfl (by decide +kernel) ⟨Nat.le_of_ble_eq_true rfl, Nat.le_of_ble_eq_true rfl⟩) rfl rfl (Nat.le_of_ble_eq_true rfl) dL_shore_266 ⟨hg321.1, hg321.2⟩ ?_
    refine g_iload_n X dL_shore_269 rfl rfl ?_
    refine g_iconst (v := (3 : Int32)) X dL_shore_270 (by decide) ?_
    refine g_idiv X dL_shore_271 (by decide) ?_
    refine g_bipush (v := (9 : Int32)) X dL_shore_272 (by decide) ?_
    refine g_imul X dL_shore_274 ?_
    refine g_ishr X dL_shore_275 ?_
    refine g_istore (lv' := [(4, vI (r320 >>> (((x3 / (3 : Int32)) * (9 : Int32)) &&& 31))), (0, vR (some (Z 400))), (1, vR x1), (2, vR x2), (3, vI x3)]) X dL_shore_276 (by decide) rfl ?_
    refine g_iconst (v := (4 : Int32)) X dL_shore_278 (by decide) ?_
    obtain ⟨hg322, hf⟩ := ck_e hf
    refine g_newa (at' := .int) (t0 := 0) X k_L_shore_acint (by exact Or.inl ⟨rfl, rfl⟩) (by decide) (by decide) ⟨hg322.1, hg322.2⟩ dL_shore_279 ?_
    obtain ⟨M323, hM323, hf⟩ := lw_e hf
    rw [← hM323]
    refine g_dup X dL_shore_281 rfl ?_
    refine g_iconst (v := (0 : Int32)) X dL_shore_282 (by decide) ?_
    refine g_iconst (v := (1 : Int32)) X dL_shore_283 (by decide) ?_
    refine g_iload X dL_shore_284 rfl ?_
    refine g_iconst (v := (5 : Int32)) X dL_shore_286 (by decide) ?_
    obtain ⟨hg325, hf⟩ := ck_e hf
    obtain ⟨r324, M324, hq324, hf⟩ := bd_e hf
    refine g_callS (As := [vI (r320 >>> (((x3 / (3 : Int32)) * (9 : Int32)) &&& 31)), vI (5 : Int32)]) (st := [vI (1 : Int32), vI (0 : Int32), vR (some (mN M320)), vR (some (mN M320))]) (v := some (vI r324)) (M1 := M324) X (m_L_below l hq324) (va_cwS 2 X.2.2.1 gL_shore_L_below rfl rfl rfl (by decide +kernel) ⟨Nat.le_of_ble_eq_true rfl, Nat.le_of_ble_eq_true rfl⟩) rfl rfl (Nat.le_of_ble_eq_true rfl) dL_shore_287 ⟨hg325.1, hg325.2⟩ ?_
    refine g_iadd X dL_shore_290 ?_
    obtain ⟨hT326, hf⟩ := ck_e hf
    obtain ⟨hg327, hf⟩ := ck_e hf
    refine g_iast X dL_shore_291 rfl hT326 hg327 ?_
    obtain ⟨M328, hM328, hf⟩ := lw_e hf
    rw [← hM328]
    have hT329 : mT M328 (mN M320) = 20 := by rw [hM328]; exact hT326
    refine g_dup X dL_shore_292 rfl ?_
    refine g_iconst (v := (1 : Int32)) X dL_shore_293 (by decide) ?_
    refine g_iconst (v := (0 : Int32)) X dL_shore_294 (by decide) ?_
    obtain ⟨hg330, hf⟩ := ck_e hf
    refine g_iast X dL_shore_295 rfl hT329 hg330 ?_
    obtain ⟨M331, hM331, hf⟩ := lw_e hf
    rw [← hM331]
    have hT332 : mT M331 (mN M320) = 20 := by rw [hM331]; exact hT329
    refine g_dup X dL_shore_296 rfl ?_
    refine g_iconst (v := (2 : Int32)) X dL_shore_297 (by decide) ?_
    refine g_iconst (v := (1 : Int32)) X dL_shore_298 (by decide) ?_
    refine g_iload X dL_shore_299 rfl ?_
    refine g_iconst (v := (3 : Int32)) X dL_shore_301 (by decide) ?_
    refine g_ishr X dL_shore_302 ?_
    refine g_iload X dL_shore_303 rfl ?_
    refine g_bipush (v := (8 : Int32)) X dL_shore_305 (by decide) ?_
    refine g_ishr X dL_shore_307 ?_
    refine g_iconst (v := (2 : Int32)) X dL_shore_308 (by decide) ?_
    obtain ⟨hg334, hf⟩ := ck_e hf
    obtain ⟨r333, M333, hq333, hf⟩ := bd_e hf
    refine g_callS (As := [vI ((r320 >>> (((x3 / (3 : Int32)) * (9 : Int32)) &&& 31)) >>> ((8 : Int32) &&& 31)), vI (2 : Int32)]) (st := [vI ((r320 >>> (((x3 / (3 : Int32)) * (9 : Int32)) &&& 31)) >>> ((3 : Int32) &&& 31)), vI (1 : Int32), vI (2 : Int32), vR (some (mN M320)), vR (some (mN M320))]) (v := some (vI r333)) (M1 := M333) X (m_L_below l hq333) (va_cwS 2 X.2.2.1 gL_shore_L_below rfl rfl rfl (by decide +kernel) ⟨Nat.le_of_ble_eq_true rfl, Nat.le_of_ble_eq_true rfl⟩) rfl rfl (Nat.le_of_ble_eq_true rfl) dL_shore_309 ⟨hg334.1, hg334.2⟩ ?_
    refine g_if_ne (tgt := 320) X dL_shore_312 (by decide) (fun hc => ?_) (fun hc => ?_)
    · have hf := ife_f hc hf
      refine g_bipush (v := (25 : Int32)) X dL_shore_320 (by decide) ?_
      refine g_sub (lvsub_of _ _ [1, 2, 3, 4, 0] rfl) ?_
      exact t_L_shore_322 X2 hr _ _ _ _ _ _ _ _ _ _ _ _ _ _ hf hK
    · have hf := ife_t hc hf
      refine g_bipush (v := (99 : Int32)) X dL_shore_315 (by decide) ?_
      refine g_goto (tgt := 322) X dL_shore_317 (by decide) ?_
      refine g_sub (lvsub_of _ _ [1, 2, 3, 4, 0] rfl) ?_
      exact t_L_shore_322 X2 hr _ _ _ _ _ _ _ _ _ _ _ _ _ _ hf hK
set_option maxHeartbeats 4000000 in
set_option maxRecDepth 100000 in
theorem tl_L_shore_252 (X2 : gX p s m args meth c D cy B (gSt2 Z B H0) RL cL_shore wsL_shore 9) (hr : meth.sig.returnType = (some (.object "TideLotsLaw$Sim"))) {Q : State → Prop} : ∀ (M : gMem) (kc : Nat) (kn : Nat) (x1 : Option Nat) (x2 : Option Nat) (x3 : Int32) (z : Option Nat × gMem), lp_L_shore_252 Z M kc kn x1 x2 x3 = some z → (fun (r : Option Nat × gMem) => Q = gMQ below D cy B H0 args s 800 1200000 (some (vR r.1)) r.2) z → gGo p l e rL_shore s m args below meth c D cy B H0 9 kc kn Q 252 [(0, vR (some (Z 400))), (1, vR x1), (2, vR x2), (3, vI x3)] [] M := by
  intro M kc kn x1 x2 x3 z hf hK
  refine lp_ind (P := (fun (q : gMem × Nat × Nat × Int32) (z : Option Nat × gMem) => (fun (r : Option Nat × gMem) => Q = gMQ below D cy B H0 args s 800 1200000 (some (vR r.1)) r.2) z → gGo p l e rL_shore s m args below meth c D cy B H0 9 q.2.1 q.2.2.1 Q 252 [(0, vR (some (Z 400))), (1, vR x1), (2, vR x2), (3, vI q.2.2.2)] [] q.1)) (fun q z hq => ?_) _ _ hf hK
  intro hK
  obtain ⟨w, hw, hm⟩ := hq
  refine tb_L_shore_252 X2 hr _ _ _ _ _ _ w hw ?_
  cases w with
  | inl a => exact hm hK
  | inr b => cases hm; exact hK
set_option maxHeartbeats 4000000 in
set_option maxRecDepth 100000 in
theorem t_L_shore_224 (X2 : gX p s m args meth c D cy B (gSt2 Z B H0) RL cL_shore wsL_shore 9) (hr : meth.sig.returnType = (some (.object "TideLotsLaw$Sim"))) {Q : State → Prop} : ∀ (M : gMem) (kc : Nat) (kn : Nat) (x1 : Option Nat) (x2 : Option Nat) (x3 : Int32) (s0 : Option Nat) (s1 : Nat) (z : (gMem × Nat × Nat × Int32) ⊕ (Option Nat × gMem)), b_L_shore_224 Z M kc kn x1 x2 x3 s0 s1 = some z → (Sum.elim (fun (q : gMem × Nat × Nat × Int32) => gGo p l e rL_shore s m args below meth c D cy B H0 9 q.2.1 q.2.2.1 Q 25 [(0, vR (some (Z 400))), (1, vR x1), (2, vR x2), (3, vI q.2.2.2)] [] q.1) (fun (r : Option Nat × gMem) => Q = gMQ below D cy B H0 args s 800 1200000 (some (vR r.1)) r.2)) z → gGo p l e rL_shore s m args below meth c D cy B H0 9 kc kn Q 224 [(0, vR (some (Z 400))), (1, vR x1), (2, vR x2), (3, vI x3)] [vR (some (Z (100 + s1))), vR s0] M := by
  intro M kc kn x1 x2 x3 s0 s1 z hf hK
  unfold b_L_shore_224 at hf
  have X := gX_w X2
  obtain ⟨a336, ha336, hf⟩ := dr_e hf
  obtain ⟨hT337, hf⟩ := ck_e hf
  obtain ⟨hg338, hf⟩ := ck_e hf
  obtain ⟨r335, M335, hq335, hf⟩ := bd_e hf
  refine g_callV (ci := 12) (b := a336) (As := [vR (some (Z (100 + s1)))]) (st := []) (v := some (vR r335)) (M1 := M335) X2 (m_J4_append_15ec4_S l hq335) (cwV 1 X.2.2.1 gL_shore_J4_append_15ec4 rfl rfl rfl (by decide +kernel) ⟨Nat.le_of_ble_eq_true rfl, Nat.le_of_ble_eq_true rfl⟩) rfl rfl ha336 hT337 (by decide) rfl (Nat.le_of_ble_eq_true rfl) dL_shore_224 ⟨hg338.1, hg338.2⟩ ?_
  refine g_pop X dL_shore_227 rfl ?_
  refine g_iinc (v := (1 : Int32)) (lv' := [(3, vI (x3 + (1 : Int32))), (0, vR (some (Z 400))), (1, vR x1), (2, vR x2)]) X dL_shore_228 rfl (by decide) (by decide) rfl ?_
  refine g_goto (tgt := 25) X dL_shore_231 (by decide) ?_
  cases hf
  refine g_sub (lvsub_of _ _ [1, 2, 3, 0] rfl) ?_
  exact hK
set_option maxHeartbeats 4000000 in
set_option maxRecDepth 100000 in
theorem t_L_shore_188 (X2 : gX p s m args meth c D cy B (gSt2 Z B H0) RL cL_shore wsL_shore 9) (hr : meth.sig.returnType = (some (.object "TideLotsLaw$Sim"))) {Q : State → Prop} : ∀ (M : gMem) (kc : Nat) (kn : Nat) (x1 : Option Nat) (x2 : Option Nat) (x3 : Int32) (x4 : Int32) (x5 : Int32) (x6 : Int32) (s0 : Option Nat) (s1 : Nat) (z : (gMem × Nat × Nat × Int32) ⊕ ((gMem × Nat × Nat × Int32) ⊕ (Option Nat × gMem))), b_L_shore_188 Z M kc kn x1 x2 x3 x4 x5 x6 s0 s1 = some z → (Sum.elim (fun (q : gMem × Nat × Nat × Int32) => gGo p l e rL_shore s m args below meth c D cy B H0 9 q.2.1 q.2.2.1 Q 130 [(0, vR (some (Z 400))), (1, vR x1), (2, vR x2), (3, vI x3), (4, vI x4), (5, vI x5), (6, vI q.2.2.2)] [] q.1) (Sum.elim (fun (q : gMem × Nat × Nat × Int32) => gGo p l e rL_shore s m args below meth c D cy B H0 9 q.2.1 q.2.2.1 Q 25 [(0, vR (some (Z 400))), (1, vR x1), (2, vR x2), (3, vI q.2.2.2)] [] q.1) (fun (r : Option Nat × gMem) => Q = gMQ below D cy B H0 args s 800 1200000 (some (vR r.1)) r.2))) z → gGo p l e rL_shore s m args below meth c D cy B H0 9 kc kn Q 188 [(0, vR (some (Z 400))), (1, vR x1), (2, vR x2), (3, vI x3), (4, vI x4), (5, vI x5), (6, vI x6)] [vR (some (Z (100 + s1))), vR s0] M := by
  intro M kc kn x1 x2 x3 x4 x5 x6 s0 s1 z hf hK
  unfold b_L_shore_188 at hf
  have X := gX_w X2
  obtain ⟨a340, ha340, hf⟩ := dr_e hf
  obtain ⟨hT341, hf⟩ := ck_e hf
  obtain ⟨hg342, hf⟩ := ck_e hf
  obtain ⟨r339, M339, hq339, hf⟩ := bd_e hf
  refine g_callV (ci := 12) (b := a340) (As := [vR (some (Z (100 + s1)))]) (st := []) (v := some (vR r339)) (M1 := M339) X2 (m_J4_append_15ec4_S l hq339) (cwV 1 X.2.2.1 gL_shore_J4_append_15ec4 rfl rfl rfl (by decide +kernel) ⟨Nat.le_of_ble_eq_true rfl, Nat.le_of_ble_eq_true rfl⟩) rfl rfl ha340 hT341 (by decide) rfl (Nat.le_of_ble_eq_true rfl) dL_shore_188 ⟨hg342.1, hg342.2⟩ ?_
  refine g_aload_n X dL_shore_191 rfl rfl ?_
  obtain ⟨a343, ha343, hf⟩ := dr_e hf
  obtain ⟨hT344, hf⟩ := ck_e hf
  refine g_get (ci := 10) (v := vR (mR M339 a343 2)) 2 X cdX12 i_L_shore_X12 (by decide) k_L_shore_f128 rfl dL_shore_192 ha343 hT344 rfl ?_
  refine g_iload_n X dL_shore_195 rfl rfl ?_
  obtain ⟨a345, ha345, hf⟩ := dr_e hf
  obtain ⟨hT346, hf⟩ := ck_e hf
  obtain ⟨hg347, hf⟩ := ck_e hf
  refine g_aaldA X dL_shore_196 ha345 hT346 hg347 ?_
  refine g_iload X dL_shore_197 rfl ?_
  obtain ⟨a348, ha348, hf⟩ := dr_e hf
  obtain ⟨hT349, hf⟩ := ck_e hf
  obtain ⟨hg350, hf⟩ := ck_e hf
  refine g_iald X dL_shore_199 ha348 hT349 hg350 ?_
  obtain ⟨a352, ha352, hf⟩ := dr_e hf
  obtain ⟨hT353, hf⟩ := ck_e hf
  obtain ⟨hg354, hf⟩ := ck_e hf
  obtain ⟨r351, M351, hq351, hf⟩ := bd_e hf
  refine g_callV (ci := 12) (b := a352) (As := [vI (mI M339 a348 x6.toNatClampNeg)]) (st := []) (v := some (vR r351)) (M1 := M351) X2 (m_J4_append_bf812 l hq351) (cwV 1 X.2.2.1 gL_shore_J4_append_bf812 rfl rfl rfl (by decide +kernel) ⟨Nat.le_of_ble_eq_true rfl, Nat.le_of_ble_eq_true rfl⟩) rfl rfl ha352 hT353 (by decide) rfl (Nat.le_of_ble_eq_true rfl) dL_shore_200 ⟨hg354.1, hg354.2⟩ ?_
  refine g_pop X dL_shore_203 rfl ?_
  refine g_iinc (v := (1 : Int32)) (lv' := [(6, vI (x6 + (1 : Int32))), (0, vR (some (Z 400))), (1, vR x1), (2, vR x2), (3, vI x3), (4, vI x4), (5, vI x5)]) X dL_shore_204 rfl (by decide) (by decide) rfl ?_
  refine g_goto (tgt := 130) X dL_shore_207 (by decide) ?_
  cases hf
  refine g_sub (lvsub_of _ _ [1, 2, 3, 4, 5, 6, 0] rfl) ?_
  exact hK
set_option maxHeartbeats 4000000 in
set_option maxRecDepth 100000 in
theorem t_L_shore_170 (X2 : gX p s m args meth c D cy B (gSt2 Z B H0) RL cL_shore wsL_shore 9) (hr : meth.sig.returnType = (some (.object "TideLotsLaw$Sim"))) {Q : State → Prop} : ∀ (M : gMem) (kc : Nat) (kn : Nat) (x1 : Option Nat) (x2 : Option Nat) (x3 : Int32) (x4 : Int32) (x5 : Int32) (x6 : Int32) (s0 : Option Nat) (s1 : Int32) (s2 : Int32) (s3 : Int32) (z : (gMem × Nat × Nat × Int32) ⊕ ((gMem × Nat × Nat × Int32) ⊕ (Option Nat × gMem))), b_L_shore_170 Z M kc kn x1 x2 x3 x4 x5 x6 s0 s1 s2 s3 = some z → (Sum.elim (fun (q : gMem × Nat × Nat × Int32) => gGo p l e rL_shore s m args below meth c D cy B H0 9 q.2.1 q.2.2.1 Q 130 [(0, vR (some (Z 400))), (1, vR x1), (2, vR x2), (3, vI x3), (4, vI x4), (5, vI x5), (6, vI q.2.2.2)] [] q.1) (Sum.elim (fun (q : gMem × Nat × Nat × Int32) => gGo p l e rL_shore s m args below meth c D cy B H0 9 q.2.1 q.2.2.1 Q 25 [(0, vR (some (Z 400))), (1, vR x1), (2, vR x2), (3, vI q.2.2.2)] [] q.1) (fun (r : Option Nat × gMem) => Q = gMQ below D cy B H0 args s 800 1200000 (some (vR r.1)) r.2))) z → gGo p l e rL_shore s m args below meth c D cy B H0 9 kc kn Q 170 [(0, vR (some (Z 400))), (1, vR x1), (2, vR x2), (3, vI x3), (4, vI x4), (5, vI x5), (6, vI x6)] [vI s3, vI s2, vI s1, vR s0] M := by
  intro M kc kn x1 x2 x3 x4 x5 x6 s0 s1 s2 s3 z hf hK
  unfold b_L_shore_170 at hf
  have X := gX_w X2
  obtain ⟨hg356, hf⟩ := ck_e hf
  obtain ⟨r355, M355, hq355, hf⟩ := bd_e hf
  refine g_callS (As := [vI s2, vI s3]) (st := [vI s1, vR s0]) (v := some (vI r355)) (M1 := M355) X (m_L_below l hq355) (va_cwS 2 X.2.2.1 gL_shore_L_below rfl rfl rfl (by decide +kernel) ⟨Nat.le_of_ble_eq_true rfl, Nat.le_of_ble_eq_true rfl⟩) rfl rfl (Nat.le_of_ble_eq_true rfl) dL_shore_170 ⟨hg356.1, hg356.2⟩ ?_
  obtain ⟨a357, ha357, hf⟩ := dr_e hf
  obtain ⟨hT358, hf⟩ := ck_e hf
  obtain ⟨hg359, hf⟩ := ck_e hf
  refine g_iast X dL_shore_173 ha357 hT358 hg359 ?_
  obtain ⟨M360, hM360, hf⟩ := lw_e hf
  rw [← hM360]
  have hT361 : mT M360 a357 = 20 := by rw [hM360]; exact hT358
  refine g_aload_n X dL_shore_174 rfl rfl ?_
  refine g_iload X dL_shore_175 rfl ?_
  refine g_iconst (v := (1 : Int32)) X dL_shore_177 (by decide) ?_
  refine g_icmp_le (tgt := 186) X dL_shore_178 (by decide) (fun hc => ?_) (fun hc => ?_)
  · have hf := ife_t hc hf
    refine g_lds (q := Z (100 + 67)) X (gSt2_lit X2 (99, "", 67) (by decide +kernel)) dL_shore_186 ?_
    refine g_sub (lvsub_of _ _ [0, 1, 2, 3, 4, 5, 6] rfl) ?_
    exact t_L_shore_188 X2 hr _ _ _ _ _ _ _ _ _ _ _ _ hf hK
  · have hf := ife_f hc hf
    refine g_lds (q := Z (100 + 79)) X (gSt2_lit X2 (138, ",", 79) (by decide +kernel)) dL_shore_181 ?_
    refine g_goto (tgt := 188) X dL_shore_183 (by decide) ?_
    refine g_sub (lvsub_of _ _ [0, 1, 2, 3, 4, 5, 6] rfl) ?_
    exact t_L_shore_188 X2 hr _ _ _ _ _ _ _ _ _ _ _ _ hf hK
set_option maxHeartbeats 4000000 in
set_option maxRecDepth 100000 in
theorem tb_L_shore_130 (X2 : gX p s m args meth c D cy B (gSt2 Z B H0) RL cL_shore wsL_shore 9) (hr : meth.sig.returnType = (some (.object "TideLotsLaw$Sim"))) {Q : State → Prop} : ∀ (M : gMem) (kc : Nat) (kn : Nat) (x1 : Option Nat) (x2 : Option Nat) (x3 : Int32) (x4 : Int32) (x5 : Int32) (x6 : Int32) (z : (gMem × Nat × Nat × Int32) ⊕ ((gMem × Nat × Nat × Int32) ⊕ (Option Nat × gMem))), bb_L_shore_130 Z M kc kn x1 x2 x3 x4 x5 x6 = some z → (Sum.elim (fun (q : gMem × Nat × Nat × Int32) => gGo p l e rL_shore s m args below meth c D cy B H0 9 q.2.1 q.2.2.1 Q 130 [(0, vR (some (Z 400))), (1, vR x1), (2, vR x2), (3, vI x3), (4, vI x4), (5, vI x5), (6, vI q.2.2.2)] [] q.1) (Sum.elim (fun (q : gMem × Nat × Nat × Int32) => gGo p l e rL_shore s m args below meth c D cy B H0 9 q.2.1 q.2.2.1 Q 25 [(0, vR (some (Z 400))), (1, vR x1), (2, vR x2), (3, vI q.2.2.2)] [] q.1) (fun (r : Option Nat × gMem) => Q = gMQ below D cy B H0 args s 800 1200000 (some (vR r.1)) r.2))) z → gGo p l e rL_shore s m args below meth c D cy B H0 9 kc kn Q 130 [(0, vR (some (Z 400))), (1, vR x1), (2, vR x2), (3, vI x3), (4, vI x4), (5, vI x5), (6, vI x6)] [] M := by
  intro M kc kn x1 x2 x3 x4 x5 x6 z hf hK
  unfold bb_L_shore_130 at hf
  have X := gX_w X2
  refine g_iload X dL_shore_130 rfl ?_
  refine g_iload X dL_shore_132 rfl ?_
  refine g_icmp_gt (tgt := 210) X dL_shore_134 (by decide) (fun hc => ?_) (fun hc => ?_)
  · have hf := ife_t hc hf
    refine g_aload_n X dL_shore_210 rfl rfl ?_
    refine g_iload_n X dL_shore_211 rfl rfl ?_
    refine g_iconst (v := (2 : Int32)) X dL_shore_212 (by decide) ?_
    refine g_irem X dL_shore_213 (by decide) ?_
    refine g_if_ne (tgt := 222) X dL_shore_214 (by decide) (fun hc => ?_) (fun hc => ?_)
    · have hf := ife_f hc hf
      refine g_lds (q := Z (100 + 81)) X (gSt2_lit X2 (142, " ;\n", 81) (by decide +kernel)) dL_shore_222 ?_
      obtain ⟨w362, hw362, hz362⟩ := oI_e hf
      subst hz362
      have hf := hw362
      refine g_sub (lvsub_of _ _ [0, 1, 2, 3] rfl) ?_
      exact t_L_shore_224 X2 hr _ _ _ _ _ _ _ _ _ hf hK
    · have hf := ife_t hc hf
      refine g_lds (q := Z (100 + 80)) X (gSt2_lit X2 (140, ";", 80) (by decide +kernel)) dL_shore_217 ?_
      refine g_goto (tgt := 224) X dL_shore_219 (by decide) ?_
      obtain ⟨w363, hw363, hz363⟩ := oI_e hf
      subst hz363
      have hf := hw363
      refine g_sub (lvsub_of _ _ [0, 1, 2, 3] rfl) ?_
      exact t_L_shore_224 X2 hr _ _ _ _ _ _ _ _ _ hf hK
  · have hf := ife_f hc hf
    refine g_aload_n X dL_shore_137 rfl rfl ?_
    obtain ⟨a364, ha364, hf⟩ := dr_e hf
    obtain ⟨hT365, hf⟩ := ck_e hf
    refine g_get (ci := 10) (v := vR (mR M a364 2)) 2 X cdX12 i_L_shore_X12 (by decide) k_L_shore_f128 rfl dL_shore_138 ha364 hT365 rfl ?_
    refine g_iload_n X dL_shore_141 rfl rfl ?_
    obtain ⟨a366, ha366, hf⟩ := dr_e hf
    obtain ⟨hT367, hf⟩ := ck_e hf
    obtain ⟨hg368, hf⟩ := ck_e hf
    refine g_aaldA X dL_shore_142 ha366 hT367 hg368 ?_
    refine g_iload X dL_shore_143 rfl ?_
    refine g_iload X dL_shore_145 rfl ?_
    refine g_iconst (v := (2 : Int32)) X dL_shore_147 (by decide) ?_
    refine g_iload X dL_shore_148 rfl ?_
    refine g_imul X dL_shore_150 ?_
    refine g_ishr X dL_shore_151 ?_
    refine g_iload X dL_shore_152 rfl ?_
    refine g_iconst (v := (5 : Int32)) X dL_shore_154 (by decide) ?_
    refine g_ishr X dL_shore_155 ?_
    refine g_iconst (v := (2 : Int32)) X dL_shore_156 (by decide) ?_
    obtain ⟨hg370, hf⟩ := ck_e hf
    obtain ⟨r369, M369, hq369, hf⟩ := bd_e hf
    refine g_callS (As := [vI (x4 >>> ((5 : Int32) &&& 31)), vI (2 : Int32)]) (st := [vI (x4 >>> (((2 : Int32) * x6) &&& 31)), vI x6, vR (mR M a366 x3.toNatClampNeg)]) (v := some (vI r369)) (M1 := M369) X (m_L_below l hq369) (va_cwS 2 X.2.2.1 gL_shore_L_below rfl rfl rfl (by decide +kernel) ⟨Nat.le_of_ble_eq_true rfl, Nat.le_of_ble_eq_true rfl⟩) rfl rfl (Nat.le_of_ble_eq_true rfl) dL_shore_157 ⟨hg370.1, hg370.2⟩ ?_
    refine g_if_ne (tgt := 168) X dL_shore_160 (by decide) (fun hc => ?_) (fun hc => ?_)
    · have hf := ife_f hc hf
      refine g_bipush (v := (12 : Int32)) X dL_shore_168 (by decide) ?_
      refine g_sub (lvsub_of _ _ [0, 1, 2, 3, 4, 5, 6] rfl) ?_
      exact t_L_shore_170 X2 hr _ _ _ _ _ _ _ _ _ _ _ _ _ _ hf hK
    · have hf := ife_t hc hf
      refine g_bipush (v := (100 : Int32)) X dL_shore_163 (by decide) ?_
      refine g_goto (tgt := 170) X dL_shore_165 (by decide) ?_
      refine g_sub (lvsub_of _ _ [0, 1, 2, 3, 4, 5, 6] rfl) ?_
      exact t_L_shore_170 X2 hr _ _ _ _ _ _ _ _ _ _ _ _ _ _ hf hK
set_option maxHeartbeats 4000000 in
set_option maxRecDepth 100000 in
theorem tl_L_shore_130 (X2 : gX p s m args meth c D cy B (gSt2 Z B H0) RL cL_shore wsL_shore 9) (hr : meth.sig.returnType = (some (.object "TideLotsLaw$Sim"))) {Q : State → Prop} : ∀ (M : gMem) (kc : Nat) (kn : Nat) (x1 : Option Nat) (x2 : Option Nat) (x3 : Int32) (x4 : Int32) (x5 : Int32) (x6 : Int32) (z : (gMem × Nat × Nat × Int32) ⊕ (Option Nat × gMem)), lp_L_shore_130 Z M kc kn x1 x2 x3 x4 x5 x6 = some z → (Sum.elim (fun (q : gMem × Nat × Nat × Int32) => gGo p l e rL_shore s m args below meth c D cy B H0 9 q.2.1 q.2.2.1 Q 25 [(0, vR (some (Z 400))), (1, vR x1), (2, vR x2), (3, vI q.2.2.2)] [] q.1) (fun (r : Option Nat × gMem) => Q = gMQ below D cy B H0 args s 800 1200000 (some (vR r.1)) r.2)) z → gGo p l e rL_shore s m args below meth c D cy B H0 9 kc kn Q 130 [(0, vR (some (Z 400))), (1, vR x1), (2, vR x2), (3, vI x3), (4, vI x4), (5, vI x5), (6, vI x6)] [] M := by
  intro M kc kn x1 x2 x3 x4 x5 x6 z hf hK
  refine lp_ind (P := (fun (q : gMem × Nat × Nat × Int32) (z : (gMem × Nat × Nat × Int32) ⊕ (Option Nat × gMem)) => (Sum.elim (fun (q : gMem × Nat × Nat × Int32) => gGo p l e rL_shore s m args below meth c D cy B H0 9 q.2.1 q.2.2.1 Q 25 [(0, vR (some (Z 400))), (1, vR x1), (2, vR x2), (3, vI q.2.2.2)] [] q.1) (fun (r : Option Nat × gMem) => Q = gMQ below D cy B H0 args s 800 1200000 (some (vR r.1)) r.2)) z → gGo p l e rL_shore s m args below meth c D cy B H0 9 q.2.1 q.2.2.1 Q 130 [(0, vR (some (Z 400))), (1, vR x1), (2, vR x2), (3, vI x3), (4, vI x4), (5, vI x5), (6, vI q.2.2.2)] [] q.1)) (fun q z hq => ?_) _ _ hf hK
  intro hK
  obtain ⟨w, hw, hm⟩ := hq
  refine tb_L_shore_130 X2 hr _ _ _ _ _ _ _ _ _ w hw ?_
  cases w with
  | inl a => exact hm hK
  | inr b => cases hm; exact hK
set_option maxHeartbeats 4000000 in
set_option maxRecDepth 100000 in
theorem t_L_shore_78 (X2 : gX p s m args meth c D cy B (gSt2 Z B H0) RL cL_shore wsL_shore 9) (hr : meth.sig.returnType = (some (.object "TideLotsLaw$Sim"))) {Q : State → Prop} : ∀ (M : gMem) (kc : Nat) (kn : Nat) (x1 : Option Nat) (x2 : Option Nat) (x3 : Int32) (x4 : Int32) (s0 : Option Nat) (s1 : Int32) (s2 : Int32) (s3 : Int32) (s4 : Int32) (z : (gMem × Nat × Nat × Int32) ⊕ (Option Nat × gMem)), b_L_shore_78 Z M kc kn x1 x2 x3 x4 s0 s1 s2 s3 s4 = some z → (Sum.elim (fun (q : gMem × Nat × Nat × Int32) => gGo p l e rL_shore s m args below meth c D cy B H0 9 q.2.1 q.2.2.1 Q 25 [(0, vR (some (Z 400))), (1, vR x1), (2, vR x2), (3, vI q.2.2.2)] [] q.1) (fun (r : Option Nat × gMem) => Q = gMQ below D cy B H0 args s 800 1200000 (some (vR r.1)) r.2)) z → gGo p l e rL_shore s m args below meth c D cy B H0 9 kc kn Q 78 [(0, vR (some (Z 400))), (1, vR x1), (2, vR x2), (3, vI x3), (4, vI x4)] [vI s4, vI s3, vI s2, vI s1, vR s0] M := by
  intro M kc kn x1 x2 x3 x4 s0 s1 s2 s3 s4 z hf hK
  unfold b_L_shore_78 at hf
  have X := gX_w X2
  obtain ⟨hg372, hf⟩ := ck_e hf
  obtain ⟨r371, M371, hq371, hf⟩ := bd_e hf
  refine g_callS (As := [vI s3, vI s4]) (st := [vI s2, vI s1, vR s0]) (v := some (vI r371)) (M1 := M371) X (m_L_below l hq371) (va_cwS 2 X.2.2.1 gL_shore_L_below rfl rfl rfl (by decide +kernel) ⟨Nat.le_of_ble_eq_true rfl, Nat.le_of_ble_eq_true rfl⟩) rfl rfl (Nat.le_of_ble_eq_true rfl) dL_shore_78 ⟨hg372.1, hg372.2⟩ ?_
  refine g_iadd X dL_shore_81 ?_
  obtain ⟨a373, ha373, hf⟩ := dr_e hf
  obtain ⟨hT374, hf⟩ := ck_e hf
  obtain ⟨hg375, hf⟩ := ck_e hf
  refine g_iast X dL_shore_82 ha373 hT374 hg375 ?_
  obtain ⟨M376, hM376, hf⟩ := lw_e hf
  rw [← hM376]
  have hT377 : mT M376 a373 = 20 := by rw [hM376]; exact hT374
  refine g_aload_n X dL_shore_83 rfl rfl ?_
  refine g_lds (q := Z (100 + 76)) X (gSt2_lit X2 (132, "ground g", 76) (by decide +kernel)) dL_shore_84 ?_
  obtain ⟨a379, ha379, hf⟩ := dr_e hf
  obtain ⟨hT380, hf⟩ := ck_e hf
  obtain ⟨hg381, hf⟩ := ck_e hf
  obtain ⟨r378, M378, hq378, hf⟩ := bd_e hf
  refine g_callV (ci := 12) (b := a379) (As := [vR (some (Z (100 + 76)))]) (st := []) (v := some (vR r378)) (M1 := M378) X2 (m_J4_append_15ec4_S l hq378) (cwV 1 X.2.2.1 gL_shore_J4_append_15ec4 rfl rfl rfl (by decide +kernel) ⟨Nat.le_of_ble_eq_true rfl, Nat.le_of_ble_eq_true rfl⟩) rfl rfl ha379 hT380 (by decide) rfl (Nat.le_of_ble_eq_true rfl) dL_shore_86 ⟨hg381.1, hg381.2⟩ ?_
  refine g_iload_n X dL_shore_89 rfl rfl ?_
  obtain ⟨a383, ha383, hf⟩ := dr_e hf
  obtain ⟨hT384, hf⟩ := ck_e hf
  obtain ⟨hg385, hf⟩ := ck_e hf
  obtain ⟨r382, M382, hq382, hf⟩ := bd_e hf
  refine g_callV (ci := 12) (b := a383) (As := [vI x3]) (st := []) (v := some (vR r382)) (M1 := M382) X2 (m_J4_append_bf812 l hq382) (cwV 1 X.2.2.1 gL_shore_J4_append_bf812 rfl rfl rfl (by decide +kernel) ⟨Nat.le_of_ble_eq_true rfl, Nat.le_of_ble_eq_true rfl⟩) rfl rfl ha383 hT384 (by decide) rfl (Nat.le_of_ble_eq_true rfl) dL_shore_90 ⟨hg385.1, hg385.2⟩ ?_
  refine g_lds (q := Z (100 + 77)) X (gSt2_lit X2 (134, " room ", 77) (by decide +kernel)) dL_shore_93 ?_
  obtain ⟨a387, ha387, hf⟩ := dr_e hf
  obtain ⟨hT388, hf⟩ := ck_e hf
  obtain ⟨hg389, hf⟩ := ck_e hf
  obtain ⟨r386, M386, hq386, hf⟩ := bd_e hf
  refine g_callV (ci := 12) (b := a387) (As := [vR (some (Z (100 + 77)))]) (st := []) (v := some (vR r386)) (M1 := M386) X2 (m_J4_append_15ec4_S l hq386) (cwV 1 X.2.2.1 gL_shore_J4_append_15ec4 rfl rfl rfl (by decide +kernel) ⟨Nat.le_of_ble_eq_true rfl, Nat.le_of_ble_eq_true rfl⟩) rfl rfl ha387 hT388 (by decide) rfl (Nat.le_of_ble_eq_true rfl) dL_shore_95 ⟨hg389.1, hg389.2⟩ ?_
  refine g_aload_n X dL_shore_98 rfl rfl ?_
  obtain ⟨a390, ha390, hf⟩ := dr_e hf
  obtain ⟨hT391, hf⟩ := ck_e hf
  refine g_get (ci := 10) (v := vR (mR M386 a390 2)) 2 X cdX12 i_L_shore_X12 (by decide) k_L_shore_f128 rfl dL_shore_99 ha390 hT391 rfl ?_
  refine g_iload_n X dL_shore_102 rfl rfl ?_
  obtain ⟨a392, ha392, hf⟩ := dr_e hf
  obtain ⟨hT393, hf⟩ := ck_e hf
  obtain ⟨hg394, hf⟩ := ck_e hf
  refine g_aaldA X dL_shore_103 ha392 hT393 hg394 ?_
  refine g_iconst (v := (0 : Int32)) X dL_shore_104 (by decide) ?_
  obtain ⟨a395, ha395, hf⟩ := dr_e hf
  obtain ⟨hT396, hf⟩ := ck_e hf
  obtain ⟨hg397, hf⟩ := ck_e hf
  refine g_iald X dL_shore_105 ha395 hT396 hg397 ?_
  obtain ⟨a399, ha399, hf⟩ := dr_e hf
  obtain ⟨hT400, hf⟩ := ck_e hf
  obtain ⟨hg401, hf⟩ := ck_e hf
  obtain ⟨r398, M398, hq398, hf⟩ := bd_e hf
  refine g_callV (ci := 12) (b := a399) (As := [vI (mI M386 a395 ((0 : Int32)).toNatClampNeg)]) (st := []) (v := some (vR r398)) (M1 := M398) X2 (m_J4_append_bf812 l hq398) (cwV 1 X.2.2.1 gL_shore_J4_append_bf812 rfl rfl rfl (by decide +kernel) ⟨Nat.le_of_ble_eq_true rfl, Nat.le_of_ble_eq_true rfl⟩) rfl rfl ha399 hT400 (by decide) rfl (Nat.le_of_ble_eq_true rfl) dL_shore_106 ⟨hg401.1, hg401.2⟩ ?_
  refine g_lds (q := Z (100 + 78)) X (gSt2_lit X2 (136, " fish ", 78) (by decide +kernel)) dL_shore_109 ?_
  obtain ⟨a403, ha403, hf⟩ := dr_e hf
  obtain ⟨hT404, hf⟩ := ck_e hf
  obtain ⟨hg405, hf⟩ := ck_e hf
  obtain ⟨r402, M402, hq402, hf⟩ := bd_e hf
  refine g_callV (ci := 12) (b := a403) (As := [vR (some (Z (100 + 78)))]) (st := []) (v := some (vR r402)) (M1 := M402) X2 (m_J4_append_15ec4_S l hq402) (cwV 1 X.2.2.1 gL_shore_J4_append_15ec4 rfl rfl rfl (by decide +kernel) ⟨Nat.le_of_ble_eq_true rfl, Nat.le_of_ble_eq_true rfl⟩) rfl rfl ha403 hT404 (by decide) rfl (Nat.le_of_ble_eq_true rfl) dL_shore_111 ⟨hg405.1, hg405.2⟩ ?_
  refine g_pop X dL_shore_114 rfl ?_
  refine g_iconst (v := (1 : Int32)) X dL_shore_115 (by decide) ?_
  refine g_iload X dL_shore_116 rfl ?_
  refine g_iconst (v := (2 : Int32)) X dL_shore_118 (by decide) ?_
  refine g_ishr X dL_shore_119 ?_
  refine g_iconst (v := (5 : Int32)) X dL_shore_120 (by decide) ?_
  obtain ⟨hg407, hf⟩ := ck_e hf
  obtain ⟨r406, M406, hq406, hf⟩ := bd_e hf
  refine g_callS (As := [vI (x4 >>> ((2 : Int32) &&& 31)), vI (5 : Int32)]) (st := [vI (1 : Int32)]) (v := some (vI r406)) (M1 := M406) X (m_L_below l hq406) (va_cwS 2 X.2.2.1 gL_shore_L_below rfl rfl rfl (by decide +kernel) ⟨Nat.le_of_ble_eq_true rfl, Nat.le_of_ble_eq_true rfl⟩) rfl rfl (Nat.le_of_ble_eq_true rfl) dL_shore_121 ⟨hg407.1, hg407.2⟩ ?_
  refine g_iadd X dL_shore_124 ?_
  refine g_istore (lv' := [(5, vI ((1 : Int32) + r406)), (0, vR (some (Z 400))), (1, vR x1), (2, vR x2), (3, vI x3), (4, vI x4)]) X dL_shore_125 (by decide) rfl ?_
  refine g_iconst (v := (1 : Int32)) X dL_shore_127 (by decide) ?_
  refine g_istore (lv' := [(6, vI (1 : Int32)), (5, vI ((1 : Int32) + r406)), (0, vR (some (Z 400))), (1, vR x1), (2, vR x2), (3, vI x3), (4, vI x4)]) X dL_shore_128 (by decide) rfl ?_
  refine g_sub (lvsub_of _ _ [2, 3, 4, 5, 6, 1, 0] rfl) ?_
  exact tl_L_shore_130 X2 hr _ _ _ _ _ _ _ _ _ _ hf hK
set_option maxHeartbeats 4000000 in
set_option maxRecDepth 100000 in
theorem tb_L_shore_25 (X2 : gX p s m args meth c D cy B (gSt2 Z B H0) RL cL_shore wsL_shore 9) (hr : meth.sig.returnType = (some (.object "TideLotsLaw$Sim"))) {Q : State → Prop} : ∀ (M : gMem) (kc : Nat) (kn : Nat) (x1 : Option Nat) (x2 : Option Nat) (x3 : Int32) (z : (gMem × Nat × Nat × Int32) ⊕ (Option Nat × gMem)), bb_L_shore_25 Z M kc kn x1 x2 x3 = some z → (Sum.elim (fun (q : gMem × Nat × Nat × Int32) => gGo p l e rL_shore s m args below meth c D cy B H0 9 q.2.1 q.2.2.1 Q 25 [(0, vR (some (Z 400))), (1, vR x1), (2, vR x2), (3, vI q.2.2.2)] [] q.1) (fun (r : Option Nat × gMem) => Q = gMQ below D cy B H0 args s 800 1200000 (some (vR r.1)) r.2)) z → gGo p l e rL_shore s m args below meth c D cy B H0 9 kc kn Q 25 [(0, vR (some (Z 400))), (1, vR x1), (2, vR x2), (3, vI x3)] [] M := by
  intro M kc kn x1 x2 x3 z hf hK
  unfold bb_L_shore_25 at hf
  have X := gX_w X2
  refine g_iload_n X dL_shore_25 rfl rfl ?_
  refine g_aload_n X dL_shore_26 rfl rfl ?_
  obtain ⟨a408, ha408, hf⟩ := dr_e hf
  obtain ⟨hT409, hf⟩ := ck_e hf
  refine g_get (ci := 10) (v := vI (mI M a408 0)) 0 X cdX12 i_L_shore_X12 (by decide) k_L_shore_f41 rfl dL_shore_27 ha408 hT409 rfl ?_
  refine g_icmp_ge (tgt := 234) X dL_shore_30 (by decide) (fun hc => ?_) (fun hc => ?_)
  · have hf := ife_t hc hf
    refine g_aload_n X dL_shore_234 rfl rfl ?_
    refine g_iconst (v := (1 : Int32)) X dL_shore_235 (by decide) ?_
    refine g_aload_n X dL_shore_236 rfl rfl ?_
    refine g_iconst (v := (3 : Int32)) X dL_shore_237 (by decide) ?_
    obtain ⟨hg411, hf⟩ := ck_e hf
    obtain ⟨r410, M410, hq410, hf⟩ := bd_e hf
    refine g_callS (As := [vR (some (Z 400)), vI (3 : Int32)]) (st := [vI (1 : Int32), vR x2]) (v := some (vI r410)) (M1 := M410) X2 (m_L_cell l hq410) (va_cwS 2 X.2.2.1 gL_shore_L_cell rfl rfl rfl (by decide +kernel) ⟨Nat.le_of_ble_eq_true rfl, Nat.le_of_ble_eq_true rfl⟩) rfl rfl (Nat.le_of_ble_eq_true rfl) dL_shore_238 ⟨hg411.1, hg411.2⟩ ?_
    refine g_bipush (v := (6 : Int32)) X dL_shore_241 (by decide) ?_
    obtain ⟨hg413, hf⟩ := ck_e hf
    obtain ⟨r412, M412, hq412, hf⟩ := bd_e hf
    refine g_callS (As := [vI r410, vI (6 : Int32)]) (st := [vI (1 : Int32), vR x2]) (v := some (vI r412)) (M1 := M412) X (m_L_below l hq412) (va_cwS 2 X.2.2.1 gL_shore_L_below rfl rfl rfl (by decide +kernel) ⟨Nat.le_of_ble_eq_true rfl, Nat.le_of_ble_eq_true rfl⟩) rfl rfl (Nat.le_of_ble_eq_true rfl) dL_shore_243 ⟨hg413.1, hg413.2⟩ ?_
    refine g_iadd X dL_shore_246 ?_
    obtain ⟨hT414, hf⟩ := ck_e hf
    refine g_putI (ci := 10) 1 X cdX12 i_L_shore_X12 (by decide) k_L_shore_f56 rfl dL_shore_247 ha408 hT414 (Or.inl rfl) rfl rfl rfl ?_
    obtain ⟨M415, hM415, hf⟩ := lw_e hf
    rw [← hM415]
    have hT416 : mT M415 a408 = 11 := by rw [hM415]; exact hT414
    refine g_iconst (v := (0 : Int32)) X dL_shore_250 (by decide) ?_
    refine g_istore_n (lv' := [(3, vI (0 : Int32)), (0, vR (some (Z 400))), (1, vR x1), (2, vR x2)]) X dL_shore_251 rfl (by decide) rfl ?_
    obtain ⟨w417, hw417, hz417⟩ := oI_e hf
    subst hz417
    have hf := hw417
    refine g_sub (lvsub_of _ _ [1, 2, 3, 0] rfl) ?_
    exact tl_L_shore_252 X2 hr _ _ _ _ _ _ _ hf hK
  · have hf := ife_f hc hf
    refine g_aload_n X dL_shore_33 rfl rfl ?_
    refine g_iconst (v := (1 : Int32)) X dL_shore_34 (by decide) ?_
    refine g_iload_n X dL_shore_35 rfl rfl ?_
    refine g_iconst (v := (2 : Int32)) X dL_shore_36 (by decide) ?_
    refine g_irem X dL_shore_37 (by decide) ?_
    refine g_iadd X dL_shore_38 ?_
    obtain ⟨hg419, hf⟩ := ck_e hf
    obtain ⟨r418, M418, hq418, hf⟩ := bd_e hf
    refine g_callS (As := [vR (some (Z 400)), vI ((1 : Int32) + (x3 - x3 / (2 : Int32) * (2 : Int32)))]) (st := []) (v := some (vI r418)) (M1 := M418) X2 (m_L_cell l hq418) (va_cwS 2 X.2.2.1 gL_shore_L_cell rfl rfl rfl (by decide +kernel) ⟨Nat.le_of_ble_eq_true rfl, Nat.le_of_ble_eq_true rfl⟩) rfl rfl (Nat.le_of_ble_eq_true rfl) dL_shore_39 ⟨hg419.1, hg419.2⟩ ?_
    refine g_iload_n X dL_shore_42 rfl rfl ?_
    refine g_iconst (v := (2 : Int32)) X dL_shore_43 (by decide) ?_
    refine g_idiv X dL_shore_44 (by decide) ?_
    refine g_bipush (v := (7 : Int32)) X dL_shore_45 (by decide) ?_
    refine g_imul X dL_shore_47 ?_
    refine g_ishr X dL_shore_48 ?_
    refine g_istore (lv' := [(4, vI (r418 >>> (((x3 / (2 : Int32)) * (7 : Int32)) &&& 31))), (0, vR (some (Z 400))), (1, vR x1), (2, vR x2), (3, vI x3)]) X dL_shore_49 (by decide) rfl ?_
    refine g_aload_n X dL_shore_51 rfl rfl ?_
    obtain ⟨hT420, hf⟩ := ck_e hf
    refine g_get (ci := 10) (v := vR (mR M418 a408 2)) 2 X cdX12 i_L_shore_X12 (by decide) k_L_shore_f128 rfl dL_shore_52 ha408 hT420 rfl ?_
    refine g_iload_n X dL_shore_55 rfl rfl ?_
    obtain ⟨a421, ha421, hf⟩ := dr_e hf
    obtain ⟨hT422, hf⟩ := ck_e hf
    obtain ⟨hg423, hf⟩ := ck_e hf
    refine g_aaldA X dL_shore_56 ha421 hT422 hg423 ?_
    refine g_iconst (v := (0 : Int32)) X dL_shore_57 (by decide) ?_
    refine g_iconst (v := (1 : Int32)) X dL_shore_58 (by decide) ?_
    refine g_iload X dL_shore_59 rfl ?_
    refine g_iload X dL_shore_61 rfl ?_
    refine g_iconst (v := (4 : Int32)) X dL_shore_63 (by decide) ?_
    refine g_ishr X dL_shore_64 ?_
    refine g_iconst (v := (2 : Int32)) X dL_shore_65 (by decide) ?_
    obtain ⟨hg425, hf⟩ := ck_e hf
    obtain ⟨r424, M424, hq424, hf⟩ := bd_e hf
    refine g_callS (As := [vI ((r418 >>> (((x3 / (2 : Int32)) * (7 : Int32)) &&& 31)) >>> ((4 : Int32) &&& 31)), vI (2 : Int32)]) (st := [vI (r418 >>> (((x3 / (2 : Int32)) * (7 : Int32)) &&& 31)), vI (1 : Int32), vI (0 : Int32), vR (mR M418 a421 x3.toNatClampNeg)]) (v := some (vI r424)) (M1 := M424) X (m_L_below l hq424) (va_cwS 2 X.2.2.1 gL_shore_L_below rfl rfl rfl (by decide +kernel) ⟨Nat.le_of_ble_eq_true rfl, Nat.le_of_ble_eq_true rfl⟩) rfl rfl (Nat.le_of_ble_eq_true rfl) dL_shore_66 ⟨hg425.1, hg425.2⟩ ?_
    refine g_if_ne (tgt := 77) X dL_shore_69 (by decide) (fun hc => ?_) (fun hc => ?_)
    · have hf := ife_f hc hf
      refine g_iconst (v := (2 : Int32)) X dL_shore_77 (by decide) ?_
      refine g_sub (lvsub_of _ _ [1, 2, 3, 4, 0] rfl) ?_
      exact t_L_shore_78 X2 hr _ _ _ _ _ _ _ _ _ _ _ _ _ hf hK
    · have hf := ife_t hc hf
      refine g_bipush (v := (8 : Int32)) X dL_shore_72 (by decide) ?_
      refine g_goto (tgt := 78) X dL_shore_74 (by decide) ?_
      refine g_sub (lvsub_of _ _ [1, 2, 3, 4, 0] rfl) ?_
      exact t_L_shore_78 X2 hr _ _ _ _ _ _ _ _ _ _ _ _ _ hf hK
set_option maxHeartbeats 4000000 in
set_option maxRecDepth 100000 in
theorem tl_L_shore_25 (X2 : gX p s m args meth c D cy B (gSt2 Z B H0) RL cL_shore wsL_shore 9) (hr : meth.sig.returnType = (some (.object "TideLotsLaw$Sim"))) {Q : State → Prop} : ∀ (M : gMem) (kc : Nat) (kn : Nat) (x1 : Option Nat) (x2 : Option Nat) (x3 : Int32) (z : Option Nat × gMem), lp_L_shore_25 Z M kc kn x1 x2 x3 = some z → (fun (r : Option Nat × gMem) => Q = gMQ below D cy B H0 args s 800 1200000 (some (vR r.1)) r.2) z → gGo p l e rL_shore s m args below meth c D cy B H0 9 kc kn Q 25 [(0, vR (some (Z 400))), (1, vR x1), (2, vR x2), (3, vI x3)] [] M := by
  intro M kc kn x1 x2 x3 z hf hK
  refine lp_ind (P := (fun (q : gMem × Nat × Nat × Int32) (z : Option Nat × gMem) => (fun (r : Option Nat × gMem) => Q = gMQ below D cy B H0 args s 800 1200000 (some (vR r.1)) r.2) z → gGo p l e rL_shore s m args below meth c D cy B H0 9 q.2.1 q.2.2.1 Q 25 [(0, vR (some (Z 400))), (1, vR x1), (2, vR x2), (3, vI q.2.2.2)] [] q.1)) (fun q z hq => ?_) _ _ hf hK
  intro hK
  obtain ⟨w, hw, hm⟩ := hq
  refine tb_L_shore_25 X2 hr _ _ _ _ _ _ w hw ?_
  cases w with
  | inl a => exact hm hK
  | inr b => cases hm; exact hK
set_option maxHeartbeats 4000000 in
set_option maxRecDepth 100000 in
theorem t_L_shore_0 (X2 : gX p s m args meth c D cy B (gSt2 Z B H0) RL cL_shore wsL_shore 9) (hr : meth.sig.returnType = (some (.object "TideLotsLaw$Sim"))) {Q : State → Prop} : ∀ (M : gMem) (kc : Nat) (kn : Nat) (x1 : Option Nat) (z : Option Nat × gMem), b_L_shore_0 Z M kc kn x1 = some z → (fun (r : Option Nat × gMem) => Q = gMQ below D cy B H0 args s 800 1200000 (some (vR r.1)) r.2) z → gGo p l e rL_shore s m args below meth c D cy B H0 9 kc kn Q 0 [(0, vR (some (Z 400))), (1, vR x1)] [] M := by
  intro M kc kn x1 z hf hK
  unfold b_L_shore_0 at hf
  have X := gX_w X2
  obtain ⟨hg426, hf⟩ := ck_e hf
  refine g_new (ci := 10) X cdX12 i_L_shore_X12 k_L_shore_cl42 k_L_shore_inX12 k_L_shore_iiX12 (by intro i hi; rcases (show i = 0 ∨ i = 1 ∨ i = 2 ∨ i = 3 ∨ i = 4 ∨ i = 5 ∨ i = 6 ∨ i = 7 ∨ i = 8 ∨ i = 9 ∨ i = 10 ∨ i = 11 ∨ i = 12 ∨ i = 13 ∨ i = 14 ∨ i = 15 ∨ i = 16 ∨ i = 17 ∨ i = 18 ∨ i = 19 by omega) with rfl | rfl | rfl | rfl | rfl | rfl | rfl | rfl | rfl | rfl | rfl | rfl | rfl | rfl | rfl | rfl | rfl | rfl | rfl | rfl <;> rfl) ⟨hg426.1, hg426.2⟩ dL_shore_0 ?_
  obtain ⟨M427, hM427, hf⟩ := lw_e hf
  rw [← hM427]
  refine g_dup X dL_shore_3 rfl ?_
  obtain ⟨hg429, hf⟩ := ck_e hf
  obtain ⟨r428, M428, hq428, hf⟩ := bd_e hf
  refine g_callIN (b := (mN M)) (As := []) (st := [vR (some (mN M))]) (M1 := M428) X2 (m_X12_init l hq428) ⟨va_cnB 0 X.2.2.1 gL_shore_X12_init_n117 rfl rfl rfl (gNw X _ kn_L_117) (X.2.2.1 _ k_L_shore_iiX12) (by decide +kernel) ⟨Nat.le_of_ble_eq_true rfl, Nat.le_of_ble_eq_true rfl⟩, rfl, X.2.2.1 _ k_L_shore_imX12_init⟩ rfl rfl rfl (Nat.le_of_ble_eq_true rfl) dL_shore_4 ⟨hg429.1, hg429.2⟩ ?_
  refine g_astore_n (lv' := [(2, vR (some (mN M))), (0, vR (some (Z 400))), (1, vR x1)]) X dL_shore_7 rfl (by decide) rfl ?_
  refine g_aload_n X dL_shore_8 rfl rfl ?_
  refine g_iconst (v := (1 : Int32)) X dL_shore_9 (by decide) ?_
  refine g_aload_n X dL_shore_10 rfl rfl ?_
  refine g_iconst (v := (0 : Int32)) X dL_shore_11 (by decide) ?_
  obtain ⟨hg431, hf⟩ := ck_e hf
  obtain ⟨r430, M430, hq430, hf⟩ := bd_e hf
  refine g_callS (As := [vR (some (Z 400)), vI (0 : Int32)]) (st := [vI (1 : Int32), vR (some (mN M))]) (v := some (vI r430)) (M1 := M430) X2 (m_L_cell l hq430) (va_cwS 2 X.2.2.1 gL_shore_L_cell rfl rfl rfl (by decide +kernel) ⟨Nat.le_of_ble_eq_true rfl, Nat.le_of_ble_eq_true rfl⟩) rfl rfl (Nat.le_of_ble_eq_true rfl) dL_shore_12 ⟨hg431.1, hg431.2⟩ ?_
  refine g_iconst (v := (4 : Int32)) X dL_shore_15 (by decide) ?_
  obtain ⟨hg433, hf⟩ := ck_e hf
  obtain ⟨r432, M432, hq432, hf⟩ := bd_e hf
  refine g_callS (As := [vI r430, vI (4 : Int32)]) (st := [vI (1 : Int32), vR (some (mN M))]) (v := some (vI r432)) (M1 := M432) X (m_L_below l hq432) (va_cwS 2 X.2.2.1 gL_shore_L_below rfl rfl rfl (by decide +kernel) ⟨Nat.le_of_ble_eq_true rfl, Nat.le_of_ble_eq_true rfl⟩) rfl rfl (Nat.le_of_ble_eq_true rfl) dL_shore_16 ⟨hg433.1, hg433.2⟩ ?_
  refine g_iadd X dL_shore_19 ?_
  obtain ⟨hT434, hf⟩ := ck_e hf
  refine g_putI (ci := 10) 0 X cdX12 i_L_shore_X12 (by decide) k_L_shore_f41 rfl dL_shore_20 rfl hT434 (Or.inl rfl) rfl rfl rfl ?_
  obtain ⟨M435, hM435, hf⟩ := lw_e hf
  rw [← hM435]
  have hT436 : mT M435 (mN M) = 11 := by rw [hM435]; exact hT434
  refine g_iconst (v := (0 : Int32)) X dL_shore_23 (by decide) ?_
  refine g_istore_n (lv' := [(3, vI (0 : Int32)), (2, vR (some (mN M))), (0, vR (some (Z 400))), (1, vR x1)]) X dL_shore_24 rfl (by decide) rfl ?_
  refine g_sub (lvsub_of _ _ [2, 3, 1, 0] rfl) ?_
  exact tl_L_shore_25 X2 hr _ _ _ _ _ _ _ hf hK
set_option maxHeartbeats 4000000 in
set_option maxRecDepth 100000 in
theorem m_L_shore (l : Launch) {D : va_G} {cy : Nat → ClassId} {B : Nat} {H0 : Heap} {Z : Nat → Nat} {M M1 : gMem} {x1 : Option Nat} {r : Option Nat} (hf : f_L_shore Z M x1 = some (r, M1)) : Met l yL_shore wsL_shore rL_shore (va_Pc (List.map gv [vR (some (Z 400)), vR x1]) (gPre D cy B H0 (gSt2 Z B H0) M)) (gQ D cy B H0 (some (vR r)) M1) 800 1200000 (gA B) := by
  refine Met.ofW (cc := cL_shore) (maxL := 9) (ret := (some (.object "TideLotsLaw$Sim"))) (by decide) rfl ?_
  intro p e s m args below meth c s₁ Bd hml hv
  obtain ⟨rfl, hW, hKK, hFs⟩ := hv
  have X2 : gX p s m _ meth c D cy B (gSt2 Z B H0) RL cL_shore wsL_shore 9 := ⟨Bd.exec, Bd.bytes, atoms_spec (ws := wsL_shore) Bd.pre, findClass_of_methodNamed Bd.named, hml, hKK, by rw [hW.1]; exact hW.2.1, Bd.notSynchronized, hFs⟩
  have hr := Bd.returns
  rcases x1 with _ | x1
  · have hl := lv_entry ([.ref (Z 400), .null]) (n := 9) (Nat.le_of_ble_eq_true rfl)
    show W p l e rL_shore s m _ below meth c s.heap [] 0 0 _ (entryFrame m ([.ref (Z 400), .null] : List Value).toArray 9)
    rw [lg_entry_eq]
    generalize (lg_sl ([.ref (Z 400), .null]) ++ List.replicate (9 - (lg_sl ([.ref (Z 400), .null])).length) Slot.unset).toArray = ls at hl ⊢
    have hl : lv_has ls 9 (List.map gq [(0, vR (some (Z 400))), (1, vR none)]) := hl
    exact t_L_shore_0 X2 hr _ _ _ _ _ hf rfl s.heap [] ls hW va_S.rf (lv_has_sub hl (lvsub_of _ _ [0, 1] rfl))
  · have hl := lv_entry ([.ref (Z 400), .ref x1]) (n := 9) (Nat.le_of_ble_eq_true rfl)
    show W p l e rL_shore s m _ below meth c s.heap [] 0 0 _ (entryFrame m ([.ref (Z 400), .ref x1] : List Value).toArray 9)
    rw [lg_entry_eq]
    generalize (lg_sl ([.ref (Z 400), .ref x1]) ++ List.replicate (9 - (lg_sl ([.ref (Z 400), .ref x1])).length) Slot.unset).toArray = ls at hl ⊢
    have hl : lv_has ls 9 (List.map gq [(0, vR (some (Z 400))), (1, vR (some x1))]) := hl
    exact t_L_shore_0 X2 hr _ _ _ _ _ hf rfl s.heap [] ls hW va_S.rf (lv_has_sub hl (lvsub_of _ _ [0, 1] rfl))
end
