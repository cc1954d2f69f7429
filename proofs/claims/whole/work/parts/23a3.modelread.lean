section
variable {p : Program} {l : Launch} {e : Env} {s : State} {m : MethodId} {args : Array Value} {below : List Frame} {meth : Method} {c : Code} {D : va_G} {cy : Nat → ClassId} {B : Nat} {H0 : Heap} {Z : Nat → Nat}
/-! ## TideLotsModel.errorOf(I)I -/
theorem dX14_errorOf_0 : decode cX14_errorOf 0 = .ok (.aload_n 0, 1) := by decide +kernel
theorem dX14_errorOf_1 : decode cX14_errorOf 1 = .ok (.getfield 39, 3) := by decide +kernel
theorem dX14_errorOf_4 : decode cX14_errorOf 4 = .ok (.astore_n 2, 1) := by decide +kernel
theorem dX14_errorOf_5 : decode cX14_errorOf 5 = .ok (.aload_n 2, 1) := by decide +kernel
theorem dX14_errorOf_6 : decode cX14_errorOf 6 = .ok (.getfield 60, 3) := by decide +kernel
theorem dX14_errorOf_9 : decode cX14_errorOf 9 = .ok (.iconst 1, 1) := by decide +kernel
theorem dX14_errorOf_10 : decode cX14_errorOf 10 = .ok (.isub, 1) := by decide +kernel
theorem dX14_errorOf_11 : decode cX14_errorOf 11 = .ok (.istore_n 3, 1) := by decide +kernel
theorem dX14_errorOf_12 : decode cX14_errorOf 12 = .ok (.aload_n 2, 1) := by decide +kernel
theorem dX14_errorOf_13 : decode cX14_errorOf 13 = .ok (.getfield 67, 3) := by decide +kernel
theorem dX14_errorOf_16 : decode cX14_errorOf 16 = .ok (.iconst 1, 1) := by decide +kernel
theorem dX14_errorOf_17 : decode cX14_errorOf 17 = .ok (.isub, 1) := by decide +kernel
theorem dX14_errorOf_18 : decode cX14_errorOf 18 = .ok (.istore 4, 2) := by decide +kernel
theorem dX14_errorOf_20 : decode cX14_errorOf 20 = .ok (.aload_n 0, 1) := by decide +kernel
theorem dX14_errorOf_21 : decode cX14_errorOf 21 = .ok (.getfield 26, 3) := by decide +kernel
theorem dX14_errorOf_24 : decode cX14_errorOf 24 = .ok (.iload_n 1, 1) := by decide +kernel
theorem dX14_errorOf_25 : decode cX14_errorOf 25 = .ok (.iaload, 1) := by decide +kernel
theorem dX14_errorOf_26 : decode cX14_errorOf 26 = .ok (.tableswitch 473 1 15 #[74, 114, 149, 194, 217, 237, 284, 304, 325, 346, 374, 430, 402, 459, 466], 74) := by decide +kernel
theorem dX14_errorOf_100 : decode cX14_errorOf 100 = .ok (.aload_n 0, 1) := by decide +kernel
theorem dX14_errorOf_101 : decode cX14_errorOf 101 = .ok (.iload_n 1, 1) := by decide +kernel
theorem dX14_errorOf_102 : decode cX14_errorOf 102 = .ok (.iconst 1, 1) := by decide +kernel
theorem dX14_errorOf_103 : decode cX14_errorOf 103 = .ok (.invokevirtual 217, 3) := by decide +kernel
theorem dX14_errorOf_106 : decode cX14_errorOf 106 = .ok (.iconst (-1), 1) := by decide +kernel
theorem dX14_errorOf_107 : decode cX14_errorOf 107 = .ok (.if_icmp .eq 5, 3) := by decide +kernel
theorem dX14_errorOf_110 : decode cX14_errorOf 110 = .ok (.iconst 2, 1) := by decide +kernel
theorem dX14_errorOf_111 : decode cX14_errorOf 111 = .ok (.ireturn, 1) := by decide +kernel
theorem dX14_errorOf_112 : decode cX14_errorOf 112 = .ok (.aload_n 2, 1) := by decide +kernel
theorem dX14_errorOf_113 : decode cX14_errorOf 113 = .ok (.getfield 60, 3) := by decide +kernel
theorem dX14_errorOf_116 : decode cX14_errorOf 116 = .ok (.bipush 8, 2) := by decide +kernel
theorem dX14_errorOf_118 : decode cX14_errorOf 118 = .ok (.if_icmp .ne 5, 3) := by decide +kernel
theorem dX14_errorOf_121 : decode cX14_errorOf 121 = .ok (.iconst 4, 1) := by decide +kernel
theorem dX14_errorOf_122 : decode cX14_errorOf 122 = .ok (.ireturn, 1) := by decide +kernel
theorem dX14_errorOf_123 : decode cX14_errorOf 123 = .ok (.aload_n 2, 1) := by decide +kernel
theorem dX14_errorOf_124 : decode cX14_errorOf 124 = .ok (.dup, 1) := by decide +kernel
theorem dX14_errorOf_125 : decode cX14_errorOf 125 = .ok (.getfield 60, 3) := by decide +kernel
theorem dX14_errorOf_128 : decode cX14_errorOf 128 = .ok (.iconst 1, 1) := by decide +kernel
theorem dX14_errorOf_129 : decode cX14_errorOf 129 = .ok (.iadd, 1) := by decide +kernel
theorem dX14_errorOf_130 : decode cX14_errorOf 130 = .ok (.putfield 60, 3) := by decide +kernel
theorem dX14_errorOf_133 : decode cX14_errorOf 133 = .ok (.aload_n 2, 1) := by decide +kernel
theorem dX14_errorOf_134 : decode cX14_errorOf 134 = .ok (.iconst 0, 1) := by decide +kernel
theorem dX14_errorOf_135 : decode cX14_errorOf 135 = .ok (.putfield 219, 3) := by decide +kernel
theorem dX14_errorOf_138 : decode cX14_errorOf 138 = .ok (.iconst 0, 1) := by decide +kernel
theorem dX14_errorOf_139 : decode cX14_errorOf 139 = .ok (.ireturn, 1) := by decide +kernel
theorem dX14_errorOf_140 : decode cX14_errorOf 140 = .ok (.aload_n 0, 1) := by decide +kernel
theorem dX14_errorOf_141 : decode cX14_errorOf 141 = .ok (.iload_n 1, 1) := by decide +kernel
theorem dX14_errorOf_142 : decode cX14_errorOf 142 = .ok (.iconst 2, 1) := by decide +kernel
theorem dX14_errorOf_143 : decode cX14_errorOf 143 = .ok (.invokevirtual 217, 3) := by decide +kernel
theorem dX14_errorOf_146 : decode cX14_errorOf 146 = .ok (.iconst (-1), 1) := by decide +kernel
theorem dX14_errorOf_147 : decode cX14_errorOf 147 = .ok (.if_icmp .eq 5, 3) := by decide +kernel
theorem dX14_errorOf_150 : decode cX14_errorOf 150 = .ok (.iconst 2, 1) := by decide +kernel
theorem dX14_errorOf_151 : decode cX14_errorOf 151 = .ok (.ireturn, 1) := by decide +kernel
theorem dX14_errorOf_152 : decode cX14_errorOf 152 = .ok (.aload_n 2, 1) := by decide +kernel
theorem dX14_errorOf_153 : decode cX14_errorOf 153 = .ok (.getfield 67, 3) := by decide +kernel
theorem dX14_errorOf_156 : decode cX14_errorOf 156 = .ok (.bipush 8, 2) := by decide +kernel
theorem dX14_errorOf_158 : decode cX14_errorOf 158 = .ok (.if_icmp .ne 5, 3) := by decide +kernel
theorem dX14_errorOf_161 : decode cX14_errorOf 161 = .ok (.iconst 4, 1) := by decide +kernel
theorem dX14_errorOf_162 : decode cX14_errorOf 162 = .ok (.ireturn, 1) := by decide +kernel
theorem dX14_errorOf_163 : decode cX14_errorOf 163 = .ok (.aload_n 2, 1) := by decide +kernel
theorem dX14_errorOf_164 : decode cX14_errorOf 164 = .ok (.dup, 1) := by decide +kernel
theorem dX14_errorOf_165 : decode cX14_errorOf 165 = .ok (.getfield 67, 3) := by decide +kernel
theorem dX14_errorOf_168 : decode cX14_errorOf 168 = .ok (.iconst 1, 1) := by decide +kernel
theorem dX14_errorOf_169 : decode cX14_errorOf 169 = .ok (.iadd, 1) := by decide +kernel
theorem dX14_errorOf_170 : decode cX14_errorOf 170 = .ok (.putfield 67, 3) := by decide +kernel
theorem dX14_errorOf_173 : decode cX14_errorOf 173 = .ok (.iconst 0, 1) := by decide +kernel
theorem dX14_errorOf_174 : decode cX14_errorOf 174 = .ok (.ireturn, 1) := by decide +kernel
theorem dX14_errorOf_175 : decode cX14_errorOf 175 = .ok (.aload_n 0, 1) := by decide +kernel
theorem dX14_errorOf_176 : decode cX14_errorOf 176 = .ok (.iload_n 1, 1) := by decide +kernel
theorem dX14_errorOf_177 : decode cX14_errorOf 177 = .ok (.iconst 3, 1) := by decide +kernel
theorem dX14_errorOf_178 : decode cX14_errorOf 178 = .ok (.invokevirtual 217, 3) := by decide +kernel
theorem dX14_errorOf_181 : decode cX14_errorOf 181 = .ok (.iconst (-1), 1) := by decide +kernel
theorem dX14_errorOf_182 : decode cX14_errorOf 182 = .ok (.if_icmp .eq 5, 3) := by decide +kernel
theorem dX14_errorOf_185 : decode cX14_errorOf 185 = .ok (.iconst 2, 1) := by decide +kernel
theorem dX14_errorOf_186 : decode cX14_errorOf 186 = .ok (.ireturn, 1) := by decide +kernel
theorem dX14_errorOf_187 : decode cX14_errorOf 187 = .ok (.aload_n 2, 1) := by decide +kernel
theorem dX14_errorOf_188 : decode cX14_errorOf 188 = .ok (.getfield 222, 3) := by decide +kernel
theorem dX14_errorOf_191 : decode cX14_errorOf 191 = .ok (.bipush 6, 2) := by decide +kernel
theorem dX14_errorOf_193 : decode cX14_errorOf 193 = .ok (.if_icmp .ne 5, 3) := by decide +kernel
theorem dX14_errorOf_196 : decode cX14_errorOf 196 = .ok (.iconst 4, 1) := by decide +kernel
theorem dX14_errorOf_197 : decode cX14_errorOf 197 = .ok (.ireturn, 1) := by decide +kernel
theorem dX14_errorOf_198 : decode cX14_errorOf 198 = .ok (.aload_n 2, 1) := by decide +kernel
theorem dX14_errorOf_199 : decode cX14_errorOf 199 = .ok (.getfield 225, 3) := by decide +kernel
theorem dX14_errorOf_202 : decode cX14_errorOf 202 = .ok (.aload_n 2, 1) := by decide +kernel
theorem dX14_errorOf_203 : decode cX14_errorOf 203 = .ok (.getfield 222, 3) := by decide +kernel
theorem dX14_errorOf_206 : decode cX14_errorOf 206 = .ok (.iconst (-1), 1) := by decide +kernel
theorem dX14_errorOf_207 : decode cX14_errorOf 207 = .ok (.iastore, 1) := by decide +kernel
theorem dX14_errorOf_208 : decode cX14_errorOf 208 = .ok (.aload_n 2, 1) := by decide +kernel
theorem dX14_errorOf_209 : decode cX14_errorOf 209 = .ok (.dup, 1) := by decide +kernel
theorem dX14_errorOf_210 : decode cX14_errorOf 210 = .ok (.getfield 222, 3) := by decide +kernel
theorem dX14_errorOf_213 : decode cX14_errorOf 213 = .ok (.iconst 1, 1) := by decide +kernel
theorem dX14_errorOf_214 : decode cX14_errorOf 214 = .ok (.iadd, 1) := by decide +kernel
theorem dX14_errorOf_215 : decode cX14_errorOf 215 = .ok (.putfield 222, 3) := by decide +kernel
theorem dX14_errorOf_218 : decode cX14_errorOf 218 = .ok (.iconst 0, 1) := by decide +kernel
theorem dX14_errorOf_219 : decode cX14_errorOf 219 = .ok (.ireturn, 1) := by decide +kernel
theorem dX14_errorOf_220 : decode cX14_errorOf 220 = .ok (.aload_n 2, 1) := by decide +kernel
theorem dX14_errorOf_221 : decode cX14_errorOf 221 = .ok (.getfield 228, 3) := by decide +kernel
theorem dX14_errorOf_224 : decode cX14_errorOf 224 = .ok (.bipush 24, 2) := by decide +kernel
theorem dX14_errorOf_226 : decode cX14_errorOf 226 = .ok (.if_icmp .ne 5, 3) := by decide +kernel
theorem dX14_errorOf_229 : decode cX14_errorOf 229 = .ok (.iconst 4, 1) := by decide +kernel
theorem dX14_errorOf_230 : decode cX14_errorOf 230 = .ok (.ireturn, 1) := by decide +kernel
theorem dX14_errorOf_231 : decode cX14_errorOf 231 = .ok (.aload_n 2, 1) := by decide +kernel
theorem dX14_errorOf_232 : decode cX14_errorOf 232 = .ok (.dup, 1) := by decide +kernel
theorem dX14_errorOf_233 : decode cX14_errorOf 233 = .ok (.getfield 228, 3) := by decide +kernel
theorem dX14_errorOf_236 : decode cX14_errorOf 236 = .ok (.iconst 1, 1) := by decide +kernel
theorem dX14_errorOf_237 : decode cX14_errorOf 237 = .ok (.iadd, 1) := by decide +kernel
theorem dX14_errorOf_238 : decode cX14_errorOf 238 = .ok (.putfield 228, 3) := by decide +kernel
theorem dX14_errorOf_241 : decode cX14_errorOf 241 = .ok (.iconst 0, 1) := by decide +kernel
theorem dX14_errorOf_242 : decode cX14_errorOf 242 = .ok (.ireturn, 1) := by decide +kernel
theorem dX14_errorOf_243 : decode cX14_errorOf 243 = .ok (.aload_n 2, 1) := by decide +kernel
theorem dX14_errorOf_244 : decode cX14_errorOf 244 = .ok (.getfield 231, 3) := by decide +kernel
theorem dX14_errorOf_247 : decode cX14_errorOf 247 = .ok (.iload_n 3, 1) := by decide +kernel
theorem dX14_errorOf_248 : decode cX14_errorOf 248 = .ok (.aload_n 0, 1) := by decide +kernel
theorem dX14_errorOf_249 : decode cX14_errorOf 249 = .ok (.iload_n 1, 1) := by decide +kernel
theorem dX14_errorOf_250 : decode cX14_errorOf 250 = .ok (.invokevirtual 211, 3) := by decide +kernel
theorem dX14_errorOf_253 : decode cX14_errorOf 253 = .ok (.iastore, 1) := by decide +kernel
theorem dX14_errorOf_254 : decode cX14_errorOf 254 = .ok (.aload_n 0, 1) := by decide +kernel
theorem dX14_errorOf_255 : decode cX14_errorOf 255 = .ok (.iload_n 1, 1) := by decide +kernel
theorem dX14_errorOf_256 : decode cX14_errorOf 256 = .ok (.iconst 1, 1) := by decide +kernel
theorem dX14_errorOf_257 : decode cX14_errorOf 257 = .ok (.bipush 8, 2) := by decide +kernel
theorem dX14_errorOf_259 : decode cX14_errorOf 259 = .ok (.invokevirtual 234, 3) := by decide +kernel
theorem dX14_errorOf_262 : decode cX14_errorOf 262 = .ok (.ireturn, 1) := by decide +kernel
theorem dX14_errorOf_263 : decode cX14_errorOf 263 = .ok (.aload_n 2, 1) := by decide +kernel
theorem dX14_errorOf_264 : decode cX14_errorOf 264 = .ok (.getfield 219, 3) := by decide +kernel
theorem dX14_errorOf_267 : decode cX14_errorOf 267 = .ok (.iconst 5, 1) := by decide +kernel
theorem dX14_errorOf_268 : decode cX14_errorOf 268 = .ok (.if_icmp .ne 5, 3) := by decide +kernel
theorem dX14_errorOf_271 : decode cX14_errorOf 271 = .ok (.iconst 4, 1) := by decide +kernel
theorem dX14_errorOf_272 : decode cX14_errorOf 272 = .ok (.ireturn, 1) := by decide +kernel
theorem dX14_errorOf_273 : decode cX14_errorOf 273 = .ok (.aload_n 2, 1) := by decide +kernel
theorem dX14_errorOf_274 : decode cX14_errorOf 274 = .ok (.getfield 238, 3) := by decide +kernel
theorem dX14_errorOf_277 : decode cX14_errorOf 277 = .ok (.iconst 5, 1) := by decide +kernel
theorem dX14_errorOf_278 : decode cX14_errorOf 278 = .ok (.iload_n 3, 1) := by decide +kernel
theorem dX14_errorOf_279 : decode cX14_errorOf 279 = .ok (.imul, 1) := by decide +kernel
theorem dX14_errorOf_280 : decode cX14_errorOf 280 = .ok (.aload_n 2, 1) := by decide +kernel
theorem dX14_errorOf_281 : decode cX14_errorOf 281 = .ok (.getfield 219, 3) := by decide +kernel
theorem dX14_errorOf_284 : decode cX14_errorOf 284 = .ok (.iadd, 1) := by decide +kernel
theorem dX14_errorOf_285 : decode cX14_errorOf 285 = .ok (.aload_n 0, 1) := by decide +kernel
theorem dX14_errorOf_286 : decode cX14_errorOf 286 = .ok (.iload_n 1, 1) := by decide +kernel
theorem dX14_errorOf_287 : decode cX14_errorOf 287 = .ok (.invokevirtual 211, 3) := by decide +kernel
theorem dX14_errorOf_290 : decode cX14_errorOf 290 = .ok (.iastore, 1) := by decide +kernel
theorem dX14_errorOf_291 : decode cX14_errorOf 291 = .ok (.aload_n 2, 1) := by decide +kernel
theorem dX14_errorOf_292 : decode cX14_errorOf 292 = .ok (.dup, 1) := by decide +kernel
theorem dX14_errorOf_293 : decode cX14_errorOf 293 = .ok (.getfield 219, 3) := by decide +kernel
theorem dX14_errorOf_296 : decode cX14_errorOf 296 = .ok (.iconst 1, 1) := by decide +kernel
theorem dX14_errorOf_297 : decode cX14_errorOf 297 = .ok (.iadd, 1) := by decide +kernel
theorem dX14_errorOf_298 : decode cX14_errorOf 298 = .ok (.putfield 219, 3) := by decide +kernel
theorem dX14_errorOf_301 : decode cX14_errorOf 301 = .ok (.aload_n 0, 1) := by decide +kernel
theorem dX14_errorOf_302 : decode cX14_errorOf 302 = .ok (.iload_n 1, 1) := by decide +kernel
theorem dX14_errorOf_303 : decode cX14_errorOf 303 = .ok (.iconst 0, 1) := by decide +kernel
theorem dX14_errorOf_304 : decode cX14_errorOf 304 = .ok (.bipush 99, 2) := by decide +kernel
theorem dX14_errorOf_306 : decode cX14_errorOf 306 = .ok (.invokevirtual 234, 3) := by decide +kernel
theorem dX14_errorOf_309 : decode cX14_errorOf 309 = .ok (.ireturn, 1) := by decide +kernel
theorem dX14_errorOf_310 : decode cX14_errorOf 310 = .ok (.aload_n 2, 1) := by decide +kernel
theorem dX14_errorOf_311 : decode cX14_errorOf 311 = .ok (.getfield 241, 3) := by decide +kernel
theorem dX14_errorOf_314 : decode cX14_errorOf 314 = .ok (.iload 4, 2) := by decide +kernel
theorem dX14_errorOf_316 : decode cX14_errorOf 316 = .ok (.aload_n 0, 1) := by decide +kernel
theorem dX14_errorOf_317 : decode cX14_errorOf 317 = .ok (.iload_n 1, 1) := by decide +kernel
theorem dX14_errorOf_318 : decode cX14_errorOf 318 = .ok (.invokevirtual 211, 3) := by decide +kernel
theorem dX14_errorOf_321 : decode cX14_errorOf 321 = .ok (.iastore, 1) := by decide +kernel
theorem dX14_errorOf_322 : decode cX14_errorOf 322 = .ok (.aload_n 0, 1) := by decide +kernel
theorem dX14_errorOf_323 : decode cX14_errorOf 323 = .ok (.iload_n 1, 1) := by decide +kernel
theorem dX14_errorOf_324 : decode cX14_errorOf 324 = .ok (.iconst 1, 1) := by decide +kernel
theorem dX14_errorOf_325 : decode cX14_errorOf 325 = .ok (.iconst 5, 1) := by decide +kernel
theorem dX14_errorOf_326 : decode cX14_errorOf 326 = .ok (.invokevirtual 234, 3) := by decide +kernel
theorem dX14_errorOf_329 : decode cX14_errorOf 329 = .ok (.ireturn, 1) := by decide +kernel
theorem dX14_errorOf_330 : decode cX14_errorOf 330 = .ok (.aload_n 2, 1) := by decide +kernel
theorem dX14_errorOf_331 : decode cX14_errorOf 331 = .ok (.getfield 244, 3) := by decide +kernel
theorem dX14_errorOf_334 : decode cX14_errorOf 334 = .ok (.iload 4, 2) := by decide +kernel
theorem dX14_errorOf_336 : decode cX14_errorOf 336 = .ok (.aload_n 0, 1) := by decide +kernel
theorem dX14_errorOf_337 : decode cX14_errorOf 337 = .ok (.iload_n 1, 1) := by decide +kernel
theorem dX14_errorOf_338 : decode cX14_errorOf 338 = .ok (.invokevirtual 211, 3) := by decide +kernel
theorem dX14_errorOf_341 : decode cX14_errorOf 341 = .ok (.iastore, 1) := by decide +kernel
theorem dX14_errorOf_342 : decode cX14_errorOf 342 = .ok (.aload_n 0, 1) := by decide +kernel
theorem dX14_errorOf_343 : decode cX14_errorOf 343 = .ok (.iload_n 1, 1) := by decide +kernel
theorem dX14_errorOf_344 : decode cX14_errorOf 344 = .ok (.iconst 1, 1) := by decide +kernel
theorem dX14_errorOf_345 : decode cX14_errorOf 345 = .ok (.bipush 99, 2) := by decide +kernel
theorem dX14_errorOf_347 : decode cX14_errorOf 347 = .ok (.invokevirtual 234, 3) := by decide +kernel
theorem dX14_errorOf_350 : decode cX14_errorOf 350 = .ok (.ireturn, 1) := by decide +kernel
theorem dX14_errorOf_351 : decode cX14_errorOf 351 = .ok (.aload_n 2, 1) := by decide +kernel
theorem dX14_errorOf_352 : decode cX14_errorOf 352 = .ok (.getfield 247, 3) := by decide +kernel
theorem dX14_errorOf_355 : decode cX14_errorOf 355 = .ok (.iload 4, 2) := by decide +kernel
theorem dX14_errorOf_357 : decode cX14_errorOf 357 = .ok (.aload_n 0, 1) := by decide +kernel
theorem dX14_errorOf_358 : decode cX14_errorOf 358 = .ok (.iload_n 1, 1) := by decide +kernel
theorem dX14_errorOf_359 : decode cX14_errorOf 359 = .ok (.invokevirtual 211, 3) := by decide +kernel
theorem dX14_errorOf_362 : decode cX14_errorOf 362 = .ok (.iastore, 1) := by decide +kernel
theorem dX14_errorOf_363 : decode cX14_errorOf 363 = .ok (.aload_n 0, 1) := by decide +kernel
theorem dX14_errorOf_364 : decode cX14_errorOf 364 = .ok (.iload_n 1, 1) := by decide +kernel
theorem dX14_errorOf_365 : decode cX14_errorOf 365 = .ok (.iconst 1, 1) := by decide +kernel
theorem dX14_errorOf_366 : decode cX14_errorOf 366 = .ok (.bipush 40, 2) := by decide +kernel
theorem dX14_errorOf_368 : decode cX14_errorOf 368 = .ok (.invokevirtual 234, 3) := by decide +kernel
theorem dX14_errorOf_371 : decode cX14_errorOf 371 = .ok (.ireturn, 1) := by decide +kernel
theorem dX14_errorOf_372 : decode cX14_errorOf 372 = .ok (.aload_n 0, 1) := by decide +kernel
theorem dX14_errorOf_373 : decode cX14_errorOf 373 = .ok (.iload_n 1, 1) := by decide +kernel
theorem dX14_errorOf_374 : decode cX14_errorOf 374 = .ok (.iconst 2, 1) := by decide +kernel
theorem dX14_errorOf_375 : decode cX14_errorOf 375 = .ok (.invokevirtual 250, 3) := by decide +kernel
theorem dX14_errorOf_378 : decode cX14_errorOf 378 = .ok (.istore 5, 2) := by decide +kernel
theorem dX14_errorOf_380 : decode cX14_errorOf 380 = .ok (.aload_n 2, 1) := by decide +kernel
theorem dX14_errorOf_381 : decode cX14_errorOf 381 = .ok (.getfield 253, 3) := by decide +kernel
theorem dX14_errorOf_384 : decode cX14_errorOf 384 = .ok (.aload_n 2, 1) := by decide +kernel
theorem dX14_errorOf_385 : decode cX14_errorOf 385 = .ok (.getfield 228, 3) := by decide +kernel
theorem dX14_errorOf_388 : decode cX14_errorOf 388 = .ok (.iconst 1, 1) := by decide +kernel
theorem dX14_errorOf_389 : decode cX14_errorOf 389 = .ok (.isub, 1) := by decide +kernel
theorem dX14_errorOf_390 : decode cX14_errorOf 390 = .ok (.aload_n 0, 1) := by decide +kernel
theorem dX14_errorOf_391 : decode cX14_errorOf 391 = .ok (.getfield 29, 3) := by decide +kernel
theorem dX14_errorOf_394 : decode cX14_errorOf 394 = .ok (.iload_n 1, 1) := by decide +kernel
theorem dX14_errorOf_395 : decode cX14_errorOf 395 = .ok (.iaload, 1) := by decide +kernel
theorem dX14_errorOf_396 : decode cX14_errorOf 396 = .ok (.iastore, 1) := by decide +kernel
theorem dX14_errorOf_397 : decode cX14_errorOf 397 = .ok (.iload 5, 2) := by decide +kernel
theorem dX14_errorOf_399 : decode cX14_errorOf 399 = .ok (.ireturn, 1) := by decide +kernel
theorem dX14_errorOf_400 : decode cX14_errorOf 400 = .ok (.aload_n 0, 1) := by decide +kernel
theorem dX14_errorOf_401 : decode cX14_errorOf 401 = .ok (.iload_n 1, 1) := by decide +kernel
theorem dX14_errorOf_402 : decode cX14_errorOf 402 = .ok (.iconst 1, 1) := by decide +kernel
theorem dX14_errorOf_403 : decode cX14_errorOf 403 = .ok (.invokevirtual 250, 3) := by decide +kernel
theorem dX14_errorOf_406 : decode cX14_errorOf 406 = .ok (.istore 5, 2) := by decide +kernel
theorem dX14_errorOf_408 : decode cX14_errorOf 408 = .ok (.aload_n 2, 1) := by decide +kernel
theorem dX14_errorOf_409 : decode cX14_errorOf 409 = .ok (.getfield 256, 3) := by decide +kernel
theorem dX14_errorOf_412 : decode cX14_errorOf 412 = .ok (.aload_n 2, 1) := by decide +kernel
theorem dX14_errorOf_413 : decode cX14_errorOf 413 = .ok (.getfield 228, 3) := by decide +kernel
theorem dX14_errorOf_416 : decode cX14_errorOf 416 = .ok (.iconst 1, 1) := by decide +kernel
theorem dX14_errorOf_417 : decode cX14_errorOf 417 = .ok (.isub, 1) := by decide +kernel
theorem dX14_errorOf_418 : decode cX14_errorOf 418 = .ok (.aload_n 0, 1) := by decide +kernel
theorem dX14_errorOf_419 : decode cX14_errorOf 419 = .ok (.getfield 29, 3) := by decide +kernel
theorem dX14_errorOf_422 : decode cX14_errorOf 422 = .ok (.iload_n 1, 1) := by decide +kernel
theorem dX14_errorOf_423 : decode cX14_errorOf 423 = .ok (.iaload, 1) := by decide +kernel
theorem dX14_errorOf_424 : decode cX14_errorOf 424 = .ok (.iastore, 1) := by decide +kernel
theorem dX14_errorOf_425 : decode cX14_errorOf 425 = .ok (.iload 5, 2) := by decide +kernel
theorem dX14_errorOf_427 : decode cX14_errorOf 427 = .ok (.ireturn, 1) := by decide +kernel
theorem dX14_errorOf_428 : decode cX14_errorOf 428 = .ok (.aload_n 0, 1) := by decide +kernel
theorem dX14_errorOf_429 : decode cX14_errorOf 429 = .ok (.iload_n 1, 1) := by decide +kernel
theorem dX14_errorOf_430 : decode cX14_errorOf 430 = .ok (.iconst 1, 1) := by decide +kernel
theorem dX14_errorOf_431 : decode cX14_errorOf 431 = .ok (.invokevirtual 250, 3) := by decide +kernel
theorem dX14_errorOf_434 : decode cX14_errorOf 434 = .ok (.istore 5, 2) := by decide +kernel
theorem dX14_errorOf_436 : decode cX14_errorOf 436 = .ok (.aload_n 2, 1) := by decide +kernel
theorem dX14_errorOf_437 : decode cX14_errorOf 437 = .ok (.getfield 225, 3) := by decide +kernel
theorem dX14_errorOf_440 : decode cX14_errorOf 440 = .ok (.aload_n 2, 1) := by decide +kernel
theorem dX14_errorOf_441 : decode cX14_errorOf 441 = .ok (.getfield 222, 3) := by decide +kernel
theorem dX14_errorOf_444 : decode cX14_errorOf 444 = .ok (.iconst 1, 1) := by decide +kernel
theorem dX14_errorOf_445 : decode cX14_errorOf 445 = .ok (.isub, 1) := by decide +kernel
theorem dX14_errorOf_446 : decode cX14_errorOf 446 = .ok (.aload_n 0, 1) := by decide +kernel
theorem dX14_errorOf_447 : decode cX14_errorOf 447 = .ok (.getfield 29, 3) := by decide +kernel
theorem dX14_errorOf_450 : decode cX14_errorOf 450 = .ok (.iload_n 1, 1) := by decide +kernel
theorem dX14_errorOf_451 : decode cX14_errorOf 451 = .ok (.iaload, 1) := by decide +kernel
theorem dX14_errorOf_452 : decode cX14_errorOf 452 = .ok (.iastore, 1) := by decide +kernel
theorem dX14_errorOf_453 : decode cX14_errorOf 453 = .ok (.iload 5, 2) := by decide +kernel
theorem dX14_errorOf_455 : decode cX14_errorOf 455 = .ok (.ireturn, 1) := by decide +kernel
theorem dX14_errorOf_456 : decode cX14_errorOf 456 = .ok (.aload_n 0, 1) := by decide +kernel
theorem dX14_errorOf_457 : decode cX14_errorOf 457 = .ok (.iload_n 1, 1) := by decide +kernel
theorem dX14_errorOf_458 : decode cX14_errorOf 458 = .ok (.iconst 2, 1) := by decide +kernel
theorem dX14_errorOf_459 : decode cX14_errorOf 459 = .ok (.invokevirtual 250, 3) := by decide +kernel
theorem dX14_errorOf_462 : decode cX14_errorOf 462 = .ok (.istore 5, 2) := by decide +kernel
theorem dX14_errorOf_464 : decode cX14_errorOf 464 = .ok (.iload 5, 2) := by decide +kernel
theorem dX14_errorOf_466 : decode cX14_errorOf 466 = .ok (.ifCond .ne 16, 3) := by decide +kernel
theorem dX14_errorOf_469 : decode cX14_errorOf 469 = .ok (.aload_n 0, 1) := by decide +kernel
theorem dX14_errorOf_470 : decode cX14_errorOf 470 = .ok (.aload_n 0, 1) := by decide +kernel
theorem dX14_errorOf_471 : decode cX14_errorOf 471 = .ok (.getfield 29, 3) := by decide +kernel
theorem dX14_errorOf_474 : decode cX14_errorOf 474 = .ok (.iload_n 1, 1) := by decide +kernel
theorem dX14_errorOf_475 : decode cX14_errorOf 475 = .ok (.iaload, 1) := by decide +kernel
theorem dX14_errorOf_476 : decode cX14_errorOf 476 = .ok (.invokevirtual 259, 3) := by decide +kernel
theorem dX14_errorOf_479 : decode cX14_errorOf 479 = .ok (.goto 5, 3) := by decide +kernel
theorem dX14_errorOf_482 : decode cX14_errorOf 482 = .ok (.iload 5, 2) := by decide +kernel
theorem dX14_errorOf_484 : decode cX14_errorOf 484 = .ok (.ireturn, 1) := by decide +kernel
theorem dX14_errorOf_485 : decode cX14_errorOf 485 = .ok (.aload_n 0, 1) := by decide +kernel
theorem dX14_errorOf_486 : decode cX14_errorOf 486 = .ok (.iload_n 1, 1) := by decide +kernel
theorem dX14_errorOf_487 : decode cX14_errorOf 487 = .ok (.iconst 2, 1) := by decide +kernel
theorem dX14_errorOf_488 : decode cX14_errorOf 488 = .ok (.invokevirtual 250, 3) := by decide +kernel
theorem dX14_errorOf_491 : decode cX14_errorOf 491 = .ok (.ireturn, 1) := by decide +kernel
theorem dX14_errorOf_492 : decode cX14_errorOf 492 = .ok (.aload_n 0, 1) := by decide +kernel
theorem dX14_errorOf_493 : decode cX14_errorOf 493 = .ok (.iload_n 1, 1) := by decide +kernel
theorem dX14_errorOf_494 : decode cX14_errorOf 494 = .ok (.iconst 1, 1) := by decide +kernel
theorem dX14_errorOf_495 : decode cX14_errorOf 495 = .ok (.invokevirtual 250, 3) := by decide +kernel
theorem dX14_errorOf_498 : decode cX14_errorOf 498 = .ok (.ireturn, 1) := by decide +kernel
theorem dX14_errorOf_499 : decode cX14_errorOf 499 = .ok (.iconst 0, 1) := by decide +kernel
theorem dX14_errorOf_500 : decode cX14_errorOf 500 = .ok (.ireturn, 1) := by decide +kernel
set_option maxRecDepth 20000 in
theorem ggX14_errorOf_X14_told : GoodIn wsX14_errorOf wsX14_told := goodIn_rr wsB_X14_errorOf_in _ [(1, 7), (1, 1), (1, 8), (1, 9), (1, 10), (1, 6), (1, 11), (1, 12), (1, 13), (1, 14), (3, 0), (3, 1), (3, 2), (3, 3), (3, 4), (3, 5), (3, 6), (3, 7), (3, 8), (3, 9), (3, 10), (3, 11), (3, 12), (3, 13), (3, 14)] (by decide +kernel) (by decide +kernel)
set_option maxRecDepth 20000 in
theorem gX14_errorOf_X14_told : GoodIn wsX14_errorOf (wsV RX14 217 RX14 yX14_told wsX14_told) := goodIn_app (goodIn_rr wsB_X14_errorOf_in _ [(1, 3), (1, 4), (1, 5), (1, 6)] (by decide +kernel) (by decide +kernel)) ggX14_errorOf_X14_told
set_option maxRecDepth 20000 in
theorem ggX14_errorOf_X14_numberAt : GoodIn wsX14_errorOf wsX14_numberAt := goodIn_rr wsB_X14_errorOf_in _ [(1, 18), (1, 12), (1, 13), (1, 14), (3, 0), (3, 1), (3, 2), (3, 3), (3, 4), (3, 5), (3, 6), (3, 7), (3, 8), (3, 9), (3, 10), (3, 11), (3, 12), (3, 13), (3, 14)] (by decide +kernel) (by decide +kernel)
set_option maxRecDepth 20000 in
theorem gX14_errorOf_X14_numberAt : GoodIn wsX14_errorOf (wsV RX14 211 RX14 yX14_numberAt wsX14_numberAt) := goodIn_app (goodIn_rr wsB_X14_errorOf_in _ [(1, 15), (1, 16), (1, 17), (1, 6)] (by decide +kernel) (by decide +kernel)) ggX14_errorOf_X14_numberAt
set_option maxRecDepth 20000 in
theorem ggX14_errorOf_X14_inRange : GoodIn wsX14_errorOf wsX14_inRange := goodIn_rr wsB_X14_errorOf_in _ [(1, 22), (1, 15), (1, 16), (1, 17), (1, 6), (1, 18), (1, 12), (1, 13), (1, 14), (1, 23), (2, 0), (2, 1), (3, 0), (3, 1), (3, 2), (3, 3), (3, 4), (3, 5), (3, 6), (3, 7), (3, 8), (3, 9), (3, 10), (3, 11), (3, 12), (3, 13), (3, 14)] (by decide +kernel) (by decide +kernel)
set_option maxRecDepth 20000 in
theorem gX14_errorOf_X14_inRange : GoodIn wsX14_errorOf (wsV RX14 234 RX14 yX14_inRange wsX14_inRange) := goodIn_app (goodIn_rr wsB_X14_errorOf_in _ [(1, 19), (1, 20), (1, 21), (1, 6)] (by decide +kernel) (by decide +kernel)) ggX14_errorOf_X14_inRange
set_option maxRecDepth 20000 in
theorem ggX14_errorOf_X14_look : GoodIn wsX14_errorOf wsX14_look := goodIn_rr wsB_X14_errorOf_in _ [(2, 5), (1, 2), (1, 3), (1, 4), (1, 5), (1, 6), (1, 7), (1, 1), (1, 8), (1, 9), (1, 10), (1, 11), (1, 12), (1, 13), (1, 14), (3, 0), (3, 1), (3, 2), (3, 3), (3, 4), (3, 5), (3, 6), (3, 7), (3, 8), (3, 9), (3, 10), (3, 11), (3, 12), (3, 13), (3, 14)] (by decide +kernel) (by decide +kernel)
set_option maxRecDepth 20000 in
theorem gX14_errorOf_X14_look : GoodIn wsX14_errorOf (wsV RX14 250 RX14 yX14_look wsX14_look) := goodIn_app (goodIn_rr wsB_X14_errorOf_in _ [(2, 2), (2, 3), (2, 4), (1, 6)] (by decide +kernel) (by decide +kernel)) ggX14_errorOf_X14_look
set_option maxRecDepth 20000 in
theorem ggX14_errorOf_X14_member : GoodIn wsX14_errorOf wsX14_member := goodIn_2 24 (goodIn_rr wsB_X14_errorOf_in _ [(2, 9), (1, 0), (3, 0), (3, 1), (3, 2), (3, 3), (3, 4), (3, 5), (3, 6), (3, 7), (3, 8), (3, 9), (3, 10), (3, 11), (3, 12), (3, 13), (3, 14), (4, 0), (4, 1), (4, 2), (4, 3), (4, 4), (4, 5), (4, 6)] (by decide +kernel) (by decide +kernel)) (goodIn_rr wsB_X14_errorOf_in _ [(4, 7), (4, 8), (4, 9), (4, 10), (4, 11), (4, 12), (4, 13), (4, 14), (4, 15), (4, 16), (4, 17), (4, 18), (4, 19), (4, 20), (4, 21), (4, 22), (4, 23), (4, 24)] (by decide +kernel) (by decide +kernel))
set_option maxRecDepth 20000 in
theorem gX14_errorOf_X14_member : GoodIn wsX14_errorOf (wsV RX14 259 RX14 yX14_member wsX14_member) := goodIn_app (goodIn_rr wsB_X14_errorOf_in _ [(2, 6), (2, 7), (2, 8), (1, 6)] (by decide +kernel) (by decide +kernel)) ggX14_errorOf_X14_member
theorem k_X14_errorOf_f39 : Cond.fieldLink RX14 39 "TideLotsModel" "reading" "LTideLotsModel$Told;" ∈ wsX14_errorOf := by decide +kernel
theorem i_X14_errorOf_X14 : ∀ w ∈ u_ws RX14 TX14 15, w ∈ wsX14_errorOf := by decide +kernel
theorem i_X14_errorOf_X13 : ∀ w ∈ u_ws RX13 TX13 25, w ∈ wsX14_errorOf := by decide +kernel
theorem k_X14_errorOf_f26 : Cond.fieldLink RX14 26 "TideLotsModel" "role" "[I" ∈ wsX14_errorOf := by decide +kernel
theorem kn_X14_219 : Cond.fieldLinkNest "TideLotsModel" (219 : Nat) "TideLotsModel$Told" "sizes" "I" "TideLotsModel" ∈ gNs := by decide +kernel
theorem kn_X14_225 : Cond.fieldLinkNest "TideLotsModel" (225 : Nat) "TideLotsModel$Told" "spared" "[I" "TideLotsModel" ∈ gNs := by decide +kernel
theorem kn_X14_228 : Cond.fieldLinkNest "TideLotsModel" (228 : Nat) "TideLotsModel$Told" "goes" "I" "TideLotsModel" ∈ gNs := by decide +kernel
theorem kn_X14_231 : Cond.fieldLinkNest "TideLotsModel" (231 : Nat) "TideLotsModel$Told" "room" "[I" "TideLotsModel" ∈ gNs := by decide +kernel
theorem kn_X14_238 : Cond.fieldLinkNest "TideLotsModel" (238 : Nat) "TideLotsModel$Told" "fish" "[I" "TideLotsModel" ∈ gNs := by decide +kernel
theorem kn_X14_241 : Cond.fieldLinkNest "TideLotsModel" (241 : Nat) "TideLotsModel$Told" "mesh" "[I" "TideLotsModel" ∈ gNs := by decide +kernel
theorem kn_X14_244 : Cond.fieldLinkNest "TideLotsModel" (244 : Nat) "TideLotsModel$Told" "net" "[I" "TideLotsModel" ∈ gNs := by decide +kernel
theorem kn_X14_247 : Cond.fieldLinkNest "TideLotsModel" (247 : Nat) "TideLotsModel$Told" "hold" "[I" "TideLotsModel" ∈ gNs := by decide +kernel
theorem kn_X14_253 : Cond.fieldLinkNest "TideLotsModel" (253 : Nat) "TideLotsModel$Told" "goer" "[I" "TideLotsModel" ∈ gNs := by decide +kernel
theorem k_X14_errorOf_f29 : Cond.fieldLink RX14 29 "TideLotsModel" "meant" "[I" ∈ wsX14_errorOf := by decide +kernel
theorem kn_X14_256 : Cond.fieldLinkNest "TideLotsModel" (256 : Nat) "TideLotsModel$Told" "goal" "[I" "TideLotsModel" ∈ gNs := by decide +kernel
abbrev rX14_errorOf : Room := { frames := 3, cells := 0, slots := 0, locals := 69 }
noncomputable def b_X14_errorOf_484 (M : gMem) (s0 : Int32) : Option (Int32 × gMem) :=
  some (s0, M)
noncomputable def b_X14_errorOf_0 (M : gMem) (x0 : Nat) (x1 : Int32) : Option (Int32 × gMem) :=
  ck (mT M x0 = 13) <| dr ((mR M x0 12)) fun a2 => ck (mT M a2 = 12) <| dr ((mR M x0 7)) fun a4 => ck (mT M a4 = 20) <| ck (inb x1 (mL M a4)) <| (if (mI M a4 x1.toNatClampNeg) = (1 : Int32) then bd (f_X14_told M x0 x1 ((1 : Int32))) fun r8 M8 => (if r8 = (-1 : Int32) then ck (mT M8 a2 = 12) <| (if (mI M8 a2 0) = (8 : Int32) then some ((4 : Int32), M8) else lw (wI M8 a2 0 (((mI M8 a2 0) + (1 : Int32)))) fun M10 => lw (wI M10 a2 3 ((0 : Int32))) fun M12 => some ((0 : Int32), M12)) else some ((2 : Int32), M8)) else (if (mI M a4 x1.toNatClampNeg) = (2 : Int32) then bd (f_X14_told M x0 x1 ((2 : Int32))) fun r15 M15 => (if r15 = (-1 : Int32) then ck (mT M15 a2 = 12) <| (if (mI M15 a2 4) = (8 : Int32) then some ((4 : Int32), M15) else lw (wI M15 a2 4 (((mI M15 a2 4) + (1 : Int32)))) fun M17 => some ((0 : Int32), M17)) else some ((2 : Int32), M15)) else (if (mI M a4 x1.toNatClampNeg) = (3 : Int32) then bd (f_X14_told M x0 x1 ((3 : Int32))) fun r20 M20 => (if r20 = (-1 : Int32) then ck (mT M20 a2 = 12) <| (if (mI M20 a2 11) = (6 : Int32) then some ((4 : Int32), M20) else dr ((mR M20 a2 12)) fun a22 => ck (mT M20 a22 = 20) <| ck (inb (mI M20 a2 11) (mL M20 a22)) <| lw (wI M20 a22 ((mI M20 a2 11)).toNatClampNeg ((-1 : Int32))) fun M25 => lw (wI M25 a2 11 (((mI M25 a2 11) + (1 : Int32)))) fun M28 => some ((0 : Int32), M28)) else some ((2 : Int32), M20)) else (if (mI M a4 x1.toNatClampNeg) = (4 : Int32) then (if (mI M a2 8) = (24 : Int32) then some ((4 : Int32), M) else lw (wI M a2 8 (((mI M a2 8) + (1 : Int32)))) fun M32 => some ((0 : Int32), M32)) else (if (mI M a4 x1.toNatClampNeg) = (5 : Int32) then bd (f_X14_numberAt M x0 x1) fun r37 M37 => dr ((mR M a2 1)) fun a38 => ck (mT M37 a38 = 20) <| ck (inb ((mI M a2 0) - (1 : Int32)) (mL M37 a38)) <| lw (wI M37 a38 (((mI M a2 0) - (1 : Int32))).toNatClampNeg r37) fun M41 => ck (mT M41 x0 = 13) <| bd (f_X14_inRange M41 x0 x1 ((1 : Int32)) ((8 : Int32))) fun r43 M43 => some (r43, M43) else (if (mI M a4 x1.toNatClampNeg) = (6 : Int32) then (if (mI M a2 3) = (5 : Int32) then some ((4 : Int32), M) else bd (f_X14_numberAt M x0 x1) fun r46 M46 => dr ((mR M a2 2)) fun a47 => ck (mT M46 a47 = 20) <| ck (inb (((5 : Int32) * ((mI M a2 0) - (1 : Int32))) + (mI M a2 3)) (mL M46 a47)) <| lw (wI M46 a47 ((((5 : Int32) * ((mI M a2 0) - (1 : Int32))) + (mI M a2 3))).toNatClampNeg r46) fun M50 => ck (mT M50 a2 = 12) <| lw (wI M50 a2 3 (((mI M50 a2 3) + (1 : Int32)))) fun M53 => ck (mT M53 x0 = 13) <| bd (f_X14_inRange M53 x0 x1 ((0 : Int32)) ((99 : Int32))) fun r56 M56 => some (r56, M56)) else (if (mI M a4 x1.toNatClampNeg) = (7 : Int32) then bd (f_X14_numberAt M x0 x1) fun r59 M59 => dr ((mR M a2 5)) fun a60 => ck (mT M59 a60 = 20) <| ck (inb ((mI M a2 4) - (1 : Int32)) (mL M59 a60)) <| lw (wI M59 a60 (((mI M a2 4) - (1 : Int32))).toNatClampNeg r59) fun M63 => ck (mT M63 x0 = 13) <| bd (f_X14_inRange M63 x0 x1 ((1 : Int32)) ((5 : Int32))) fun r65 M65 => some (r65, M65) else (if (mI M a4 x1.toNatClampNeg) = (8 : Int32) then bd (f_X14_numberAt M x0 x1) fun r68 M68 => dr ((mR M a2 6)) fun a69 => ck (mT M68 a69 = 20) <| ck (inb ((mI M a2 4) - (1 : Int32)) (mL M68 a69)) <| lw (wI M68 a69 (((mI M a2 4) - (1 : Int32))).toNatClampNeg r68) fun M72 => ck (mT M72 x0 = 13) <| bd (f_X14_inRange M72 x0 x1 ((1 : Int32)) ((99 : Int32))) fun r74 M74 => some (r74, M74) else (if (mI M a4 x1.toNatClampNeg) = (9 : Int32) then bd (f_X14_numberAt M x0 x1) fun r77 M77 => dr ((mR M a2 7)) fun a78 => ck (mT M77 a78 = 20) <| ck (inb ((mI M a2 4) - (1 : Int32)) (mL M77 a78)) <| lw (wI M77 a78 (((mI M a2 4) - (1 : Int32))).toNatClampNeg r77) fun M81 => ck (mT M81 x0 = 13) <| bd (f_X14_inRange M81 x0 x1 ((1 : Int32)) ((40 : Int32))) fun r83 M83 => some (r83, M83) else (if (mI M a4 x1.toNatClampNeg) = (10 : Int32) then bd (f_X14_look M x0 x1 ((2 : Int32))) fun r86 M86 => ck (mT M86 a2 = 12) <| ck (mT M86 x0 = 13) <| dr ((mR M86 x0 8)) fun a89 => ck (mT M86 a89 = 20) <| ck (inb x1 (mL M86 a89)) <| dr ((mR M86 a2 9)) fun a92 => ck (mT M86 a92 = 20) <| ck (inb ((mI M86 a2 8) - (1 : Int32)) (mL M86 a92)) <| lw (wI M86 a92 (((mI M86 a2 8) - (1 : Int32))).toNatClampNeg ((mI M86 a89 x1.toNatClampNeg))) fun M95 => some (r86, M95) else (if (mI M a4 x1.toNatClampNeg) = (11 : Int32) then bd (f_X14_look M x0 x1 ((1 : Int32))) fun r101 M101 => ck (mT M101 a2 = 12) <| ck (mT M101 x0 = 13) <| dr ((mR M101 x0 8)) fun a104 => ck (mT M101 a104 = 20) <| ck (inb x1 (mL M101 a104)) <| dr ((mR M101 a2 10)) fun a107 => ck (mT M101 a107 = 20) <| ck (inb ((mI M101 a2 8) - (1 : Int32)) (mL M101 a107)) <| lw (wI M101 a107 (((mI M101 a2 8) - (1 : Int32))).toNatClampNeg ((mI M101 a104 x1.toNatClampNeg))) fun M110 => some (r101, M110) else (if (mI M a4 x1.toNatClampNeg) = (12 : Int32) then bd (f_X14_look M x0 x1 ((2 : Int32))) fun r116 M116 => (if r116 = 0 then ck (mT M116 x0 = 13) <| dr ((mR M116 x0 8)) fun a118 => ck (mT M116 a118 = 20) <| ck (inb x1 (mL M116 a118)) <| bd (f_X14_member M116 x0 ((mI M116 a118 x1.toNatClampNeg))) fun r121 M121 => b_X14_errorOf_484 M121 r121 else b_X14_errorOf_484 M116 r116) else (if (mI M a4 x1.toNatClampNeg) = (13 : Int32) then bd (f_X14_look M x0 x1 ((1 : Int32))) fun r123 M123 => ck (mT M123 a2 = 12) <| ck (mT M123 x0 = 13) <| dr ((mR M123 x0 8)) fun a126 => ck (mT M123 a126 = 20) <| ck (inb x1 (mL M123 a126)) <| dr ((mR M123 a2 12)) fun a129 => ck (mT M123 a129 = 20) <| ck (inb ((mI M123 a2 11) - (1 : Int32)) (mL M123 a129)) <| lw (wI M123 a129 (((mI M123 a2 11) - (1 : Int32))).toNatClampNeg ((mI M123 a126 x1.toNatClampNeg))) fun M132 => some (r123, M132) else (if (mI M a4 x1.toNatClampNeg) = (14 : Int32) then bd (f_X14_look M x0 x1 ((2 : Int32))) fun r138 M138 => some (r138, M138) else (if (mI M a4 x1.toNatClampNeg) = (15 : Int32) then bd (f_X14_look M x0 x1 ((1 : Int32))) fun r140 M140 => some (r140, M140) else some ((0 : Int32), M))))))))))))))))
noncomputable def f_X14_errorOf (M : gMem) (x0 : Nat) (x1 : Int32) : Option (Int32 × gMem) :=
  b_X14_errorOf_0 M x0 x1
set_option maxHeartbeats 4000000 in
set_option maxRecDepth 100000 in
theorem t_X14_errorOf_484 (X : gX p s m args meth c D cy B (gSt Z B H0) RX14 cX14_errorOf wsX14_errorOf 6) (hr : meth.sig.returnType = (some .int)) {Q : State → Prop} : ∀ (M : gMem) (s0 : Int32) (z : Int32 × gMem), b_X14_errorOf_484 M s0 = some z → (fun (r : Int32 × gMem) => Q = gMQ below D cy B H0 args s 0 0 (some (vI r.1)) r.2) z → gGo p l e rX14_errorOf s m args below meth c D cy B H0 6 0 0 Q 484 [] [vI s0] M := by
  intro M s0 z hf hK
  unfold b_X14_errorOf_484 at hf
  cases hf
  refine g_eqQ hK ?_
  exact g_iret X hr dX14_errorOf_484
set_option maxHeartbeats 4000000 in
set_option maxRecDepth 100000 in
theorem t_X14_errorOf_0 (X : gX p s m args meth c D cy B (gSt Z B H0) RX14 cX14_errorOf wsX14_errorOf 6) (hr : meth.sig.returnType = (some .int)) {Q : State → Prop} : ∀ (M : gMem) (x0 : Nat) (x1 : Int32) (z : Int32 × gMem), b_X14_errorOf_0 M x0 x1 = some z → (fun (r : Int32 × gMem) => Q = gMQ below D cy B H0 args s 0 0 (some (vI r.1)) r.2) z → gGo p l e rX14_errorOf s m args below meth c D cy B H0 6 0 0 Q 0 [(0, vR (some x0)), (1, vI x1)] [] M := by
  intro M x0 x1 z hf hK
  unfold b_X14_errorOf_0 at hf
  refine g_aload_n X dX14_errorOf_0 rfl rfl ?_
  obtain ⟨hT1, hf⟩ := ck_e hf
  refine g_get (ci := 12) (v := vR (mR M x0 12)) 12 X cdX14 i_X14_errorOf_X14 (by decide) k_X14_errorOf_f39 rfl dX14_errorOf_1 rfl hT1 rfl ?_
  refine g_astore_n (lv' := [(2, vR (mR M x0 12)), (0, vR (some x0)), (1, vI x1)]) X dX14_errorOf_4 rfl (by decide) rfl ?_
  refine g_aload_n X dX14_errorOf_5 rfl rfl ?_
  obtain ⟨a2, ha2, hf⟩ := dr_e hf
  obtain ⟨hT3, hf⟩ := ck_e hf
  refine g_getN (ci := 11) (w := vI (mI M a2 0)) 0 X cdX13 i_X14_errorOf_X13 (by decide) (gNw X _ kn_X14_60) rfl dX14_errorOf_6 ha2 hT3 rfl ?_
  refine g_iconst (v := (1 : Int32)) X dX14_errorOf_9 (by decide) ?_
  refine g_isub X dX14_errorOf_10 ?_
  refine g_istore_n (lv' := [(3, vI ((mI M a2 0) - (1 : Int32))), (2, vR (mR M x0 12)), (0, vR (some x0)), (1, vI x1)]) X dX14_errorOf_11 rfl (by decide) rfl ?_
  refine g_aload_n X dX14_errorOf_12 rfl rfl ?_
  refine g_getN (ci := 11) (w := vI (mI M a2 4)) 4 X cdX13 i_X14_errorOf_X13 (by decide) (gNw X _ kn_X14_67) rfl dX14_errorOf_13 ha2 hT3 rfl ?_
  refine g_iconst (v := (1 : Int32)) X dX14_errorOf_16 (by decide) ?_
  refine g_isub X dX14_errorOf_17 ?_
  refine g_istore (lv' := [(4, vI ((mI M a2 4) - (1 : Int32))), (3, vI ((mI M a2 0) - (1 : Int32))), (2, vR (mR M x0 12)), (0, vR (some x0)), (1, vI x1)]) X dX14_errorOf_18 (by decide) rfl ?_
  refine g_aload_n X dX14_errorOf_20 rfl rfl ?_
  refine g_get (ci := 12) (v := vR (mR M x0 7)) 7 X cdX14 i_X14_errorOf_X14 (by decide) k_X14_errorOf_f26 rfl dX14_errorOf_21 rfl hT1 rfl ?_
  refine g_iload_n X dX14_errorOf_24 rfl rfl ?_
  obtain ⟨a4, ha4, hf⟩ := dr_e hf
  obtain ⟨hT5, hf⟩ := ck_e hf
  obtain ⟨hg6, hf⟩ := ck_e hf
  refine g_iald X dX14_errorOf_25 ha4 hT5 hg6 ?_
  by_cases hs7 : (mI M a4 x1.toNatClampNeg) = (1 : Int32)
  · have hf := ife_t hs7 hf
    refine g_tabin (tgt := 100) X dX14_errorOf_26 hs7 (by decide) (by decide) rfl (by decide) ?_
    refine g_aload_n X dX14_errorOf_100 rfl rfl ?_
    refine g_iload_n X dX14_errorOf_101 rfl rfl ?_
    refine g_iconst (v := (1 : Int32)) X dX14_errorOf_102 (by decide) ?_
    obtain ⟨r8, M8, hq8, hf⟩ := bd_e hf
    refine g_callV (ci := 12) (b := x0) (As := [vI x1, vI (1 : Int32)]) (st := []) (v := some (vI r8)) (M1 := M8) X (m_X14_told l hq8) (cwV 2 X.2.2.1 gX14_errorOf_X14_told rfl rfl rfl (by decide +kernel) ⟨Nat.le_of_ble_eq_true rfl, Nat.le_of_ble_eq_true rfl⟩) rfl rfl rfl hT1 (by decide) rfl (Nat.le_of_ble_eq_true rfl) dX14_errorOf_103 ⟨by decide, by decide⟩ ?_
    refine g_iconst (v := (-1 : Int32)) X dX14_errorOf_106 (by decide) ?_
    refine g_icmp_eq (tgt := 112) X dX14_errorOf_107 (by decide) (fun hc => ?_) (fun hc => ?_)
    · have hf := ife_t hc hf
      refine g_aload_n X dX14_errorOf_112 rfl rfl ?_
      obtain ⟨hT9, hf⟩ := ck_e hf
      refine g_getN (ci := 11) (w := vI (mI M8 a2 0)) 0 X cdX13 i_X14_errorOf_X13 (by decide) (gNw X _ kn_X14_60) rfl dX14_errorOf_113 ha2 hT9 rfl ?_
      refine g_bipush (v := (8 : Int32)) X dX14_errorOf_116 (by decide) ?_
      refine g_icmp_ne (tgt := 123) X dX14_errorOf_118 (by decide) (fun hc => ?_) (fun hc => ?_)
      · have hf := ife_f hc hf
        refine g_aload_n X dX14_errorOf_123 rfl rfl ?_
        refine g_dup X dX14_errorOf_124 rfl ?_
        refine g_getN (ci := 11) (w := vI (mI M8 a2 0)) 0 X cdX13 i_X14_errorOf_X13 (by decide) (gNw X _ kn_X14_60) rfl dX14_errorOf_125 ha2 hT9 rfl ?_
        refine g_iconst (v := (1 : Int32)) X dX14_errorOf_128 (by decide) ?_
        refine g_iadd X dX14_errorOf_129 ?_
        refine g_putIN (ci := 11) 0 X cdX13 i_X14_errorOf_X13 (by decide) (gNw X _ kn_X14_60) rfl dX14_errorOf_130 ha2 hT9 rfl rfl rfl rfl ?_
        obtain ⟨M10, hM10, hf⟩ := lw_e hf
        rw [← hM10]
        have hT11 : mT M10 a2 = 12 := by rw [hM10]; exact hT9
        refine g_aload_n X dX14_errorOf_133 rfl rfl ?_
        refine g_iconst (v := (0 : Int32)) X dX14_errorOf_134 (by decide) ?_
        refine g_putIN (ci := 11) 3 X cdX13 i_X14_errorOf_X13 (by decide) (gNw X _ kn_X14_219) rfl dX14_errorOf_135 ha2 hT11 rfl rfl rfl rfl ?_
        obtain ⟨M12, hM12, hf⟩ := lw_e hf
        rw [← hM12]
        have hT13 : mT M12 a2 = 12 := by rw [hM12]; exact hT11
        refine g_iconst (v := (0 : Int32)) X dX14_errorOf_138 (by decide) ?_
        cases hf
        refine g_eqQ hK ?_
        exact g_iret X hr dX14_errorOf_139
      · have hf := ife_t hc hf
        refine g_iconst (v := (4 : Int32)) X dX14_errorOf_121 (by decide) ?_
        cases hf
        refine g_eqQ hK ?_
        exact g_iret X hr dX14_errorOf_122
    · have hf := ife_f hc hf
      refine g_iconst (v := (2 : Int32)) X dX14_errorOf_110 (by decide) ?_
      cases hf
      refine g_eqQ hK ?_
      exact g_iret X hr dX14_errorOf_111
  · have hf := ife_f hs7 hf
    by_cases hs14 : (mI M a4 x1.toNatClampNeg) = (2 : Int32)
    · have hf := ife_t hs14 hf
      refine g_tabin (tgt := 140) X dX14_errorOf_26 hs14 (by decide) (by decide) rfl (by decide) ?_
      refine g_aload_n X dX14_errorOf_140 rfl rfl ?_
      refine g_iload_n X dX14_errorOf_141 rfl rfl ?_
      refine g_iconst (v := (2 : Int32)) X dX14_errorOf_142 (by decide) ?_
      obtain ⟨r15, M15, hq15, hf⟩ := bd_e hf
      refine g_callV (ci := 12) (b := x0) (As := [vI x1, vI (2 : Int32)]) (st := []) (v := some (vI r15)) (M1 := M15) X (m_X14_told l hq15) (cwV 2 X.2.2.1 gX14_errorOf_X14_told rfl rfl rfl (by decide +kernel) ⟨Nat.le_of_ble_eq_true rfl, Nat.le_of_ble_eq_true rfl⟩) rfl rfl rfl hT1 (by decide) rfl (Nat.le_of_ble_eq_true rfl) dX14_errorOf_143 ⟨by decide, by decide⟩ ?_
      refine g_iconst (v := (-1 : Int32)) X dX14_errorOf_146 (by decide) ?_
      refine g_icmp_eq (tgt := 152) X dX14_errorOf_147 (by decide) (fun hc => ?_) (fun hc => ?_)
      · have hf := ife_t hc hf
        refine g_aload_n X dX14_errorOf_152 rfl rfl ?_
        obtain ⟨hT16, hf⟩ := ck_e hf
        refine g_getN (ci := 11) (w := vI (mI M15 a2 4)) 4 X cdX13 i_X14_errorOf_X13 (by decide) (gNw X _ kn_X14_67) rfl dX14_errorOf_153 ha2 hT16 rfl ?_
        refine g_bipush (v := (8 : Int32)) X dX14_errorOf_156 (by decide) ?_
        refine g_icmp_ne (tgt := 163) X dX14_errorOf_158 (by decide) (fun hc => ?_) (fun hc => ?_)
        · have hf := ife_f hc hf
          refine g_aload_n X dX14_errorOf_163 rfl rfl ?_
          refine g_dup X dX14_errorOf_164 rfl ?_
          refine g_getN (ci := 11) (w := vI (mI M15 a2 4)) 4 X cdX13 i_X14_errorOf_X13 (by decide) (gNw X _ kn_X14_67) rfl dX14_errorOf_165 ha2 hT16 rfl ?_
          refine g_iconst (v := (1 : Int32)) X dX14_errorOf_168 (by decide) ?_
          refine g_iadd X dX14_errorOf_169 ?_
          refine g_putIN (ci := 11) 4 X cdX13 i_X14_errorOf_X13 (by decide) (gNw X _ kn_X14_67) rfl dX14_errorOf_170 ha2 hT16 rfl rfl rfl rfl ?_
          obtain ⟨M17, hM17, hf⟩ := lw_e hf
          rw [← hM17]
          have hT18 : mT M17 a2 = 12 := by rw [hM17]; exact hT16
          refine g_iconst (v := (0 : Int32)) X dX14_errorOf_173 (by decide) ?_
          cases hf
          refine g_eqQ hK ?_
          exact g_iret X hr dX14_errorOf_174
        · have hf := ife_t hc hf
          refine g_iconst (v := (4 : Int32)) X dX14_errorOf_161 (by decide) ?_
          cases hf
          refine g_eqQ hK ?_
          exact g_iret X hr dX14_errorOf_162
      · have hf := ife_f hc hf
        refine g_iconst (v := (2 : Int32)) X dX14_errorOf_150 (by decide) ?_
        cases hf
        refine g_eqQ hK ?_
        exact g_iret X hr dX14_errorOf_151
    · have hf := ife_f hs14 hf
      by_cases hs19 : (mI M a4 x1.toNatClampNeg) = (3 : Int32)
      · have hf := ife_t hs19 hf
        refine g_tabin (tgt := 175) X dX14_errorOf_26 hs19 (by decide) (by decide) rfl (by decide) ?_
        refine g_aload_n X dX14_errorOf_175 rfl rfl ?_
        refine g_iload_n X dX14_errorOf_176 rfl rfl ?_
        refine g_iconst (v := (3 : Int32)) X dX14_errorOf_177 (by decide) ?_
        obtain ⟨r20, M20, hq20, hf⟩ := bd_e hf
        refine g_callV (ci := 12) (b := x0) (As := [vI x1, vI (3 : Int32)]) (st := []) (v := some (vI r20)) (M1 := M20) X (m_X14_told l hq20) (cwV 2 X.2.2.1 gX14_errorOf_X14_told rfl rfl rfl (by decide +kernel) ⟨Nat.le_of_ble_eq_true rfl, Nat.le_of_ble_eq_true rfl⟩) rfl rfl rfl hT1 (by decide) rfl (Nat.le_of_ble_eq_true rfl) dX14_errorOf_178 ⟨by decide, by decide⟩ ?_
        refine g_iconst (v := (-1 : Int32)) X dX14_errorOf_181 (by decide) ?_
        refine g_icmp_eq (tgt := 187) X dX14_errorOf_182 (by decide) (fun hc => ?_) (fun hc => ?_)
        · have hf := ife_t hc hf
          refine g_aload_n X dX14_errorOf_187 rfl rfl ?_
          obtain ⟨hT21, hf⟩ := ck_e hf
          refine g_getN (ci := 11) (w := vI (mI M20 a2 11)) 11 X cdX13 i_X14_errorOf_X13 (by decide) (gNw X _ kn_X14_222) rfl dX14_errorOf_188 ha2 hT21 rfl ?_
          refine g_bipush (v := (6 : Int32)) X dX14_errorOf_191 (by decide) ?_
          refine g_icmp_ne (tgt := 198) X dX14_errorOf_193 (by decide) (fun hc => ?_) (fun hc => ?_)
          · have hf := ife_f hc hf
            refine g_aload_n X dX14_errorOf_198 rfl rfl ?_
            refine g_getN (ci := 11) (w := vR (mR M20 a2 12)) 12 X cdX13 i_X14_errorOf_X13 (by decide) (gNw X _ kn_X14_225) rfl dX14_errorOf_199 ha2 hT21 rfl ?_
            refine g_aload_n X dX14_errorOf_202 rfl rfl ?_
            refine g_getN (ci := 11) (w := vI (mI M20 a2 11)) 11 X cdX13 i_X14_errorOf_X13 (by decide) (gNw X _ kn_X14_222) rfl dX14_errorOf_203 ha2 hT21 rfl ?_
            refine g_iconst (v := (-1 : Int32)) X dX14_errorOf_206 (by decide) ?_
            obtain ⟨a22, ha22, hf⟩ := dr_e hf
            obtain ⟨hT23, hf⟩ := ck_e hf
            obtain ⟨hg24, hf⟩ := ck_e hf
            refine g_iast X dX14_errorOf_207 ha22 hT23 hg24 ?_
            obtain ⟨M25, hM25, hf⟩ := lw_e hf
            rw [← hM25]
            have hT26 : mT M25 a2 = 12 := by rw [hM25]; exact hT21
            have hT27 : mT M25 a22 = 20 := by rw [hM25]; exact hT23
            refine g_aload_n X dX14_errorOf_208 rfl rfl ?_
            refine g_dup X dX14_errorOf_209 rfl ?_
            refine g_getN (ci := 11) (w := vI (mI M25 a2 11)) 11 X cdX13 i_X14_errorOf_X13 (by decide) (gNw X _ kn_X14_222) rfl dX14_errorOf_210 ha2 hT26 rfl ?_
            refine g_iconst (v := (1 : Int32)) X dX14_errorOf_213 (by decide) ?_
            refine g_iadd X dX14_errorOf_214 ?_
            refine g_putIN (ci := 11) 11 X cdX13 i_X14_errorOf_X13 (by decide) (gNw X _ kn_X14_222) rfl dX14_errorOf_215 ha2 hT26 rfl rfl rfl rfl ?_
            obtain ⟨M28, hM28, hf⟩ := lw_e hf
            rw [← hM28]
            have hT29 : mT M28 a2 = 12 := by rw [hM28]; exact hT26
            have hT30 : mT M28 a22 = 20 := by rw [hM28]; exact hT27
            refine g_iconst (v := (0 : Int32)) X dX14_errorOf_218 (by decide) ?_
            cases hf
            refine g_eqQ hK ?_
            exact g_iret X hr dX14_errorOf_219
          · have hf := ife_t hc hf
            refine g_iconst (v := (4 : Int32)) X dX14_errorOf_196 (by decide) ?_
            cases hf
            refine g_eqQ hK ?_
            exact g_iret X hr dX14_errorOf_197
        · have hf := ife_f hc hf
          refine g_iconst (v := (2 : Int32)) X dX14_errorOf_185 (by decide) ?_
          cases hf
          refine g_eqQ hK ?_
          exact g_iret X hr dX14_errorOf_186
      · have hf := ife_f hs19 hf
        by_cases hs31 : (mI M a4 x1.toNatClampNeg) = (4 : Int32)
        · have hf := ife_t hs31 hf
          refine g_tabin (tgt := 220) X dX14_errorOf_26 hs31 (by decide) (by decide) rfl (by decide) ?_
          refine g_aload_n X dX14_errorOf_220 rfl rfl ?_
          refine g_getN (ci := 11) (w := vI (mI M a2 8)) 8 X cdX13 i_X14_errorOf_X13 (by decide) (gNw X _ kn_X14_228) rfl dX14_errorOf_221 ha2 hT3 rfl ?_
          refine g_bipush (v := (24 : Int32)) X dX14_errorOf_224 (by decide) ?_
          refine g_icmp_ne (tgt := 231) X dX14_errorOf_226 (by decide) (fun hc => ?_) (fun hc => ?_)
          · have hf := ife_f hc hf
            refine g_aload_n X dX14_errorOf_231 rfl rfl ?_
            refine g_dup X dX14_errorOf_232 rfl ?_
            refine g_getN (ci := 11) (w := vI (mI M a2 8)) 8 X cdX13 i_X14_errorOf_X13 (by decide) (gNw X _ kn_X14_228) rfl dX14_errorOf_233 ha2 hT3 rfl ?_
            refine g_iconst (v := (1 : Int32)) X dX14_errorOf_236 (by decide) ?_
            refine g_iadd X dX14_errorOf_237 ?_
            refine g_putIN (ci := 11) 8 X cdX13 i_X14_errorOf_X13 (by decide) (gNw X _ kn_X14_228) rfl dX14_errorOf_238 ha2 hT3 rfl rfl rfl rfl ?_
            obtain ⟨M32, hM32, hf⟩ := lw_e hf
            rw [← hM32]
            have hT33 : mT M32 x0 = 13 := by rw [hM32]; exact hT1
            have hT34 : mT M32 a2 = 12 := by rw [hM32]; exact hT3
            have hT35 : mT M32 a4 = 20 := by rw [hM32]; exact hT5
            refine g_iconst (v := (0 : Int32)) X dX14_errorOf_241 (by decide) ?_
            cases hf
            refine g_eqQ hK ?_
            exact g_iret X hr dX14_errorOf_242
          · have hf := ife_t hc hf
            refine g_iconst (v := (4 : Int32)) X dX14_errorOf_229 (by decide) ?_
            cases hf
            refine g_eqQ hK ?_
            exact g_iret X hr dX14_errorOf_230
        · have hf := ife_f hs31 hf
          by_cases hs36 : (mI M a4 x1.toNatClampNeg) = (5 : Int32)
          · have hf := ife_t hs36 hf
            refine g_tabin (tgt := 243) X dX14_errorOf_26 hs36 (by decide) (by decide) rfl (by decide) ?_
            refine g_aload_n X dX14_errorOf_243 rfl rfl ?_
            refine g_getN (ci := 11) (w := vR (mR M a2 1)) 1 X cdX13 i_X14_errorOf_X13 (by decide) (gNw X _ kn_X14_231) rfl dX14_errorOf_244 ha2 hT3 rfl ?_
            refine g_iload_n X dX14_errorOf_247 rfl rfl ?_
            refine g_aload_n X dX14_errorOf_248 rfl rfl ?_
            refine g_iload_n X dX14_errorOf_249 rfl rfl ?_
            obtain ⟨r37, M37, hq37, hf⟩ := bd_e hf
            refine g_callV (ci := 12) (b := x0) (As := [vI x1]) (st := [vI ((mI M a2 0) - (1 : Int32)), vR (mR M a2 1)]) (v := some (vI r37)) (M1 := M37) X (m_X14_numberAt l hq37) (cwV 1 X.2.2.1 gX14_errorOf_X14_numberAt rfl rfl rfl (by decide +kernel) ⟨Nat.le_of_ble_eq_true rfl, Nat.le_of_ble_eq_true rfl⟩) rfl rfl rfl hT1 (by decide) rfl (Nat.le_of_ble_eq_true rfl) dX14_errorOf_250 ⟨by decide, by decide⟩ ?_
            obtain ⟨a38, ha38, hf⟩ := dr_e hf
            obtain ⟨hT39, hf⟩ := ck_e hf
            obtain ⟨hg40, hf⟩ := ck_e hf
            refine g_iast X dX14_errorOf_253 ha38 hT39 hg40 ?_
            obtain ⟨M41, hM41, hf⟩ := lw_e hf
            rw [← hM41]
            have hT42 : mT M41 a38 = 20 := by rw [hM41]; exact hT39
            refine g_aload_n X dX14_errorOf_254 rfl rfl ?_
            refine g_iload_n X dX14_errorOf_255 rfl rfl ?_
            refine g_iconst (v := (1 : Int32)) X dX14_errorOf_256 (by decide) ?_
            refine g_bipush (v := (8 : Int32)) X dX14_errorOf_257 (by decide) ?_
            obtain ⟨hT44, hf⟩ := ck_e hf
            obtain ⟨r43, M43, hq43, hf⟩ := bd_e hf
            refine g_callV (ci := 12) (b := x0) (As := [vI x1, vI (1 : Int32), vI (8 : Int32)]) (st := []) (v := some (vI r43)) (M1 := M43) X (m_X14_inRange l hq43) (cwV 3 X.2.2.1 gX14_errorOf_X14_inRange rfl rfl rfl (by decide +kernel) ⟨Nat.le_of_ble_eq_true rfl, Nat.le_of_ble_eq_true rfl⟩) rfl rfl rfl hT44 (by decide) rfl (Nat.le_of_ble_eq_true rfl) dX14_errorOf_259 ⟨by decide, by decide⟩ ?_
            cases hf
            refine g_eqQ hK ?_
            exact g_iret X hr dX14_errorOf_262
          · have hf := ife_f hs36 hf
            by_cases hs45 : (mI M a4 x1.toNatClampNeg) = (6 : Int32)
            · have hf := ife_t hs45 hf
              refine g_tabin (tgt := 263) X dX14_errorOf_26 hs45 (by decide) (by decide) rfl (by decide) ?_
              refine g_aload_n X dX14_errorOf_263 rfl rfl ?_
              refine g_getN (ci := 11) (w := vI (mI M a2 3)) 3 X cdX13 i_X14_errorOf_X13 (by decide) (gNw X _ kn_X14_219) rfl dX14_errorOf_264 ha2 hT3 rfl ?_
              refine g_iconst (v := (5 : Int32)) X dX14_errorOf_267 (by decide) ?_
              refine g_icmp_ne (tgt := 273) X dX14_errorOf_268 (by decide) (fun hc => ?_) (fun hc => ?_)
              · have hf := ife_f hc hf
                refine g_aload_n X dX14_errorOf_273 rfl rfl ?_
                refine g_getN (ci := 11) (w := vR (mR M a2 2)) 2 X cdX13 i_X14_errorOf_X13 (by decide) (gNw X _ kn_X14_238) rfl dX14_errorOf_274 ha2 hT3 rfl ?_
                refine g_iconst (v := (5 : Int32)) X dX14_errorOf_277 (by decide) ?_
                refine g_iload_n X dX14_errorOf_278 rfl rfl ?_
                refine g_imul X dX14_errorOf_279 ?_
                refine g_aload_n X dX14_errorOf_280 rfl rfl ?_
                refine g_getN (ci := 11) (w := vI (mI M a2 3)) 3 X cdX13 i_X14_errorOf_X13 (by decide) (gNw X _ kn_X14_219) rfl dX14_errorOf_281 ha2 hT3 rfl ?_
                refine g_iadd X dX14_errorOf_284 ?_
                refine g_aload_n X dX14_errorOf_285 rfl rfl ?_
                refine g_iload_n X dX14_errorOf_286 rfl rfl ?_
                obtain ⟨r46, M46, hq46, hf⟩ := bd_e hf
                refine g_callV (ci := 12) (b := x0) (As := [vI x1]) (st := [vI (((5 : Int32) * ((mI M a2 0) - (1 : Int32))) + (mI M a2 3)), vR (mR M a2 2)]) (v := some (vI r46)) (M1 := M46) X (m_X14_numberAt l hq46) (cwV 1 X.2.2.1 gX14_errorOf_X14_numberAt rfl rfl rfl (by decide +kernel) ⟨Nat.le_of_ble_eq_true rfl, Nat.le_of_ble_eq_true rfl⟩) rfl rfl rfl hT1 (by decide) rfl (Nat.le_of_ble_eq_true rfl) dX14_errorOf_287 ⟨by decide, by decide⟩ ?_
                obtain ⟨a47, ha47, hf⟩ := dr_e hf
                obtain ⟨hT48, hf⟩ := ck_e hf
                obtain ⟨hg49, hf⟩ := ck_e hf
                refine g_iast X dX14_errorOf_290 ha47 hT48 hg49 ?_
                obtain ⟨M50, hM50, hf⟩ := lw_e hf
                rw [← hM50]
                have hT51 : mT M50 a47 = 20 := by rw [hM50]; exact hT48
                refine g_aload_n X dX14_errorOf_291 rfl rfl ?_
                refine g_dup X dX14_errorOf_292 rfl ?_
                obtain ⟨hT52, hf⟩ := ck_e hf
                refine g_getN (ci := 11) (w := vI (mI M50 a2 3)) 3 X cdX13 i_X14_errorOf_X13 (by decide) (gNw X _ kn_X14_219) rfl dX14_errorOf_293 ha2 hT52 rfl ?_
                refine g_iconst (v := (1 : Int32)) X dX14_errorOf_296 (by decide) ?_
                refine g_iadd X dX14_errorOf_297 ?_
                refine g_putIN (ci := 11) 3 X cdX13 i_X14_errorOf_X13 (by decide) (gNw X _ kn_X14_219) rfl dX14_errorOf_298 ha2 hT52 rfl rfl rfl rfl ?_
                obtain ⟨M53, hM53, hf⟩ := lw_e hf
                rw [← hM53]
                have hT54 : mT M53 a47 = 20 := by rw [hM53]; exact hT51
                have hT55 : mT M53 a2 = 12 := by rw [hM53]; exact hT52
                refine g_aload_n X dX14_errorOf_301 rfl rfl ?_
                refine g_iload_n X dX14_errorOf_302 rfl rfl ?_
                refine g_iconst (v := (0 : Int32)) X dX14_errorOf_303 (by decide) ?_
                refine g_bipush (v := (99 : Int32)) X dX14_errorOf_304 (by decide) ?_
                obtain ⟨hT57, hf⟩ := ck_e hf
                obtain ⟨r56, M56, hq56, hf⟩ := bd_e hf
                refine g_callV (ci := 12) (b := x0) (As := [vI x1, vI (0 : Int32), vI (99 : Int32)]) (st := []) (v := some (vI r56)) (M1 := M56) X (m_X14_inRange l hq56) (cwV 3 X.2.2.1 gX14_errorOf_X14_inRange rfl rfl rfl (by decide +kernel) ⟨Nat.le_of_ble_eq_true rfl, Nat.le_of_ble_eq_true rfl⟩) rfl rfl rfl hT57 (by decide) rfl (Nat.le_of_ble_eq_true rfl) dX14_errorOf_306 ⟨by decide, by decide⟩ ?_
                cases hf
                refine g_eqQ hK ?_
                exact g_iret X hr dX14_errorOf_309
              · have hf := ife_t hc hf
                refine g_iconst (v := (4 : Int32)) X dX14_errorOf_271 (by decide) ?_
                cases hf
                refine g_eqQ hK ?_
                exact g_iret X hr dX14_errorOf_272
            · have hf := ife_f hs45 hf
              by_cases hs58 : (mI M a4 x1.toNatClampNeg) = (7 : Int32)
              · have hf := ife_t hs58 hf
                refine g_tabin (tgt := 310) X dX14_errorOf_26 hs58 (by decide) (by decide) rfl (by decide) ?_
                refine g_aload_n X dX14_errorOf_310 rfl rfl ?_
                refine g_getN (ci := 11) (w := vR (mR M a2 5)) 5 X cdX13 i_X14_errorOf_X13 (by decide) (gNw X _ kn_X14_241) rfl dX14_errorOf_311 ha2 hT3 rfl ?_
                refine g_iload X dX14_errorOf_314 rfl ?_
                refine g_aload_n X dX14_errorOf_316 rfl rfl ?_
                refine g_iload_n X dX14_errorOf_317 rfl rfl ?_
                obtain ⟨r59, M59, hq59, hf⟩ := bd_e hf
                refine g_callV (ci := 12) (b := x0) (As := [vI x1]) (st := [vI ((mI M a2 4) - (1 : Int32)), vR (mR M a2 5)]) (v := some (vI r59)) (M1 := M59) X (m_X14_numberAt l hq59) (cwV 1 X.2.2.1 gX14_errorOf_X14_numberAt rfl rfl rfl (by decide +kernel) ⟨Nat.le_of_ble_eq_true rfl, Nat.le_of_ble_eq_true rfl⟩) rfl rfl rfl hT1 (by decide) rfl (Nat.le_of_ble_eq_true rfl) dX14_errorOf_318 ⟨by decide, by decide⟩ ?_
                obtain ⟨a60, ha60, hf⟩ := dr_e hf
                obtain ⟨hT61, hf⟩ := ck_e hf
                obtain ⟨hg62, hf⟩ := ck_e hf
                refine g_iast X dX14_errorOf_321 ha60 hT61 hg62 ?_
                obtain ⟨M63, hM63, hf⟩ := lw_e hf
                rw [← hM63]
                have hT64 : mT M63 a60 = 20 := by rw [hM63]; exact hT61
                refine g_aload_n X dX14_errorOf_322 rfl rfl ?_
                refine g_iload_n X dX14_errorOf_323 rfl rfl ?_
                refine g_iconst (v := (1 : Int32)) X dX14_errorOf_324 (by decide) ?_
                refine g_iconst (v := (5 : Int32)) X dX14_errorOf_325 (by decide) ?_
                obtain ⟨hT66, hf⟩ := ck_e hf
                obtain ⟨r65, M65, hq65, hf⟩ := bd_e hf
                refine g_callV (ci := 12) (b := x0) (As := [vI x1, vI (1 : Int32), vI (5 : Int32)]) (st := []) (v := some (vI r65)) (M1 := M65) X (m_X14_inRange l hq65) (cwV 3 X.2.2.1 gX14_errorOf_X14_inRange rfl rfl rfl (by decide +kernel) ⟨Nat.le_of_ble_eq_true rfl, Nat.le_of_ble_eq_true rfl⟩) rfl rfl rfl hT66 (by decide) rfl (Nat.le_of_ble_eq_true rfl) dX14_errorOf_326 ⟨by decide, by decide⟩ ?_
                cases hf
                refine g_eqQ hK ?_
                exact g_iret X hr dX14_errorOf_329
              · have hf := ife_f hs58 hf
                by_cases hs67 : (mI M a4 x1.toNatClampNeg) = (8 : Int32)
                · have hf := ife_t hs67 hf
                  refine g_tabin (tgt := 330) X dX14_errorOf_26 hs67 (by decide) (by decide) rfl (by decide) ?_
                  refine g_aload_n X dX14_errorOf_330 rfl rfl ?_
                  refine g_getN (ci := 11) (w := vR (mR M a2 6)) 6 X cdX13 i_X14_errorOf_X13 (by decide) (gNw X _ kn_X14_244) rfl dX14_errorOf_331 ha2 hT3 rfl ?_
                  refine g_iload X dX14_errorOf_334 rfl ?_
                  refine g_aload_n X dX14_errorOf_336 rfl rfl ?_
                  refine g_iload_n X dX14_errorOf_337 rfl rfl ?_
                  obtain ⟨r68, M68, hq68, hf⟩ := bd_e hf
                  refine g_callV (ci := 12) (b := x0) (As := [vI x1]) (st := [vI ((mI M a2 4) - (1 : Int32)), vR (mR M a2 6)]) (v := some (vI r68)) (M1 := M68) X (m_X14_numberAt l hq68) (cwV 1 X.2.2.1 gX14_errorOf_X14_numberAt rfl rfl rfl (by decide +kernel) ⟨Nat.le_of_ble_eq_true rfl, Nat.le_of_ble_eq_true rfl⟩) rfl rfl rfl hT1 (by decide) rfl (Nat.le_of_ble_eq_true rfl) dX14_errorOf_338 ⟨by decide, by decide⟩ ?_
                  obtain ⟨a69, ha69, hf⟩ := dr_e hf
                  obtain ⟨hT70, hf⟩ := ck_e hf
                  obtain ⟨hg71, hf⟩ := ck_e hf
                  refine g_iast X dX14_errorOf_341 ha69 hT70 hg71 ?_
                  obtain ⟨M72, hM72, hf⟩ := lw_e hf
                  rw [← hM72]
                  have hT73 : mT M72 a69 = 20 := by rw [hM72]; exact hT70
                  refine g_aload_n X dX14_errorOf_342 rfl rfl ?_
                  refine g_iload_n X dX14_errorOf_343 rfl rfl ?_
                  refine g_iconst (v := (1 : Int32)) X dX14_errorOf_344 (by decide) ?_
                  refine g_bipush (v := (99 : Int32)) X dX14_errorOf_345 (by decide) ?_
                  obtain ⟨hT75, hf⟩ := ck_e hf
                  obtain ⟨r74, M74, hq74, hf⟩ := bd_e hf
                  refine g_callV (ci := 12) (b := x0) (As := [vI x1, vI (1 : Int32), vI (99 : Int32)]) (st := []) (v := some (vI r74)) (M1 := M74) X (m_X14_inRange l hq74) (cwV 3 X.2.2.1 gX14_errorOf_X14_inRange rfl rfl rfl (by decide +kernel) ⟨Nat.le_of_ble_eq_true rfl, Nat.le_of_ble_eq_true rfl⟩) rfl rfl rfl hT75 (by decide) rfl (Nat.le_of_ble_eq_true rfl) dX14_errorOf_347 ⟨by decide, by decide⟩ ?_
                  cases hf
                  refine g_eqQ hK ?_
                  exact g_iret X hr dX14_errorOf_350
                · have hf := ife_f hs67 hf
                  by_cases hs76 : (mI M a4 x1.toNatClampNeg) = (9 : Int32)
                  · have hf := ife_t hs76 hf
                    refine g_tabin (tgt := 351) X dX14_errorOf_26 hs76 (by decide) (by decide) rfl (by decide) ?_
                    refine g_aload_n X dX14_errorOf_351 rfl rfl ?_
                    refine g_getN (ci := 11) (w := vR (mR M a2 7)) 7 X cdX13 i_X14_errorOf_X13 (by decide) (gNw X _ kn_X14_247) rfl dX14_errorOf_352 ha2 hT3 rfl ?_
                    refine g_iload X dX14_errorOf_355 rfl ?_
                    refine g_aload_n X dX14_errorOf_357 rfl rfl ?_
                    refine g_iload_n X dX14_errorOf_358 rfl rfl ?_
                    obtain ⟨r77, M77, hq77, hf⟩ := bd_e hf
                    refine g_callV (ci := 12) (b := x0) (As := [vI x1]) (st := [vI ((mI M a2 4) - (1 : Int32)), vR (mR M a2 7)]) (v := some (vI r77)) (M1 := M77) X (m_X14_numberAt l hq77) (cwV 1 X.2.2.1 gX14_errorOf_X14_numberAt rfl rfl rfl (by decide +kernel) ⟨Nat.le_of_ble_eq_true rfl, Nat.le_of_ble_eq_true rfl⟩) rfl rfl rfl hT1 (by decide) rfl (Nat.le_of_ble_eq_true rfl) dX14_errorOf_359 ⟨by decide, by decide⟩ ?_
                    obtain ⟨a78, ha78, hf⟩ := dr_e hf
                    obtain ⟨hT79, hf⟩ := ck_e hf
                    obtain ⟨hg80, hf⟩ := ck_e hf
                    refine g_iast X dX14_errorOf_362 ha78 hT79 hg80 ?_
                    obtain ⟨M81, hM81, hf⟩ := lw_e hf
                    rw [← hM81]
                    have hT82 : mT M81 a78 = 20 := by rw [hM81]; exact hT79
                    refine g_aload_n X dX14_errorOf_363 rfl rfl ?_
                    refine g_iload_n X dX14_errorOf_364 rfl rfl ?_
                    refine g_iconst (v := (1 : Int32)) X dX14_errorOf_365 (by decide) ?_
                    refine g_bipush (v := (40 : Int32)) X dX14_errorOf_366 (by decide) ?_
                    obtain ⟨hT84, hf⟩ := ck_e hf
                    obtain ⟨r83, M83, hq83, hf⟩ := bd_e hf
                    refine g_callV (ci := 12) (b := x0) (As := [vI x1, vI (1 : Int32), vI (40 : Int32)]) (st := []) (v := some (vI r83)) (M1 := M83) X (m_X14_inRange l hq83) (cwV 3 X.2.2.1 gX14_errorOf_X14_inRange rfl rfl rfl (by decide +kernel) ⟨Nat.le_of_ble_eq_true rfl, Nat.le_of_ble_eq_true rfl⟩) rfl rfl rfl hT84 (by decide) rfl (Nat.le_of_ble_eq_true rfl) dX14_errorOf_368 ⟨by decide, by decide⟩ ?_
                    cases hf
                    refine g_eqQ hK ?_
                    exact g_iret X hr dX14_errorOf_371
                  · have hf := ife_f hs76 hf
                    by_cases hs85 : (mI M a4 x1.toNatClampNeg) = (10 : Int32)
                    · have hf := ife_t hs85 hf
                      refine g_tabin (tgt := 372) X dX14_errorOf_26 hs85 (by decide) (by decide) rfl (by decide) ?_
                      refine g_aload_n X dX14_errorOf_372 rfl rfl ?_
                      refine g_iload_n X dX14_errorOf_373 rfl rfl ?_
                      refine g_iconst (v := (2 : Int32)) X dX14_errorOf_374 (by decide) ?_
                      obtain ⟨r86, M86, hq86, hf⟩ := bd_e hf
                      refine g_callV (ci := 12) (b := x0) (As := [vI x1, vI (2 : Int32)]) (st := []) (v := some (vI r86)) (M1 := M86) X (m_X14_look l hq86) (cwV 2 X.2.2.1 gX14_errorOf_X14_look rfl rfl rfl (by decide +kernel) ⟨Nat.le_of_ble_eq_true rfl, Nat.le_of_ble_eq_true rfl⟩) rfl rfl rfl hT1 (by decide) rfl (Nat.le_of_ble_eq_true rfl) dX14_errorOf_375 ⟨by decide, by decide⟩ ?_
                      refine g_istore (lv' := [(5, vI r86), (4, vI ((mI M a2 4) - (1 : Int32))), (3, vI ((mI M a2 0) - (1 : Int32))), (2, vR (mR M x0 12)), (0, vR (some x0)), (1, vI x1)]) X dX14_errorOf_378 (by decide) rfl ?_
                      refine g_aload_n X dX14_errorOf_380 rfl rfl ?_
                      obtain ⟨hT87, hf⟩ := ck_e hf
                      refine g_getN (ci := 11) (w := vR (mR M86 a2 9)) 9 X cdX13 i_X14_errorOf_X13 (by decide) (gNw X _ kn_X14_253) rfl dX14_errorOf_381 ha2 hT87 rfl ?_
                      refine g_aload_n X dX14_errorOf_384 rfl rfl ?_
                      refine g_getN (ci := 11) (w := vI (mI M86 a2 8)) 8 X cdX13 i_X14_errorOf_X13 (by decide) (gNw X _ kn_X14_228) rfl dX14_errorOf_385 ha2 hT87 rfl ?_
                      refine g_iconst (v := (1 : Int32)) X dX14_errorOf_388 (by decide) ?_
                      refine g_isub X dX14_errorOf_389 ?_
                      refine g_aload_n X dX14_errorOf_390 rfl rfl ?_
                      obtain ⟨hT88, hf⟩ := ck_e hf
                      refine g_get (ci := 12) (v := vR (mR M86 x0 8)) 8 X cdX14 i_X14_errorOf_X14 (by decide) k_X14_errorOf_f29 rfl dX14_errorOf_391 rfl hT88 rfl ?_
                      refine g_iload_n X dX14_errorOf_394 rfl rfl ?_
                      obtain ⟨a89, ha89, hf⟩ := dr_e hf
                      obtain ⟨hT90, hf⟩ := ck_e hf
                      obtain ⟨hg91, hf⟩ := ck_e hf
                      refine g_iald X dX14_errorOf_395 ha89 hT90 hg91 ?_
                      obtain ⟨a92, ha92, hf⟩ := dr_e hf
                      obtain ⟨hT93, hf⟩ := ck_e hf
                      obtain ⟨hg94, hf⟩ := ck_e hf
                      refine g_iast X dX14_errorOf_396 ha92 hT93 hg94 ?_
                      obtain ⟨M95, hM95, hf⟩ := lw_e hf
                      rw [← hM95]
                      have hT96 : mT M95 a2 = 12 := by rw [hM95]; exact hT87
                      have hT97 : mT M95 x0 = 13 := by rw [hM95]; exact hT88
                      have hT98 : mT M95 a89 = 20 := by rw [hM95]; exact hT90
                      have hT99 : mT M95 a92 = 20 := by rw [hM95]; exact hT93
                      refine g_iload X dX14_errorOf_397 rfl ?_
                      cases hf
                      refine g_eqQ hK ?_
                      exact g_iret X hr dX14_errorOf_399
                    · have hf := ife_f hs85 hf
                      by_cases hs100 : (mI M a4 x1.toNatClampNeg) = (11 : Int32)
                      · have hf := ife_t hs100 hf
                        refine g_tabin (tgt := 400) X dX14_errorOf_26 hs100 (by decide) (by decide) rfl (by decide) ?_
                        refine g_aload_n X dX14_errorOf_400 rfl rfl ?_
                        refine g_iload_n X dX14_errorOf_401 rfl rfl ?_
                        refine g_iconst (v := (1 : Int32)) X dX14_errorOf_402 (by decide) ?_
                        obtain ⟨r101, M101, hq101, hf⟩ := bd_e hf
                        refine g_callV (ci := 12) (b := x0) (As := [vI x1, vI (1 : Int32)]) (st := []) (v := some (vI r101)) (M1 := M101) X (m_X14_look l hq101) (cwV 2 X.2.2.1 gX14_errorOf_X14_look rfl rfl rfl (by decide +kernel) ⟨Nat.le_of_ble_eq_true rfl, Nat.le_of_ble_eq_true rfl⟩) rfl rfl rfl hT1 (by decide) rfl (Nat.le_of_ble_eq_true rfl) dX14_errorOf_403 ⟨by decide, by decide⟩ ?_
                        refine g_istore (lv' := [(5, vI r101), (4, vI ((mI M a2 4) - (1 : Int32))), (3, vI ((mI M a2 0) - (1 : Int32))), (2, vR (mR M x0 12)), (0, vR (some x0)), (1, vI x1)]) X dX14_errorOf_406 (by decide) rfl ?_
                        refine g_aload_n X dX14_errorOf_408 rfl rfl ?_
                        obtain ⟨hT102, hf⟩ := ck_e hf
                        refine g_getN (ci := 11) (w := vR (mR M101 a2 10)) 10 X cdX13 i_X14_errorOf_X13 (by decide) (gNw X _ kn_X14_256) rfl dX14_errorOf_409 ha2 hT102 rfl ?_
                        refine g_aload_n X dX14_errorOf_412 rfl rfl ?_
                        refine g_getN (ci := 11) (w := vI (mI M101 a2 8)) 8 X cdX13 i_X14_errorOf_X13 (by decide) (gNw X _ kn_X14_228) rfl dX14_errorOf_413 ha2 hT102 rfl ?_
                        refine g_iconst (v := (1 : Int32)) X dX14_errorOf_416 (by decide) ?_
                        refine g_isub X dX14_errorOf_417 ?_
                        refine g_aload_n X dX14_errorOf_418 rfl rfl ?_
                        obtain ⟨hT103, hf⟩ := ck_e hf
                        refine g_get (ci := 12) (v := vR (mR M101 x0 8)) 8 X cdX14 i_X14_errorOf_X14 (by decide) k_X14_errorOf_f29 rfl dX14_errorOf_419 rfl hT103 rfl ?_
                        refine g_iload_n X dX14_errorOf_422 rfl rfl ?_
                        obtain ⟨a104, ha104, hf⟩ := dr_e hf
                        obtain ⟨hT105, hf⟩ := ck_e hf
                        obtain ⟨hg106, hf⟩ := ck_e hf
                        refine g_iald X dX14_errorOf_423 ha104 hT105 hg106 ?_
                        obtain ⟨a107, ha107, hf⟩ := dr_e hf
                        obtain ⟨hT108, hf⟩ := ck_e hf
                        obtain ⟨hg109, hf⟩ := ck_e hf
                        refine g_iast X dX14_errorOf_424 ha107 hT108 hg109 ?_
                        obtain ⟨M110, hM110, hf⟩ := lw_e hf
                        rw [← hM110]
                        have hT111 : mT M110 a2 = 12 := by rw [hM110]; exact hT102
                        have hT112 : mT M110 x0 = 13 := by rw [hM110]; exact hT103
                        have hT113 : mT M110 a104 = 20 := by rw [hM110]; exact hT105
                        have hT114 : mT M110 a107 = 20 := by rw [hM110]; exact hT108
                        refine g_iload X dX14_errorOf_425 rfl ?_
                        cases hf
                        refine g_eqQ hK ?_
                        exact g_iret X hr dX14_errorOf_427
                      · have hf := ife_f hs100 hf
                        by_cases hs115 : (mI M a4 x1.toNatClampNeg) = (12 : Int32)
                        · have hf := ife_t hs115 hf
                          refine g_tabin (tgt := 456) X dX14_errorOf_26 hs115 (by decide) (by decide) rfl (by decide) ?_
                          refine g_aload_n X dX14_errorOf_456 rfl rfl ?_
                          refine g_iload_n X dX14_errorOf_457 rfl rfl ?_
                          refine g_iconst (v := (2 : Int32)) X dX14_errorOf_458 (by decide) ?_
                          obtain ⟨r116, M116, hq116, hf⟩ := bd_e hf
                          refine g_callV (ci := 12) (b := x0) (As := [vI x1, vI (2 : Int32)]) (st := []) (v := some (vI r116)) (M1 := M116) X (m_X14_look l hq116) (cwV 2 X.2.2.1 gX14_errorOf_X14_look rfl rfl rfl (by decide +kernel) ⟨Nat.le_of_ble_eq_true rfl, Nat.le_of_ble_eq_true rfl⟩) rfl rfl rfl hT1 (by decide) rfl (Nat.le_of_ble_eq_true rfl) dX14_errorOf_459 ⟨by decide, by decide⟩ ?_
                          refine g_istore (lv' := [(5, vI r116), (4, vI ((mI M a2 4) - (1 : Int32))), (3, vI ((mI M a2 0) - (1 : Int32))), (2, vR (mR M x0 12)), (0, vR (some x0)), (1, vI x1)]) X dX14_errorOf_462 (by decide) rfl ?_
                          refine g_iload X dX14_errorOf_464 rfl ?_
                          refine g_if_ne (tgt := 482) X dX14_errorOf_466 (by decide) (fun hc => ?_) (fun hc => ?_)
                          · have hf := ife_f hc hf
                            refine g_iload X dX14_errorOf_482 rfl ?_
                            refine g_sub (lvsub_of _ _ [] rfl) ?_
                            exact t_X14_errorOf_484 X hr _ _ _ hf hK
                          · have hf := ife_t hc hf
                            refine g_aload_n X dX14_errorOf_469 rfl rfl ?_
                            refine g_aload_n X dX14_errorOf_470 rfl rfl ?_
                            obtain ⟨hT117, hf⟩ := ck_e hf
                            refine g_get (ci := 12) (v := vR (mR M116 x0 8)) 8 X cdX14 i_X14_errorOf_X14 (by decide) k_X14_errorOf_f29 rfl dX14_errorOf_471 rfl hT117 rfl ?_
                            refine g_iload_n X dX14_errorOf_474 rfl rfl ?_
                            obtain ⟨a118, ha118, hf⟩ := dr_e hf
                            obtain ⟨hT119, hf⟩ := ck_e hf
                            obtain ⟨hg120, hf⟩ := ck_e hf
                            refine g_iald X dX14_errorOf_475 ha118 hT119 hg120 ?_
                            obtain ⟨r121, M121, hq121, hf⟩ := bd_e hf
                            refine g_callV (ci := 12) (b := x0) (As := [vI (mI M116 a118 x1.toNatClampNeg)]) (st := []) (v := some (vI r121)) (M1 := M121) X (m_X14_member l hq121) (cwV 1 X.2.2.1 gX14_errorOf_X14_member rfl rfl rfl (by decide +kernel) ⟨Nat.le_of_ble_eq_true rfl, Nat.le_of_ble_eq_true rfl⟩) rfl rfl rfl hT117 (by decide) rfl (Nat.le_of_ble_eq_true rfl) dX14_errorOf_476 ⟨by decide, by decide⟩ ?_
                            refine g_goto (tgt := 484) X dX14_errorOf_479 (by decide) ?_
                            refine g_sub (lvsub_of _ _ [] rfl) ?_
                            exact t_X14_errorOf_484 X hr _ _ _ hf hK
                        · have hf := ife_f hs115 hf
                          by_cases hs122 : (mI M a4 x1.toNatClampNeg) = (13 : Int32)
                          · have hf := ife_t hs122 hf
                            refine g_tabin (tgt := 428) X dX14_errorOf_26 hs122 (by decide) (by decide) rfl (by decide) ?_
                            refine g_aload_n X dX14_errorOf_428 rfl rfl ?_
                            refine g_iload_n X dX14_errorOf_429 rfl rfl ?_
                            refine g_iconst (v := (1 : Int32)) X dX14_errorOf_430 (by decide) ?_
                            obtain ⟨r123, M123, hq123, hf⟩ := bd_e hf
                            refine g_callV (ci := 12) (b := x0) (As := [vI x1, vI (1 : Int32)]) (st := []) (v := some (vI r123)) (M1 := M123) X (m_X14_look l hq123) (cwV 2 X.2.2.1 gX14_errorOf_X14_look rfl rfl rfl (by decide +kernel) ⟨Nat.le_of_ble_eq_true rfl, Nat.le_of_ble_eq_true rfl⟩) rfl rfl rfl hT1 (by decide) rfl (Nat.le_of_ble_eq_true rfl) dX14_errorOf_431 ⟨by decide, by decide⟩ ?_
                            refine g_istore (lv' := [(5, vI r123), (4, vI ((mI M a2 4) - (1 : Int32))), (3, vI ((mI M a2 0) - (1 : Int32))), (2, vR (mR M x0 12)), (0, vR (some x0)), (1, vI x1)]) X dX14_errorOf_434 (by decide) rfl ?_
                            refine g_aload_n X dX14_errorOf_436 rfl rfl ?_
                            obtain ⟨hT124, hf⟩ := ck_e hf
                            refine g_getN (ci := 11) (w := vR (mR M123 a2 12)) 12 X cdX13 i_X14_errorOf_X13 (by decide) (gNw X _ kn_X14_225) rfl dX14_errorOf_437 ha2 hT124 rfl ?_
                            refine g_aload_n X dX14_errorOf_440 rfl rfl ?_
                            refine g_getN (ci := 11) (w := vI (mI M123 a2 11)) 11 X cdX13 i_X14_errorOf_X13 (by decide) (gNw X _ kn_X14_222) rfl dX14_errorOf_441 ha2 hT124 rfl ?_
                            refine g_iconst (v := (1 : Int32)) X dX14_errorOf_444 (by decide) ?_
                            refine g_isub X dX14_errorOf_445 ?_
                            refine g_aload_n X dX14_errorOf_446 rfl rfl ?_
                            obtain ⟨hT125, hf⟩ := ck_e hf
                            refine g_get (ci := 12) (v := vR (mR M123 x0 8)) 8 X cdX14 i_X14_errorOf_X14 (by decide) k_X14_errorOf_f29 rfl dX14_errorOf_447 rfl hT125 rfl ?_
                            refine g_iload_n X dX14_errorOf_450 rfl rfl ?_
                            obtain ⟨a126, ha126, hf⟩ := dr_e hf
                            obtain ⟨hT127, hf⟩ := ck_e hf
                            obtain ⟨hg128, hf⟩ := ck_e hf
                            refine g_iald X dX14_errorOf_451 ha126 hT127 hg128 ?_
                            obtain ⟨a129, ha129, hf⟩ := dr_e hf
                            obtain ⟨hT130, hf⟩ := ck_e hf
                            obtain ⟨hg131, hf⟩ := ck_e hf
                            refine g_iast X dX14_errorOf_452 ha129 hT130 hg131 ?_
                            obtain ⟨M132, hM132, hf⟩ := lw_e hf
                            rw [← hM132]
                            have hT133 : mT M132 a2 = 12 := by rw [hM132]; exact hT124
                            have hT134 : mT M132 x0 = 13 := by rw [hM132]; exact hT125
                            have hT135 : mT M132 a126 = 20 := by rw [hM132]; exact hT127
                            have hT136 : mT M132 a129 = 20 := by rw [hM132]; exact hT130
                            refine g_iload X dX14_errorOf_453 rfl ?_
                            cases hf
                            refine g_eqQ hK ?_
                            exact g_iret X hr dX14_errorOf_455
                          · have hf := ife_f hs122 hf
                            by_cases hs137 : (mI M a4 x1.toNatClampNeg) = (14 : Int32)
                            · have hf := ife_t hs137 hf
                              refine g_tabin (tgt := 485) X dX14_errorOf_26 hs137 (by decide) (by decide) rfl (by decide) ?_
                              refine g_aload_n X dX14_errorOf_485 rfl rfl ?_
                              refine g_iload_n X dX14_errorOf_486 rfl rfl ?_
                              refine g_iconst (v := (2 : Int32)) X dX14_errorOf_487 (by decide) ?_
                              obtain ⟨r138, M138, hq138, hf⟩ := bd_e hf
                              refine g_callV (ci := 12) (b := x0) (As := [vI x1, vI (2 : Int32)]) (st := []) (v := some (vI r138)) (M1 := M138) X (m_X14_look l hq138) (cwV 2 X.2.2.1 gX14_errorOf_X14_look rfl rfl rfl (by decide +kernel) ⟨Nat.le_of_ble_eq_true rfl, Nat.le_of_ble_eq_true rfl⟩) rfl rfl rfl hT1 (by decide) rfl (Nat.le_of_ble_eq_true rfl) dX14_errorOf_488 ⟨by decide, by decide⟩ ?_
                              cases hf
                              refine g_eqQ hK ?_
                              exact g_iret X hr dX14_errorOf_491
                            · have hf := ife_f hs137 hf
                              by_cases hs139 : (mI M a4 x1.toNatClampNeg) = (15 : Int32)
                              · have hf := ife_t hs139 hf
                                refine g_tabin (tgt := 492) X dX14_errorOf_26 hs139 (by decide) (by decide) rfl (by decide) ?_
                                refine g_aload_n X dX14_errorOf_492 rfl rfl ?_
                                refine g_iload_n X dX14_errorOf_493 rfl rfl ?_
                                refine g_iconst (v := (1 : Int32)) X dX14_errorOf_494 (by decide) ?_
                                obtain ⟨r140, M140, hq140, hf⟩ := bd_e hf
                                refine g_callV (ci := 12) (b := x0) (As := [vI x1, vI (1 : Int32)]) (st := []) (v := some (vI r140)) (M1 := M140) X (m_X14_look l hq140) (cwV 2 X.2.2.1 gX14_errorOf_X14_look rfl rfl rfl (by decide +kernel) ⟨Nat.le_of_ble_eq_true rfl, Nat.le_of_ble_eq_true rfl⟩) rfl rfl rfl hT1 (by decide) rfl (Nat.le_of_ble_eq_true rfl) dX14_errorOf_495 ⟨by decide, by decide⟩ ?_
                                cases hf
                                refine g_eqQ hK ?_
                                exact g_iret X hr dX14_errorOf_498
                              · have hf := ife_f hs139 hf
                                refine g_tabout (tgt := 499) X dX14_errorOf_26 (gtab_out 15 (1) (by decide) (by decide) (fun i hi => match i, hi with | 0, _ => fun e => hs7 (e.trans (by decide)) | 1, _ => fun e => hs14 (e.trans (by decide)) | 2, _ => fun e => hs19 (e.trans (by decide)) | 3, _ => fun e => hs31 (e.trans (by decide)) | 4, _ => fun e => hs36 (e.trans (by decide)) | 5, _ => fun e => hs45 (e.trans (by decide)) | 6, _ => fun e => hs58 (e.trans (by decide)) | 7, _ => fun e => hs67 (e.trans (by decide)) | 8, _ => fun e => hs76 (e.trans (by decide)) | 9, _ => fun e => hs85 (e.trans (by decide)) | 10, _ => fun e => hs100 (e.trans (by decide)) | 11, _ => fun e => hs115 (e.trans (by decide)) | 12, _ => fun e => hs122 (e.trans (by decide)) | 13, _ => fun e => hs137 (e.trans (by decide)) | 14, _ => fun e => hs139 (e.trans (by decide)) | i + 15, h => absurd h (by omega))) (by decide) ?_
                                refine g_iconst (v := (0 : Int32)) X dX14_errorOf_499 (by decide) ?_
                                cases hf
                                refine g_eqQ hK ?_
                                exact g_iret X hr dX14_errorOf_500
set_option maxHeartbeats 4000000 in
set_option maxRecDepth 100000 in
theorem m_X14_errorOf (l : Launch) {D : va_G} {cy : Nat → ClassId} {B : Nat} {H0 : Heap} {Z : Nat → Nat} {M M1 : gMem} {x0 : Nat} {x1 : Int32} {r : Int32} (hf : f_X14_errorOf M x0 x1 = some (r, M1)) : Met l yX14_errorOf wsX14_errorOf rX14_errorOf (va_Pc (Value.ref x0 :: List.map gv [vI x1]) (gPre D cy B H0 (gSt Z B H0) M)) (gQ D cy B H0 (some (vI r)) M1) 0 0 (gA B) := by
  refine Met.ofW (cc := cX14_errorOf) (maxL := 6) (ret := (some .int)) (by decide) rfl ?_
  intro p e s m args below meth c s₁ Bd hml hv
  obtain ⟨rfl, hW, hKK, hFs⟩ := hv
  have X : gX p s m _ meth c D cy B (gSt Z B H0) RX14 cX14_errorOf wsX14_errorOf 6 := ⟨Bd.exec, Bd.bytes, atoms_spec (ws := wsX14_errorOf) Bd.pre, findClass_of_methodNamed Bd.named, hml, hKK, by rw [hW.1]; exact hW.2.1, Bd.notSynchronized, hFs⟩
  have hr := Bd.returns
  have hl := lv_entry ([.ref x0, .int x1]) (n := 6) (Nat.le_of_ble_eq_true rfl)
  show W p l e rX14_errorOf s m _ below meth c s.heap [] 0 0 _ (entryFrame m ([.ref x0, .int x1] : List Value).toArray 6)
  rw [lg_entry_eq]
  generalize (lg_sl ([.ref x0, .int x1]) ++ List.replicate (6 - (lg_sl ([.ref x0, .int x1])).length) Slot.unset).toArray = ls at hl ⊢
  have hl : lv_has ls 6 (List.map gq [(0, vR (some x0)), (1, vI x1)]) := hl
  exact t_X14_errorOf_0 X hr _ _ _ _ hf rfl s.heap [] ls hW va_S.rf (lv_has_sub hl (lvsub_of _ _ [0, 1] rfl))
end
