section
variable {p : Program} {l : Launch} {e : Env} {s : State} {m : MethodId} {args : Array Value} {below : List Frame} {meth : Method} {c : Code} {D : va_G} {cy : Nat → ClassId} {B : Nat} {H0 : Heap} {Z : Nat → Nat}
/-! ## TideLots$Reader.value(I)Z -/
theorem dX6_value_0 : decode cX6_value 0 = .ok (.aload_n 0, 1) := by decide +kernel
theorem dX6_value_1 : decode cX6_value 1 = .ok (.invokevirtual 43, 3) := by decide +kernel
theorem dX6_value_4 : decode cX6_value 4 = .ok (.astore_n 2, 1) := by decide +kernel
theorem dX6_value_5 : decode cX6_value 5 = .ok (.getstatic 53, 3) := by decide +kernel
theorem dX6_value_8 : decode cX6_value 8 = .ok (.aload_n 2, 1) := by decide +kernel
theorem dX6_value_9 : decode cX6_value 9 = .ok (.invokevirtual 59, 3) := by decide +kernel
theorem dX6_value_12 : decode cX6_value 12 = .ok (.iaload, 1) := by decide +kernel
theorem dX6_value_13 : decode cX6_value 13 = .ok (.tableswitch 288 13 23 #[59, 71, 80, 80, 80, 108, 108, 136, 175, 215, 215], 59) := by decide +kernel
theorem dX6_value_72 : decode cX6_value 72 = .ok (.aload_n 0, 1) := by decide +kernel
theorem dX6_value_73 : decode cX6_value 73 = .ok (.iconst 0, 1) := by decide +kernel
theorem dX6_value_74 : decode cX6_value 74 = .ok (.ldc_w 315, 3) := by decide +kernel
theorem dX6_value_77 : decode cX6_value 77 = .ok (.invokevirtual 108, 3) := by decide +kernel
theorem dX6_value_80 : decode cX6_value 80 = .ok (.istore_n 3, 1) := by decide +kernel
theorem dX6_value_81 : decode cX6_value 81 = .ok (.goto 222, 3) := by decide +kernel
theorem dX6_value_84 : decode cX6_value 84 = .ok (.aload_n 0, 1) := by decide +kernel
theorem dX6_value_85 : decode cX6_value 85 = .ok (.aload_n 2, 1) := by decide +kernel
theorem dX6_value_86 : decode cX6_value 86 = .ok (.invokevirtual 79, 3) := by decide +kernel
theorem dX6_value_89 : decode cX6_value 89 = .ok (.istore_n 3, 1) := by decide +kernel
theorem dX6_value_90 : decode cX6_value 90 = .ok (.goto 213, 3) := by decide +kernel
theorem dX6_value_93 : decode cX6_value 93 = .ok (.aload_n 0, 1) := by decide +kernel
theorem dX6_value_94 : decode cX6_value 94 = .ok (.aload_n 2, 1) := by decide +kernel
theorem dX6_value_95 : decode cX6_value 95 = .ok (.invokevirtual 79, 3) := by decide +kernel
theorem dX6_value_98 : decode cX6_value 98 = .ok (.ifCond .eq 18, 3) := by decide +kernel
theorem dX6_value_101 : decode cX6_value 101 = .ok (.aload_n 0, 1) := by decide +kernel
theorem dX6_value_102 : decode cX6_value 102 = .ok (.aload_n 0, 1) := by decide +kernel
theorem dX6_value_103 : decode cX6_value 103 = .ok (.getfield 24, 3) := by decide +kernel
theorem dX6_value_106 : decode cX6_value 106 = .ok (.invokevirtual 179, 3) := by decide +kernel
theorem dX6_value_109 : decode cX6_value 109 = .ok (.ifCond .eq 7, 3) := by decide +kernel
theorem dX6_value_112 : decode cX6_value 112 = .ok (.iconst 1, 1) := by decide +kernel
theorem dX6_value_113 : decode cX6_value 113 = .ok (.goto 4, 3) := by decide +kernel
theorem dX6_value_116 : decode cX6_value 116 = .ok (.iconst 0, 1) := by decide +kernel
theorem dX6_value_117 : decode cX6_value 117 = .ok (.istore_n 3, 1) := by decide +kernel
theorem dX6_value_118 : decode cX6_value 118 = .ok (.goto 185, 3) := by decide +kernel
theorem dX6_value_121 : decode cX6_value 121 = .ok (.aload_n 0, 1) := by decide +kernel
theorem dX6_value_122 : decode cX6_value 122 = .ok (.aload_n 2, 1) := by decide +kernel
theorem dX6_value_123 : decode cX6_value 123 = .ok (.invokevirtual 79, 3) := by decide +kernel
theorem dX6_value_126 : decode cX6_value 126 = .ok (.ifCond .eq 18, 3) := by decide +kernel
theorem dX6_value_129 : decode cX6_value 129 = .ok (.aload_n 0, 1) := by decide +kernel
theorem dX6_value_130 : decode cX6_value 130 = .ok (.aload_n 0, 1) := by decide +kernel
theorem dX6_value_131 : decode cX6_value 131 = .ok (.getfield 20, 3) := by decide +kernel
theorem dX6_value_134 : decode cX6_value 134 = .ok (.invokevirtual 179, 3) := by decide +kernel
theorem dX6_value_137 : decode cX6_value 137 = .ok (.ifCond .eq 7, 3) := by decide +kernel
theorem dX6_value_140 : decode cX6_value 140 = .ok (.iconst 1, 1) := by decide +kernel
theorem dX6_value_141 : decode cX6_value 141 = .ok (.goto 4, 3) := by decide +kernel
theorem dX6_value_144 : decode cX6_value 144 = .ok (.iconst 0, 1) := by decide +kernel
theorem dX6_value_145 : decode cX6_value 145 = .ok (.istore_n 3, 1) := by decide +kernel
theorem dX6_value_146 : decode cX6_value 146 = .ok (.goto 157, 3) := by decide +kernel
theorem dX6_value_149 : decode cX6_value 149 = .ok (.getstatic 316, 3) := by decide +kernel
theorem dX6_value_152 : decode cX6_value 152 = .ok (.astore_n 2, 1) := by decide +kernel
theorem dX6_value_153 : decode cX6_value 153 = .ok (.iload_n 1, 1) := by decide +kernel
theorem dX6_value_154 : decode cX6_value 154 = .ok (.bipush 8, 2) := by decide +kernel
theorem dX6_value_156 : decode cX6_value 156 = .ok (.if_icmp .ge 27, 3) := by decide +kernel
theorem dX6_value_159 : decode cX6_value 159 = .ok (.aload_n 0, 1) := by decide +kernel
theorem dX6_value_160 : decode cX6_value 160 = .ok (.getstatic 303, 3) := by decide +kernel
theorem dX6_value_163 : decode cX6_value 163 = .ok (.invokevirtual 79, 3) := by decide +kernel
theorem dX6_value_166 : decode cX6_value 166 = .ok (.ifCond .eq 17, 3) := by decide +kernel
theorem dX6_value_169 : decode cX6_value 169 = .ok (.aload_n 0, 1) := by decide +kernel
theorem dX6_value_170 : decode cX6_value 170 = .ok (.iload_n 1, 1) := by decide +kernel
theorem dX6_value_171 : decode cX6_value 171 = .ok (.iconst 1, 1) := by decide +kernel
theorem dX6_value_172 : decode cX6_value 172 = .ok (.iadd, 1) := by decide +kernel
theorem dX6_value_173 : decode cX6_value 173 = .ok (.invokevirtual 306, 3) := by decide +kernel
theorem dX6_value_176 : decode cX6_value 176 = .ok (.ifCond .eq 7, 3) := by decide +kernel
theorem dX6_value_179 : decode cX6_value 179 = .ok (.iconst 1, 1) := by decide +kernel
theorem dX6_value_180 : decode cX6_value 180 = .ok (.goto 4, 3) := by decide +kernel
theorem dX6_value_183 : decode cX6_value 183 = .ok (.iconst 0, 1) := by decide +kernel
theorem dX6_value_184 : decode cX6_value 184 = .ok (.istore_n 3, 1) := by decide +kernel
theorem dX6_value_185 : decode cX6_value 185 = .ok (.goto 118, 3) := by decide +kernel
theorem dX6_value_188 : decode cX6_value 188 = .ok (.iload_n 1, 1) := by decide +kernel
theorem dX6_value_189 : decode cX6_value 189 = .ok (.bipush 8, 2) := by decide +kernel
theorem dX6_value_191 : decode cX6_value 191 = .ok (.if_icmp .ge 35, 3) := by decide +kernel
theorem dX6_value_194 : decode cX6_value 194 = .ok (.aload_n 0, 1) := by decide +kernel
theorem dX6_value_195 : decode cX6_value 195 = .ok (.aload_n 2, 1) := by decide +kernel
theorem dX6_value_196 : decode cX6_value 196 = .ok (.invokevirtual 79, 3) := by decide +kernel
theorem dX6_value_199 : decode cX6_value 199 = .ok (.ifCond .eq 27, 3) := by decide +kernel
theorem dX6_value_202 : decode cX6_value 202 = .ok (.aload_n 0, 1) := by decide +kernel
theorem dX6_value_203 : decode cX6_value 203 = .ok (.iload_n 1, 1) := by decide +kernel
theorem dX6_value_204 : decode cX6_value 204 = .ok (.iconst 1, 1) := by decide +kernel
theorem dX6_value_205 : decode cX6_value 205 = .ok (.iadd, 1) := by decide +kernel
theorem dX6_value_206 : decode cX6_value 206 = .ok (.invokevirtual 244, 3) := by decide +kernel
theorem dX6_value_209 : decode cX6_value 209 = .ok (.ifCond .eq 17, 3) := by decide +kernel
theorem dX6_value_212 : decode cX6_value 212 = .ok (.aload_n 0, 1) := by decide +kernel
theorem dX6_value_213 : decode cX6_value 213 = .ok (.getstatic 319, 3) := by decide +kernel
theorem dX6_value_216 : decode cX6_value 216 = .ok (.invokevirtual 79, 3) := by decide +kernel
theorem dX6_value_219 : decode cX6_value 219 = .ok (.ifCond .eq 7, 3) := by decide +kernel
theorem dX6_value_222 : decode cX6_value 222 = .ok (.iconst 1, 1) := by decide +kernel
theorem dX6_value_223 : decode cX6_value 223 = .ok (.goto 4, 3) := by decide +kernel
theorem dX6_value_226 : decode cX6_value 226 = .ok (.iconst 0, 1) := by decide +kernel
theorem dX6_value_227 : decode cX6_value 227 = .ok (.ireturn, 1) := by decide +kernel
theorem dX6_value_228 : decode cX6_value 228 = .ok (.aload_n 0, 1) := by decide +kernel
theorem dX6_value_229 : decode cX6_value 229 = .ok (.aload_n 2, 1) := by decide +kernel
theorem dX6_value_230 : decode cX6_value 230 = .ok (.invokevirtual 79, 3) := by decide +kernel
theorem dX6_value_233 : decode cX6_value 233 = .ok (.ifCond .eq 63, 3) := by decide +kernel
theorem dX6_value_236 : decode cX6_value 236 = .ok (.iload_n 1, 1) := by decide +kernel
theorem dX6_value_237 : decode cX6_value 237 = .ok (.bipush 8, 2) := by decide +kernel
theorem dX6_value_239 : decode cX6_value 239 = .ok (.if_icmp .ge 57, 3) := by decide +kernel
theorem dX6_value_242 : decode cX6_value 242 = .ok (.aload_n 0, 1) := by decide +kernel
theorem dX6_value_243 : decode cX6_value 243 = .ok (.getstatic 322, 3) := by decide +kernel
theorem dX6_value_246 : decode cX6_value 246 = .ok (.invokevirtual 79, 3) := by decide +kernel
theorem dX6_value_249 : decode cX6_value 249 = .ok (.ifCond .eq 47, 3) := by decide +kernel
theorem dX6_value_252 : decode cX6_value 252 = .ok (.aload_n 0, 1) := by decide +kernel
theorem dX6_value_253 : decode cX6_value 253 = .ok (.iload_n 1, 1) := by decide +kernel
theorem dX6_value_254 : decode cX6_value 254 = .ok (.iconst 1, 1) := by decide +kernel
theorem dX6_value_255 : decode cX6_value 255 = .ok (.iadd, 1) := by decide +kernel
theorem dX6_value_256 : decode cX6_value 256 = .ok (.invokevirtual 244, 3) := by decide +kernel
theorem dX6_value_259 : decode cX6_value 259 = .ok (.ifCond .eq 37, 3) := by decide +kernel
theorem dX6_value_262 : decode cX6_value 262 = .ok (.aload_n 0, 1) := by decide +kernel
theorem dX6_value_263 : decode cX6_value 263 = .ok (.getstatic 127, 3) := by decide +kernel
theorem dX6_value_266 : decode cX6_value 266 = .ok (.invokevirtual 79, 3) := by decide +kernel
theorem dX6_value_269 : decode cX6_value 269 = .ok (.ifCond .eq 27, 3) := by decide +kernel
theorem dX6_value_272 : decode cX6_value 272 = .ok (.aload_n 0, 1) := by decide +kernel
theorem dX6_value_273 : decode cX6_value 273 = .ok (.iload_n 1, 1) := by decide +kernel
theorem dX6_value_274 : decode cX6_value 274 = .ok (.iconst 1, 1) := by decide +kernel
theorem dX6_value_275 : decode cX6_value 275 = .ok (.iadd, 1) := by decide +kernel
theorem dX6_value_276 : decode cX6_value 276 = .ok (.invokevirtual 244, 3) := by decide +kernel
theorem dX6_value_279 : decode cX6_value 279 = .ok (.ifCond .eq 17, 3) := by decide +kernel
theorem dX6_value_282 : decode cX6_value 282 = .ok (.aload_n 0, 1) := by decide +kernel
theorem dX6_value_283 : decode cX6_value 283 = .ok (.getstatic 319, 3) := by decide +kernel
theorem dX6_value_286 : decode cX6_value 286 = .ok (.invokevirtual 79, 3) := by decide +kernel
theorem dX6_value_289 : decode cX6_value 289 = .ok (.ifCond .eq 7, 3) := by decide +kernel
theorem dX6_value_292 : decode cX6_value 292 = .ok (.iconst 1, 1) := by decide +kernel
theorem dX6_value_293 : decode cX6_value 293 = .ok (.goto 4, 3) := by decide +kernel
theorem dX6_value_296 : decode cX6_value 296 = .ok (.iconst 0, 1) := by decide +kernel
theorem dX6_value_297 : decode cX6_value 297 = .ok (.istore_n 3, 1) := by decide +kernel
theorem dX6_value_298 : decode cX6_value 298 = .ok (.goto 5, 3) := by decide +kernel
theorem dX6_value_301 : decode cX6_value 301 = .ok (.iconst 0, 1) := by decide +kernel
theorem dX6_value_302 : decode cX6_value 302 = .ok (.ireturn, 1) := by decide +kernel
theorem dX6_value_303 : decode cX6_value 303 = .ok (.aload_n 0, 1) := by decide +kernel
theorem dX6_value_304 : decode cX6_value 304 = .ok (.getfield 34, 3) := by decide +kernel
theorem dX6_value_307 : decode cX6_value 307 = .ok (.getfield 193, 3) := by decide +kernel
theorem dX6_value_310 : decode cX6_value 310 = .ok (.aload_n 2, 1) := by decide +kernel
theorem dX6_value_311 : decode cX6_value 311 = .ok (.aload_n 0, 1) := by decide +kernel
theorem dX6_value_312 : decode cX6_value 312 = .ok (.getfield 112, 3) := by decide +kernel
theorem dX6_value_315 : decode cX6_value 315 = .ok (.invokevirtual 273, 3) := by decide +kernel
theorem dX6_value_318 : decode cX6_value 318 = .ok (.iload_n 3, 1) := by decide +kernel
theorem dX6_value_319 : decode cX6_value 319 = .ok (.ireturn, 1) := by decide +kernel
set_option maxRecDepth 20000 in
theorem ggX6_value_X9_add : GoodIn wsX6_value wsX9_add := goodIn_r _ [67, 68, 69, 70, 111, 112, 113, 114] (by decide +kernel) (by decide +kernel)
set_option maxRecDepth 20000 in
theorem gX6_value_X9_add : GoodIn wsX6_value (wsV RX6 273 RX9 yX9_add wsX9_add) := goodIn_app (goodIn_of _ (by decide +kernel)) ggX6_value_X9_add
set_option maxRecDepth 20000 in
theorem ggX6_value_X6_take : GoodIn wsX6_value wsX6_take := goodIn_r _ [44, 20, 18, 19, 79, 80, 81, 82, 83, 84, 85, 86, 87, 105, 106, 107, 108, 109, 110] (by decide +kernel) (by decide +kernel)
set_option maxRecDepth 20000 in
theorem gX6_value_X6_take : GoodIn wsX6_value (wsV RX6 79 RX6 yX6_take wsX6_take) := goodIn_app (goodIn_of _ (by decide +kernel)) ggX6_value_X6_take
set_option maxRecDepth 20000 in
theorem ggX6_value_X6_sum : GoodIn wsX6_value wsX6_sum := goodIn_2 24 (goodIn_r _ [74, 75, 6, 10, 11, 76, 77, 78, 16, 13, 14, 15, 17, 18, 19, 20, 41, 42, 43, 44, 63, 64, 65, 66] (by decide +kernel) (by decide +kernel)) (goodIn_2 24 (goodIn_r _ [67, 68, 69, 70, 71, 72, 73, 57, 58, 59, 0, 1, 2, 3, 4, 5, 7, 8, 9, 12, 21, 22, 23, 24] (by decide +kernel) (by decide +kernel)) (goodIn_2 24 (goodIn_r _ [25, 26, 27, 28, 29, 30, 31, 32, 33, 34, 35, 36, 37, 38, 39, 40, 45, 46, 47, 48, 49, 50, 51, 52] (by decide +kernel) (by decide +kernel)) (goodIn_2 24 (goodIn_r _ [53, 54, 55, 56, 60, 61, 62, 79, 80, 81, 82, 83, 84, 85, 86, 87, 88, 89, 90, 91, 92, 93, 94, 95] (by decide +kernel) (by decide +kernel)) (goodIn_r _ [96, 97, 98, 99, 100, 101, 102, 103, 104, 105, 106, 107, 108, 109, 110, 111, 112, 113, 114, 115, 116] (by decide +kernel) (by decide +kernel)))))
set_option maxRecDepth 20000 in
theorem gX6_value_X6_sum : GoodIn wsX6_value (wsV RX6 244 RX6 yX6_sum wsX6_sum) := goodIn_app (goodIn_of _ (by decide +kernel)) ggX6_value_X6_sum
set_option maxRecDepth 20000 in
theorem ggX6_value_X6_takeKnown : GoodIn wsX6_value wsX6_takeKnown := goodIn_2 24 (goodIn_r _ [48, 49, 18, 33, 20, 12, 13, 14, 15, 16, 17, 19, 50, 51, 52, 53, 54, 55, 56, 34, 35, 36, 37, 38] (by decide +kernel) (by decide +kernel)) (goodIn_r _ [39, 40, 41, 42, 43, 44, 79, 80, 81, 82, 83, 84, 85, 86, 87, 105, 106, 107, 108, 109, 110, 115, 116] (by decide +kernel) (by decide +kernel))
set_option maxRecDepth 20000 in
theorem gX6_value_X6_takeKnown : GoodIn wsX6_value (wsV RX6 179 RX6 yX6_takeKnown wsX6_takeKnown) := goodIn_app (goodIn_of _ (by decide +kernel)) ggX6_value_X6_takeKnown
set_option maxRecDepth 20000 in
theorem ggX6_value_X6_sign : GoodIn wsX6_value wsX6_sign := goodIn_r _ [17, 18, 19, 20, 79, 80, 81, 82, 83, 84, 85, 86, 87, 105, 106, 107, 108, 109, 110] (by decide +kernel) (by decide +kernel)
set_option maxRecDepth 20000 in
theorem gX6_value_X6_sign : GoodIn wsX6_value (wsV RX6 43 RX6 yX6_sign wsX6_sign) := goodIn_app (goodIn_of _ (by decide +kernel)) ggX6_value_X6_sign
set_option maxRecDepth 20000 in
theorem ggX6_value_Jx29ce0_ordinal_8abf5 : GoodIn wsX6_value wsJx29ce0_ordinal_8abf5 := goodIn_r _ [26, 27] (by decide +kernel) (by decide +kernel)
set_option maxRecDepth 20000 in
theorem gX6_value_Jx29ce0_ordinal_8abf5_u59X8 : GoodIn wsX6_value (va_wsU RX6 59 RX8 "java/lang/Enum" ⟨"TideLots$Sign", "ordinal", "()I"⟩ yJx29ce0_ordinal_8abf5 wsJx29ce0_ordinal_8abf5) := goodIn_app (goodIn_of _ (by decide +kernel)) ggX6_value_Jx29ce0_ordinal_8abf5
set_option maxRecDepth 20000 in
theorem ggX6_value_X6_takeNumber : GoodIn wsX6_value wsX6_takeNumber := goodIn_r _ [31, 32, 18, 33, 20, 12, 13, 14, 15, 16, 17, 19, 34, 35, 36, 37, 38, 39, 40, 41, 42, 43, 44, 79, 80, 81, 82, 83, 84, 85, 86, 87, 105, 106, 107, 108, 109, 110] (by decide +kernel) (by decide +kernel)
set_option maxRecDepth 20000 in
theorem gX6_value_X6_takeNumber : GoodIn wsX6_value (wsV RX6 108 RX6 yX6_takeNumber wsX6_takeNumber) := goodIn_app (goodIn_of _ (by decide +kernel)) ggX6_value_X6_takeNumber
set_option maxRecDepth 20000 in
theorem ggX6_value_X6_value : GoodIn wsX6_value wsX6_value := goodIn_2 24 (goodIn_r _ [0, 1, 2, 3, 4, 5, 6, 7, 8, 9, 10, 11, 12, 13, 14, 15, 16, 17, 18, 19, 20, 21, 22, 23] (by decide +kernel) (by decide +kernel)) (goodIn_2 24 (goodIn_r _ [24, 25, 26, 27, 28, 29, 30, 31, 32, 33, 34, 35, 36, 37, 38, 39, 40, 41, 42, 43, 44, 45, 46, 47] (by decide +kernel) (by decide +kernel)) (goodIn_2 24 (goodIn_r _ [48, 49, 50, 51, 52, 53, 54, 55, 56, 57, 58, 59, 60, 61, 62, 63, 64, 65, 66, 67, 68, 69, 70, 71] (by decide +kernel) (by decide +kernel)) (goodIn_2 24 (goodIn_r _ [72, 73, 74, 75, 76, 77, 78, 79, 80, 81, 82, 83, 84, 85, 86, 87, 88, 89, 90, 91, 92, 93, 94, 95] (by decide +kernel) (by decide +kernel)) (goodIn_r _ [96, 97, 98, 99, 100, 101, 102, 103, 104, 105, 106, 107, 108, 109, 110, 111, 112, 113, 114, 115, 116] (by decide +kernel) (by decide +kernel)))))
set_option maxRecDepth 20000 in
theorem gX6_value_X6_value : GoodIn wsX6_value (wsV RX6 306 RX6 yX6_value wsX6_value) := goodIn_app (goodIn_of _ (by decide +kernel)) ggX6_value_X6_value
theorem k_X6_value_f34 : Cond.fieldLink RX6 34 "TideLots$Reader" "built" "LTideLots$Shore;" ∈ wsX6_value := by decide +kernel
theorem i_X6_value_X6 : ∀ w ∈ u_ws RX6 TX6 9, w ∈ wsX6_value := by decide +kernel
theorem k_X6_value_f193 : Cond.fieldLink RX6 193 "TideLots$Shore" "sums" "LTideLots$Sums;" ∈ wsX6_value := by decide +kernel
theorem i_X6_value_X7 : ∀ w ∈ u_ws RX7 TX7 17, w ∈ wsX6_value := by decide +kernel
theorem k_X6_value_f112 : Cond.fieldLink RX6 112 "TideLots$Reader" "number" "I" ∈ wsX6_value := by decide +kernel
theorem k_X6_value_f322 : Cond.fieldLink RX6 322 "TideLots$Sign" "OPEN" "LTideLots$Sign;" ∈ wsX6_value := by decide +kernel
theorem k_X6_value_f127 : Cond.fieldLink RX6 127 "TideLots$Sign" "COMMA" "LTideLots$Sign;" ∈ wsX6_value := by decide +kernel
theorem k_X6_value_f319 : Cond.fieldLink RX6 319 "TideLots$Sign" "CLOSE" "LTideLots$Sign;" ∈ wsX6_value := by decide +kernel
theorem k_X6_value_f20 : Cond.fieldLink RX6 20 "TideLots$Reader" "groundNames" "LTideLots$Names;" ∈ wsX6_value := by decide +kernel
theorem k_X6_value_f24 : Cond.fieldLink RX6 24 "TideLots$Reader" "fisherNames" "LTideLots$Names;" ∈ wsX6_value := by decide +kernel
theorem k_X6_value_f53 : Cond.fieldLink RX6 53 "TideLots$1" "$SwitchMap$TideLots$Sign" "[I" ∈ wsX6_value := by decide +kernel
theorem k_X6_value_c315 : Jvm.Cond.constant RX6 315 (999999) ∈ wsX6_value := by decide +kernel
theorem k_X6_value_f316 : Cond.fieldLink RX6 316 "TideLots$Sign" "NEGATE" "LTideLots$Sign;" ∈ wsX6_value := by decide +kernel
theorem k_X6_value_f303 : Cond.fieldLink RX6 303 "TideLots$Sign" "MINUS" "LTideLots$Sign;" ∈ wsX6_value := by decide +kernel
noncomputable def b_X6_value_303 (Z : Nat → Nat) (F : Nat → gMem → Nat → Int32 → Option (Int32 × gMem)) (M : gMem) (x0 : Nat) (x2 : Option Nat) (x3 : Int32) : Option (Int32 × gMem) :=
  ck (mT M x0 = 6) <| dr ((mR M x0 2)) fun a2 => ck (mT M a2 = 7) <| dr ((mR M a2 10)) fun a5 => ck (mT M a5 = 8) <| bd (f_X9_add Z M a5 x2 ((mI M x0 8))) fun _ M4 => ck (x3 = 0 ∨ x3 = 1) <| some (x3, M4)
noncomputable def b_X6_value_297 (Z : Nat → Nat) (F : Nat → gMem → Nat → Int32 → Option (Int32 × gMem)) (M : gMem) (x0 : Nat) (x2 : Option Nat) (s0 : Int32) : Option (Int32 × gMem) :=
  b_X6_value_303 Z F M x0 x2 s0
noncomputable def b_X6_value_296 (Z : Nat → Nat) (F : Nat → gMem → Nat → Int32 → Option (Int32 × gMem)) (M : gMem) (x0 : Nat) (x2 : Option Nat) : Option (Int32 × gMem) :=
  b_X6_value_297 Z F M x0 x2 ((0 : Int32))
noncomputable def b_X6_value_228 (Z : Nat → Nat) (F : Nat → gMem → Nat → Int32 → Option (Int32 × gMem)) (M : gMem) (x0 : Nat) (x1 : Int32) (x2 : Option Nat) : Option (Int32 × gMem) :=
  ck (mT M x0 = 6) <| bd (f_X6_take M x0 x2) fun r8 M8 => (if r8 = 0 then b_X6_value_296 Z F M8 x0 x2 else (if (8 : Int32) ≤ x1 then b_X6_value_296 Z F M8 x0 x2 else ck (mT M8 x0 = 6) <| bd (f_X6_take M8 x0 ((some (Z 25)))) fun r10 M10 => (if r10 = 0 then b_X6_value_296 Z F M10 x0 x2 else ck (mT M10 x0 = 6) <| bd (F 4 M10 x0 ((x1 + (1 : Int32)))) fun r12 M12 => (if r12 = 0 then b_X6_value_296 Z F M12 x0 x2 else ck (mT M12 x0 = 6) <| bd (f_X6_take M12 x0 ((some (Z 30)))) fun r14 M14 => (if r14 = 0 then b_X6_value_296 Z F M14 x0 x2 else ck (mT M14 x0 = 6) <| bd (F 4 M14 x0 ((x1 + (1 : Int32)))) fun r16 M16 => (if r16 = 0 then b_X6_value_296 Z F M16 x0 x2 else ck (mT M16 x0 = 6) <| bd (f_X6_take M16 x0 ((some (Z 26)))) fun r18 M18 => (if r18 = 0 then b_X6_value_296 Z F M18 x0 x2 else b_X6_value_297 Z F M18 x0 x2 ((1 : Int32)))))))))
noncomputable def b_X6_value_227 (Z : Nat → Nat) (F : Nat → gMem → Nat → Int32 → Option (Int32 × gMem)) (M : gMem) (s0 : Int32) : Option (Int32 × gMem) :=
  ck (s0 = 0 ∨ s0 = 1) <| some (s0, M)
noncomputable def b_X6_value_226 (Z : Nat → Nat) (F : Nat → gMem → Nat → Int32 → Option (Int32 × gMem)) (M : gMem)  : Option (Int32 × gMem) :=
  b_X6_value_227 Z F M ((0 : Int32))
noncomputable def b_X6_value_184 (Z : Nat → Nat) (F : Nat → gMem → Nat → Int32 → Option (Int32 × gMem)) (M : gMem) (x0 : Nat) (s0 : Int32) : Option (Int32 × gMem) :=
  b_X6_value_303 Z F M x0 ((some (Z 44))) s0
noncomputable def b_X6_value_183 (Z : Nat → Nat) (F : Nat → gMem → Nat → Int32 → Option (Int32 × gMem)) (M : gMem) (x0 : Nat) : Option (Int32 × gMem) :=
  b_X6_value_184 Z F M x0 ((0 : Int32))
noncomputable def b_X6_value_145 (Z : Nat → Nat) (F : Nat → gMem → Nat → Int32 → Option (Int32 × gMem)) (M : gMem) (x0 : Nat) (x2 : Option Nat) (s0 : Int32) : Option (Int32 × gMem) :=
  b_X6_value_303 Z F M x0 x2 s0
noncomputable def b_X6_value_144 (Z : Nat → Nat) (F : Nat → gMem → Nat → Int32 → Option (Int32 × gMem)) (M : gMem) (x0 : Nat) (x2 : Option Nat) : Option (Int32 × gMem) :=
  b_X6_value_145 Z F M x0 x2 ((0 : Int32))
noncomputable def b_X6_value_121 (Z : Nat → Nat) (F : Nat → gMem → Nat → Int32 → Option (Int32 × gMem)) (M : gMem) (x0 : Nat) (x2 : Option Nat) : Option (Int32 × gMem) :=
  ck (mT M x0 = 6) <| bd (f_X6_take M x0 x2) fun r21 M21 => (if r21 = 0 then b_X6_value_144 Z F M21 x0 x2 else ck (mT M21 x0 = 6) <| bd (f_X6_takeKnown Z M21 x0 ((mR M21 x0 3))) fun r24 M24 => (if r24 = 0 then b_X6_value_144 Z F M24 x0 x2 else b_X6_value_145 Z F M24 x0 x2 ((1 : Int32))))
noncomputable def b_X6_value_117 (Z : Nat → Nat) (F : Nat → gMem → Nat → Int32 → Option (Int32 × gMem)) (M : gMem) (x0 : Nat) (x2 : Option Nat) (s0 : Int32) : Option (Int32 × gMem) :=
  b_X6_value_303 Z F M x0 x2 s0
noncomputable def b_X6_value_116 (Z : Nat → Nat) (F : Nat → gMem → Nat → Int32 → Option (Int32 × gMem)) (M : gMem) (x0 : Nat) (x2 : Option Nat) : Option (Int32 × gMem) :=
  b_X6_value_117 Z F M x0 x2 ((0 : Int32))
noncomputable def b_X6_value_93 (Z : Nat → Nat) (F : Nat → gMem → Nat → Int32 → Option (Int32 × gMem)) (M : gMem) (x0 : Nat) (x2 : Option Nat) : Option (Int32 × gMem) :=
  ck (mT M x0 = 6) <| bd (f_X6_take M x0 x2) fun r25 M25 => (if r25 = 0 then b_X6_value_116 Z F M25 x0 x2 else ck (mT M25 x0 = 6) <| bd (f_X6_takeKnown Z M25 x0 ((mR M25 x0 4))) fun r28 M28 => (if r28 = 0 then b_X6_value_116 Z F M28 x0 x2 else b_X6_value_117 Z F M28 x0 x2 ((1 : Int32))))
noncomputable def b_X6_value_0 (Z : Nat → Nat) (F : Nat → gMem → Nat → Int32 → Option (Int32 × gMem)) (M : gMem) (x0 : Nat) (x1 : Int32) : Option (Int32 × gMem) :=
  ck (mT M x0 = 6) <| bd (f_X6_sign M x0) fun r29 M29 => dr (ordZ Z r29) fun o31 => (if (gSw o31) = (13 : Int32) then ck (mT M29 x0 = 6) <| bd (f_X6_takeNumber Z M29 x0 ((0 : Int32)) ((999999 : Int32))) fun r33 M33 => b_X6_value_303 Z F M33 x0 r29 r33 else (if (gSw o31) = (14 : Int32) then ck (mT M29 x0 = 6) <| bd (f_X6_take M29 x0 r29) fun r36 M36 => b_X6_value_303 Z F M36 x0 r29 r36 else (if (gSw o31) = (15 : Int32) then b_X6_value_93 Z F M29 x0 r29 else (if (gSw o31) = (16 : Int32) then b_X6_value_93 Z F M29 x0 r29 else (if (gSw o31) = (17 : Int32) then b_X6_value_93 Z F M29 x0 r29 else (if (gSw o31) = (18 : Int32) then b_X6_value_121 Z F M29 x0 r29 else (if (gSw o31) = (19 : Int32) then b_X6_value_121 Z F M29 x0 r29 else (if (gSw o31) = (20 : Int32) then (if (8 : Int32) ≤ x1 then b_X6_value_183 Z F M29 x0 else ck (mT M29 x0 = 6) <| bd (f_X6_take M29 x0 ((some (Z 32)))) fun r44 M44 => (if r44 = 0 then b_X6_value_183 Z F M44 x0 else ck (mT M44 x0 = 6) <| bd (F 6 M44 x0 ((x1 + (1 : Int32)))) fun r46 M46 => (if r46 = 0 then b_X6_value_183 Z F M46 x0 else b_X6_value_184 Z F M46 x0 ((1 : Int32))))) else (if (gSw o31) = (21 : Int32) then (if (8 : Int32) ≤ x1 then b_X6_value_226 Z F M29  else ck (mT M29 x0 = 6) <| bd (f_X6_take M29 x0 r29) fun r49 M49 => (if r49 = 0 then b_X6_value_226 Z F M49  else ck (mT M49 x0 = 6) <| bd (F 4 M49 x0 ((x1 + (1 : Int32)))) fun r51 M51 => (if r51 = 0 then b_X6_value_226 Z F M51  else ck (mT M51 x0 = 6) <| bd (f_X6_take M51 x0 ((some (Z 26)))) fun r53 M53 => (if r53 = 0 then b_X6_value_226 Z F M53  else b_X6_value_227 Z F M53 ((1 : Int32)))))) else (if (gSw o31) = (22 : Int32) then b_X6_value_228 Z F M29 x0 x1 r29 else (if (gSw o31) = (23 : Int32) then b_X6_value_228 Z F M29 x0 x1 r29 else some ((0 : Int32), M29))))))))))))
noncomputable def fr_X6_value (Z : Nat → Nat) (F : Nat → gMem → Nat → Int32 → Option (Int32 × gMem)) (M : gMem) (x0 : Nat) (x1 : Int32) : Option (Int32 × gMem) :=
  b_X6_value_0 Z F M x0 x1
set_option maxHeartbeats 4000000 in
set_option maxRecDepth 100000 in
theorem t_X6_value_303 (X : gX p s m args meth c D cy B (gSt Z B H0) RX6 cX6_value wsX6_value 4) (hr : meth.sig.returnType = (some .boolean)) {n0 : Nat} {F : Nat → gMem → Nat → Int32 → Option (Int32 × gMem)} (hF : hX6R l D cy B H0 Z n0 F) {Q : State → Prop} : ∀ (M : gMem) (x0 : Nat) (x2 : Option Nat) (x3 : Int32) (z : Int32 × gMem), b_X6_value_303 Z F M x0 x2 x3 = some z → (fun (r : Int32 × gMem) => Q = gMQ below D cy B H0 args s 0 0 (some (vI r.1)) r.2) z → gGo p l e (rX6R (n0 + 1)) s m args below meth c D cy B H0 4 0 0 Q 303 [(0, vR (some x0)), (2, vR x2), (3, vI x3)] [] M := by
  intro M x0 x2 x3 z hf hK
  unfold b_X6_value_303 at hf
  refine g_aload_n X dX6_value_303 rfl rfl ?_
  obtain ⟨hT1, hf⟩ := ck_e hf
  refine g_get (ci := 5) (v := vR (mR M x0 2)) 2 X cdX6 i_X6_value_X6 (by decide) k_X6_value_f34 rfl dX6_value_304 rfl hT1 rfl ?_
  obtain ⟨a2, ha2, hf⟩ := dr_e hf
  obtain ⟨hT3, hf⟩ := ck_e hf
  refine g_get (ci := 6) (v := vR (mR M a2 10)) 10 X cdX7 i_X6_value_X7 (by decide) k_X6_value_f193 rfl dX6_value_307 ha2 hT3 rfl ?_
  refine g_aload_n X dX6_value_310 rfl rfl ?_
  refine g_aload_n X dX6_value_311 rfl rfl ?_
  refine g_get (ci := 5) (v := vI (mI M x0 8)) 8 X cdX6 i_X6_value_X6 (by decide) k_X6_value_f112 rfl dX6_value_312 rfl hT1 rfl ?_
  obtain ⟨a5, ha5, hf⟩ := dr_e hf
  obtain ⟨hT6, hf⟩ := ck_e hf
  obtain ⟨r4, M4, hq4, hf⟩ := bd_e hf
  refine g_callV (ci := 7) (b := a5) (As := [vR x2, vI (mI M x0 8)]) (st := []) (v := none) (M1 := M4) X (m_X9_add l hq4) (cwV 2 X.2.2.1 gX6_value_X9_add rfl rfl rfl (by decide +kernel) ⟨rX6R_f (Nat.le_of_ble_eq_true rfl), rX6R_l (Nat.le_of_ble_eq_true rfl)⟩) rfl rfl ha5 hT6 (by decide) rfl (Nat.le_of_ble_eq_true rfl) dX6_value_315 ⟨Nat.zero_le _, Nat.zero_le _⟩ ?_
  refine g_iload_n X dX6_value_318 rfl rfl ?_
  obtain ⟨hg7, hf⟩ := ck_e hf
  cases hf
  refine g_eqQ hK ?_
  exact g_zret X hr (gnb hg7) dX6_value_319
set_option maxHeartbeats 4000000 in
set_option maxRecDepth 100000 in
theorem t_X6_value_297 (X : gX p s m args meth c D cy B (gSt Z B H0) RX6 cX6_value wsX6_value 4) (hr : meth.sig.returnType = (some .boolean)) {n0 : Nat} {F : Nat → gMem → Nat → Int32 → Option (Int32 × gMem)} (hF : hX6R l D cy B H0 Z n0 F) {Q : State → Prop} : ∀ (M : gMem) (x0 : Nat) (x2 : Option Nat) (s0 : Int32) (z : Int32 × gMem), b_X6_value_297 Z F M x0 x2 s0 = some z → (fun (r : Int32 × gMem) => Q = gMQ below D cy B H0 args s 0 0 (some (vI r.1)) r.2) z → gGo p l e (rX6R (n0 + 1)) s m args below meth c D cy B H0 4 0 0 Q 297 [(0, vR (some x0)), (2, vR x2)] [vI s0] M := by
  intro M x0 x2 s0 z hf hK
  unfold b_X6_value_297 at hf
  refine g_istore_n (lv' := [(3, vI s0), (0, vR (some x0)), (2, vR x2)]) X dX6_value_297 rfl (by decide) rfl ?_
  refine g_goto (tgt := 303) X dX6_value_298 (by decide) ?_
  refine g_sub (lvsub_of _ _ [1, 2, 0] rfl) ?_
  exact t_X6_value_303 X hr hF _ _ _ _ _ hf hK
set_option maxHeartbeats 4000000 in
set_option maxRecDepth 100000 in
theorem t_X6_value_296 (X : gX p s m args meth c D cy B (gSt Z B H0) RX6 cX6_value wsX6_value 4) (hr : meth.sig.returnType = (some .boolean)) {n0 : Nat} {F : Nat → gMem → Nat → Int32 → Option (Int32 × gMem)} (hF : hX6R l D cy B H0 Z n0 F) {Q : State → Prop} : ∀ (M : gMem) (x0 : Nat) (x2 : Option Nat) (z : Int32 × gMem), b_X6_value_296 Z F M x0 x2 = some z → (fun (r : Int32 × gMem) => Q = gMQ below D cy B H0 args s 0 0 (some (vI r.1)) r.2) z → gGo p l e (rX6R (n0 + 1)) s m args below meth c D cy B H0 4 0 0 Q 296 [(0, vR (some x0)), (2, vR x2)] [] M := by
  intro M x0 x2 z hf hK
  unfold b_X6_value_296 at hf
  refine g_iconst (v := (0 : Int32)) X dX6_value_296 (by decide) ?_
  refine g_sub (lvsub_of _ _ [0, 1] rfl) ?_
  exact t_X6_value_297 X hr hF _ _ _ _ _ hf hK
set_option maxHeartbeats 4000000 in
set_option maxRecDepth 100000 in
theorem t_X6_value_228 (X : gX p s m args meth c D cy B (gSt Z B H0) RX6 cX6_value wsX6_value 4) (hr : meth.sig.returnType = (some .boolean)) {n0 : Nat} {F : Nat → gMem → Nat → Int32 → Option (Int32 × gMem)} (hF : hX6R l D cy B H0 Z n0 F) {Q : State → Prop} : ∀ (M : gMem) (x0 : Nat) (x1 : Int32) (x2 : Option Nat) (z : Int32 × gMem), b_X6_value_228 Z F M x0 x1 x2 = some z → (fun (r : Int32 × gMem) => Q = gMQ below D cy B H0 args s 0 0 (some (vI r.1)) r.2) z → gGo p l e (rX6R (n0 + 1)) s m args below meth c D cy B H0 4 0 0 Q 228 [(0, vR (some x0)), (1, vI x1), (2, vR x2)] [] M := by
  intro M x0 x1 x2 z hf hK
  unfold b_X6_value_228 at hf
  refine g_aload_n X dX6_value_228 rfl rfl ?_
  refine g_aload_n X dX6_value_229 rfl rfl ?_
  obtain ⟨hT9, hf⟩ := ck_e hf
  obtain ⟨r8, M8, hq8, hf⟩ := bd_e hf
  refine g_callV (ci := 5) (b := x0) (As := [vR x2]) (st := []) (v := some (vI r8)) (M1 := M8) X (m_X6_take l hq8) (cwV 1 X.2.2.1 gX6_value_X6_take rfl rfl rfl (by decide +kernel) ⟨rX6R_f (Nat.le_of_ble_eq_true rfl), rX6R_l (Nat.le_of_ble_eq_true rfl)⟩) rfl rfl rfl hT9 (by decide) rfl (Nat.le_of_ble_eq_true rfl) dX6_value_230 ⟨Nat.zero_le _, Nat.zero_le _⟩ ?_
  refine g_if_eq (tgt := 296) X dX6_value_233 (by decide) (fun hc => ?_) (fun hc => ?_)
  · have hf := ife_t hc hf
    refine g_sub (lvsub_of _ _ [0, 2] rfl) ?_
    exact t_X6_value_296 X hr hF _ _ _ _ hf hK
  · have hf := ife_f hc hf
    refine g_iload_n X dX6_value_236 rfl rfl ?_
    refine g_bipush (v := (8 : Int32)) X dX6_value_237 (by decide) ?_
    refine g_icmp_ge (tgt := 296) X dX6_value_239 (by decide) (fun hc => ?_) (fun hc => ?_)
    · have hf := ife_t hc hf
      refine g_sub (lvsub_of _ _ [0, 2] rfl) ?_
      exact t_X6_value_296 X hr hF _ _ _ _ hf hK
    · have hf := ife_f hc hf
      refine g_aload_n X dX6_value_242 rfl rfl ?_
      refine g_gets (w := vR (some (Z 25))) X (gSt_E X 25 (by decide)) k_X6_value_f322 rfl dX6_value_243 ?_
      obtain ⟨hT11, hf⟩ := ck_e hf
      obtain ⟨r10, M10, hq10, hf⟩ := bd_e hf
      refine g_callV (ci := 5) (b := x0) (As := [vR (some (Z 25))]) (st := []) (v := some (vI r10)) (M1 := M10) X (m_X6_take l hq10) (cwV 1 X.2.2.1 gX6_value_X6_take rfl rfl rfl (by decide +kernel) ⟨rX6R_f (Nat.le_of_ble_eq_true rfl), rX6R_l (Nat.le_of_ble_eq_true rfl)⟩) rfl rfl rfl hT11 (by decide) rfl (Nat.le_of_ble_eq_true rfl) dX6_value_246 ⟨Nat.zero_le _, Nat.zero_le _⟩ ?_
      refine g_if_eq (tgt := 296) X dX6_value_249 (by decide) (fun hc => ?_) (fun hc => ?_)
      · have hf := ife_t hc hf
        refine g_sub (lvsub_of _ _ [0, 2] rfl) ?_
        exact t_X6_value_296 X hr hF _ _ _ _ hf hK
      · have hf := ife_f hc hf
        refine g_aload_n X dX6_value_252 rfl rfl ?_
        refine g_iload_n X dX6_value_253 rfl rfl ?_
        refine g_iconst (v := (1 : Int32)) X dX6_value_254 (by decide) ?_
        refine g_iadd X dX6_value_255 ?_
        obtain ⟨hT13, hf⟩ := ck_e hf
        obtain ⟨r12, M12, hq12, hf⟩ := bd_e hf
        refine g_callV (ci := 5) (b := x0) (As := [vI (x1 + (1 : Int32))]) (st := []) (v := some (vI r12)) (M1 := M12) X (hF.2.2.2.2.1 _ _ _ _ _ hq12) (cwV 1 X.2.2.1 gX6_value_X6_sum rfl rfl rfl (by decide +kernel) ⟨rX6R_rf, rX6R_rl (Nat.le_of_ble_eq_true rfl)⟩) rfl rfl rfl hT13 (by decide) rfl (Nat.le_of_ble_eq_true rfl) dX6_value_256 ⟨Nat.zero_le _, Nat.zero_le _⟩ ?_
        refine g_if_eq (tgt := 296) X dX6_value_259 (by decide) (fun hc => ?_) (fun hc => ?_)
        · have hf := ife_t hc hf
          refine g_sub (lvsub_of _ _ [0, 2] rfl) ?_
          exact t_X6_value_296 X hr hF _ _ _ _ hf hK
        · have hf := ife_f hc hf
          refine g_aload_n X dX6_value_262 rfl rfl ?_
          refine g_gets (w := vR (some (Z 30))) X (gSt_E X 30 (by decide)) k_X6_value_f127 rfl dX6_value_263 ?_
          obtain ⟨hT15, hf⟩ := ck_e hf
          obtain ⟨r14, M14, hq14, hf⟩ := bd_e hf
          refine g_callV (ci := 5) (b := x0) (As := [vR (some (Z 30))]) (st := []) (v := some (vI r14)) (M1 := M14) X (m_X6_take l hq14) (cwV 1 X.2.2.1 gX6_value_X6_take rfl rfl rfl (by decide +kernel) ⟨rX6R_f (Nat.le_of_ble_eq_true rfl), rX6R_l (Nat.le_of_ble_eq_true rfl)⟩) rfl rfl rfl hT15 (by decide) rfl (Nat.le_of_ble_eq_true rfl) dX6_value_266 ⟨Nat.zero_le _, Nat.zero_le _⟩ ?_
          refine g_if_eq (tgt := 296) X dX6_value_269 (by decide) (fun hc => ?_) (fun hc => ?_)
          · have hf := ife_t hc hf
            refine g_sub (lvsub_of _ _ [0, 2] rfl) ?_
            exact t_X6_value_296 X hr hF _ _ _ _ hf hK
          · have hf := ife_f hc hf
            refine g_aload_n X dX6_value_272 rfl rfl ?_
            refine g_iload_n X dX6_value_273 rfl rfl ?_
            refine g_iconst (v := (1 : Int32)) X dX6_value_274 (by decide) ?_
            refine g_iadd X dX6_value_275 ?_
            obtain ⟨hT17, hf⟩ := ck_e hf
            obtain ⟨r16, M16, hq16, hf⟩ := bd_e hf
            refine g_callV (ci := 5) (b := x0) (As := [vI (x1 + (1 : Int32))]) (st := []) (v := some (vI r16)) (M1 := M16) X (hF.2.2.2.2.1 _ _ _ _ _ hq16) (cwV 1 X.2.2.1 gX6_value_X6_sum rfl rfl rfl (by decide +kernel) ⟨rX6R_rf, rX6R_rl (Nat.le_of_ble_eq_true rfl)⟩) rfl rfl rfl hT17 (by decide) rfl (Nat.le_of_ble_eq_true rfl) dX6_value_276 ⟨Nat.zero_le _, Nat.zero_le _⟩ ?_
            refine g_if_eq (tgt := 296) X dX6_value_279 (by decide) (fun hc => ?_) (fun hc => ?_)
            · have hf := ife_t hc hf
              refine g_sub (lvsub_of _ _ [0, 2] rfl) ?_
              exact t_X6_value_296 X hr hF _ _ _ _ hf hK
            · have hf := ife_f hc hf
              refine g_aload_n X dX6_value_282 rfl rfl ?_
              refine g_gets (w := vR (some (Z 26))) X (gSt_E X 26 (by decide)) k_X6_value_f319 rfl dX6_value_283 ?_
              obtain ⟨hT19, hf⟩ := ck_e hf
              obtain ⟨r18, M18, hq18, hf⟩ := bd_e hf
              refine g_callV (ci := 5) (b := x0) (As := [vR (some (Z 26))]) (st := []) (v := some (vI r18)) (M1 := M18) X (m_X6_take l hq18) (cwV 1 X.2.2.1 gX6_value_X6_take rfl rfl rfl (by decide +kernel) ⟨rX6R_f (Nat.le_of_ble_eq_true rfl), rX6R_l (Nat.le_of_ble_eq_true rfl)⟩) rfl rfl rfl hT19 (by decide) rfl (Nat.le_of_ble_eq_true rfl) dX6_value_286 ⟨Nat.zero_le _, Nat.zero_le _⟩ ?_
              refine g_if_eq (tgt := 296) X dX6_value_289 (by decide) (fun hc => ?_) (fun hc => ?_)
              · have hf := ife_t hc hf
                refine g_sub (lvsub_of _ _ [0, 2] rfl) ?_
                exact t_X6_value_296 X hr hF _ _ _ _ hf hK
              · have hf := ife_f hc hf
                refine g_iconst (v := (1 : Int32)) X dX6_value_292 (by decide) ?_
                refine g_goto (tgt := 297) X dX6_value_293 (by decide) ?_
                refine g_sub (lvsub_of _ _ [0, 2] rfl) ?_
                exact t_X6_value_297 X hr hF _ _ _ _ _ hf hK
set_option maxHeartbeats 4000000 in
set_option maxRecDepth 100000 in
theorem t_X6_value_227 (X : gX p s m args meth c D cy B (gSt Z B H0) RX6 cX6_value wsX6_value 4) (hr : meth.sig.returnType = (some .boolean)) {n0 : Nat} {F : Nat → gMem → Nat → Int32 → Option (Int32 × gMem)} (hF : hX6R l D cy B H0 Z n0 F) {Q : State → Prop} : ∀ (M : gMem) (s0 : Int32) (z : Int32 × gMem), b_X6_value_227 Z F M s0 = some z → (fun (r : Int32 × gMem) => Q = gMQ below D cy B H0 args s 0 0 (some (vI r.1)) r.2) z → gGo p l e (rX6R (n0 + 1)) s m args below meth c D cy B H0 4 0 0 Q 227 [] [vI s0] M := by
  intro M s0 z hf hK
  unfold b_X6_value_227 at hf
  obtain ⟨hg20, hf⟩ := ck_e hf
  cases hf
  refine g_eqQ hK ?_
  exact g_zret X hr (gnb hg20) dX6_value_227
set_option maxHeartbeats 4000000 in
set_option maxRecDepth 100000 in
theorem t_X6_value_226 (X : gX p s m args meth c D cy B (gSt Z B H0) RX6 cX6_value wsX6_value 4) (hr : meth.sig.returnType = (some .boolean)) {n0 : Nat} {F : Nat → gMem → Nat → Int32 → Option (Int32 × gMem)} (hF : hX6R l D cy B H0 Z n0 F) {Q : State → Prop} : ∀ (M : gMem)  (z : Int32 × gMem), b_X6_value_226 Z F M  = some z → (fun (r : Int32 × gMem) => Q = gMQ below D cy B H0 args s 0 0 (some (vI r.1)) r.2) z → gGo p l e (rX6R (n0 + 1)) s m args below meth c D cy B H0 4 0 0 Q 226 [] [] M := by
  intro M  z hf hK
  unfold b_X6_value_226 at hf
  refine g_iconst (v := (0 : Int32)) X dX6_value_226 (by decide) ?_
  refine g_sub (lvsub_of _ _ [] rfl) ?_
  exact t_X6_value_227 X hr hF _ _ _ hf hK
set_option maxHeartbeats 4000000 in
set_option maxRecDepth 100000 in
theorem t_X6_value_184 (X : gX p s m args meth c D cy B (gSt Z B H0) RX6 cX6_value wsX6_value 4) (hr : meth.sig.returnType = (some .boolean)) {n0 : Nat} {F : Nat → gMem → Nat → Int32 → Option (Int32 × gMem)} (hF : hX6R l D cy B H0 Z n0 F) {Q : State → Prop} : ∀ (M : gMem) (x0 : Nat) (s0 : Int32) (z : Int32 × gMem), b_X6_value_184 Z F M x0 s0 = some z → (fun (r : Int32 × gMem) => Q = gMQ below D cy B H0 args s 0 0 (some (vI r.1)) r.2) z → gGo p l e (rX6R (n0 + 1)) s m args below meth c D cy B H0 4 0 0 Q 184 [(0, vR (some x0)), (2, vR (some (Z 44)))] [vI s0] M := by
  intro M x0 s0 z hf hK
  unfold b_X6_value_184 at hf
  refine g_istore_n (lv' := [(3, vI s0), (0, vR (some x0)), (2, vR (some (Z 44)))]) X dX6_value_184 rfl (by decide) rfl ?_
  refine g_goto (tgt := 303) X dX6_value_185 (by decide) ?_
  refine g_sub (lvsub_of _ _ [1, 2, 0] rfl) ?_
  exact t_X6_value_303 X hr hF _ _ _ _ _ hf hK
set_option maxHeartbeats 4000000 in
set_option maxRecDepth 100000 in
theorem t_X6_value_183 (X : gX p s m args meth c D cy B (gSt Z B H0) RX6 cX6_value wsX6_value 4) (hr : meth.sig.returnType = (some .boolean)) {n0 : Nat} {F : Nat → gMem → Nat → Int32 → Option (Int32 × gMem)} (hF : hX6R l D cy B H0 Z n0 F) {Q : State → Prop} : ∀ (M : gMem) (x0 : Nat) (z : Int32 × gMem), b_X6_value_183 Z F M x0 = some z → (fun (r : Int32 × gMem) => Q = gMQ below D cy B H0 args s 0 0 (some (vI r.1)) r.2) z → gGo p l e (rX6R (n0 + 1)) s m args below meth c D cy B H0 4 0 0 Q 183 [(0, vR (some x0)), (2, vR (some (Z 44)))] [] M := by
  intro M x0 z hf hK
  unfold b_X6_value_183 at hf
  refine g_iconst (v := (0 : Int32)) X dX6_value_183 (by decide) ?_
  refine g_sub (lvsub_of _ _ [0, 1] rfl) ?_
  exact t_X6_value_184 X hr hF _ _ _ _ hf hK
set_option maxHeartbeats 4000000 in
set_option maxRecDepth 100000 in
theorem t_X6_value_145 (X : gX p s m args meth c D cy B (gSt Z B H0) RX6 cX6_value wsX6_value 4) (hr : meth.sig.returnType = (some .boolean)) {n0 : Nat} {F : Nat → gMem → Nat → Int32 → Option (Int32 × gMem)} (hF : hX6R l D cy B H0 Z n0 F) {Q : State → Prop} : ∀ (M : gMem) (x0 : Nat) (x2 : Option Nat) (s0 : Int32) (z : Int32 × gMem), b_X6_value_145 Z F M x0 x2 s0 = some z → (fun (r : Int32 × gMem) => Q = gMQ below D cy B H0 args s 0 0 (some (vI r.1)) r.2) z → gGo p l e (rX6R (n0 + 1)) s m args below meth c D cy B H0 4 0 0 Q 145 [(0, vR (some x0)), (2, vR x2)] [vI s0] M := by
  intro M x0 x2 s0 z hf hK
  unfold b_X6_value_145 at hf
  refine g_istore_n (lv' := [(3, vI s0), (0, vR (some x0)), (2, vR x2)]) X dX6_value_145 rfl (by decide) rfl ?_
  refine g_goto (tgt := 303) X dX6_value_146 (by decide) ?_
  refine g_sub (lvsub_of _ _ [1, 2, 0] rfl) ?_
  exact t_X6_value_303 X hr hF _ _ _ _ _ hf hK
set_option maxHeartbeats 4000000 in
set_option maxRecDepth 100000 in
theorem t_X6_value_144 (X : gX p s m args meth c D cy B (gSt Z B H0) RX6 cX6_value wsX6_value 4) (hr : meth.sig.returnType = (some .boolean)) {n0 : Nat} {F : Nat → gMem → Nat → Int32 → Option (Int32 × gMem)} (hF : hX6R l D cy B H0 Z n0 F) {Q : State → Prop} : ∀ (M : gMem) (x0 : Nat) (x2 : Option Nat) (z : Int32 × gMem), b_X6_value_144 Z F M x0 x2 = some z → (fun (r : Int32 × gMem) => Q = gMQ below D cy B H0 args s 0 0 (some (vI r.1)) r.2) z → gGo p l e (rX6R (n0 + 1)) s m args below meth c D cy B H0 4 0 0 Q 144 [(0, vR (some x0)), (2, vR x2)] [] M := by
  intro M x0 x2 z hf hK
  unfold b_X6_value_144 at hf
  refine g_iconst (v := (0 : Int32)) X dX6_value_144 (by decide) ?_
  refine g_sub (lvsub_of _ _ [0, 1] rfl) ?_
  exact t_X6_value_145 X hr hF _ _ _ _ _ hf hK
set_option maxHeartbeats 4000000 in
set_option maxRecDepth 100000 in
theorem t_X6_value_121 (X : gX p s m args meth c D cy B (gSt Z B H0) RX6 cX6_value wsX6_value 4) (hr : meth.sig.returnType = (some .boolean)) {n0 : Nat} {F : Nat → gMem → Nat → Int32 → Option (Int32 × gMem)} (hF : hX6R l D cy B H0 Z n0 F) {Q : State → Prop} : ∀ (M : gMem) (x0 : Nat) (x2 : Option Nat) (z : Int32 × gMem), b_X6_value_121 Z F M x0 x2 = some z → (fun (r : Int32 × gMem) => Q = gMQ below D cy B H0 args s 0 0 (some (vI r.1)) r.2) z → gGo p l e (rX6R (n0 + 1)) s m args below meth c D cy B H0 4 0 0 Q 121 [(0, vR (some x0)), (2, vR x2)] [] M := by
  intro M x0 x2 z hf hK
  unfold b_X6_value_121 at hf
  refine g_aload_n X dX6_value_121 rfl rfl ?_
  refine g_aload_n X dX6_value_122 rfl rfl ?_
  obtain ⟨hT22, hf⟩ := ck_e hf
  obtain ⟨r21, M21, hq21, hf⟩ := bd_e hf
  refine g_callV (ci := 5) (b := x0) (As := [vR x2]) (st := []) (v := some (vI r21)) (M1 := M21) X (m_X6_take l hq21) (cwV 1 X.2.2.1 gX6_value_X6_take rfl rfl rfl (by decide +kernel) ⟨rX6R_f (Nat.le_of_ble_eq_true rfl), rX6R_l (Nat.le_of_ble_eq_true rfl)⟩) rfl rfl rfl hT22 (by decide) rfl (Nat.le_of_ble_eq_true rfl) dX6_value_123 ⟨Nat.zero_le _, Nat.zero_le _⟩ ?_
  refine g_if_eq (tgt := 144) X dX6_value_126 (by decide) (fun hc => ?_) (fun hc => ?_)
  · have hf := ife_t hc hf
    refine g_sub (lvsub_of _ _ [0, 1] rfl) ?_
    exact t_X6_value_144 X hr hF _ _ _ _ hf hK
  · have hf := ife_f hc hf
    refine g_aload_n X dX6_value_129 rfl rfl ?_
    refine g_aload_n X dX6_value_130 rfl rfl ?_
    obtain ⟨hT23, hf⟩ := ck_e hf
    refine g_get (ci := 5) (v := vR (mR M21 x0 3)) 3 X cdX6 i_X6_value_X6 (by decide) k_X6_value_f20 rfl dX6_value_131 rfl hT23 rfl ?_
    obtain ⟨r24, M24, hq24, hf⟩ := bd_e hf
    refine g_callV (ci := 5) (b := x0) (As := [vR (mR M21 x0 3)]) (st := []) (v := some (vI r24)) (M1 := M24) X (m_X6_takeKnown l hq24) (cwV 1 X.2.2.1 gX6_value_X6_takeKnown rfl rfl rfl (by decide +kernel) ⟨rX6R_f (Nat.le_of_ble_eq_true rfl), rX6R_l (Nat.le_of_ble_eq_true rfl)⟩) rfl rfl rfl hT23 (by decide) rfl (Nat.le_of_ble_eq_true rfl) dX6_value_134 ⟨Nat.zero_le _, Nat.zero_le _⟩ ?_
    refine g_if_eq (tgt := 144) X dX6_value_137 (by decide) (fun hc => ?_) (fun hc => ?_)
    · have hf := ife_t hc hf
      refine g_sub (lvsub_of _ _ [0, 1] rfl) ?_
      exact t_X6_value_144 X hr hF _ _ _ _ hf hK
    · have hf := ife_f hc hf
      refine g_iconst (v := (1 : Int32)) X dX6_value_140 (by decide) ?_
      refine g_goto (tgt := 145) X dX6_value_141 (by decide) ?_
      refine g_sub (lvsub_of _ _ [0, 1] rfl) ?_
      exact t_X6_value_145 X hr hF _ _ _ _ _ hf hK
set_option maxHeartbeats 4000000 in
set_option maxRecDepth 100000 in
theorem t_X6_value_117 (X : gX p s m args meth c D cy B (gSt Z B H0) RX6 cX6_value wsX6_value 4) (hr : meth.sig.returnType = (some .boolean)) {n0 : Nat} {F : Nat → gMem → Nat → Int32 → Option (Int32 × gMem)} (hF : hX6R l D cy B H0 Z n0 F) {Q : State → Prop} : ∀ (M : gMem) (x0 : Nat) (x2 : Option Nat) (s0 : Int32) (z : Int32 × gMem), b_X6_value_117 Z F M x0 x2 s0 = some z → (fun (r : Int32 × gMem) => Q = gMQ below D cy B H0 args s 0 0 (some (vI r.1)) r.2) z → gGo p l e (rX6R (n0 + 1)) s m args below meth c D cy B H0 4 0 0 Q 117 [(0, vR (some x0)), (2, vR x2)] [vI s0] M := by
  intro M x0 x2 s0 z hf hK
  unfold b_X6_value_117 at hf
  refine g_istore_n (lv' := [(3, vI s0), (0, vR (some x0)), (2, vR x2)]) X dX6_value_117 rfl (by decide) rfl ?_
  refine g_goto (tgt := 303) X dX6_value_118 (by decide) ?_
  refine g_sub (lvsub_of _ _ [1, 2, 0] rfl) ?_
  exact t_X6_value_303 X hr hF _ _ _ _ _ hf hK
set_option maxHeartbeats 4000000 in
set_option maxRecDepth 100000 in
theorem t_X6_value_116 (X : gX p s m args meth c D cy B (gSt Z B H0) RX6 cX6_value wsX6_value 4) (hr : meth.sig.returnType = (some .boolean)) {n0 : Nat} {F : Nat → gMem → Nat → Int32 → Option (Int32 × gMem)} (hF : hX6R l D cy B H0 Z n0 F) {Q : State → Prop} : ∀ (M : gMem) (x0 : Nat) (x2 : Option Nat) (z : Int32 × gMem), b_X6_value_116 Z F M x0 x2 = some z → (fun (r : Int32 × gMem) => Q = gMQ below D cy B H0 args s 0 0 (some (vI r.1)) r.2) z → gGo p l e (rX6R (n0 + 1)) s m args below meth c D cy B H0 4 0 0 Q 116 [(0, vR (some x0)), (2, vR x2)] [] M := by
  intro M x0 x2 z hf hK
  unfold b_X6_value_116 at hf
  refine g_iconst (v := (0 : Int32)) X dX6_value_116 (by decide) ?_
  refine g_sub (lvsub_of _ _ [0, 1] rfl) ?_
  exact t_X6_value_117 X hr hF _ _ _ _ _ hf hK
set_option maxHeartbeats 4000000 in
set_option maxRecDepth 100000 in
theorem t_X6_value_93 (X : gX p s m args meth c D cy B (gSt Z B H0) RX6 cX6_value wsX6_value 4) (hr : meth.sig.returnType = (some .boolean)) {n0 : Nat} {F : Nat → gMem → Nat → Int32 → Option (Int32 × gMem)} (hF : hX6R l D cy B H0 Z n0 F) {Q : State → Prop} : ∀ (M : gMem) (x0 : Nat) (x2 : Option Nat) (z : Int32 × gMem), b_X6_value_93 Z F M x0 x2 = some z → (fun (r : Int32 × gMem) => Q = gMQ below D cy B H0 args s 0 0 (some (vI r.1)) r.2) z → gGo p l e (rX6R (n0 + 1)) s m args below meth c D cy B H0 4 0 0 Q 93 [(0, vR (some x0)), (2, vR x2)] [] M := by
  intro M x0 x2 z hf hK
  unfold b_X6_value_93 at hf
  refine g_aload_n X dX6_value_93 rfl rfl ?_
  refine g_aload_n X dX6_value_94 rfl rfl ?_
  obtain ⟨hT26, hf⟩ := ck_e hf
  obtain ⟨r25, M25, hq25, hf⟩ := bd_e hf
  refine g_callV (ci := 5) (b := x0) (As := [vR x2]) (st := []) (v := some (vI r25)) (M1 := M25) X (m_X6_take l hq25) (cwV 1 X.2.2.1 gX6_value_X6_take rfl rfl rfl (by decide +kernel) ⟨rX6R_f (Nat.le_of_ble_eq_true rfl), rX6R_l (Nat.le_of_ble_eq_true rfl)⟩) rfl rfl rfl hT26 (by decide) rfl (Nat.le_of_ble_eq_true rfl) dX6_value_95 ⟨Nat.zero_le _, Nat.zero_le _⟩ ?_
  refine g_if_eq (tgt := 116) X dX6_value_98 (by decide) (fun hc => ?_) (fun hc => ?_)
  · have hf := ife_t hc hf
    refine g_sub (lvsub_of _ _ [0, 1] rfl) ?_
    exact t_X6_value_116 X hr hF _ _ _ _ hf hK
  · have hf := ife_f hc hf
    refine g_aload_n X dX6_value_101 rfl rfl ?_
    refine g_aload_n X dX6_value_102 rfl rfl ?_
    obtain ⟨hT27, hf⟩ := ck_e hf
    refine g_get (ci := 5) (v := vR (mR M25 x0 4)) 4 X cdX6 i_X6_value_X6 (by decide) k_X6_value_f24 rfl dX6_value_103 rfl hT27 rfl ?_
    obtain ⟨r28, M28, hq28, hf⟩ := bd_e hf
    refine g_callV (ci := 5) (b := x0) (As := [vR (mR M25 x0 4)]) (st := []) (v := some (vI r28)) (M1 := M28) X (m_X6_takeKnown l hq28) (cwV 1 X.2.2.1 gX6_value_X6_takeKnown rfl rfl rfl (by decide +kernel) ⟨rX6R_f (Nat.le_of_ble_eq_true rfl), rX6R_l (Nat.le_of_ble_eq_true rfl)⟩) rfl rfl rfl hT27 (by decide) rfl (Nat.le_of_ble_eq_true rfl) dX6_value_106 ⟨Nat.zero_le _, Nat.zero_le _⟩ ?_
    refine g_if_eq (tgt := 116) X dX6_value_109 (by decide) (fun hc => ?_) (fun hc => ?_)
    · have hf := ife_t hc hf
      refine g_sub (lvsub_of _ _ [0, 1] rfl) ?_
      exact t_X6_value_116 X hr hF _ _ _ _ hf hK
    · have hf := ife_f hc hf
      refine g_iconst (v := (1 : Int32)) X dX6_value_112 (by decide) ?_
      refine g_goto (tgt := 117) X dX6_value_113 (by decide) ?_
      refine g_sub (lvsub_of _ _ [0, 1] rfl) ?_
      exact t_X6_value_117 X hr hF _ _ _ _ _ hf hK
set_option maxHeartbeats 4000000 in
set_option maxRecDepth 100000 in
theorem t_X6_value_0 (X : gX p s m args meth c D cy B (gSt Z B H0) RX6 cX6_value wsX6_value 4) (hr : meth.sig.returnType = (some .boolean)) {n0 : Nat} {F : Nat → gMem → Nat → Int32 → Option (Int32 × gMem)} (hF : hX6R l D cy B H0 Z n0 F) {Q : State → Prop} : ∀ (M : gMem) (x0 : Nat) (x1 : Int32) (z : Int32 × gMem), b_X6_value_0 Z F M x0 x1 = some z → (fun (r : Int32 × gMem) => Q = gMQ below D cy B H0 args s 0 0 (some (vI r.1)) r.2) z → gGo p l e (rX6R (n0 + 1)) s m args below meth c D cy B H0 4 0 0 Q 0 [(0, vR (some x0)), (1, vI x1)] [] M := by
  intro M x0 x1 z hf hK
  unfold b_X6_value_0 at hf
  refine g_aload_n X dX6_value_0 rfl rfl ?_
  obtain ⟨hT30, hf⟩ := ck_e hf
  obtain ⟨r29, M29, hq29, hf⟩ := bd_e hf
  refine g_callV (ci := 5) (b := x0) (As := []) (st := []) (v := some (vR r29)) (M1 := M29) X (m_X6_sign l hq29) (cwV 0 X.2.2.1 gX6_value_X6_sign rfl rfl rfl (by decide +kernel) ⟨rX6R_f (Nat.le_of_ble_eq_true rfl), rX6R_l (Nat.le_of_ble_eq_true rfl)⟩) rfl rfl rfl hT30 (by decide) rfl (Nat.le_of_ble_eq_true rfl) dX6_value_1 ⟨Nat.zero_le _, Nat.zero_le _⟩ ?_
  refine g_astore_n (lv' := [(2, vR r29), (0, vR (some x0)), (1, vI x1)]) X dX6_value_4 rfl (by decide) rfl ?_
  refine g_gets (w := vR (some (Z 46))) X (gSt_SW X) k_X6_value_f53 rfl dX6_value_5 ?_
  refine g_aload_n X dX6_value_8 rfl rfl ?_
  obtain ⟨o31, ho31, hf⟩ := dr_e hf
  refine g_callU (C := RX8) (owner := "java/lang/Enum") (As := []) (st := [vR (some (Z 46))]) (v := some (vI (nI o31))) X (m_ordinal l (ordZ_lt ho31)) (va_cwU 0 X.2.2.1 gX6_value_Jx29ce0_ordinal_8abf5_u59X8 rfl rfl rfl (by decide +kernel) (by decide +kernel) ⟨rX6R_f (Nat.le_of_ble_eq_true rfl), rX6R_l (Nat.le_of_ble_eq_true rfl)⟩) rfl rfl (ordZ_eq ho31) (fun H hW => gO_recv (gSt_O X (ordZ_lt ho31)) hW) (Nat.le_of_ble_eq_true rfl) dX6_value_9 ⟨Nat.zero_le _, Nat.zero_le _⟩ ?_
  refine g_ialdT (w := gSw o31) X (gSt_SWt X) rfl (gord_nn (ordZ_lt ho31)) (gord_lt (ordZ_lt ho31)) (gord_sw (ordZ_lt ho31)) dX6_value_12 ?_
  by_cases hs32 : (gSw o31) = (13 : Int32)
  · have hf := ife_t hs32 hf
    refine g_tabin (tgt := 72) X dX6_value_13 hs32 (by decide) (by decide) rfl (by decide) ?_
    refine g_aload_n X dX6_value_72 rfl rfl ?_
    refine g_iconst (v := (0 : Int32)) X dX6_value_73 (by decide) ?_
    refine g_ldcw (v := (999999 : Int32)) X k_X6_value_c315 dX6_value_74 ?_
    obtain ⟨hT34, hf⟩ := ck_e hf
    obtain ⟨r33, M33, hq33, hf⟩ := bd_e hf
    refine g_callV (ci := 5) (b := x0) (As := [vI (0 : Int32), vI (999999 : Int32)]) (st := []) (v := some (vI r33)) (M1 := M33) X (m_X6_takeNumber l hq33) (cwV 2 X.2.2.1 gX6_value_X6_takeNumber rfl rfl rfl (by decide +kernel) ⟨rX6R_f (Nat.le_of_ble_eq_true rfl), rX6R_l (Nat.le_of_ble_eq_true rfl)⟩) rfl rfl rfl hT34 (by decide) rfl (Nat.le_of_ble_eq_true rfl) dX6_value_77 ⟨Nat.zero_le _, Nat.zero_le _⟩ ?_
    refine g_istore_n (lv' := [(3, vI r33), (2, vR r29), (0, vR (some x0)), (1, vI x1)]) X dX6_value_80 rfl (by decide) rfl ?_
    refine g_goto (tgt := 303) X dX6_value_81 (by decide) ?_
    refine g_sub (lvsub_of _ _ [2, 1, 0] rfl) ?_
    exact t_X6_value_303 X hr hF _ _ _ _ _ hf hK
  · have hf := ife_f hs32 hf
    by_cases hs35 : (gSw o31) = (14 : Int32)
    · have hf := ife_t hs35 hf
      refine g_tabin (tgt := 84) X dX6_value_13 hs35 (by decide) (by decide) rfl (by decide) ?_
      refine g_aload_n X dX6_value_84 rfl rfl ?_
      refine g_aload_n X dX6_value_85 rfl rfl ?_
      obtain ⟨hT37, hf⟩ := ck_e hf
      obtain ⟨r36, M36, hq36, hf⟩ := bd_e hf
      refine g_callV (ci := 5) (b := x0) (As := [vR r29]) (st := []) (v := some (vI r36)) (M1 := M36) X (m_X6_take l hq36) (cwV 1 X.2.2.1 gX6_value_X6_take rfl rfl rfl (by decide +kernel) ⟨rX6R_f (Nat.le_of_ble_eq_true rfl), rX6R_l (Nat.le_of_ble_eq_true rfl)⟩) rfl rfl rfl hT37 (by decide) rfl (Nat.le_of_ble_eq_true rfl) dX6_value_86 ⟨Nat.zero_le _, Nat.zero_le _⟩ ?_
      refine g_istore_n (lv' := [(3, vI r36), (2, vR r29), (0, vR (some x0)), (1, vI x1)]) X dX6_value_89 rfl (by decide) rfl ?_
      refine g_goto (tgt := 303) X dX6_value_90 (by decide) ?_
      refine g_sub (lvsub_of _ _ [2, 1, 0] rfl) ?_
      exact t_X6_value_303 X hr hF _ _ _ _ _ hf hK
    · have hf := ife_f hs35 hf
      by_cases hs38 : (gSw o31) = (15 : Int32)
      · have hf := ife_t hs38 hf
        refine g_tabin (tgt := 93) X dX6_value_13 hs38 (by decide) (by decide) rfl (by decide) ?_
        refine g_sub (lvsub_of _ _ [1, 0] rfl) ?_
        exact t_X6_value_93 X hr hF _ _ _ _ hf hK
      · have hf := ife_f hs38 hf
        by_cases hs39 : (gSw o31) = (16 : Int32)
        · have hf := ife_t hs39 hf
          refine g_tabin (tgt := 93) X dX6_value_13 hs39 (by decide) (by decide) rfl (by decide) ?_
          refine g_sub (lvsub_of _ _ [1, 0] rfl) ?_
          exact t_X6_value_93 X hr hF _ _ _ _ hf hK
        · have hf := ife_f hs39 hf
          by_cases hs40 : (gSw o31) = (17 : Int32)
          · have hf := ife_t hs40 hf
            refine g_tabin (tgt := 93) X dX6_value_13 hs40 (by decide) (by decide) rfl (by decide) ?_
            refine g_sub (lvsub_of _ _ [1, 0] rfl) ?_
            exact t_X6_value_93 X hr hF _ _ _ _ hf hK
          · have hf := ife_f hs40 hf
            by_cases hs41 : (gSw o31) = (18 : Int32)
            · have hf := ife_t hs41 hf
              refine g_tabin (tgt := 121) X dX6_value_13 hs41 (by decide) (by decide) rfl (by decide) ?_
              refine g_sub (lvsub_of _ _ [1, 0] rfl) ?_
              exact t_X6_value_121 X hr hF _ _ _ _ hf hK
            · have hf := ife_f hs41 hf
              by_cases hs42 : (gSw o31) = (19 : Int32)
              · have hf := ife_t hs42 hf
                refine g_tabin (tgt := 121) X dX6_value_13 hs42 (by decide) (by decide) rfl (by decide) ?_
                refine g_sub (lvsub_of _ _ [1, 0] rfl) ?_
                exact t_X6_value_121 X hr hF _ _ _ _ hf hK
              · have hf := ife_f hs42 hf
                by_cases hs43 : (gSw o31) = (20 : Int32)
                · have hf := ife_t hs43 hf
                  refine g_tabin (tgt := 149) X dX6_value_13 hs43 (by decide) (by decide) rfl (by decide) ?_
                  refine g_gets (w := vR (some (Z 44))) X (gSt_E X 44 (by decide)) k_X6_value_f316 rfl dX6_value_149 ?_
                  refine g_astore_n (lv' := [(2, vR (some (Z 44))), (0, vR (some x0)), (1, vI x1)]) X dX6_value_152 rfl (by decide) rfl ?_
                  refine g_iload_n X dX6_value_153 rfl rfl ?_
                  refine g_bipush (v := (8 : Int32)) X dX6_value_154 (by decide) ?_
                  refine g_icmp_ge (tgt := 183) X dX6_value_156 (by decide) (fun hc => ?_) (fun hc => ?_)
                  · have hf := ife_t hc hf
                    refine g_sub (lvsub_of _ _ [1, 0] rfl) ?_
                    exact t_X6_value_183 X hr hF _ _ _ hf hK
                  · have hf := ife_f hc hf
                    refine g_aload_n X dX6_value_159 rfl rfl ?_
                    refine g_gets (w := vR (some (Z 32))) X (gSt_E X 32 (by decide)) k_X6_value_f303 rfl dX6_value_160 ?_
                    obtain ⟨hT45, hf⟩ := ck_e hf
                    obtain ⟨r44, M44, hq44, hf⟩ := bd_e hf
                    refine g_callV (ci := 5) (b := x0) (As := [vR (some (Z 32))]) (st := []) (v := some (vI r44)) (M1 := M44) X (m_X6_take l hq44) (cwV 1 X.2.2.1 gX6_value_X6_take rfl rfl rfl (by decide +kernel) ⟨rX6R_f (Nat.le_of_ble_eq_true rfl), rX6R_l (Nat.le_of_ble_eq_true rfl)⟩) rfl rfl rfl hT45 (by decide) rfl (Nat.le_of_ble_eq_true rfl) dX6_value_163 ⟨Nat.zero_le _, Nat.zero_le _⟩ ?_
                    refine g_if_eq (tgt := 183) X dX6_value_166 (by decide) (fun hc => ?_) (fun hc => ?_)
                    · have hf := ife_t hc hf
                      refine g_sub (lvsub_of _ _ [1, 0] rfl) ?_
                      exact t_X6_value_183 X hr hF _ _ _ hf hK
                    · have hf := ife_f hc hf
                      refine g_aload_n X dX6_value_169 rfl rfl ?_
                      refine g_iload_n X dX6_value_170 rfl rfl ?_
                      refine g_iconst (v := (1 : Int32)) X dX6_value_171 (by decide) ?_
                      refine g_iadd X dX6_value_172 ?_
                      obtain ⟨hT47, hf⟩ := ck_e hf
                      obtain ⟨r46, M46, hq46, hf⟩ := bd_e hf
                      refine g_callV (ci := 5) (b := x0) (As := [vI (x1 + (1 : Int32))]) (st := []) (v := some (vI r46)) (M1 := M46) X (hF.2.2.2.2.2.2 _ _ _ _ _ hq46) (cwV 1 X.2.2.1 gX6_value_X6_value rfl rfl rfl (by decide +kernel) ⟨rX6R_rf, rX6R_rl (Nat.le_of_ble_eq_true rfl)⟩) rfl rfl rfl hT47 (by decide) rfl (Nat.le_of_ble_eq_true rfl) dX6_value_173 ⟨Nat.zero_le _, Nat.zero_le _⟩ ?_
                      refine g_if_eq (tgt := 183) X dX6_value_176 (by decide) (fun hc => ?_) (fun hc => ?_)
                      · have hf := ife_t hc hf
                        refine g_sub (lvsub_of _ _ [1, 0] rfl) ?_
                        exact t_X6_value_183 X hr hF _ _ _ hf hK
                      · have hf := ife_f hc hf
                        refine g_iconst (v := (1 : Int32)) X dX6_value_179 (by decide) ?_
                        refine g_goto (tgt := 184) X dX6_value_180 (by decide) ?_
                        refine g_sub (lvsub_of _ _ [1, 0] rfl) ?_
                        exact t_X6_value_184 X hr hF _ _ _ _ hf hK
                · have hf := ife_f hs43 hf
                  by_cases hs48 : (gSw o31) = (21 : Int32)
                  · have hf := ife_t hs48 hf
                    refine g_tabin (tgt := 188) X dX6_value_13 hs48 (by decide) (by decide) rfl (by decide) ?_
                    refine g_iload_n X dX6_value_188 rfl rfl ?_
                    refine g_bipush (v := (8 : Int32)) X dX6_value_189 (by decide) ?_
                    refine g_icmp_ge (tgt := 226) X dX6_value_191 (by decide) (fun hc => ?_) (fun hc => ?_)
                    · have hf := ife_t hc hf
                      refine g_sub (lvsub_of _ _ [] rfl) ?_
                      exact t_X6_value_226 X hr hF _  _ hf hK
                    · have hf := ife_f hc hf
                      refine g_aload_n X dX6_value_194 rfl rfl ?_
                      refine g_aload_n X dX6_value_195 rfl rfl ?_
                      obtain ⟨hT50, hf⟩ := ck_e hf
                      obtain ⟨r49, M49, hq49, hf⟩ := bd_e hf
                      refine g_callV (ci := 5) (b := x0) (As := [vR r29]) (st := []) (v := some (vI r49)) (M1 := M49) X (m_X6_take l hq49) (cwV 1 X.2.2.1 gX6_value_X6_take rfl rfl rfl (by decide +kernel) ⟨rX6R_f (Nat.le_of_ble_eq_true rfl), rX6R_l (Nat.le_of_ble_eq_true rfl)⟩) rfl rfl rfl hT50 (by decide) rfl (Nat.le_of_ble_eq_true rfl) dX6_value_196 ⟨Nat.zero_le _, Nat.zero_le _⟩ ?_
                      refine g_if_eq (tgt := 226) X dX6_value_199 (by decide) (fun hc => ?_) (fun hc => ?_)
                      · have hf := ife_t hc hf
                        refine g_sub (lvsub_of _ _ [] rfl) ?_
                        exact t_X6_value_226 X hr hF _  _ hf hK
                      · have hf := ife_f hc hf
                        refine g_aload_n X dX6_value_202 rfl rfl ?_
                        refine g_iload_n X dX6_value_203 rfl rfl ?_
                        refine g_iconst (v := (1 : Int32)) X dX6_value_204 (by decide) ?_
                        refine g_iadd X dX6_value_205 ?_
                        obtain ⟨hT52, hf⟩ := ck_e hf
                        obtain ⟨r51, M51, hq51, hf⟩ := bd_e hf
                        refine g_callV (ci := 5) (b := x0) (As := [vI (x1 + (1 : Int32))]) (st := []) (v := some (vI r51)) (M1 := M51) X (hF.2.2.2.2.1 _ _ _ _ _ hq51) (cwV 1 X.2.2.1 gX6_value_X6_sum rfl rfl rfl (by decide +kernel) ⟨rX6R_rf, rX6R_rl (Nat.le_of_ble_eq_true rfl)⟩) rfl rfl rfl hT52 (by decide) rfl (Nat.le_of_ble_eq_true rfl) dX6_value_206 ⟨Nat.zero_le _, Nat.zero_le _⟩ ?_
                        refine g_if_eq (tgt := 226) X dX6_value_209 (by decide) (fun hc => ?_) (fun hc => ?_)
                        · have hf := ife_t hc hf
                          refine g_sub (lvsub_of _ _ [] rfl) ?_
                          exact t_X6_value_226 X hr hF _  _ hf hK
                        · have hf := ife_f hc hf
                          refine g_aload_n X dX6_value_212 rfl rfl ?_
                          refine g_gets (w := vR (some (Z 26))) X (gSt_E X 26 (by decide)) k_X6_value_f319 rfl dX6_value_213 ?_
                          obtain ⟨hT54, hf⟩ := ck_e hf
                          obtain ⟨r53, M53, hq53, hf⟩ := bd_e hf
                          refine g_callV (ci := 5) (b := x0) (As := [vR (some (Z 26))]) (st := []) (v := some (vI r53)) (M1 := M53) X (m_X6_take l hq53) (cwV 1 X.2.2.1 gX6_value_X6_take rfl rfl rfl (by decide +kernel) ⟨rX6R_f (Nat.le_of_ble_eq_true rfl), rX6R_l (Nat.le_of_ble_eq_true rfl)⟩) rfl rfl rfl hT54 (by decide) rfl (Nat.le_of_ble_eq_true rfl) dX6_value_216 ⟨Nat.zero_le _, Nat.zero_le _⟩ ?_
                          refine g_if_eq (tgt := 226) X dX6_value_219 (by decide) (fun hc => ?_) (fun hc => ?_)
                          · have hf := ife_t hc hf
                            refine g_sub (lvsub_of _ _ [] rfl) ?_
                            exact t_X6_value_226 X hr hF _  _ hf hK
                          · have hf := ife_f hc hf
                            refine g_iconst (v := (1 : Int32)) X dX6_value_222 (by decide) ?_
                            refine g_goto (tgt := 227) X dX6_value_223 (by decide) ?_
                            refine g_sub (lvsub_of _ _ [] rfl) ?_
                            exact t_X6_value_227 X hr hF _ _ _ hf hK
                  · have hf := ife_f hs48 hf
                    by_cases hs55 : (gSw o31) = (22 : Int32)
                    · have hf := ife_t hs55 hf
                      refine g_tabin (tgt := 228) X dX6_value_13 hs55 (by decide) (by decide) rfl (by decide) ?_
                      refine g_sub (lvsub_of _ _ [1, 2, 0] rfl) ?_
                      exact t_X6_value_228 X hr hF _ _ _ _ _ hf hK
                    · have hf := ife_f hs55 hf
                      by_cases hs56 : (gSw o31) = (23 : Int32)
                      · have hf := ife_t hs56 hf
                        refine g_tabin (tgt := 228) X dX6_value_13 hs56 (by decide) (by decide) rfl (by decide) ?_
                        refine g_sub (lvsub_of _ _ [1, 2, 0] rfl) ?_
                        exact t_X6_value_228 X hr hF _ _ _ _ _ hf hK
                      · have hf := ife_f hs56 hf
                        refine g_tabout (tgt := 301) X dX6_value_13 (gtab_out 11 (13) (by decide) (by decide) (fun i hi => match i, hi with | 0, _ => fun e => hs32 (e.trans (by decide)) | 1, _ => fun e => hs35 (e.trans (by decide)) | 2, _ => fun e => hs38 (e.trans (by decide)) | 3, _ => fun e => hs39 (e.trans (by decide)) | 4, _ => fun e => hs40 (e.trans (by decide)) | 5, _ => fun e => hs41 (e.trans (by decide)) | 6, _ => fun e => hs42 (e.trans (by decide)) | 7, _ => fun e => hs43 (e.trans (by decide)) | 8, _ => fun e => hs48 (e.trans (by decide)) | 9, _ => fun e => hs55 (e.trans (by decide)) | 10, _ => fun e => hs56 (e.trans (by decide)) | i + 11, h => absurd h (by omega))) (by decide) ?_
                        refine g_iconst (v := (0 : Int32)) X dX6_value_301 (by decide) ?_
                        cases hf
                        refine g_eqQ hK ?_
                        exact g_zret X hr (gnb (Or.inl rfl)) dX6_value_302
set_option maxHeartbeats 4000000 in
set_option maxRecDepth 100000 in
theorem mr_X6_value (l : Launch) {D : va_G} {cy : Nat → ClassId} {B : Nat} {H0 : Heap} {Z : Nat → Nat} {M M1 : gMem} {n0 : Nat} {F : Nat → gMem → Nat → Int32 → Option (Int32 × gMem)} (hF : hX6R l D cy B H0 Z n0 F) {x0 : Nat} {x1 : Int32} {r : Int32} (hf : fr_X6_value Z F M x0 x1 = some (r, M1)) : Met l yX6_value wsX6_value (rX6R (n0 + 1)) (va_Pc (Value.ref x0 :: List.map gv [vI x1]) (gPre D cy B H0 (gSt Z B H0) M)) (gQ D cy B H0 (some (vI r)) M1) 0 0 (gA B) := by
  refine Met.ofW (cc := cX6_value) (maxL := 4) (ret := (some .boolean)) (by decide) rfl ?_
  intro p e s m args below meth c s₁ Bd hml hv
  obtain ⟨rfl, hW, hKK, hFs⟩ := hv
  have X : gX p s m _ meth c D cy B (gSt Z B H0) RX6 cX6_value wsX6_value 4 := ⟨Bd.exec, Bd.bytes, atoms_spec (ws := wsX6_value) Bd.pre, findClass_of_methodNamed Bd.named, hml, hKK, by rw [hW.1]; exact hW.2.1, Bd.notSynchronized, hFs⟩
  have hr := Bd.returns
  have hl := lv_entry ([.ref x0, .int x1]) (n := 4) (Nat.le_of_ble_eq_true rfl)
  show W p l e (rX6R (n0 + 1)) s m _ below meth c s.heap [] 0 0 _ (entryFrame m ([.ref x0, .int x1] : List Value).toArray 4)
  rw [lg_entry_eq]
  generalize (lg_sl ([.ref x0, .int x1]) ++ List.replicate (4 - (lg_sl ([.ref x0, .int x1])).length) Slot.unset).toArray = ls at hl ⊢
  have hl : lv_has ls 4 (List.map gq [(0, vR (some x0)), (1, vI x1)]) := hl
  exact t_X6_value_0 X hr hF _ _ _ _ hf rfl s.heap [] ls hW va_S.rf (lv_has_sub hl (lvsub_of _ _ [0, 1] rfl))
noncomputable def fX6R (Z : Nat → Nat) : Nat → Nat → gMem → Nat → Int32 → Option (Int32 × gMem)
  | 0 => fun _ _ _ _ => none
  | n + 1 => fun j M x0 x1 => if j = 0 then fr_X6_test Z (fX6R Z n) M x0 x1 else if j = 1 then fr_X6_both Z (fX6R Z n) M x0 x1 else if j = 2 then fr_X6_single Z (fX6R Z n) M x0 x1 else if j = 3 then fr_X6_comparedSum Z (fX6R Z n) M x0 x1 else if j = 4 then fr_X6_sum Z (fX6R Z n) M x0 x1 else if j = 5 then fr_X6_product Z (fX6R Z n) M x0 x1 else if j = 6 then fr_X6_value Z (fX6R Z n) M x0 x1 else none
theorem mX6R (l : Launch) {D : va_G} {cy : Nat → ClassId} {B : Nat} {H0 : Heap} {Z : Nat → Nat} : ∀ n : Nat, hX6R l D cy B H0 Z n (fX6R Z n)
  | 0 => ⟨fun M M1 r x0 x1 h => by simp [fX6R] at h, fun M M1 r x0 x1 h => by simp [fX6R] at h, fun M M1 r x0 x1 h => by simp [fX6R] at h, fun M M1 r x0 x1 h => by simp [fX6R] at h, fun M M1 r x0 x1 h => by simp [fX6R] at h, fun M M1 r x0 x1 h => by simp [fX6R] at h, fun M M1 r x0 x1 h => by simp [fX6R] at h⟩
  | n + 1 => ⟨fun M M1 r x0 x1 h => mr_X6_test l (mX6R l n) (by simpa [fX6R] using h), fun M M1 r x0 x1 h => mr_X6_both l (mX6R l n) (by simpa [fX6R] using h), fun M M1 r x0 x1 h => mr_X6_single l (mX6R l n) (by simpa [fX6R] using h), fun M M1 r x0 x1 h => mr_X6_comparedSum l (mX6R l n) (by simpa [fX6R] using h), fun M M1 r x0 x1 h => mr_X6_sum l (mX6R l n) (by simpa [fX6R] using h), fun M M1 r x0 x1 h => mr_X6_product l (mX6R l n) (by simpa [fX6R] using h), fun M M1 r x0 x1 h => mr_X6_value l (mX6R l n) (by simpa [fX6R] using h)⟩
noncomputable def f_X6_test (Z : Nat → Nat) (M : gMem) (x0 : Nat) (x1 : Int32) : Option (Int32 × gMem) := fX6R Z 64 0 M x0 x1
abbrev rX6_test : Room := { frames := 66, cells := 0, slots := 0, locals := 2604 }
theorem m_X6_test (l : Launch) {D : va_G} {cy : Nat → ClassId} {B : Nat} {H0 : Heap} {Z : Nat → Nat} {M M1 : gMem} {x0 : Nat} {x1 : Int32} {r : Int32} (hf : f_X6_test Z M x0 x1 = some (r, M1)) : Met l yX6_test wsX6_test rX6_test (va_Pc (Value.ref x0 :: List.map gv [vI x1]) (gPre D cy B H0 (gSt Z B H0) M)) (gQ D cy B H0 (some (vI r)) M1) 0 0 (gA B) := (mX6R l 64).1 _ _ _ _ _ hf
noncomputable def f_X6_both (Z : Nat → Nat) (M : gMem) (x0 : Nat) (x1 : Int32) : Option (Int32 × gMem) := fX6R Z 64 1 M x0 x1
abbrev rX6_both : Room := { frames := 66, cells := 0, slots := 0, locals := 2604 }
theorem m_X6_both (l : Launch) {D : va_G} {cy : Nat → ClassId} {B : Nat} {H0 : Heap} {Z : Nat → Nat} {M M1 : gMem} {x0 : Nat} {x1 : Int32} {r : Int32} (hf : f_X6_both Z M x0 x1 = some (r, M1)) : Met l yX6_both wsX6_both rX6_both (va_Pc (Value.ref x0 :: List.map gv [vI x1]) (gPre D cy B H0 (gSt Z B H0) M)) (gQ D cy B H0 (some (vI r)) M1) 0 0 (gA B) := (mX6R l 64).2.1 _ _ _ _ _ hf
noncomputable def f_X6_single (Z : Nat → Nat) (M : gMem) (x0 : Nat) (x1 : Int32) : Option (Int32 × gMem) := fX6R Z 64 2 M x0 x1
abbrev rX6_single : Room := { frames := 66, cells := 0, slots := 0, locals := 2604 }
theorem m_X6_single (l : Launch) {D : va_G} {cy : Nat → ClassId} {B : Nat} {H0 : Heap} {Z : Nat → Nat} {M M1 : gMem} {x0 : Nat} {x1 : Int32} {r : Int32} (hf : f_X6_single Z M x0 x1 = some (r, M1)) : Met l yX6_single wsX6_single rX6_single (va_Pc (Value.ref x0 :: List.map gv [vI x1]) (gPre D cy B H0 (gSt Z B H0) M)) (gQ D cy B H0 (some (vI r)) M1) 0 0 (gA B) := (mX6R l 64).2.2.1 _ _ _ _ _ hf
noncomputable def f_X6_comparedSum (Z : Nat → Nat) (M : gMem) (x0 : Nat) (x1 : Int32) : Option (Int32 × gMem) := fX6R Z 64 3 M x0 x1
abbrev rX6_comparedSum : Room := { frames := 66, cells := 0, slots := 0, locals := 2604 }
theorem m_X6_comparedSum (l : Launch) {D : va_G} {cy : Nat → ClassId} {B : Nat} {H0 : Heap} {Z : Nat → Nat} {M M1 : gMem} {x0 : Nat} {x1 : Int32} {r : Int32} (hf : f_X6_comparedSum Z M x0 x1 = some (r, M1)) : Met l yX6_comparedSum wsX6_comparedSum rX6_comparedSum (va_Pc (Value.ref x0 :: List.map gv [vI x1]) (gPre D cy B H0 (gSt Z B H0) M)) (gQ D cy B H0 (some (vI r)) M1) 0 0 (gA B) := (mX6R l 64).2.2.2.1 _ _ _ _ _ hf
noncomputable def f_X6_sum (Z : Nat → Nat) (M : gMem) (x0 : Nat) (x1 : Int32) : Option (Int32 × gMem) := fX6R Z 64 4 M x0 x1
abbrev rX6_sum : Room := { frames := 66, cells := 0, slots := 0, locals := 2604 }
theorem m_X6_sum (l : Launch) {D : va_G} {cy : Nat → ClassId} {B : Nat} {H0 : Heap} {Z : Nat → Nat} {M M1 : gMem} {x0 : Nat} {x1 : Int32} {r : Int32} (hf : f_X6_sum Z M x0 x1 = some (r, M1)) : Met l yX6_sum wsX6_sum rX6_sum (va_Pc (Value.ref x0 :: List.map gv [vI x1]) (gPre D cy B H0 (gSt Z B H0) M)) (gQ D cy B H0 (some (vI r)) M1) 0 0 (gA B) := (mX6R l 64).2.2.2.2.1 _ _ _ _ _ hf
noncomputable def f_X6_product (Z : Nat → Nat) (M : gMem) (x0 : Nat) (x1 : Int32) : Option (Int32 × gMem) := fX6R Z 64 5 M x0 x1
abbrev rX6_product : Room := { frames := 66, cells := 0, slots := 0, locals := 2604 }
theorem m_X6_product (l : Launch) {D : va_G} {cy : Nat → ClassId} {B : Nat} {H0 : Heap} {Z : Nat → Nat} {M M1 : gMem} {x0 : Nat} {x1 : Int32} {r : Int32} (hf : f_X6_product Z M x0 x1 = some (r, M1)) : Met l yX6_product wsX6_product rX6_product (va_Pc (Value.ref x0 :: List.map gv [vI x1]) (gPre D cy B H0 (gSt Z B H0) M)) (gQ D cy B H0 (some (vI r)) M1) 0 0 (gA B) := (mX6R l 64).2.2.2.2.2.1 _ _ _ _ _ hf
noncomputable def f_X6_value (Z : Nat → Nat) (M : gMem) (x0 : Nat) (x1 : Int32) : Option (Int32 × gMem) := fX6R Z 64 6 M x0 x1
abbrev rX6_value : Room := { frames := 66, cells := 0, slots := 0, locals := 2604 }
theorem m_X6_value (l : Launch) {D : va_G} {cy : Nat → ClassId} {B : Nat} {H0 : Heap} {Z : Nat → Nat} {M M1 : gMem} {x0 : Nat} {x1 : Int32} {r : Int32} (hf : f_X6_value Z M x0 x1 = some (r, M1)) : Met l yX6_value wsX6_value rX6_value (va_Pc (Value.ref x0 :: List.map gv [vI x1]) (gPre D cy B H0 (gSt Z B H0) M)) (gQ D cy B H0 (some (vI r)) M1) 0 0 (gA B) := (mX6R l 64).2.2.2.2.2.2 _ _ _ _ _ hf
end
