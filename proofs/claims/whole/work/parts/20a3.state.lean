section
variable {p : Program} {l : Launch} {e : Env} {s : State} {m : MethodId} {args : Array Value} {below : List Frame} {meth : Method} {c : Code} {D : va_G} {cy : Nat → ClassId} {B : Nat} {H0 : Heap} {Z : Nat → Nat}
/-! ## TideLotsModel$State.fishFor(II)V -/
theorem dX12_fishFor_0 : decode cX12_fishFor 0 = .ok (.iconst 0, 1) := by decide +kernel
theorem dX12_fishFor_1 : decode cX12_fishFor 1 = .ok (.istore_n 3, 1) := by decide +kernel
theorem dX12_fishFor_2 : decode cX12_fishFor 2 = .ok (.iconst 0, 1) := by decide +kernel
theorem dX12_fishFor_3 : decode cX12_fishFor 3 = .ok (.istore 4, 2) := by decide +kernel
theorem dX12_fishFor_5 : decode cX12_fishFor 5 = .ok (.iconst 1, 1) := by decide +kernel
theorem dX12_fishFor_6 : decode cX12_fishFor 6 = .ok (.istore 5, 2) := by decide +kernel
theorem dX12_fishFor_8 : decode cX12_fishFor 8 = .ok (.iconst 1, 1) := by decide +kernel
theorem dX12_fishFor_9 : decode cX12_fishFor 9 = .ok (.istore 6, 2) := by decide +kernel
theorem dX12_fishFor_11 : decode cX12_fishFor 11 = .ok (.iload 6, 2) := by decide +kernel
theorem dX12_fishFor_13 : decode cX12_fishFor 13 = .ok (.iconst 5, 1) := by decide +kernel
theorem dX12_fishFor_14 : decode cX12_fishFor 14 = .ok (.if_icmp .gt 17, 3) := by decide +kernel
theorem dX12_fishFor_17 : decode cX12_fishFor 17 = .ok (.aload_n 0, 1) := by decide +kernel
theorem dX12_fishFor_18 : decode cX12_fishFor 18 = .ok (.getfield 62, 3) := by decide +kernel
theorem dX12_fishFor_21 : decode cX12_fishFor 21 = .ok (.iload 6, 2) := by decide +kernel
theorem dX12_fishFor_23 : decode cX12_fishFor 23 = .ok (.iconst 0, 1) := by decide +kernel
theorem dX12_fishFor_24 : decode cX12_fishFor 24 = .ok (.iastore, 1) := by decide +kernel
theorem dX12_fishFor_25 : decode cX12_fishFor 25 = .ok (.iinc 6 1, 3) := by decide +kernel
theorem dX12_fishFor_28 : decode cX12_fishFor 28 = .ok (.goto (-17), 3) := by decide +kernel
theorem dX12_fishFor_31 : decode cX12_fishFor 31 = .ok (.iconst 5, 1) := by decide +kernel
theorem dX12_fishFor_32 : decode cX12_fishFor 32 = .ok (.istore 6, 2) := by decide +kernel
theorem dX12_fishFor_34 : decode cX12_fishFor 34 = .ok (.iload 6, 2) := by decide +kernel
theorem dX12_fishFor_36 : decode cX12_fishFor 36 = .ok (.aload_n 0, 1) := by decide +kernel
theorem dX12_fishFor_37 : decode cX12_fishFor 37 = .ok (.getfield 29, 3) := by decide +kernel
theorem dX12_fishFor_40 : decode cX12_fishFor 40 = .ok (.iload_n 1, 1) := by decide +kernel
theorem dX12_fishFor_41 : decode cX12_fishFor 41 = .ok (.iaload, 1) := by decide +kernel
theorem dX12_fishFor_42 : decode cX12_fishFor 42 = .ok (.if_icmp .lt 127, 3) := by decide +kernel
theorem dX12_fishFor_45 : decode cX12_fishFor 45 = .ok (.iload 5, 2) := by decide +kernel
theorem dX12_fishFor_47 : decode cX12_fishFor 47 = .ok (.ifCond .eq 122, 3) := by decide +kernel
theorem dX12_fishFor_50 : decode cX12_fishFor 50 = .ok (.iload 5, 2) := by decide +kernel
theorem dX12_fishFor_52 : decode cX12_fishFor 52 = .ok (.ifCond .eq 111, 3) := by decide +kernel
theorem dX12_fishFor_55 : decode cX12_fishFor 55 = .ok (.aload_n 0, 1) := by decide +kernel
theorem dX12_fishFor_56 : decode cX12_fishFor 56 = .ok (.getfield 19, 3) := by decide +kernel
theorem dX12_fishFor_59 : decode cX12_fishFor 59 = .ok (.iconst 5, 1) := by decide +kernel
theorem dX12_fishFor_60 : decode cX12_fishFor 60 = .ok (.iload_n 2, 1) := by decide +kernel
theorem dX12_fishFor_61 : decode cX12_fishFor 61 = .ok (.imul, 1) := by decide +kernel
theorem dX12_fishFor_62 : decode cX12_fishFor 62 = .ok (.iload 6, 2) := by decide +kernel
theorem dX12_fishFor_64 : decode cX12_fishFor 64 = .ok (.iadd, 1) := by decide +kernel
theorem dX12_fishFor_65 : decode cX12_fishFor 65 = .ok (.iconst 1, 1) := by decide +kernel
theorem dX12_fishFor_66 : decode cX12_fishFor 66 = .ok (.isub, 1) := by decide +kernel
theorem dX12_fishFor_67 : decode cX12_fishFor 67 = .ok (.iaload, 1) := by decide +kernel
theorem dX12_fishFor_68 : decode cX12_fishFor 68 = .ok (.ifCond .le 95, 3) := by decide +kernel
theorem dX12_fishFor_71 : decode cX12_fishFor 71 = .ok (.iload_n 3, 1) := by decide +kernel
theorem dX12_fishFor_72 : decode cX12_fishFor 72 = .ok (.aload_n 0, 1) := by decide +kernel
theorem dX12_fishFor_73 : decode cX12_fishFor 73 = .ok (.getfield 3, 3) := by decide +kernel
theorem dX12_fishFor_76 : decode cX12_fishFor 76 = .ok (.getfield 81, 3) := by decide +kernel
theorem dX12_fishFor_79 : decode cX12_fishFor 79 = .ok (.getfield 176, 3) := by decide +kernel
theorem dX12_fishFor_82 : decode cX12_fishFor 82 = .ok (.iload_n 1, 1) := by decide +kernel
theorem dX12_fishFor_83 : decode cX12_fishFor 83 = .ok (.iaload, 1) := by decide +kernel
theorem dX12_fishFor_84 : decode cX12_fishFor 84 = .ok (.if_icmp .ge 79, 3) := by decide +kernel
theorem dX12_fishFor_87 : decode cX12_fishFor 87 = .ok (.iload 4, 2) := by decide +kernel
theorem dX12_fishFor_89 : decode cX12_fishFor 89 = .ok (.iload 6, 2) := by decide +kernel
theorem dX12_fishFor_91 : decode cX12_fishFor 91 = .ok (.iadd, 1) := by decide +kernel
theorem dX12_fishFor_92 : decode cX12_fishFor 92 = .ok (.aload_n 0, 1) := by decide +kernel
theorem dX12_fishFor_93 : decode cX12_fishFor 93 = .ok (.getfield 3, 3) := by decide +kernel
theorem dX12_fishFor_96 : decode cX12_fishFor 96 = .ok (.getfield 81, 3) := by decide +kernel
theorem dX12_fishFor_99 : decode cX12_fishFor 99 = .ok (.getfield 179, 3) := by decide +kernel
theorem dX12_fishFor_102 : decode cX12_fishFor 102 = .ok (.iload_n 1, 1) := by decide +kernel
theorem dX12_fishFor_103 : decode cX12_fishFor 103 = .ok (.iaload, 1) := by decide +kernel
theorem dX12_fishFor_104 : decode cX12_fishFor 104 = .ok (.if_icmp .gt 7, 3) := by decide +kernel
theorem dX12_fishFor_107 : decode cX12_fishFor 107 = .ok (.iconst 1, 1) := by decide +kernel
theorem dX12_fishFor_108 : decode cX12_fishFor 108 = .ok (.goto 4, 3) := by decide +kernel
theorem dX12_fishFor_111 : decode cX12_fishFor 111 = .ok (.iconst 0, 1) := by decide +kernel
theorem dX12_fishFor_112 : decode cX12_fishFor 112 = .ok (.istore 5, 2) := by decide +kernel
theorem dX12_fishFor_114 : decode cX12_fishFor 114 = .ok (.iload 5, 2) := by decide +kernel
theorem dX12_fishFor_116 : decode cX12_fishFor 116 = .ok (.ifCond .ne 6, 3) := by decide +kernel
theorem dX12_fishFor_119 : decode cX12_fishFor 119 = .ok (.goto (-69), 3) := by decide +kernel
theorem dX12_fishFor_122 : decode cX12_fishFor 122 = .ok (.aload_n 0, 1) := by decide +kernel
theorem dX12_fishFor_123 : decode cX12_fishFor 123 = .ok (.getfield 19, 3) := by decide +kernel
theorem dX12_fishFor_126 : decode cX12_fishFor 126 = .ok (.iconst 5, 1) := by decide +kernel
theorem dX12_fishFor_127 : decode cX12_fishFor 127 = .ok (.iload_n 2, 1) := by decide +kernel
theorem dX12_fishFor_128 : decode cX12_fishFor 128 = .ok (.imul, 1) := by decide +kernel
theorem dX12_fishFor_129 : decode cX12_fishFor 129 = .ok (.iload 6, 2) := by decide +kernel
theorem dX12_fishFor_131 : decode cX12_fishFor 131 = .ok (.iadd, 1) := by decide +kernel
theorem dX12_fishFor_132 : decode cX12_fishFor 132 = .ok (.iconst 1, 1) := by decide +kernel
theorem dX12_fishFor_133 : decode cX12_fishFor 133 = .ok (.isub, 1) := by decide +kernel
theorem dX12_fishFor_134 : decode cX12_fishFor 134 = .ok (.dup2, 1) := by decide +kernel
theorem dX12_fishFor_135 : decode cX12_fishFor 135 = .ok (.iaload, 1) := by decide +kernel
theorem dX12_fishFor_136 : decode cX12_fishFor 136 = .ok (.iconst 1, 1) := by decide +kernel
theorem dX12_fishFor_137 : decode cX12_fishFor 137 = .ok (.isub, 1) := by decide +kernel
theorem dX12_fishFor_138 : decode cX12_fishFor 138 = .ok (.iastore, 1) := by decide +kernel
theorem dX12_fishFor_139 : decode cX12_fishFor 139 = .ok (.aload_n 0, 1) := by decide +kernel
theorem dX12_fishFor_140 : decode cX12_fishFor 140 = .ok (.getfield 62, 3) := by decide +kernel
theorem dX12_fishFor_143 : decode cX12_fishFor 143 = .ok (.iload 6, 2) := by decide +kernel
theorem dX12_fishFor_145 : decode cX12_fishFor 145 = .ok (.dup2, 1) := by decide +kernel
theorem dX12_fishFor_146 : decode cX12_fishFor 146 = .ok (.iaload, 1) := by decide +kernel
theorem dX12_fishFor_147 : decode cX12_fishFor 147 = .ok (.iconst 1, 1) := by decide +kernel
theorem dX12_fishFor_148 : decode cX12_fishFor 148 = .ok (.iadd, 1) := by decide +kernel
theorem dX12_fishFor_149 : decode cX12_fishFor 149 = .ok (.iastore, 1) := by decide +kernel
theorem dX12_fishFor_150 : decode cX12_fishFor 150 = .ok (.iinc 3 1, 3) := by decide +kernel
theorem dX12_fishFor_153 : decode cX12_fishFor 153 = .ok (.iload 4, 2) := by decide +kernel
theorem dX12_fishFor_155 : decode cX12_fishFor 155 = .ok (.iload 6, 2) := by decide +kernel
theorem dX12_fishFor_157 : decode cX12_fishFor 157 = .ok (.iadd, 1) := by decide +kernel
theorem dX12_fishFor_158 : decode cX12_fishFor 158 = .ok (.istore 4, 2) := by decide +kernel
theorem dX12_fishFor_160 : decode cX12_fishFor 160 = .ok (.goto (-110), 3) := by decide +kernel
theorem dX12_fishFor_163 : decode cX12_fishFor 163 = .ok (.iinc 6 (-1), 3) := by decide +kernel
theorem dX12_fishFor_166 : decode cX12_fishFor 166 = .ok (.goto (-132), 3) := by decide +kernel
theorem dX12_fishFor_169 : decode cX12_fishFor 169 = .ok (.iload 5, 2) := by decide +kernel
theorem dX12_fishFor_171 : decode cX12_fishFor 171 = .ok (.ifCond .ne 100, 3) := by decide +kernel
theorem dX12_fishFor_174 : decode cX12_fishFor 174 = .ok (.aload_n 0, 1) := by decide +kernel
theorem dX12_fishFor_175 : decode cX12_fishFor 175 = .ok (.getfield 29, 3) := by decide +kernel
theorem dX12_fishFor_178 : decode cX12_fishFor 178 = .ok (.iload_n 1, 1) := by decide +kernel
theorem dX12_fishFor_179 : decode cX12_fishFor 179 = .ok (.bipush 6, 2) := by decide +kernel
theorem dX12_fishFor_181 : decode cX12_fishFor 181 = .ok (.aload_n 0, 1) := by decide +kernel
theorem dX12_fishFor_182 : decode cX12_fishFor 182 = .ok (.getfield 29, 3) := by decide +kernel
theorem dX12_fishFor_185 : decode cX12_fishFor 185 = .ok (.iload_n 1, 1) := by decide +kernel
theorem dX12_fishFor_186 : decode cX12_fishFor 186 = .ok (.iaload, 1) := by decide +kernel
theorem dX12_fishFor_187 : decode cX12_fishFor 187 = .ok (.iconst 1, 1) := by decide +kernel
theorem dX12_fishFor_188 : decode cX12_fishFor 188 = .ok (.iadd, 1) := by decide +kernel
theorem dX12_fishFor_189 : decode cX12_fishFor 189 = .ok (.invokestatic 96, 3) := by decide +kernel
theorem dX12_fishFor_192 : decode cX12_fishFor 192 = .ok (.iastore, 1) := by decide +kernel
theorem dX12_fishFor_193 : decode cX12_fishFor 193 = .ok (.aload_n 0, 1) := by decide +kernel
theorem dX12_fishFor_194 : decode cX12_fishFor 194 = .ok (.getfield 41, 3) := by decide +kernel
theorem dX12_fishFor_197 : decode cX12_fishFor 197 = .ok (.iload_n 1, 1) := by decide +kernel
theorem dX12_fishFor_198 : decode cX12_fishFor 198 = .ok (.dup2, 1) := by decide +kernel
theorem dX12_fishFor_199 : decode cX12_fishFor 199 = .ok (.iaload, 1) := by decide +kernel
theorem dX12_fishFor_200 : decode cX12_fishFor 200 = .ok (.iconst 1, 1) := by decide +kernel
theorem dX12_fishFor_201 : decode cX12_fishFor 201 = .ok (.iadd, 1) := by decide +kernel
theorem dX12_fishFor_202 : decode cX12_fishFor 202 = .ok (.iastore, 1) := by decide +kernel
theorem dX12_fishFor_203 : decode cX12_fishFor 203 = .ok (.iconst 1, 1) := by decide +kernel
theorem dX12_fishFor_204 : decode cX12_fishFor 204 = .ok (.istore 6, 2) := by decide +kernel
theorem dX12_fishFor_206 : decode cX12_fishFor 206 = .ok (.iload 6, 2) := by decide +kernel
theorem dX12_fishFor_208 : decode cX12_fishFor 208 = .ok (.aload_n 0, 1) := by decide +kernel
theorem dX12_fishFor_209 : decode cX12_fishFor 209 = .ok (.getfield 29, 3) := by decide +kernel
theorem dX12_fishFor_212 : decode cX12_fishFor 212 = .ok (.iload_n 1, 1) := by decide +kernel
theorem dX12_fishFor_213 : decode cX12_fishFor 213 = .ok (.iaload, 1) := by decide +kernel
theorem dX12_fishFor_214 : decode cX12_fishFor 214 = .ok (.if_icmp .ge 57, 3) := by decide +kernel
theorem dX12_fishFor_217 : decode cX12_fishFor 217 = .ok (.aload_n 0, 1) := by decide +kernel
theorem dX12_fishFor_218 : decode cX12_fishFor 218 = .ok (.getfield 19, 3) := by decide +kernel
theorem dX12_fishFor_221 : decode cX12_fishFor 221 = .ok (.iconst 5, 1) := by decide +kernel
theorem dX12_fishFor_222 : decode cX12_fishFor 222 = .ok (.iload_n 2, 1) := by decide +kernel
theorem dX12_fishFor_223 : decode cX12_fishFor 223 = .ok (.imul, 1) := by decide +kernel
theorem dX12_fishFor_224 : decode cX12_fishFor 224 = .ok (.iload 6, 2) := by decide +kernel
theorem dX12_fishFor_226 : decode cX12_fishFor 226 = .ok (.iadd, 1) := by decide +kernel
theorem dX12_fishFor_227 : decode cX12_fishFor 227 = .ok (.iconst 1, 1) := by decide +kernel
theorem dX12_fishFor_228 : decode cX12_fishFor 228 = .ok (.isub, 1) := by decide +kernel
theorem dX12_fishFor_229 : decode cX12_fishFor 229 = .ok (.dup2, 1) := by decide +kernel
theorem dX12_fishFor_230 : decode cX12_fishFor 230 = .ok (.iaload, 1) := by decide +kernel
theorem dX12_fishFor_231 : decode cX12_fishFor 231 = .ok (.aload_n 0, 1) := by decide +kernel
theorem dX12_fishFor_232 : decode cX12_fishFor 232 = .ok (.getfield 62, 3) := by decide +kernel
theorem dX12_fishFor_235 : decode cX12_fishFor 235 = .ok (.iload 6, 2) := by decide +kernel
theorem dX12_fishFor_237 : decode cX12_fishFor 237 = .ok (.iaload, 1) := by decide +kernel
theorem dX12_fishFor_238 : decode cX12_fishFor 238 = .ok (.iadd, 1) := by decide +kernel
theorem dX12_fishFor_239 : decode cX12_fishFor 239 = .ok (.iastore, 1) := by decide +kernel
theorem dX12_fishFor_240 : decode cX12_fishFor 240 = .ok (.iload_n 3, 1) := by decide +kernel
theorem dX12_fishFor_241 : decode cX12_fishFor 241 = .ok (.aload_n 0, 1) := by decide +kernel
theorem dX12_fishFor_242 : decode cX12_fishFor 242 = .ok (.getfield 62, 3) := by decide +kernel
theorem dX12_fishFor_245 : decode cX12_fishFor 245 = .ok (.iload 6, 2) := by decide +kernel
theorem dX12_fishFor_247 : decode cX12_fishFor 247 = .ok (.iaload, 1) := by decide +kernel
theorem dX12_fishFor_248 : decode cX12_fishFor 248 = .ok (.isub, 1) := by decide +kernel
theorem dX12_fishFor_249 : decode cX12_fishFor 249 = .ok (.istore_n 3, 1) := by decide +kernel
theorem dX12_fishFor_250 : decode cX12_fishFor 250 = .ok (.iload 4, 2) := by decide +kernel
theorem dX12_fishFor_252 : decode cX12_fishFor 252 = .ok (.iload 6, 2) := by decide +kernel
theorem dX12_fishFor_254 : decode cX12_fishFor 254 = .ok (.aload_n 0, 1) := by decide +kernel
theorem dX12_fishFor_255 : decode cX12_fishFor 255 = .ok (.getfield 62, 3) := by decide +kernel
theorem dX12_fishFor_258 : decode cX12_fishFor 258 = .ok (.iload 6, 2) := by decide +kernel
theorem dX12_fishFor_260 : decode cX12_fishFor 260 = .ok (.iaload, 1) := by decide +kernel
theorem dX12_fishFor_261 : decode cX12_fishFor 261 = .ok (.imul, 1) := by decide +kernel
theorem dX12_fishFor_262 : decode cX12_fishFor 262 = .ok (.isub, 1) := by decide +kernel
theorem dX12_fishFor_263 : decode cX12_fishFor 263 = .ok (.istore 4, 2) := by decide +kernel
theorem dX12_fishFor_265 : decode cX12_fishFor 265 = .ok (.iinc 6 1, 3) := by decide +kernel
theorem dX12_fishFor_268 : decode cX12_fishFor 268 = .ok (.goto (-62), 3) := by decide +kernel
theorem dX12_fishFor_271 : decode cX12_fishFor 271 = .ok (.aload_n 0, 1) := by decide +kernel
theorem dX12_fishFor_272 : decode cX12_fishFor 272 = .ok (.getfield 35, 3) := by decide +kernel
theorem dX12_fishFor_275 : decode cX12_fishFor 275 = .ok (.iload_n 1, 1) := by decide +kernel
theorem dX12_fishFor_276 : decode cX12_fishFor 276 = .ok (.iload 4, 2) := by decide +kernel
theorem dX12_fishFor_278 : decode cX12_fishFor 278 = .ok (.iastore, 1) := by decide +kernel
theorem dX12_fishFor_279 : decode cX12_fishFor 279 = .ok (.aload_n 0, 1) := by decide +kernel
theorem dX12_fishFor_280 : decode cX12_fishFor 280 = .ok (.getfield 26, 3) := by decide +kernel
theorem dX12_fishFor_283 : decode cX12_fishFor 283 = .ok (.bipush 8, 2) := by decide +kernel
theorem dX12_fishFor_285 : decode cX12_fishFor 285 = .ok (.iload_n 2, 1) := by decide +kernel
theorem dX12_fishFor_286 : decode cX12_fishFor 286 = .ok (.imul, 1) := by decide +kernel
theorem dX12_fishFor_287 : decode cX12_fishFor 287 = .ok (.iload_n 1, 1) := by decide +kernel
theorem dX12_fishFor_288 : decode cX12_fishFor 288 = .ok (.iadd, 1) := by decide +kernel
theorem dX12_fishFor_289 : decode cX12_fishFor 289 = .ok (.dup2, 1) := by decide +kernel
theorem dX12_fishFor_290 : decode cX12_fishFor 290 = .ok (.iaload, 1) := by decide +kernel
theorem dX12_fishFor_291 : decode cX12_fishFor 291 = .ok (.iload_n 3, 1) := by decide +kernel
theorem dX12_fishFor_292 : decode cX12_fishFor 292 = .ok (.iadd, 1) := by decide +kernel
theorem dX12_fishFor_293 : decode cX12_fishFor 293 = .ok (.iastore, 1) := by decide +kernel
theorem dX12_fishFor_294 : decode cX12_fishFor 294 = .ok (.return_, 1) := by decide +kernel
theorem k_X12_fishFor_f35 : Cond.fieldLink RX12 35 "TideLotsModel$State" "caught" "[I" ∈ wsX12_fishFor := by decide +kernel
theorem i_X12_fishFor_X12 : ∀ w ∈ u_ws RX12 TX12 19, w ∈ wsX12_fishFor := by decide +kernel
theorem k_X12_fishFor_f26 : Cond.fieldLink RX12 26 "TideLotsModel$State" "took" "[I" ∈ wsX12_fishFor := by decide +kernel
theorem k_X12_fishFor_f29 : Cond.fieldLink RX12 29 "TideLotsModel$State" "mesh" "[I" ∈ wsX12_fishFor := by decide +kernel
theorem k_X12_fishFor_f19 : Cond.fieldLink RX12 19 "TideLotsModel$State" "fish" "[I" ∈ wsX12_fishFor := by decide +kernel
theorem k_X12_fishFor_f62 : Cond.fieldLink RX12 62 "TideLotsModel$State" "net" "[I" ∈ wsX12_fishFor := by decide +kernel
theorem k_X12_fishFor_m96 : Cond.methodLink RX12 96 Lib.Math.min.name ∈ wsX12_fishFor := by decide +kernel
theorem k_X12_fishFor_mmins : Cond.static Lib.Math.min.name ∈ wsX12_fishFor := by decide +kernel
theorem k_X12_fishFor_mi : Cond.initialized "java/lang/Math" ∈ wsX12_fishFor := by decide +kernel
theorem k_X12_fishFor_mminc : Cond.code Lib.Math.min.name Lib.Math.min.code 2 (some .int) ∈ wsX12_fishFor := by decide +kernel
theorem k_X12_fishFor_f41 : Cond.fieldLink RX12 41 "TideLotsModel$State" "tears" "[I" ∈ wsX12_fishFor := by decide +kernel
theorem k_X12_fishFor_f3 : Cond.fieldLink RX12 3 "TideLotsModel$State" "this$0" "LTideLotsModel;" ∈ wsX12_fishFor := by decide +kernel
theorem i_X12_fishFor_X14 : ∀ w ∈ u_ws RX14 TX14 15, w ∈ wsX12_fishFor := by decide +kernel
theorem kn_X12_176 : Cond.fieldLinkNest "TideLotsModel$State" (176 : Nat) "TideLotsModel$Told" "hold" "[I" "TideLotsModel" ∈ gNs := by decide +kernel
theorem i_X12_fishFor_X13 : ∀ w ∈ u_ws RX13 TX13 25, w ∈ wsX12_fishFor := by decide +kernel
theorem kn_X12_179 : Cond.fieldLinkNest "TideLotsModel$State" (179 : Nat) "TideLotsModel$Told" "net" "[I" "TideLotsModel" ∈ gNs := by decide +kernel
abbrev rX12_fishFor : Room := { frames := 1, cells := 0, slots := 0, locals := 15 }
noncomputable def b_X12_fishFor_271 (M : gMem) (x0 : Nat) (x1 : Int32) (x2 : Int32) (x3 : Int32) (x4 : Int32) : Option (Unit × gMem) :=
  ck (mT M x0 = 11) <| dr ((mR M x0 7)) fun a2 => ck (mT M a2 = 20) <| ck (inb x1 (mL M a2)) <| lw (wI M a2 x1.toNatClampNeg x4) fun M5 => dr ((mR M5 x0 4)) fun a8 => ck (mT M5 a8 = 20) <| ck (inb (((8 : Int32) * x2) + x1) (mL M5 a8)) <| ck (inb (((8 : Int32) * x2) + x1) (mL M5 a8)) <| lw (wI M5 a8 ((((8 : Int32) * x2) + x1)).toNatClampNeg (((mI M5 a8 ((((8 : Int32) * x2) + x1)).toNatClampNeg) + x3))) fun M12 => some ((), M12)
noncomputable def bb_X12_fishFor_206 (M : gMem) (x0 : Nat) (x1 : Int32) (x2 : Int32) (x3 : Int32) (x4 : Int32) (x6 : Int32) : Option ((gMem × Int32 × Int32 × Int32) ⊕ (Unit × gMem)) :=
  ck (mT M x0 = 11) <| dr ((mR M x0 5)) fun a17 => ck (mT M a17 = 20) <| ck (inb x1 (mL M a17)) <| (if (mI M a17 x1.toNatClampNeg) ≤ x6 then oI (b_X12_fishFor_271 M x0 x1 x2 x3 x4) else dr ((mR M x0 2)) fun a21 => ck (mT M a21 = 20) <| ck (inb ((((5 : Int32) * x2) + x6) - (1 : Int32)) (mL M a21)) <| dr ((mR M x0 16)) fun a24 => ck (mT M a24 = 20) <| ck (inb x6 (mL M a24)) <| ck (inb ((((5 : Int32) * x2) + x6) - (1 : Int32)) (mL M a21)) <| lw (wI M a21 (((((5 : Int32) * x2) + x6) - (1 : Int32))).toNatClampNeg (((mI M a21 (((((5 : Int32) * x2) + x6) - (1 : Int32))).toNatClampNeg) + (mI M a24 x6.toNatClampNeg)))) fun M28 => dr ((mR M28 x0 16)) fun a33 => ck (mT M28 a33 = 20) <| ck (inb x6 (mL M28 a33)) <| ck (inb x6 (mL M28 a33)) <| some (.inl (M28, (x3 - (mI M28 a33 x6.toNatClampNeg)), (x4 - (x6 * (mI M28 a33 x6.toNatClampNeg))), (x6 + (1 : Int32)))))
noncomputable def lp_X12_fishFor_206 (M : gMem) (x0 : Nat) (x1 : Int32) (x2 : Int32) (x3 : Int32) (x4 : Int32) (x6 : Int32) : Option (Unit × gMem) :=
  lp (fun (q : gMem × Int32 × Int32 × Int32) => bb_X12_fishFor_206 q.1 x0 x1 x2 q.2.1 q.2.2.1 q.2.2.2) (M, x3, x4, x6)
noncomputable def b_X12_fishFor_169 (M : gMem) (x0 : Nat) (x1 : Int32) (x2 : Int32) (x3 : Int32) (x4 : Int32) (x5 : Int32) : Option (Unit × gMem) :=
  (if x5 = 0 then ck (mT M x0 = 11) <| dr ((mR M x0 5)) fun a38 => ck (mT M a38 = 20) <| ck (inb x1 (mL M a38)) <| ck (inb x1 (mL M a38)) <| lw (wI M a38 x1.toNatClampNeg ((imin ((6 : Int32)) (((mI M a38 x1.toNatClampNeg) + (1 : Int32)))))) fun M42 => dr ((mR M42 x0 9)) fun a45 => ck (mT M42 a45 = 20) <| ck (inb x1 (mL M42 a45)) <| ck (inb x1 (mL M42 a45)) <| lw (wI M42 a45 x1.toNatClampNeg (((mI M42 a45 x1.toNatClampNeg) + (1 : Int32)))) fun M49 => lp_X12_fishFor_206 M49 x0 x1 x2 x3 x4 ((1 : Int32)) else b_X12_fishFor_271 M x0 x1 x2 x3 x4)
noncomputable def b_X12_fishFor_163 (M : gMem) (x0 : Nat) (x1 : Int32) (x2 : Int32) (x3 : Int32) (x4 : Int32) (x5 : Int32) (x6 : Int32) : Option ((gMem × Int32 × Int32 × Int32 × Int32) ⊕ (Unit × gMem)) :=
  some (.inl (M, x3, x4, x5, (x6 + (-1 : Int32))))
noncomputable def b_X12_fishFor_112 (M : gMem) (x0 : Nat) (x1 : Int32) (x2 : Int32) (x3 : Int32) (x4 : Int32) (x6 : Int32) (s0 : Int32) : Option ((gMem × Int32 × Int32 × Int32) ⊕ ((gMem × Int32 × Int32 × Int32 × Int32) ⊕ (Unit × gMem))) :=
  (if s0 = 0 then some (.inl (M, x3, x4, s0)) else ck (mT M x0 = 11) <| dr ((mR M x0 2)) fun a54 => ck (mT M a54 = 20) <| ck (inb ((((5 : Int32) * x2) + x6) - (1 : Int32)) (mL M a54)) <| ck (inb ((((5 : Int32) * x2) + x6) - (1 : Int32)) (mL M a54)) <| lw (wI M a54 (((((5 : Int32) * x2) + x6) - (1 : Int32))).toNatClampNeg (((mI M a54 (((((5 : Int32) * x2) + x6) - (1 : Int32))).toNatClampNeg) - (1 : Int32)))) fun M58 => dr ((mR M58 x0 16)) fun a61 => ck (mT M58 a61 = 20) <| ck (inb x6 (mL M58 a61)) <| ck (inb x6 (mL M58 a61)) <| lw (wI M58 a61 x6.toNatClampNeg (((mI M58 a61 x6.toNatClampNeg) + (1 : Int32)))) fun M65 => some (.inl (M65, (x3 + (1 : Int32)), (x4 + x6), s0)))
noncomputable def bb_X12_fishFor_50 (M : gMem) (x0 : Nat) (x1 : Int32) (x2 : Int32) (x3 : Int32) (x4 : Int32) (x5 : Int32) (x6 : Int32) : Option ((gMem × Int32 × Int32 × Int32) ⊕ ((gMem × Int32 × Int32 × Int32 × Int32) ⊕ (Unit × gMem))) :=
  (if x5 = 0 then oI (b_X12_fishFor_163 M x0 x1 x2 x3 x4 x5 x6) else ck (mT M x0 = 11) <| dr ((mR M x0 2)) fun a71 => ck (mT M a71 = 20) <| ck (inb ((((5 : Int32) * x2) + x6) - (1 : Int32)) (mL M a71)) <| (if (mI M a71 (((((5 : Int32) * x2) + x6) - (1 : Int32))).toNatClampNeg) ≤ 0 then oI (b_X12_fishFor_163 M x0 x1 x2 x3 x4 x5 x6) else dr ((mR M x0 18)) fun a75 => ck (mT M a75 = 13) <| dr ((mR M a75 11)) fun a77 => ck (mT M a77 = 12) <| dr ((mR M a77 7)) fun a79 => ck (mT M a79 = 20) <| ck (inb x1 (mL M a79)) <| (if (mI M a79 x1.toNatClampNeg) ≤ x3 then oI (b_X12_fishFor_163 M x0 x1 x2 x3 x4 x5 x6) else dr ((mR M a77 6)) fun a83 => ck (mT M a83 = 20) <| ck (inb x1 (mL M a83)) <| (if (mI M a83 x1.toNatClampNeg) < (x4 + x6) then b_X12_fishFor_112 M x0 x1 x2 x3 x4 x6 ((0 : Int32)) else b_X12_fishFor_112 M x0 x1 x2 x3 x4 x6 ((1 : Int32))))))
noncomputable def lp_X12_fishFor_50 (M : gMem) (x0 : Nat) (x1 : Int32) (x2 : Int32) (x3 : Int32) (x4 : Int32) (x5 : Int32) (x6 : Int32) : Option ((gMem × Int32 × Int32 × Int32 × Int32) ⊕ (Unit × gMem)) :=
  lp (fun (q : gMem × Int32 × Int32 × Int32) => bb_X12_fishFor_50 q.1 x0 x1 x2 q.2.1 q.2.2.1 q.2.2.2 x6) (M, x3, x4, x5)
noncomputable def bb_X12_fishFor_34 (M : gMem) (x0 : Nat) (x1 : Int32) (x2 : Int32) (x3 : Int32) (x4 : Int32) (x5 : Int32) (x6 : Int32) : Option ((gMem × Int32 × Int32 × Int32 × Int32) ⊕ (Unit × gMem)) :=
  ck (mT M x0 = 11) <| dr ((mR M x0 5)) fun a87 => ck (mT M a87 = 20) <| ck (inb x1 (mL M a87)) <| (if x6 < (mI M a87 x1.toNatClampNeg) then oI (b_X12_fishFor_169 M x0 x1 x2 x3 x4 x5) else (if x5 = 0 then oI (b_X12_fishFor_169 M x0 x1 x2 x3 x4 x5) else lp_X12_fishFor_50 M x0 x1 x2 x3 x4 x5 x6))
noncomputable def lp_X12_fishFor_34 (M : gMem) (x0 : Nat) (x1 : Int32) (x2 : Int32) (x3 : Int32) (x4 : Int32) (x5 : Int32) (x6 : Int32) : Option (Unit × gMem) :=
  lp (fun (q : gMem × Int32 × Int32 × Int32 × Int32) => bb_X12_fishFor_34 q.1 x0 x1 x2 q.2.1 q.2.2.1 q.2.2.2.1 q.2.2.2.2) (M, x3, x4, x5, x6)
noncomputable def bb_X12_fishFor_11 (M : gMem) (x0 : Nat) (x1 : Int32) (x2 : Int32) (x3 : Int32) (x4 : Int32) (x5 : Int32) (x6 : Int32) : Option ((gMem × Int32) ⊕ (Unit × gMem)) :=
  (if (5 : Int32) < x6 then oI (lp_X12_fishFor_34 M x0 x1 x2 x3 x4 x5 ((5 : Int32))) else ck (mT M x0 = 11) <| dr ((mR M x0 16)) fun a94 => ck (mT M a94 = 20) <| ck (inb x6 (mL M a94)) <| lw (wI M a94 x6.toNatClampNeg ((0 : Int32))) fun M97 => some (.inl (M97, (x6 + (1 : Int32)))))
noncomputable def lp_X12_fishFor_11 (M : gMem) (x0 : Nat) (x1 : Int32) (x2 : Int32) (x3 : Int32) (x4 : Int32) (x5 : Int32) (x6 : Int32) : Option (Unit × gMem) :=
  lp (fun (q : gMem × Int32) => bb_X12_fishFor_11 q.1 x0 x1 x2 x3 x4 x5 q.2) (M, x6)
noncomputable def b_X12_fishFor_0 (M : gMem) (x0 : Nat) (x1 : Int32) (x2 : Int32) : Option (Unit × gMem) :=
  lp_X12_fishFor_11 M x0 x1 x2 ((0 : Int32)) ((0 : Int32)) ((1 : Int32)) ((1 : Int32))
noncomputable def f_X12_fishFor (M : gMem) (x0 : Nat) (x1 : Int32) (x2 : Int32) : Option (Unit × gMem) :=
  b_X12_fishFor_0 M x0 x1 x2
set_option maxHeartbeats 4000000 in
set_option maxRecDepth 100000 in
theorem t_X12_fishFor_271 (X : gX p s m args meth c D cy B (gSt Z B H0) RX12 cX12_fishFor wsX12_fishFor 7) (hr : meth.sig.returnType = none) {Q : State → Prop} : ∀ (M : gMem) (x0 : Nat) (x1 : Int32) (x2 : Int32) (x3 : Int32) (x4 : Int32) (z : Unit × gMem), b_X12_fishFor_271 M x0 x1 x2 x3 x4 = some z → (fun (r : Unit × gMem) => Q = gMQ below D cy B H0 args s 0 0 none r.2) z → gGo p l e rX12_fishFor s m args below meth c D cy B H0 7 0 0 Q 271 [(0, vR (some x0)), (1, vI x1), (2, vI x2), (3, vI x3), (4, vI x4)] [] M := by
  intro M x0 x1 x2 x3 x4 z hf hK
  unfold b_X12_fishFor_271 at hf
  refine g_aload_n X dX12_fishFor_271 rfl rfl ?_
  obtain ⟨hT1, hf⟩ := ck_e hf
  refine g_get (ci := 10) (v := vR (mR M x0 7)) 7 X cdX12 i_X12_fishFor_X12 (by decide) k_X12_fishFor_f35 rfl dX12_fishFor_272 rfl hT1 rfl ?_
  refine g_iload_n X dX12_fishFor_275 rfl rfl ?_
  refine g_iload X dX12_fishFor_276 rfl ?_
  obtain ⟨a2, ha2, hf⟩ := dr_e hf
  obtain ⟨hT3, hf⟩ := ck_e hf
  obtain ⟨hg4, hf⟩ := ck_e hf
  refine g_iast X dX12_fishFor_278 ha2 hT3 hg4 ?_
  obtain ⟨M5, hM5, hf⟩ := lw_e hf
  rw [← hM5]
  have hT6 : mT M5 x0 = 11 := by rw [hM5]; exact hT1
  have hT7 : mT M5 a2 = 20 := by rw [hM5]; exact hT3
  refine g_aload_n X dX12_fishFor_279 rfl rfl ?_
  refine g_get (ci := 10) (v := vR (mR M5 x0 4)) 4 X cdX12 i_X12_fishFor_X12 (by decide) k_X12_fishFor_f26 rfl dX12_fishFor_280 rfl hT6 rfl ?_
  refine g_bipush (v := (8 : Int32)) X dX12_fishFor_283 (by decide) ?_
  refine g_iload_n X dX12_fishFor_285 rfl rfl ?_
  refine g_imul X dX12_fishFor_286 ?_
  refine g_iload_n X dX12_fishFor_287 rfl rfl ?_
  refine g_iadd X dX12_fishFor_288 ?_
  refine g_dup2 X dX12_fishFor_289 rfl rfl ?_
  obtain ⟨a8, ha8, hf⟩ := dr_e hf
  obtain ⟨hT9, hf⟩ := ck_e hf
  obtain ⟨hg10, hf⟩ := ck_e hf
  refine g_iald X dX12_fishFor_290 ha8 hT9 hg10 ?_
  refine g_iload_n X dX12_fishFor_291 rfl rfl ?_
  refine g_iadd X dX12_fishFor_292 ?_
  obtain ⟨hg11, hf⟩ := ck_e hf
  refine g_iast X dX12_fishFor_293 ha8 hT9 hg11 ?_
  obtain ⟨M12, hM12, hf⟩ := lw_e hf
  rw [← hM12]
  have hT13 : mT M12 x0 = 11 := by rw [hM12]; exact hT6
  have hT14 : mT M12 a2 = 20 := by rw [hM12]; exact hT7
  have hT15 : mT M12 a8 = 20 := by rw [hM12]; exact hT9
  cases hf
  refine g_eqQ hK ?_
  exact g_vret X hr dX12_fishFor_294
set_option maxHeartbeats 4000000 in
set_option maxRecDepth 100000 in
theorem tb_X12_fishFor_206 (X : gX p s m args meth c D cy B (gSt Z B H0) RX12 cX12_fishFor wsX12_fishFor 7) (hr : meth.sig.returnType = none) {Q : State → Prop} : ∀ (M : gMem) (x0 : Nat) (x1 : Int32) (x2 : Int32) (x3 : Int32) (x4 : Int32) (x6 : Int32) (z : (gMem × Int32 × Int32 × Int32) ⊕ (Unit × gMem)), bb_X12_fishFor_206 M x0 x1 x2 x3 x4 x6 = some z → (Sum.elim (fun (q : gMem × Int32 × Int32 × Int32) => gGo p l e rX12_fishFor s m args below meth c D cy B H0 7 0 0 Q 206 [(0, vR (some x0)), (1, vI x1), (2, vI x2), (3, vI q.2.1), (4, vI q.2.2.1), (6, vI q.2.2.2)] [] q.1) (fun (r : Unit × gMem) => Q = gMQ below D cy B H0 args s 0 0 none r.2)) z → gGo p l e rX12_fishFor s m args below meth c D cy B H0 7 0 0 Q 206 [(0, vR (some x0)), (1, vI x1), (2, vI x2), (3, vI x3), (4, vI x4), (6, vI x6)] [] M := by
  intro M x0 x1 x2 x3 x4 x6 z hf hK
  unfold bb_X12_fishFor_206 at hf
  refine g_iload X dX12_fishFor_206 rfl ?_
  refine g_aload_n X dX12_fishFor_208 rfl rfl ?_
  obtain ⟨hT16, hf⟩ := ck_e hf
  refine g_get (ci := 10) (v := vR (mR M x0 5)) 5 X cdX12 i_X12_fishFor_X12 (by decide) k_X12_fishFor_f29 rfl dX12_fishFor_209 rfl hT16 rfl ?_
  refine g_iload_n X dX12_fishFor_212 rfl rfl ?_
  obtain ⟨a17, ha17, hf⟩ := dr_e hf
  obtain ⟨hT18, hf⟩ := ck_e hf
  obtain ⟨hg19, hf⟩ := ck_e hf
  refine g_iald X dX12_fishFor_213 ha17 hT18 hg19 ?_
  refine g_icmp_ge (tgt := 271) X dX12_fishFor_214 (by decide) (fun hc => ?_) (fun hc => ?_)
  · have hf := ife_t hc hf
    obtain ⟨w20, hw20, hz20⟩ := oI_e hf
    subst hz20
    have hf := hw20
    refine g_sub (lvsub_of _ _ [0, 1, 2, 3, 4] rfl) ?_
    exact t_X12_fishFor_271 X hr _ _ _ _ _ _ _ hf hK
  · have hf := ife_f hc hf
    refine g_aload_n X dX12_fishFor_217 rfl rfl ?_
    refine g_get (ci := 10) (v := vR (mR M x0 2)) 2 X cdX12 i_X12_fishFor_X12 (by decide) k_X12_fishFor_f19 rfl dX12_fishFor_218 rfl hT16 rfl ?_
    refine g_iconst (v := (5 : Int32)) X dX12_fishFor_221 (by decide) ?_
    refine g_iload_n X dX12_fishFor_222 rfl rfl ?_
    refine g_imul X dX12_fishFor_223 ?_
    refine g_iload X dX12_fishFor_224 rfl ?_
    refine g_iadd X dX12_fishFor_226 ?_
    refine g_iconst (v := (1 : Int32)) X dX12_fishFor_227 (by decide) ?_
    refine g_isub X dX12_fishFor_228 ?_
    refine g_dup2 X dX12_fishFor_229 rfl rfl ?_
    obtain ⟨a21, ha21, hf⟩ := dr_e hf
    obtain ⟨hT22, hf⟩ := ck_e hf
    obtain ⟨hg23, hf⟩ := ck_e hf
    refine g_iald X dX12_fishFor_230 ha21 hT22 hg23 ?_
    refine g_aload_n X dX12_fishFor_231 rfl rfl ?_
    refine g_get (ci := 10) (v := vR (mR M x0 16)) 16 X cdX12 i_X12_fishFor_X12 (by decide) k_X12_fishFor_f62 rfl dX12_fishFor_232 rfl hT16 rfl ?_
    refine g_iload X dX12_fishFor_235 rfl ?_
    obtain ⟨a24, ha24, hf⟩ := dr_e hf
    obtain ⟨hT25, hf⟩ := ck_e hf
    obtain ⟨hg26, hf⟩ := ck_e hf
    refine g_iald X dX12_fishFor_237 ha24 hT25 hg26 ?_
    refine g_iadd X dX12_fishFor_238 ?_
    obtain ⟨hg27, hf⟩ := ck_e hf
    refine g_iast X dX12_fishFor_239 ha21 hT22 hg27 ?_
    obtain ⟨M28, hM28, hf⟩ := lw_e hf
    rw [← hM28]
    have hT29 : mT M28 x0 = 11 := by rw [hM28]; exact hT16
    have hT30 : mT M28 a17 = 20 := by rw [hM28]; exact hT18
    have hT31 : mT M28 a21 = 20 := by rw [hM28]; exact hT22
    have hT32 : mT M28 a24 = 20 := by rw [hM28]; exact hT25
    refine g_iload_n X dX12_fishFor_240 rfl rfl ?_
    refine g_aload_n X dX12_fishFor_241 rfl rfl ?_
    refine g_get (ci := 10) (v := vR (mR M28 x0 16)) 16 X cdX12 i_X12_fishFor_X12 (by decide) k_X12_fishFor_f62 rfl dX12_fishFor_242 rfl hT29 rfl ?_
    refine g_iload X dX12_fishFor_245 rfl ?_
    obtain ⟨a33, ha33, hf⟩ := dr_e hf
    obtain ⟨hT34, hf⟩ := ck_e hf
    obtain ⟨hg35, hf⟩ := ck_e hf
    refine g_iald X dX12_fishFor_247 ha33 hT34 hg35 ?_
    refine g_isub X dX12_fishFor_248 ?_
    refine g_istore_n (lv' := [(3, vI (x3 - (mI M28 a33 x6.toNatClampNeg))), (0, vR (some x0)), (1, vI x1), (2, vI x2), (4, vI x4), (6, vI x6)]) X dX12_fishFor_249 rfl (by decide) rfl ?_
    refine g_iload X dX12_fishFor_250 rfl ?_
    refine g_iload X dX12_fishFor_252 rfl ?_
    refine g_aload_n X dX12_fishFor_254 rfl rfl ?_
    refine g_get (ci := 10) (v := vR (mR M28 x0 16)) 16 X cdX12 i_X12_fishFor_X12 (by decide) k_X12_fishFor_f62 rfl dX12_fishFor_255 rfl hT29 rfl ?_
    refine g_iload X dX12_fishFor_258 rfl ?_
    obtain ⟨hg36, hf⟩ := ck_e hf
    refine g_iald X dX12_fishFor_260 ha33 hT34 hg36 ?_
    refine g_imul X dX12_fishFor_261 ?_
    refine g_isub X dX12_fishFor_262 ?_
    refine g_istore (lv' := [(4, vI (x4 - (x6 * (mI M28 a33 x6.toNatClampNeg)))), (3, vI (x3 - (mI M28 a33 x6.toNatClampNeg))), (0, vR (some x0)), (1, vI x1), (2, vI x2), (6, vI x6)]) X dX12_fishFor_263 (by decide) rfl ?_
    refine g_iinc (v := (1 : Int32)) (lv' := [(6, vI (x6 + (1 : Int32))), (4, vI (x4 - (x6 * (mI M28 a33 x6.toNatClampNeg)))), (3, vI (x3 - (mI M28 a33 x6.toNatClampNeg))), (0, vR (some x0)), (1, vI x1), (2, vI x2)]) X dX12_fishFor_265 rfl (by decide) (by decide) rfl ?_
    refine g_goto (tgt := 206) X dX12_fishFor_268 (by decide) ?_
    cases hf
    refine g_sub (lvsub_of _ _ [3, 4, 5, 2, 1, 0] rfl) ?_
    exact hK
set_option maxHeartbeats 4000000 in
set_option maxRecDepth 100000 in
theorem tl_X12_fishFor_206 (X : gX p s m args meth c D cy B (gSt Z B H0) RX12 cX12_fishFor wsX12_fishFor 7) (hr : meth.sig.returnType = none) {Q : State → Prop} : ∀ (M : gMem) (x0 : Nat) (x1 : Int32) (x2 : Int32) (x3 : Int32) (x4 : Int32) (x6 : Int32) (z : Unit × gMem), lp_X12_fishFor_206 M x0 x1 x2 x3 x4 x6 = some z → (fun (r : Unit × gMem) => Q = gMQ below D cy B H0 args s 0 0 none r.2) z → gGo p l e rX12_fishFor s m args below meth c D cy B H0 7 0 0 Q 206 [(0, vR (some x0)), (1, vI x1), (2, vI x2), (3, vI x3), (4, vI x4), (6, vI x6)] [] M := by
  intro M x0 x1 x2 x3 x4 x6 z hf hK
  refine lp_ind (P := (fun (q : gMem × Int32 × Int32 × Int32) (z : Unit × gMem) => (fun (r : Unit × gMem) => Q = gMQ below D cy B H0 args s 0 0 none r.2) z → gGo p l e rX12_fishFor s m args below meth c D cy B H0 7 0 0 Q 206 [(0, vR (some x0)), (1, vI x1), (2, vI x2), (3, vI q.2.1), (4, vI q.2.2.1), (6, vI q.2.2.2)] [] q.1)) (fun q z hq => ?_) _ _ hf hK
  intro hK
  obtain ⟨w, hw, hm⟩ := hq
  refine tb_X12_fishFor_206 X hr _ _ _ _ _ _ _ w hw ?_
  cases w with
  | inl a => exact hm hK
  | inr b => cases hm; exact hK
set_option maxHeartbeats 4000000 in
set_option maxRecDepth 100000 in
theorem t_X12_fishFor_169 (X : gX p s m args meth c D cy B (gSt Z B H0) RX12 cX12_fishFor wsX12_fishFor 7) (hr : meth.sig.returnType = none) {Q : State → Prop} : ∀ (M : gMem) (x0 : Nat) (x1 : Int32) (x2 : Int32) (x3 : Int32) (x4 : Int32) (x5 : Int32) (z : Unit × gMem), b_X12_fishFor_169 M x0 x1 x2 x3 x4 x5 = some z → (fun (r : Unit × gMem) => Q = gMQ below D cy B H0 args s 0 0 none r.2) z → gGo p l e rX12_fishFor s m args below meth c D cy B H0 7 0 0 Q 169 [(0, vR (some x0)), (1, vI x1), (2, vI x2), (3, vI x3), (4, vI x4), (5, vI x5)] [] M := by
  intro M x0 x1 x2 x3 x4 x5 z hf hK
  unfold b_X12_fishFor_169 at hf
  refine g_iload X dX12_fishFor_169 rfl ?_
  refine g_if_ne (tgt := 271) X dX12_fishFor_171 (by decide) (fun hc => ?_) (fun hc => ?_)
  · have hf := ife_f hc hf
    refine g_sub (lvsub_of _ _ [0, 1, 2, 3, 4] rfl) ?_
    exact t_X12_fishFor_271 X hr _ _ _ _ _ _ _ hf hK
  · have hf := ife_t hc hf
    refine g_aload_n X dX12_fishFor_174 rfl rfl ?_
    obtain ⟨hT37, hf⟩ := ck_e hf
    refine g_get (ci := 10) (v := vR (mR M x0 5)) 5 X cdX12 i_X12_fishFor_X12 (by decide) k_X12_fishFor_f29 rfl dX12_fishFor_175 rfl hT37 rfl ?_
    refine g_iload_n X dX12_fishFor_178 rfl rfl ?_
    refine g_bipush (v := (6 : Int32)) X dX12_fishFor_179 (by decide) ?_
    refine g_aload_n X dX12_fishFor_181 rfl rfl ?_
    refine g_get (ci := 10) (v := vR (mR M x0 5)) 5 X cdX12 i_X12_fishFor_X12 (by decide) k_X12_fishFor_f29 rfl dX12_fishFor_182 rfl hT37 rfl ?_
    refine g_iload_n X dX12_fishFor_185 rfl rfl ?_
    obtain ⟨a38, ha38, hf⟩ := dr_e hf
    obtain ⟨hT39, hf⟩ := ck_e hf
    obtain ⟨hg40, hf⟩ := ck_e hf
    refine g_iald X dX12_fishFor_186 ha38 hT39 hg40 ?_
    refine g_iconst (v := (1 : Int32)) X dX12_fishFor_187 (by decide) ?_
    refine g_iadd X dX12_fishFor_188 ?_
    refine g_min X k_X12_fishFor_m96 k_X12_fishFor_mmins k_X12_fishFor_mi k_X12_fishFor_mminc (Nat.le_of_ble_eq_true rfl) (Nat.le_of_ble_eq_true rfl) ⟨by decide, by decide⟩ dX12_fishFor_189 ?_
    obtain ⟨hg41, hf⟩ := ck_e hf
    refine g_iast X dX12_fishFor_192 ha38 hT39 hg41 ?_
    obtain ⟨M42, hM42, hf⟩ := lw_e hf
    rw [← hM42]
    have hT43 : mT M42 x0 = 11 := by rw [hM42]; exact hT37
    have hT44 : mT M42 a38 = 20 := by rw [hM42]; exact hT39
    refine g_aload_n X dX12_fishFor_193 rfl rfl ?_
    refine g_get (ci := 10) (v := vR (mR M42 x0 9)) 9 X cdX12 i_X12_fishFor_X12 (by decide) k_X12_fishFor_f41 rfl dX12_fishFor_194 rfl hT43 rfl ?_
    refine g_iload_n X dX12_fishFor_197 rfl rfl ?_
    refine g_dup2 X dX12_fishFor_198 rfl rfl ?_
    obtain ⟨a45, ha45, hf⟩ := dr_e hf
    obtain ⟨hT46, hf⟩ := ck_e hf
    obtain ⟨hg47, hf⟩ := ck_e hf
    refine g_iald X dX12_fishFor_199 ha45 hT46 hg47 ?_
    refine g_iconst (v := (1 : Int32)) X dX12_fishFor_200 (by decide) ?_
    refine g_iadd X dX12_fishFor_201 ?_
    obtain ⟨hg48, hf⟩ := ck_e hf
    refine g_iast X dX12_fishFor_202 ha45 hT46 hg48 ?_
    obtain ⟨M49, hM49, hf⟩ := lw_e hf
    rw [← hM49]
    have hT50 : mT M49 x0 = 11 := by rw [hM49]; exact hT43
    have hT51 : mT M49 a38 = 20 := by rw [hM49]; exact hT44
    have hT52 : mT M49 a45 = 20 := by rw [hM49]; exact hT46
    refine g_iconst (v := (1 : Int32)) X dX12_fishFor_203 (by decide) ?_
    refine g_istore (lv' := [(6, vI (1 : Int32)), (0, vR (some x0)), (1, vI x1), (2, vI x2), (3, vI x3), (4, vI x4), (5, vI x5)]) X dX12_fishFor_204 (by decide) rfl ?_
    refine g_sub (lvsub_of _ _ [1, 2, 3, 4, 5, 0] rfl) ?_
    exact tl_X12_fishFor_206 X hr _ _ _ _ _ _ _ _ hf hK
set_option maxHeartbeats 4000000 in
set_option maxRecDepth 100000 in
theorem t_X12_fishFor_163 (X : gX p s m args meth c D cy B (gSt Z B H0) RX12 cX12_fishFor wsX12_fishFor 7) (hr : meth.sig.returnType = none) {Q : State → Prop} : ∀ (M : gMem) (x0 : Nat) (x1 : Int32) (x2 : Int32) (x3 : Int32) (x4 : Int32) (x5 : Int32) (x6 : Int32) (z : (gMem × Int32 × Int32 × Int32 × Int32) ⊕ (Unit × gMem)), b_X12_fishFor_163 M x0 x1 x2 x3 x4 x5 x6 = some z → (Sum.elim (fun (q : gMem × Int32 × Int32 × Int32 × Int32) => gGo p l e rX12_fishFor s m args below meth c D cy B H0 7 0 0 Q 34 [(0, vR (some x0)), (1, vI x1), (2, vI x2), (3, vI q.2.1), (4, vI q.2.2.1), (5, vI q.2.2.2.1), (6, vI q.2.2.2.2)] [] q.1) (fun (r : Unit × gMem) => Q = gMQ below D cy B H0 args s 0 0 none r.2)) z → gGo p l e rX12_fishFor s m args below meth c D cy B H0 7 0 0 Q 163 [(0, vR (some x0)), (1, vI x1), (2, vI x2), (3, vI x3), (4, vI x4), (5, vI x5), (6, vI x6)] [] M := by
  intro M x0 x1 x2 x3 x4 x5 x6 z hf hK
  unfold b_X12_fishFor_163 at hf
  refine g_iinc (v := (-1 : Int32)) (lv' := [(6, vI (x6 + (-1 : Int32))), (0, vR (some x0)), (1, vI x1), (2, vI x2), (3, vI x3), (4, vI x4), (5, vI x5)]) X dX12_fishFor_163 rfl (by decide) (by decide) rfl ?_
  refine g_goto (tgt := 34) X dX12_fishFor_166 (by decide) ?_
  cases hf
  refine g_sub (lvsub_of _ _ [1, 2, 3, 4, 5, 6, 0] rfl) ?_
  exact hK
set_option maxHeartbeats 4000000 in
set_option maxRecDepth 100000 in
theorem t_X12_fishFor_112 (X : gX p s m args meth c D cy B (gSt Z B H0) RX12 cX12_fishFor wsX12_fishFor 7) (hr : meth.sig.returnType = none) {Q : State → Prop} : ∀ (M : gMem) (x0 : Nat) (x1 : Int32) (x2 : Int32) (x3 : Int32) (x4 : Int32) (x6 : Int32) (s0 : Int32) (z : (gMem × Int32 × Int32 × Int32) ⊕ ((gMem × Int32 × Int32 × Int32 × Int32) ⊕ (Unit × gMem))), b_X12_fishFor_112 M x0 x1 x2 x3 x4 x6 s0 = some z → (Sum.elim (fun (q : gMem × Int32 × Int32 × Int32) => gGo p l e rX12_fishFor s m args below meth c D cy B H0 7 0 0 Q 50 [(0, vR (some x0)), (1, vI x1), (2, vI x2), (3, vI q.2.1), (4, vI q.2.2.1), (5, vI q.2.2.2), (6, vI x6)] [] q.1) (Sum.elim (fun (q : gMem × Int32 × Int32 × Int32 × Int32) => gGo p l e rX12_fishFor s m args below meth c D cy B H0 7 0 0 Q 34 [(0, vR (some x0)), (1, vI x1), (2, vI x2), (3, vI q.2.1), (4, vI q.2.2.1), (5, vI q.2.2.2.1), (6, vI q.2.2.2.2)] [] q.1) (fun (r : Unit × gMem) => Q = gMQ below D cy B H0 args s 0 0 none r.2))) z → gGo p l e rX12_fishFor s m args below meth c D cy B H0 7 0 0 Q 112 [(0, vR (some x0)), (1, vI x1), (2, vI x2), (3, vI x3), (4, vI x4), (6, vI x6)] [vI s0] M := by
  intro M x0 x1 x2 x3 x4 x6 s0 z hf hK
  unfold b_X12_fishFor_112 at hf
  refine g_istore (lv' := [(5, vI s0), (0, vR (some x0)), (1, vI x1), (2, vI x2), (3, vI x3), (4, vI x4), (6, vI x6)]) X dX12_fishFor_112 (by decide) rfl ?_
  refine g_iload X dX12_fishFor_114 rfl ?_
  refine g_if_ne (tgt := 122) X dX12_fishFor_116 (by decide) (fun hc => ?_) (fun hc => ?_)
  · have hf := ife_f hc hf
    refine g_aload_n X dX12_fishFor_122 rfl rfl ?_
    obtain ⟨hT53, hf⟩ := ck_e hf
    refine g_get (ci := 10) (v := vR (mR M x0 2)) 2 X cdX12 i_X12_fishFor_X12 (by decide) k_X12_fishFor_f19 rfl dX12_fishFor_123 rfl hT53 rfl ?_
    refine g_iconst (v := (5 : Int32)) X dX12_fishFor_126 (by decide) ?_
    refine g_iload_n X dX12_fishFor_127 rfl rfl ?_
    refine g_imul X dX12_fishFor_128 ?_
    refine g_iload X dX12_fishFor_129 rfl ?_
    refine g_iadd X dX12_fishFor_131 ?_
    refine g_iconst (v := (1 : Int32)) X dX12_fishFor_132 (by decide) ?_
    refine g_isub X dX12_fishFor_133 ?_
    refine g_dup2 X dX12_fishFor_134 rfl rfl ?_
    obtain ⟨a54, ha54, hf⟩ := dr_e hf
    obtain ⟨hT55, hf⟩ := ck_e hf
    obtain ⟨hg56, hf⟩ := ck_e hf
    refine g_iald X dX12_fishFor_135 ha54 hT55 hg56 ?_
    refine g_iconst (v := (1 : Int32)) X dX12_fishFor_136 (by decide) ?_
    refine g_isub X dX12_fishFor_137 ?_
    obtain ⟨hg57, hf⟩ := ck_e hf
    refine g_iast X dX12_fishFor_138 ha54 hT55 hg57 ?_
    obtain ⟨M58, hM58, hf⟩ := lw_e hf
    rw [← hM58]
    have hT59 : mT M58 x0 = 11 := by rw [hM58]; exact hT53
    have hT60 : mT M58 a54 = 20 := by rw [hM58]; exact hT55
    refine g_aload_n X dX12_fishFor_139 rfl rfl ?_
    refine g_get (ci := 10) (v := vR (mR M58 x0 16)) 16 X cdX12 i_X12_fishFor_X12 (by decide) k_X12_fishFor_f62 rfl dX12_fishFor_140 rfl hT59 rfl ?_
    refine g_iload X dX12_fishFor_143 rfl ?_
    refine g_dup2 X dX12_fishFor_145 rfl rfl ?_
    obtain ⟨a61, ha61, hf⟩ := dr_e hf
    obtain ⟨hT62, hf⟩ := ck_e hf
    obtain ⟨hg63, hf⟩ := ck_e hf
    refine g_iald X dX12_fishFor_146 ha61 hT62 hg63 ?_
    refine g_iconst (v := (1 : Int32)) X dX12_fishFor_147 (by decide) ?_
    refine g_iadd X dX12_fishFor_148 ?_
    obtain ⟨hg64, hf⟩ := ck_e hf
    refine g_iast X dX12_fishFor_149 ha61 hT62 hg64 ?_
    obtain ⟨M65, hM65, hf⟩ := lw_e hf
    rw [← hM65]
    have hT66 : mT M65 x0 = 11 := by rw [hM65]; exact hT59
    have hT67 : mT M65 a54 = 20 := by rw [hM65]; exact hT60
    have hT68 : mT M65 a61 = 20 := by rw [hM65]; exact hT62
    refine g_iinc (v := (1 : Int32)) (lv' := [(3, vI (x3 + (1 : Int32))), (5, vI s0), (0, vR (some x0)), (1, vI x1), (2, vI x2), (4, vI x4), (6, vI x6)]) X dX12_fishFor_150 rfl (by decide) (by decide) rfl ?_
    refine g_iload X dX12_fishFor_153 rfl ?_
    refine g_iload X dX12_fishFor_155 rfl ?_
    refine g_iadd X dX12_fishFor_157 ?_
    refine g_istore (lv' := [(4, vI (x4 + x6)), (3, vI (x3 + (1 : Int32))), (5, vI s0), (0, vR (some x0)), (1, vI x1), (2, vI x2), (6, vI x6)]) X dX12_fishFor_158 (by decide) rfl ?_
    refine g_goto (tgt := 50) X dX12_fishFor_160 (by decide) ?_
    cases hf
    refine g_sub (lvsub_of _ _ [3, 4, 5, 1, 0, 2, 6] rfl) ?_
    exact hK
  · have hf := ife_t hc hf
    refine g_goto (tgt := 50) X dX12_fishFor_119 (by decide) ?_
    cases hf
    refine g_sub (lvsub_of _ _ [1, 2, 3, 4, 5, 0, 6] rfl) ?_
    exact hK
set_option maxHeartbeats 4000000 in
set_option maxRecDepth 100000 in
theorem tb_X12_fishFor_50 (X : gX p s m args meth c D cy B (gSt Z B H0) RX12 cX12_fishFor wsX12_fishFor 7) (hr : meth.sig.returnType = none) {Q : State → Prop} : ∀ (M : gMem) (x0 : Nat) (x1 : Int32) (x2 : Int32) (x3 : Int32) (x4 : Int32) (x5 : Int32) (x6 : Int32) (z : (gMem × Int32 × Int32 × Int32) ⊕ ((gMem × Int32 × Int32 × Int32 × Int32) ⊕ (Unit × gMem))), bb_X12_fishFor_50 M x0 x1 x2 x3 x4 x5 x6 = some z → (Sum.elim (fun (q : gMem × Int32 × Int32 × Int32) => gGo p l e rX12_fishFor s m args below meth c D cy B H0 7 0 0 Q 50 [(0, vR (some x0)), (1, vI x1), (2, vI x2), (3, vI q.2.1), (4, vI q.2.2.1), (5, vI q.2.2.2), (6, vI x6)] [] q.1) (Sum.elim (fun (q : gMem × Int32 × Int32 × Int32 × Int32) => gGo p l e rX12_fishFor s m args below meth c D cy B H0 7 0 0 Q 34 [(0, vR (some x0)), (1, vI x1), (2, vI x2), (3, vI q.2.1), (4, vI q.2.2.1), (5, vI q.2.2.2.1), (6, vI q.2.2.2.2)] [] q.1) (fun (r : Unit × gMem) => Q = gMQ below D cy B H0 args s 0 0 none r.2))) z → gGo p l e rX12_fishFor s m args below meth c D cy B H0 7 0 0 Q 50 [(0, vR (some x0)), (1, vI x1), (2, vI x2), (3, vI x3), (4, vI x4), (5, vI x5), (6, vI x6)] [] M := by
  intro M x0 x1 x2 x3 x4 x5 x6 z hf hK
  unfold bb_X12_fishFor_50 at hf
  refine g_iload X dX12_fishFor_50 rfl ?_
  refine g_if_eq (tgt := 163) X dX12_fishFor_52 (by decide) (fun hc => ?_) (fun hc => ?_)
  · have hf := ife_t hc hf
    obtain ⟨w69, hw69, hz69⟩ := oI_e hf
    subst hz69
    have hf := hw69
    refine g_sub (lvsub_of _ _ [0, 1, 2, 3, 4, 5, 6] rfl) ?_
    exact t_X12_fishFor_163 X hr _ _ _ _ _ _ _ _ _ hf hK
  · have hf := ife_f hc hf
    refine g_aload_n X dX12_fishFor_55 rfl rfl ?_
    obtain ⟨hT70, hf⟩ := ck_e hf
    refine g_get (ci := 10) (v := vR (mR M x0 2)) 2 X cdX12 i_X12_fishFor_X12 (by decide) k_X12_fishFor_f19 rfl dX12_fishFor_56 rfl hT70 rfl ?_
    refine g_iconst (v := (5 : Int32)) X dX12_fishFor_59 (by decide) ?_
    refine g_iload_n X dX12_fishFor_60 rfl rfl ?_
    refine g_imul X dX12_fishFor_61 ?_
    refine g_iload X dX12_fishFor_62 rfl ?_
    refine g_iadd X dX12_fishFor_64 ?_
    refine g_iconst (v := (1 : Int32)) X dX12_fishFor_65 (by decide) ?_
    refine g_isub X dX12_fishFor_66 ?_
    obtain ⟨a71, ha71, hf⟩ := dr_e hf
    obtain ⟨hT72, hf⟩ := ck_e hf
    obtain ⟨hg73, hf⟩ := ck_e hf
    refine g_iald X dX12_fishFor_67 ha71 hT72 hg73 ?_
    refine g_if_le (tgt := 163) X dX12_fishFor_68 (by decide) (fun hc => ?_) (fun hc => ?_)
    · have hf := ife_t hc hf
      obtain ⟨w74, hw74, hz74⟩ := oI_e hf
      subst hz74
      have hf := hw74
      refine g_sub (lvsub_of _ _ [0, 1, 2, 3, 4, 5, 6] rfl) ?_
      exact t_X12_fishFor_163 X hr _ _ _ _ _ _ _ _ _ hf hK
    · have hf := ife_f hc hf
      refine g_iload_n X dX12_fishFor_71 rfl rfl ?_
      refine g_aload_n X dX12_fishFor_72 rfl rfl ?_
      refine g_get (ci := 10) (v := vR (mR M x0 18)) 18 X cdX12 i_X12_fishFor_X12 (by decide) k_X12_fishFor_f3 rfl dX12_fishFor_73 rfl hT70 rfl ?_
      obtain ⟨a75, ha75, hf⟩ := dr_e hf
      obtain ⟨hT76, hf⟩ := ck_e hf
      refine g_getN (ci := 12) (w := vR (mR M a75 11)) 11 X cdX14 i_X12_fishFor_X14 (by decide) (gNw X _ kn_X12_81) rfl dX12_fishFor_76 ha75 hT76 rfl ?_
      obtain ⟨a77, ha77, hf⟩ := dr_e hf
      obtain ⟨hT78, hf⟩ := ck_e hf
      refine g_getN (ci := 11) (w := vR (mR M a77 7)) 7 X cdX13 i_X12_fishFor_X13 (by decide) (gNw X _ kn_X12_176) rfl dX12_fishFor_79 ha77 hT78 rfl ?_
      refine g_iload_n X dX12_fishFor_82 rfl rfl ?_
      obtain ⟨a79, ha79, hf⟩ := dr_e hf
      obtain ⟨hT80, hf⟩ := ck_e hf
      obtain ⟨hg81, hf⟩ := ck_e hf
      refine g_iald X dX12_fishFor_83 ha79 hT80 hg81 ?_
      refine g_icmp_ge (tgt := 163) X dX12_fishFor_84 (by decide) (fun hc => ?_) (fun hc => ?_)
      · have hf := ife_t hc hf
        obtain ⟨w82, hw82, hz82⟩ := oI_e hf
        subst hz82
        have hf := hw82
        refine g_sub (lvsub_of _ _ [0, 1, 2, 3, 4, 5, 6] rfl) ?_
        exact t_X12_fishFor_163 X hr _ _ _ _ _ _ _ _ _ hf hK
      · have hf := ife_f hc hf
        refine g_iload X dX12_fishFor_87 rfl ?_
        refine g_iload X dX12_fishFor_89 rfl ?_
        refine g_iadd X dX12_fishFor_91 ?_
        refine g_aload_n X dX12_fishFor_92 rfl rfl ?_
        refine g_get (ci := 10) (v := vR (mR M x0 18)) 18 X cdX12 i_X12_fishFor_X12 (by decide) k_X12_fishFor_f3 rfl dX12_fishFor_93 rfl hT70 rfl ?_
        refine g_getN (ci := 12) (w := vR (mR M a75 11)) 11 X cdX14 i_X12_fishFor_X14 (by decide) (gNw X _ kn_X12_81) rfl dX12_fishFor_96 ha75 hT76 rfl ?_
        refine g_getN (ci := 11) (w := vR (mR M a77 6)) 6 X cdX13 i_X12_fishFor_X13 (by decide) (gNw X _ kn_X12_179) rfl dX12_fishFor_99 ha77 hT78 rfl ?_
        refine g_iload_n X dX12_fishFor_102 rfl rfl ?_
        obtain ⟨a83, ha83, hf⟩ := dr_e hf
        obtain ⟨hT84, hf⟩ := ck_e hf
        obtain ⟨hg85, hf⟩ := ck_e hf
        refine g_iald X dX12_fishFor_103 ha83 hT84 hg85 ?_
        refine g_icmp_gt (tgt := 111) X dX12_fishFor_104 (by decide) (fun hc => ?_) (fun hc => ?_)
        · have hf := ife_t hc hf
          refine g_iconst (v := (0 : Int32)) X dX12_fishFor_111 (by decide) ?_
          refine g_sub (lvsub_of _ _ [0, 1, 2, 3, 4, 6] rfl) ?_
          exact t_X12_fishFor_112 X hr _ _ _ _ _ _ _ _ _ hf hK
        · have hf := ife_f hc hf
          refine g_iconst (v := (1 : Int32)) X dX12_fishFor_107 (by decide) ?_
          refine g_goto (tgt := 112) X dX12_fishFor_108 (by decide) ?_
          refine g_sub (lvsub_of _ _ [0, 1, 2, 3, 4, 6] rfl) ?_
          exact t_X12_fishFor_112 X hr _ _ _ _ _ _ _ _ _ hf hK
set_option maxHeartbeats 4000000 in
set_option maxRecDepth 100000 in
theorem tl_X12_fishFor_50 (X : gX p s m args meth c D cy B (gSt Z B H0) RX12 cX12_fishFor wsX12_fishFor 7) (hr : meth.sig.returnType = none) {Q : State → Prop} : ∀ (M : gMem) (x0 : Nat) (x1 : Int32) (x2 : Int32) (x3 : Int32) (x4 : Int32) (x5 : Int32) (x6 : Int32) (z : (gMem × Int32 × Int32 × Int32 × Int32) ⊕ (Unit × gMem)), lp_X12_fishFor_50 M x0 x1 x2 x3 x4 x5 x6 = some z → (Sum.elim (fun (q : gMem × Int32 × Int32 × Int32 × Int32) => gGo p l e rX12_fishFor s m args below meth c D cy B H0 7 0 0 Q 34 [(0, vR (some x0)), (1, vI x1), (2, vI x2), (3, vI q.2.1), (4, vI q.2.2.1), (5, vI q.2.2.2.1), (6, vI q.2.2.2.2)] [] q.1) (fun (r : Unit × gMem) => Q = gMQ below D cy B H0 args s 0 0 none r.2)) z → gGo p l e rX12_fishFor s m args below meth c D cy B H0 7 0 0 Q 50 [(0, vR (some x0)), (1, vI x1), (2, vI x2), (3, vI x3), (4, vI x4), (5, vI x5), (6, vI x6)] [] M := by
  intro M x0 x1 x2 x3 x4 x5 x6 z hf hK
  refine lp_ind (P := (fun (q : gMem × Int32 × Int32 × Int32) (z : (gMem × Int32 × Int32 × Int32 × Int32) ⊕ (Unit × gMem)) => (Sum.elim (fun (q : gMem × Int32 × Int32 × Int32 × Int32) => gGo p l e rX12_fishFor s m args below meth c D cy B H0 7 0 0 Q 34 [(0, vR (some x0)), (1, vI x1), (2, vI x2), (3, vI q.2.1), (4, vI q.2.2.1), (5, vI q.2.2.2.1), (6, vI q.2.2.2.2)] [] q.1) (fun (r : Unit × gMem) => Q = gMQ below D cy B H0 args s 0 0 none r.2)) z → gGo p l e rX12_fishFor s m args below meth c D cy B H0 7 0 0 Q 50 [(0, vR (some x0)), (1, vI x1), (2, vI x2), (3, vI q.2.1), (4, vI q.2.2.1), (5, vI q.2.2.2), (6, vI x6)] [] q.1)) (fun q z hq => ?_) _ _ hf hK
  intro hK
  obtain ⟨w, hw, hm⟩ := hq
  refine tb_X12_fishFor_50 X hr _ _ _ _ _ _ _ _ w hw ?_
  cases w with
  | inl a => exact hm hK
  | inr b => cases hm; exact hK
set_option maxHeartbeats 4000000 in
set_option maxRecDepth 100000 in
theorem tb_X12_fishFor_34 (X : gX p s m args meth c D cy B (gSt Z B H0) RX12 cX12_fishFor wsX12_fishFor 7) (hr : meth.sig.returnType = none) {Q : State → Prop} : ∀ (M : gMem) (x0 : Nat) (x1 : Int32) (x2 : Int32) (x3 : Int32) (x4 : Int32) (x5 : Int32) (x6 : Int32) (z : (gMem × Int32 × Int32 × Int32 × Int32) ⊕ (Unit × gMem)), bb_X12_fishFor_34 M x0 x1 x2 x3 x4 x5 x6 = some z → (Sum.elim (fun (q : gMem × Int32 × Int32 × Int32 × Int32) => gGo p l e rX12_fishFor s m args below meth c D cy B H0 7 0 0 Q 34 [(0, vR (some x0)), (1, vI x1), (2, vI x2), (3, vI q.2.1), (4, vI q.2.2.1), (5, vI q.2.2.2.1), (6, vI q.2.2.2.2)] [] q.1) (fun (r : Unit × gMem) => Q = gMQ below D cy B H0 args s 0 0 none r.2)) z → gGo p l e rX12_fishFor s m args below meth c D cy B H0 7 0 0 Q 34 [(0, vR (some x0)), (1, vI x1), (2, vI x2), (3, vI x3), (4, vI x4), (5, vI x5), (6, vI x6)] [] M := by
  intro M x0 x1 x2 x3 x4 x5 x6 z hf hK
  unfold bb_X12_fishFor_34 at hf
  refine g_iload X dX12_fishFor_34 rfl ?_
  refine g_aload_n X dX12_fishFor_36 rfl rfl ?_
  obtain ⟨hT86, hf⟩ := ck_e hf
  refine g_get (ci := 10) (v := vR (mR M x0 5)) 5 X cdX12 i_X12_fishFor_X12 (by decide) k_X12_fishFor_f29 rfl dX12_fishFor_37 rfl hT86 rfl ?_
  refine g_iload_n X dX12_fishFor_40 rfl rfl ?_
  obtain ⟨a87, ha87, hf⟩ := dr_e hf
  obtain ⟨hT88, hf⟩ := ck_e hf
  obtain ⟨hg89, hf⟩ := ck_e hf
  refine g_iald X dX12_fishFor_41 ha87 hT88 hg89 ?_
  refine g_icmp_lt (tgt := 169) X dX12_fishFor_42 (by decide) (fun hc => ?_) (fun hc => ?_)
  · have hf := ife_t hc hf
    obtain ⟨w90, hw90, hz90⟩ := oI_e hf
    subst hz90
    have hf := hw90
    refine g_sub (lvsub_of _ _ [0, 1, 2, 3, 4, 5] rfl) ?_
    exact t_X12_fishFor_169 X hr _ _ _ _ _ _ _ _ hf hK
  · have hf := ife_f hc hf
    refine g_iload X dX12_fishFor_45 rfl ?_
    refine g_if_eq (tgt := 169) X dX12_fishFor_47 (by decide) (fun hc => ?_) (fun hc => ?_)
    · have hf := ife_t hc hf
      obtain ⟨w91, hw91, hz91⟩ := oI_e hf
      subst hz91
      have hf := hw91
      refine g_sub (lvsub_of _ _ [0, 1, 2, 3, 4, 5] rfl) ?_
      exact t_X12_fishFor_169 X hr _ _ _ _ _ _ _ _ hf hK
    · have hf := ife_f hc hf
      refine g_sub (lvsub_of _ _ [0, 1, 2, 3, 4, 5, 6] rfl) ?_
      exact tl_X12_fishFor_50 X hr _ _ _ _ _ _ _ _ _ hf hK
set_option maxHeartbeats 4000000 in
set_option maxRecDepth 100000 in
theorem tl_X12_fishFor_34 (X : gX p s m args meth c D cy B (gSt Z B H0) RX12 cX12_fishFor wsX12_fishFor 7) (hr : meth.sig.returnType = none) {Q : State → Prop} : ∀ (M : gMem) (x0 : Nat) (x1 : Int32) (x2 : Int32) (x3 : Int32) (x4 : Int32) (x5 : Int32) (x6 : Int32) (z : Unit × gMem), lp_X12_fishFor_34 M x0 x1 x2 x3 x4 x5 x6 = some z → (fun (r : Unit × gMem) => Q = gMQ below D cy B H0 args s 0 0 none r.2) z → gGo p l e rX12_fishFor s m args below meth c D cy B H0 7 0 0 Q 34 [(0, vR (some x0)), (1, vI x1), (2, vI x2), (3, vI x3), (4, vI x4), (5, vI x5), (6, vI x6)] [] M := by
  intro M x0 x1 x2 x3 x4 x5 x6 z hf hK
  refine lp_ind (P := (fun (q : gMem × Int32 × Int32 × Int32 × Int32) (z : Unit × gMem) => (fun (r : Unit × gMem) => Q = gMQ below D cy B H0 args s 0 0 none r.2) z → gGo p l e rX12_fishFor s m args below meth c D cy B H0 7 0 0 Q 34 [(0, vR (some x0)), (1, vI x1), (2, vI x2), (3, vI q.2.1), (4, vI q.2.2.1), (5, vI q.2.2.2.1), (6, vI q.2.2.2.2)] [] q.1)) (fun q z hq => ?_) _ _ hf hK
  intro hK
  obtain ⟨w, hw, hm⟩ := hq
  refine tb_X12_fishFor_34 X hr _ _ _ _ _ _ _ _ w hw ?_
  cases w with
  | inl a => exact hm hK
  | inr b => cases hm; exact hK
set_option maxHeartbeats 4000000 in
set_option maxRecDepth 100000 in
theorem tb_X12_fishFor_11 (X : gX p s m args meth c D cy B (gSt Z B H0) RX12 cX12_fishFor wsX12_fishFor 7) (hr : meth.sig.returnType = none) {Q : State → Prop} : ∀ (M : gMem) (x0 : Nat) (x1 : Int32) (x2 : Int32) (x3 : Int32) (x4 : Int32) (x5 : Int32) (x6 : Int32) (z : (gMem × Int32) ⊕ (Unit × gMem)), bb_X12_fishFor_11 M x0 x1 x2 x3 x4 x5 x6 = some z → (Sum.elim (fun (q : gMem × Int32) => gGo p l e rX12_fishFor s m args below meth c D cy B H0 7 0 0 Q 11 [(0, vR (some x0)), (1, vI x1), (2, vI x2), (3, vI x3), (4, vI x4), (5, vI x5), (6, vI q.2)] [] q.1) (fun (r : Unit × gMem) => Q = gMQ below D cy B H0 args s 0 0 none r.2)) z → gGo p l e rX12_fishFor s m args below meth c D cy B H0 7 0 0 Q 11 [(0, vR (some x0)), (1, vI x1), (2, vI x2), (3, vI x3), (4, vI x4), (5, vI x5), (6, vI x6)] [] M := by
  intro M x0 x1 x2 x3 x4 x5 x6 z hf hK
  unfold bb_X12_fishFor_11 at hf
  refine g_iload X dX12_fishFor_11 rfl ?_
  refine g_iconst (v := (5 : Int32)) X dX12_fishFor_13 (by decide) ?_
  refine g_icmp_gt (tgt := 31) X dX12_fishFor_14 (by decide) (fun hc => ?_) (fun hc => ?_)
  · have hf := ife_t hc hf
    refine g_iconst (v := (5 : Int32)) X dX12_fishFor_31 (by decide) ?_
    refine g_istore (lv' := [(6, vI (5 : Int32)), (0, vR (some x0)), (1, vI x1), (2, vI x2), (3, vI x3), (4, vI x4), (5, vI x5)]) X dX12_fishFor_32 (by decide) rfl ?_
    obtain ⟨w92, hw92, hz92⟩ := oI_e hf
    subst hz92
    have hf := hw92
    refine g_sub (lvsub_of _ _ [1, 2, 3, 4, 5, 6, 0] rfl) ?_
    exact tl_X12_fishFor_34 X hr _ _ _ _ _ _ _ _ _ hf hK
  · have hf := ife_f hc hf
    refine g_aload_n X dX12_fishFor_17 rfl rfl ?_
    obtain ⟨hT93, hf⟩ := ck_e hf
    refine g_get (ci := 10) (v := vR (mR M x0 16)) 16 X cdX12 i_X12_fishFor_X12 (by decide) k_X12_fishFor_f62 rfl dX12_fishFor_18 rfl hT93 rfl ?_
    refine g_iload X dX12_fishFor_21 rfl ?_
    refine g_iconst (v := (0 : Int32)) X dX12_fishFor_23 (by decide) ?_
    obtain ⟨a94, ha94, hf⟩ := dr_e hf
    obtain ⟨hT95, hf⟩ := ck_e hf
    obtain ⟨hg96, hf⟩ := ck_e hf
    refine g_iast X dX12_fishFor_24 ha94 hT95 hg96 ?_
    obtain ⟨M97, hM97, hf⟩ := lw_e hf
    rw [← hM97]
    have hT98 : mT M97 x0 = 11 := by rw [hM97]; exact hT93
    have hT99 : mT M97 a94 = 20 := by rw [hM97]; exact hT95
    refine g_iinc (v := (1 : Int32)) (lv' := [(6, vI (x6 + (1 : Int32))), (0, vR (some x0)), (1, vI x1), (2, vI x2), (3, vI x3), (4, vI x4), (5, vI x5)]) X dX12_fishFor_25 rfl (by decide) (by decide) rfl ?_
    refine g_goto (tgt := 11) X dX12_fishFor_28 (by decide) ?_
    cases hf
    refine g_sub (lvsub_of _ _ [1, 2, 3, 4, 5, 6, 0] rfl) ?_
    exact hK
set_option maxHeartbeats 4000000 in
set_option maxRecDepth 100000 in
theorem tl_X12_fishFor_11 (X : gX p s m args meth c D cy B (gSt Z B H0) RX12 cX12_fishFor wsX12_fishFor 7) (hr : meth.sig.returnType = none) {Q : State → Prop} : ∀ (M : gMem) (x0 : Nat) (x1 : Int32) (x2 : Int32) (x3 : Int32) (x4 : Int32) (x5 : Int32) (x6 : Int32) (z : Unit × gMem), lp_X12_fishFor_11 M x0 x1 x2 x3 x4 x5 x6 = some z → (fun (r : Unit × gMem) => Q = gMQ below D cy B H0 args s 0 0 none r.2) z → gGo p l e rX12_fishFor s m args below meth c D cy B H0 7 0 0 Q 11 [(0, vR (some x0)), (1, vI x1), (2, vI x2), (3, vI x3), (4, vI x4), (5, vI x5), (6, vI x6)] [] M := by
  intro M x0 x1 x2 x3 x4 x5 x6 z hf hK
  refine lp_ind (P := (fun (q : gMem × Int32) (z : Unit × gMem) => (fun (r : Unit × gMem) => Q = gMQ below D cy B H0 args s 0 0 none r.2) z → gGo p l e rX12_fishFor s m args below meth c D cy B H0 7 0 0 Q 11 [(0, vR (some x0)), (1, vI x1), (2, vI x2), (3, vI x3), (4, vI x4), (5, vI x5), (6, vI q.2)] [] q.1)) (fun q z hq => ?_) _ _ hf hK
  intro hK
  obtain ⟨w, hw, hm⟩ := hq
  refine tb_X12_fishFor_11 X hr _ _ _ _ _ _ _ _ w hw ?_
  cases w with
  | inl a => exact hm hK
  | inr b => cases hm; exact hK
set_option maxHeartbeats 4000000 in
set_option maxRecDepth 100000 in
theorem t_X12_fishFor_0 (X : gX p s m args meth c D cy B (gSt Z B H0) RX12 cX12_fishFor wsX12_fishFor 7) (hr : meth.sig.returnType = none) {Q : State → Prop} : ∀ (M : gMem) (x0 : Nat) (x1 : Int32) (x2 : Int32) (z : Unit × gMem), b_X12_fishFor_0 M x0 x1 x2 = some z → (fun (r : Unit × gMem) => Q = gMQ below D cy B H0 args s 0 0 none r.2) z → gGo p l e rX12_fishFor s m args below meth c D cy B H0 7 0 0 Q 0 [(0, vR (some x0)), (1, vI x1), (2, vI x2)] [] M := by
  intro M x0 x1 x2 z hf hK
  unfold b_X12_fishFor_0 at hf
  refine g_iconst (v := (0 : Int32)) X dX12_fishFor_0 (by decide) ?_
  refine g_istore_n (lv' := [(3, vI (0 : Int32)), (0, vR (some x0)), (1, vI x1), (2, vI x2)]) X dX12_fishFor_1 rfl (by decide) rfl ?_
  refine g_iconst (v := (0 : Int32)) X dX12_fishFor_2 (by decide) ?_
  refine g_istore (lv' := [(4, vI (0 : Int32)), (3, vI (0 : Int32)), (0, vR (some x0)), (1, vI x1), (2, vI x2)]) X dX12_fishFor_3 (by decide) rfl ?_
  refine g_iconst (v := (1 : Int32)) X dX12_fishFor_5 (by decide) ?_
  refine g_istore (lv' := [(5, vI (1 : Int32)), (4, vI (0 : Int32)), (3, vI (0 : Int32)), (0, vR (some x0)), (1, vI x1), (2, vI x2)]) X dX12_fishFor_6 (by decide) rfl ?_
  refine g_iconst (v := (1 : Int32)) X dX12_fishFor_8 (by decide) ?_
  refine g_istore (lv' := [(6, vI (1 : Int32)), (5, vI (1 : Int32)), (4, vI (0 : Int32)), (3, vI (0 : Int32)), (0, vR (some x0)), (1, vI x1), (2, vI x2)]) X dX12_fishFor_9 (by decide) rfl ?_
  refine g_sub (lvsub_of _ _ [4, 5, 6, 3, 2, 1, 0] rfl) ?_
  exact tl_X12_fishFor_11 X hr _ _ _ _ _ _ _ _ _ hf hK
set_option maxHeartbeats 4000000 in
set_option maxRecDepth 100000 in
theorem m_X12_fishFor (l : Launch) {D : va_G} {cy : Nat → ClassId} {B : Nat} {H0 : Heap} {Z : Nat → Nat} {M M1 : gMem} {x0 : Nat} {x1 : Int32} {x2 : Int32} {r : Unit} (hf : f_X12_fishFor M x0 x1 x2 = some (r, M1)) : Met l yX12_fishFor wsX12_fishFor rX12_fishFor (va_Pc (Value.ref x0 :: List.map gv [vI x1, vI x2]) (gPre D cy B H0 (gSt Z B H0) M)) (gQ D cy B H0 none M1) 0 0 (gA B) := by
  refine Met.ofW (cc := cX12_fishFor) (maxL := 7) (ret := none) (by decide) rfl ?_
  intro p e s m args below meth c s₁ Bd hml hv
  obtain ⟨rfl, hW, hKK, hFs⟩ := hv
  have X : gX p s m _ meth c D cy B (gSt Z B H0) RX12 cX12_fishFor wsX12_fishFor 7 := ⟨Bd.exec, Bd.bytes, atoms_spec (ws := wsX12_fishFor) Bd.pre, findClass_of_methodNamed Bd.named, hml, hKK, by rw [hW.1]; exact hW.2.1, Bd.notSynchronized, hFs⟩
  have hr := Bd.returns
  have hl := lv_entry ([.ref x0, .int x1, .int x2]) (n := 7) (Nat.le_of_ble_eq_true rfl)
  show W p l e rX12_fishFor s m _ below meth c s.heap [] 0 0 _ (entryFrame m ([.ref x0, .int x1, .int x2] : List Value).toArray 7)
  rw [lg_entry_eq]
  generalize (lg_sl ([.ref x0, .int x1, .int x2]) ++ List.replicate (7 - (lg_sl ([.ref x0, .int x1, .int x2])).length) Slot.unset).toArray = ls at hl ⊢
  have hl : lv_has ls 7 (List.map gq [(0, vR (some x0)), (1, vI x1), (2, vI x2)]) := hl
  exact t_X12_fishFor_0 X hr _ _ _ _ _ hf rfl s.heap [] ls hW va_S.rf (lv_has_sub hl (lvsub_of _ _ [0, 1, 2] rfl))
/-! ## TideLotsModel$State.pushed(II)I -/
theorem dX12_pushed_0 : decode cX12_pushed 0 = .ok (.iload_n 1, 1) := by decide +kernel
theorem dX12_pushed_1 : decode cX12_pushed 1 = .ok (.lookupswitch 95 #[(2, 82), (4, 75), (16, 61), (17, 68), (18, 88), (30, 59)], 59) := by decide +kernel
theorem dX12_pushed_60 : decode cX12_pushed 60 = .ok (.iload_n 2, 1) := by decide +kernel
theorem dX12_pushed_61 : decode cX12_pushed 61 = .ok (.ireturn, 1) := by decide +kernel
theorem dX12_pushed_62 : decode cX12_pushed 62 = .ok (.aload_n 0, 1) := by decide +kernel
theorem dX12_pushed_63 : decode cX12_pushed 63 = .ok (.getfield 32, 3) := by decide +kernel
theorem dX12_pushed_66 : decode cX12_pushed 66 = .ok (.iload_n 2, 1) := by decide +kernel
theorem dX12_pushed_67 : decode cX12_pushed 67 = .ok (.iaload, 1) := by decide +kernel
theorem dX12_pushed_68 : decode cX12_pushed 68 = .ok (.ireturn, 1) := by decide +kernel
theorem dX12_pushed_69 : decode cX12_pushed 69 = .ok (.aload_n 0, 1) := by decide +kernel
theorem dX12_pushed_70 : decode cX12_pushed 70 = .ok (.getfield 35, 3) := by decide +kernel
theorem dX12_pushed_73 : decode cX12_pushed 73 = .ok (.iload_n 2, 1) := by decide +kernel
theorem dX12_pushed_74 : decode cX12_pushed 74 = .ok (.iaload, 1) := by decide +kernel
theorem dX12_pushed_75 : decode cX12_pushed 75 = .ok (.ireturn, 1) := by decide +kernel
theorem dX12_pushed_76 : decode cX12_pushed 76 = .ok (.aload_n 0, 1) := by decide +kernel
theorem dX12_pushed_77 : decode cX12_pushed 77 = .ok (.getfield 29, 3) := by decide +kernel
theorem dX12_pushed_80 : decode cX12_pushed 80 = .ok (.iload_n 2, 1) := by decide +kernel
theorem dX12_pushed_81 : decode cX12_pushed 81 = .ok (.iaload, 1) := by decide +kernel
theorem dX12_pushed_82 : decode cX12_pushed 82 = .ok (.ireturn, 1) := by decide +kernel
theorem dX12_pushed_83 : decode cX12_pushed 83 = .ok (.aload_n 0, 1) := by decide +kernel
theorem dX12_pushed_84 : decode cX12_pushed 84 = .ok (.iload_n 2, 1) := by decide +kernel
theorem dX12_pushed_85 : decode cX12_pushed 85 = .ok (.invokevirtual 166, 3) := by decide +kernel
theorem dX12_pushed_88 : decode cX12_pushed 88 = .ok (.ireturn, 1) := by decide +kernel
theorem dX12_pushed_89 : decode cX12_pushed 89 = .ok (.aload_n 0, 1) := by decide +kernel
theorem dX12_pushed_90 : decode cX12_pushed 90 = .ok (.getfield 23, 3) := by decide +kernel
theorem dX12_pushed_93 : decode cX12_pushed 93 = .ok (.iload_n 2, 1) := by decide +kernel
theorem dX12_pushed_94 : decode cX12_pushed 94 = .ok (.iaload, 1) := by decide +kernel
theorem dX12_pushed_95 : decode cX12_pushed 95 = .ok (.ireturn, 1) := by decide +kernel
theorem dX12_pushed_96 : decode cX12_pushed 96 = .ok (.aload_n 0, 1) := by decide +kernel
theorem dX12_pushed_97 : decode cX12_pushed 97 = .ok (.getfield 44, 3) := by decide +kernel
theorem dX12_pushed_100 : decode cX12_pushed 100 = .ok (.iload_n 2, 1) := by decide +kernel
theorem dX12_pushed_101 : decode cX12_pushed 101 = .ok (.iaload, 1) := by decide +kernel
theorem dX12_pushed_102 : decode cX12_pushed 102 = .ok (.ireturn, 1) := by decide +kernel
set_option maxRecDepth 20000 in
theorem ggX12_pushed_X12_fishAt : GoodIn wsX12_pushed wsX12_fishAt := goodIn_r _ [10, 11, 12, 13, 14, 15, 16, 17, 18, 19, 20, 21, 22, 23, 24, 25, 26, 27, 28, 29, 30] (by decide +kernel) (by decide +kernel)
set_option maxRecDepth 20000 in
theorem gX12_pushed_X12_fishAt : GoodIn wsX12_pushed (wsV RX12 166 RX12 yX12_fishAt wsX12_fishAt) := goodIn_app (goodIn_of _ (by decide +kernel)) ggX12_pushed_X12_fishAt
theorem k_X12_pushed_f29 : Cond.fieldLink RX12 29 "TideLotsModel$State" "mesh" "[I" ∈ wsX12_pushed := by decide +kernel
theorem i_X12_pushed_X12 : ∀ w ∈ u_ws RX12 TX12 19, w ∈ wsX12_pushed := by decide +kernel
theorem k_X12_pushed_f32 : Cond.fieldLink RX12 32 "TideLotsModel$State" "store" "[I" ∈ wsX12_pushed := by decide +kernel
theorem k_X12_pushed_f35 : Cond.fieldLink RX12 35 "TideLotsModel$State" "caught" "[I" ∈ wsX12_pushed := by decide +kernel
theorem k_X12_pushed_f23 : Cond.fieldLink RX12 23 "TideLotsModel$State" "boats" "[I" ∈ wsX12_pushed := by decide +kernel
theorem k_X12_pushed_f44 : Cond.fieldLink RX12 44 "TideLotsModel$State" "cheats" "[I" ∈ wsX12_pushed := by decide +kernel
abbrev rX12_pushed : Room := { frames := 1, cells := 0, slots := 0, locals := 23 }
noncomputable def b_X12_pushed_0 (M : gMem) (x0 : Nat) (x1 : Int32) (x2 : Int32) : Option (Int32 × gMem) :=
  (if x1 = (2 : Int32) then ck (mT M x0 = 11) <| bd (f_X12_fishAt M x0 x2) fun r2 M2 => some (r2, M2) else (if x1 = (4 : Int32) then ck (mT M x0 = 11) <| dr ((mR M x0 5)) fun a6 => ck (mT M a6 = 20) <| ck (inb x2 (mL M a6)) <| some ((mI M a6 x2.toNatClampNeg), M) else (if x1 = (16 : Int32) then ck (mT M x0 = 11) <| dr ((mR M x0 6)) fun a11 => ck (mT M a11 = 20) <| ck (inb x2 (mL M a11)) <| some ((mI M a11 x2.toNatClampNeg), M) else (if x1 = (17 : Int32) then ck (mT M x0 = 11) <| dr ((mR M x0 7)) fun a16 => ck (mT M a16 = 20) <| ck (inb x2 (mL M a16)) <| some ((mI M a16 x2.toNatClampNeg), M) else (if x1 = (18 : Int32) then ck (mT M x0 = 11) <| dr ((mR M x0 3)) fun a21 => ck (mT M a21 = 20) <| ck (inb x2 (mL M a21)) <| some ((mI M a21 x2.toNatClampNeg), M) else (if x1 = (30 : Int32) then some (x2, M) else ck (mT M x0 = 11) <| dr ((mR M x0 10)) fun a26 => ck (mT M a26 = 20) <| ck (inb x2 (mL M a26)) <| some ((mI M a26 x2.toNatClampNeg), M)))))))
noncomputable def f_X12_pushed (M : gMem) (x0 : Nat) (x1 : Int32) (x2 : Int32) : Option (Int32 × gMem) :=
  b_X12_pushed_0 M x0 x1 x2
set_option maxHeartbeats 4000000 in
set_option maxRecDepth 100000 in
theorem t_X12_pushed_0 (X : gX p s m args meth c D cy B (gSt Z B H0) RX12 cX12_pushed wsX12_pushed 3) (hr : meth.sig.returnType = (some .int)) {Q : State → Prop} : ∀ (M : gMem) (x0 : Nat) (x1 : Int32) (x2 : Int32) (z : Int32 × gMem), b_X12_pushed_0 M x0 x1 x2 = some z → (fun (r : Int32 × gMem) => Q = gMQ below D cy B H0 args s 0 0 (some (vI r.1)) r.2) z → gGo p l e rX12_pushed s m args below meth c D cy B H0 3 0 0 Q 0 [(0, vR (some x0)), (1, vI x1), (2, vI x2)] [] M := by
  intro M x0 x1 x2 z hf hK
  unfold b_X12_pushed_0 at hf
  refine g_iload_n X dX12_pushed_0 rfl rfl ?_
  by_cases hs1 : x1 = (2 : Int32)
  · have hf := ife_t hs1 hf
    refine g_lookup (off := 82) (tgt := 83) X dX12_pushed_1 (by decide) (by rw [hs1]; decide) (by decide) ?_
    refine g_aload_n X dX12_pushed_83 rfl rfl ?_
    refine g_iload_n X dX12_pushed_84 rfl rfl ?_
    obtain ⟨hT3, hf⟩ := ck_e hf
    obtain ⟨r2, M2, hq2, hf⟩ := bd_e hf
    refine g_callV (ci := 10) (b := x0) (As := [vI x2]) (st := []) (v := some (vI r2)) (M1 := M2) X (m_X12_fishAt l hq2) (cwV 1 X.2.2.1 gX12_pushed_X12_fishAt rfl rfl rfl (by decide +kernel) ⟨Nat.le_of_ble_eq_true rfl, Nat.le_of_ble_eq_true rfl⟩) rfl rfl rfl hT3 (by decide) rfl (Nat.le_of_ble_eq_true rfl) dX12_pushed_85 ⟨by decide, by decide⟩ ?_
    cases hf
    refine g_eqQ hK ?_
    exact g_iret X hr dX12_pushed_88
  · have hf := ife_f hs1 hf
    by_cases hs4 : x1 = (4 : Int32)
    · have hf := ife_t hs4 hf
      refine g_lookup (off := 75) (tgt := 76) X dX12_pushed_1 (by decide) (by rw [hs4]; decide) (by decide) ?_
      refine g_aload_n X dX12_pushed_76 rfl rfl ?_
      obtain ⟨hT5, hf⟩ := ck_e hf
      refine g_get (ci := 10) (v := vR (mR M x0 5)) 5 X cdX12 i_X12_pushed_X12 (by decide) k_X12_pushed_f29 rfl dX12_pushed_77 rfl hT5 rfl ?_
      refine g_iload_n X dX12_pushed_80 rfl rfl ?_
      obtain ⟨a6, ha6, hf⟩ := dr_e hf
      obtain ⟨hT7, hf⟩ := ck_e hf
      obtain ⟨hg8, hf⟩ := ck_e hf
      refine g_iald X dX12_pushed_81 ha6 hT7 hg8 ?_
      cases hf
      refine g_eqQ hK ?_
      exact g_iret X hr dX12_pushed_82
    · have hf := ife_f hs4 hf
      by_cases hs9 : x1 = (16 : Int32)
      · have hf := ife_t hs9 hf
        refine g_lookup (off := 61) (tgt := 62) X dX12_pushed_1 (by decide) (by rw [hs9]; decide) (by decide) ?_
        refine g_aload_n X dX12_pushed_62 rfl rfl ?_
        obtain ⟨hT10, hf⟩ := ck_e hf
        refine g_get (ci := 10) (v := vR (mR M x0 6)) 6 X cdX12 i_X12_pushed_X12 (by decide) k_X12_pushed_f32 rfl dX12_pushed_63 rfl hT10 rfl ?_
        refine g_iload_n X dX12_pushed_66 rfl rfl ?_
        obtain ⟨a11, ha11, hf⟩ := dr_e hf
        obtain ⟨hT12, hf⟩ := ck_e hf
        obtain ⟨hg13, hf⟩ := ck_e hf
        refine g_iald X dX12_pushed_67 ha11 hT12 hg13 ?_
        cases hf
        refine g_eqQ hK ?_
        exact g_iret X hr dX12_pushed_68
      · have hf := ife_f hs9 hf
        by_cases hs14 : x1 = (17 : Int32)
        · have hf := ife_t hs14 hf
          refine g_lookup (off := 68) (tgt := 69) X dX12_pushed_1 (by decide) (by rw [hs14]; decide) (by decide) ?_
          refine g_aload_n X dX12_pushed_69 rfl rfl ?_
          obtain ⟨hT15, hf⟩ := ck_e hf
          refine g_get (ci := 10) (v := vR (mR M x0 7)) 7 X cdX12 i_X12_pushed_X12 (by decide) k_X12_pushed_f35 rfl dX12_pushed_70 rfl hT15 rfl ?_
          refine g_iload_n X dX12_pushed_73 rfl rfl ?_
          obtain ⟨a16, ha16, hf⟩ := dr_e hf
          obtain ⟨hT17, hf⟩ := ck_e hf
          obtain ⟨hg18, hf⟩ := ck_e hf
          refine g_iald X dX12_pushed_74 ha16 hT17 hg18 ?_
          cases hf
          refine g_eqQ hK ?_
          exact g_iret X hr dX12_pushed_75
        · have hf := ife_f hs14 hf
          by_cases hs19 : x1 = (18 : Int32)
          · have hf := ife_t hs19 hf
            refine g_lookup (off := 88) (tgt := 89) X dX12_pushed_1 (by decide) (by rw [hs19]; decide) (by decide) ?_
            refine g_aload_n X dX12_pushed_89 rfl rfl ?_
            obtain ⟨hT20, hf⟩ := ck_e hf
            refine g_get (ci := 10) (v := vR (mR M x0 3)) 3 X cdX12 i_X12_pushed_X12 (by decide) k_X12_pushed_f23 rfl dX12_pushed_90 rfl hT20 rfl ?_
            refine g_iload_n X dX12_pushed_93 rfl rfl ?_
            obtain ⟨a21, ha21, hf⟩ := dr_e hf
            obtain ⟨hT22, hf⟩ := ck_e hf
            obtain ⟨hg23, hf⟩ := ck_e hf
            refine g_iald X dX12_pushed_94 ha21 hT22 hg23 ?_
            cases hf
            refine g_eqQ hK ?_
            exact g_iret X hr dX12_pushed_95
          · have hf := ife_f hs19 hf
            by_cases hs24 : x1 = (30 : Int32)
            · have hf := ife_t hs24 hf
              refine g_lookup (off := 59) (tgt := 60) X dX12_pushed_1 (by decide) (by rw [hs24]; decide) (by decide) ?_
              refine g_iload_n X dX12_pushed_60 rfl rfl ?_
              cases hf
              refine g_eqQ hK ?_
              exact g_iret X hr dX12_pushed_61
            · have hf := ife_f hs24 hf
              refine g_lookup (off := 95) (tgt := 96) X dX12_pushed_1 (by decide) (glk_out _ (fun q hq => by rcases (show q = (2, 82) ∨ q = (4, 75) ∨ q = (16, 61) ∨ q = (17, 68) ∨ q = (18, 88) ∨ q = (30, 59) by simpa using hq) with rfl | rfl | rfl | rfl | rfl | rfl <;> first | exact gne hs1 | exact gne hs4 | exact gne hs9 | exact gne hs14 | exact gne hs19 | exact gne hs24)) (by decide) ?_
              refine g_aload_n X dX12_pushed_96 rfl rfl ?_
              obtain ⟨hT25, hf⟩ := ck_e hf
              refine g_get (ci := 10) (v := vR (mR M x0 10)) 10 X cdX12 i_X12_pushed_X12 (by decide) k_X12_pushed_f44 rfl dX12_pushed_97 rfl hT25 rfl ?_
              refine g_iload_n X dX12_pushed_100 rfl rfl ?_
              obtain ⟨a26, ha26, hf⟩ := dr_e hf
              obtain ⟨hT27, hf⟩ := ck_e hf
              obtain ⟨hg28, hf⟩ := ck_e hf
              refine g_iald X dX12_pushed_101 ha26 hT27 hg28 ?_
              cases hf
              refine g_eqQ hK ?_
              exact g_iret X hr dX12_pushed_102
set_option maxHeartbeats 4000000 in
set_option maxRecDepth 100000 in
theorem m_X12_pushed (l : Launch) {D : va_G} {cy : Nat → ClassId} {B : Nat} {H0 : Heap} {Z : Nat → Nat} {M M1 : gMem} {x0 : Nat} {x1 : Int32} {x2 : Int32} {r : Int32} (hf : f_X12_pushed M x0 x1 x2 = some (r, M1)) : Met l yX12_pushed wsX12_pushed rX12_pushed (va_Pc (Value.ref x0 :: List.map gv [vI x1, vI x2]) (gPre D cy B H0 (gSt Z B H0) M)) (gQ D cy B H0 (some (vI r)) M1) 0 0 (gA B) := by
  refine Met.ofW (cc := cX12_pushed) (maxL := 3) (ret := (some .int)) (by decide) rfl ?_
  intro p e s m args below meth c s₁ Bd hml hv
  obtain ⟨rfl, hW, hKK, hFs⟩ := hv
  have X : gX p s m _ meth c D cy B (gSt Z B H0) RX12 cX12_pushed wsX12_pushed 3 := ⟨Bd.exec, Bd.bytes, atoms_spec (ws := wsX12_pushed) Bd.pre, findClass_of_methodNamed Bd.named, hml, hKK, by rw [hW.1]; exact hW.2.1, Bd.notSynchronized, hFs⟩
  have hr := Bd.returns
  have hl := lv_entry ([.ref x0, .int x1, .int x2]) (n := 3) (Nat.le_of_ble_eq_true rfl)
  show W p l e rX12_pushed s m _ below meth c s.heap [] 0 0 _ (entryFrame m ([.ref x0, .int x1, .int x2] : List Value).toArray 3)
  rw [lg_entry_eq]
  generalize (lg_sl ([.ref x0, .int x1, .int x2]) ++ List.replicate (3 - (lg_sl ([.ref x0, .int x1, .int x2])).length) Slot.unset).toArray = ls at hl ⊢
  have hl : lv_has ls 3 (List.map gq [(0, vR (some x0)), (1, vI x1), (2, vI x2)]) := hl
  exact t_X12_pushed_0 X hr _ _ _ _ _ hf rfl s.heap [] ls hW va_S.rf (lv_has_sub hl (lvsub_of _ _ [0, 1, 2] rfl))
/-! ## TideLotsModel.isIn(III)Z -/
theorem dX14_isIn_0 : decode cX14_isIn 0 = .ok (.iload_n 0, 1) := by decide +kernel
theorem dX14_isIn_1 : decode cX14_isIn 1 = .ok (.iload_n 1, 1) := by decide +kernel
theorem dX14_isIn_2 : decode cX14_isIn 2 = .ok (.if_icmp .lt 12, 3) := by decide +kernel
theorem dX14_isIn_5 : decode cX14_isIn 5 = .ok (.iload_n 0, 1) := by decide +kernel
theorem dX14_isIn_6 : decode cX14_isIn 6 = .ok (.iload_n 2, 1) := by decide +kernel
theorem dX14_isIn_7 : decode cX14_isIn 7 = .ok (.if_icmp .gt 7, 3) := by decide +kernel
theorem dX14_isIn_10 : decode cX14_isIn 10 = .ok (.iconst 1, 1) := by decide +kernel
theorem dX14_isIn_11 : decode cX14_isIn 11 = .ok (.goto 4, 3) := by decide +kernel
theorem dX14_isIn_14 : decode cX14_isIn 14 = .ok (.iconst 0, 1) := by decide +kernel
theorem dX14_isIn_15 : decode cX14_isIn 15 = .ok (.ireturn, 1) := by decide +kernel
abbrev rX14_isIn : Room := { frames := 0, cells := 0, slots := 0, locals := 0 }
noncomputable def b_X14_isIn_15 (M : gMem) (s0 : Int32) : Option (Int32 × gMem) :=
  ck (s0 = 0 ∨ s0 = 1) <| some (s0, M)
noncomputable def b_X14_isIn_14 (M : gMem)  : Option (Int32 × gMem) :=
  b_X14_isIn_15 M ((0 : Int32))
noncomputable def b_X14_isIn_0 (M : gMem) (x0 : Int32) (x1 : Int32) (x2 : Int32) : Option (Int32 × gMem) :=
  (if x0 < x1 then b_X14_isIn_14 M  else (if x2 < x0 then b_X14_isIn_14 M  else b_X14_isIn_15 M ((1 : Int32))))
noncomputable def f_X14_isIn (M : gMem) (x0 : Int32) (x1 : Int32) (x2 : Int32) : Option (Int32 × gMem) :=
  b_X14_isIn_0 M x0 x1 x2
set_option maxHeartbeats 4000000 in
set_option maxRecDepth 100000 in
theorem t_X14_isIn_15 (X : gX p s m args meth c D cy B (gSt Z B H0) RX14 cX14_isIn wsX14_isIn 3) (hr : meth.sig.returnType = (some .boolean)) {Q : State → Prop} : ∀ (M : gMem) (s0 : Int32) (z : Int32 × gMem), b_X14_isIn_15 M s0 = some z → (fun (r : Int32 × gMem) => Q = gMQ below D cy B H0 args s 0 0 (some (vI r.1)) r.2) z → gGo p l e rX14_isIn s m args below meth c D cy B H0 3 0 0 Q 15 [] [vI s0] M := by
  intro M s0 z hf hK
  unfold b_X14_isIn_15 at hf
  obtain ⟨hg1, hf⟩ := ck_e hf
  cases hf
  refine g_eqQ hK ?_
  exact g_zret X hr (gnb hg1) dX14_isIn_15
set_option maxHeartbeats 4000000 in
set_option maxRecDepth 100000 in
theorem t_X14_isIn_14 (X : gX p s m args meth c D cy B (gSt Z B H0) RX14 cX14_isIn wsX14_isIn 3) (hr : meth.sig.returnType = (some .boolean)) {Q : State → Prop} : ∀ (M : gMem)  (z : Int32 × gMem), b_X14_isIn_14 M  = some z → (fun (r : Int32 × gMem) => Q = gMQ below D cy B H0 args s 0 0 (some (vI r.1)) r.2) z → gGo p l e rX14_isIn s m args below meth c D cy B H0 3 0 0 Q 14 [] [] M := by
  intro M  z hf hK
  unfold b_X14_isIn_14 at hf
  refine g_iconst (v := (0 : Int32)) X dX14_isIn_14 (by decide) ?_
  refine g_sub (lvsub_of _ _ [] rfl) ?_
  exact t_X14_isIn_15 X hr _ _ _ hf hK
set_option maxHeartbeats 4000000 in
set_option maxRecDepth 100000 in
theorem t_X14_isIn_0 (X : gX p s m args meth c D cy B (gSt Z B H0) RX14 cX14_isIn wsX14_isIn 3) (hr : meth.sig.returnType = (some .boolean)) {Q : State → Prop} : ∀ (M : gMem) (x0 : Int32) (x1 : Int32) (x2 : Int32) (z : Int32 × gMem), b_X14_isIn_0 M x0 x1 x2 = some z → (fun (r : Int32 × gMem) => Q = gMQ below D cy B H0 args s 0 0 (some (vI r.1)) r.2) z → gGo p l e rX14_isIn s m args below meth c D cy B H0 3 0 0 Q 0 [(0, vI x0), (1, vI x1), (2, vI x2)] [] M := by
  intro M x0 x1 x2 z hf hK
  unfold b_X14_isIn_0 at hf
  refine g_iload_n X dX14_isIn_0 rfl rfl ?_
  refine g_iload_n X dX14_isIn_1 rfl rfl ?_
  refine g_icmp_lt (tgt := 14) X dX14_isIn_2 (by decide) (fun hc => ?_) (fun hc => ?_)
  · have hf := ife_t hc hf
    refine g_sub (lvsub_of _ _ [] rfl) ?_
    exact t_X14_isIn_14 X hr _  _ hf hK
  · have hf := ife_f hc hf
    refine g_iload_n X dX14_isIn_5 rfl rfl ?_
    refine g_iload_n X dX14_isIn_6 rfl rfl ?_
    refine g_icmp_gt (tgt := 14) X dX14_isIn_7 (by decide) (fun hc => ?_) (fun hc => ?_)
    · have hf := ife_t hc hf
      refine g_sub (lvsub_of _ _ [] rfl) ?_
      exact t_X14_isIn_14 X hr _  _ hf hK
    · have hf := ife_f hc hf
      refine g_iconst (v := (1 : Int32)) X dX14_isIn_10 (by decide) ?_
      refine g_goto (tgt := 15) X dX14_isIn_11 (by decide) ?_
      refine g_sub (lvsub_of _ _ [] rfl) ?_
      exact t_X14_isIn_15 X hr _ _ _ hf hK
set_option maxHeartbeats 4000000 in
set_option maxRecDepth 100000 in
theorem m_X14_isIn (l : Launch) {D : va_G} {cy : Nat → ClassId} {B : Nat} {H0 : Heap} {Z : Nat → Nat} {M M1 : gMem} {x0 : Int32} {x1 : Int32} {x2 : Int32} {r : Int32} (hf : f_X14_isIn M x0 x1 x2 = some (r, M1)) : Met l yX14_isIn wsX14_isIn rX14_isIn (va_Pc (List.map gv [vI x0, vI x1, vI x2]) (gPre D cy B H0 (gSt Z B H0) M)) (gQ D cy B H0 (some (vI r)) M1) 0 0 (gA B) := by
  refine Met.ofW (cc := cX14_isIn) (maxL := 3) (ret := (some .boolean)) (by decide) rfl ?_
  intro p e s m args below meth c s₁ Bd hml hv
  obtain ⟨rfl, hW, hKK, hFs⟩ := hv
  have X : gX p s m _ meth c D cy B (gSt Z B H0) RX14 cX14_isIn wsX14_isIn 3 := ⟨Bd.exec, Bd.bytes, atoms_spec (ws := wsX14_isIn) Bd.pre, findClass_of_methodNamed Bd.named, hml, hKK, by rw [hW.1]; exact hW.2.1, Bd.notSynchronized, hFs⟩
  have hr := Bd.returns
  have hl := lv_entry ([.int x0, .int x1, .int x2]) (n := 3) (Nat.le_of_ble_eq_true rfl)
  show W p l e rX14_isIn s m _ below meth c s.heap [] 0 0 _ (entryFrame m ([.int x0, .int x1, .int x2] : List Value).toArray 3)
  rw [lg_entry_eq]
  generalize (lg_sl ([.int x0, .int x1, .int x2]) ++ List.replicate (3 - (lg_sl ([.int x0, .int x1, .int x2])).length) Slot.unset).toArray = ls at hl ⊢
  have hl : lv_has ls 3 (List.map gq [(0, vI x0), (1, vI x1), (2, vI x2)]) := hl
  exact t_X14_isIn_0 X hr _ _ _ _ _ hf rfl s.heap [] ls hW va_S.rf (lv_has_sub hl (lvsub_of _ _ [0, 1, 2] rfl))
/-! ## TideLotsModel.isPushed(I)Z -/
theorem dX14_isPushed_0 : decode cX14_isPushed 0 = .ok (.iload_n 0, 1) := by decide +kernel
theorem dX14_isPushed_1 : decode cX14_isPushed 1 = .ok (.bipush 30, 2) := by decide +kernel
theorem dX14_isPushed_3 : decode cX14_isPushed 3 = .ok (.if_icmp .eq 24, 3) := by decide +kernel
theorem dX14_isPushed_6 : decode cX14_isPushed 6 = .ok (.iload_n 0, 1) := by decide +kernel
theorem dX14_isPushed_7 : decode cX14_isPushed 7 = .ok (.iconst 2, 1) := by decide +kernel
theorem dX14_isPushed_8 : decode cX14_isPushed 8 = .ok (.if_icmp .eq 19, 3) := by decide +kernel
theorem dX14_isPushed_11 : decode cX14_isPushed 11 = .ok (.iload_n 0, 1) := by decide +kernel
theorem dX14_isPushed_12 : decode cX14_isPushed 12 = .ok (.iconst 4, 1) := by decide +kernel
theorem dX14_isPushed_13 : decode cX14_isPushed 13 = .ok (.if_icmp .eq 14, 3) := by decide +kernel
theorem dX14_isPushed_16 : decode cX14_isPushed 16 = .ok (.iload_n 0, 1) := by decide +kernel
theorem dX14_isPushed_17 : decode cX14_isPushed 17 = .ok (.bipush 15, 2) := by decide +kernel
theorem dX14_isPushed_19 : decode cX14_isPushed 19 = .ok (.bipush 19, 2) := by decide +kernel
theorem dX14_isPushed_21 : decode cX14_isPushed 21 = .ok (.invokestatic 63, 3) := by decide +kernel
theorem dX14_isPushed_24 : decode cX14_isPushed 24 = .ok (.ifCond .eq 7, 3) := by decide +kernel
theorem dX14_isPushed_27 : decode cX14_isPushed 27 = .ok (.iconst 1, 1) := by decide +kernel
theorem dX14_isPushed_28 : decode cX14_isPushed 28 = .ok (.goto 4, 3) := by decide +kernel
theorem dX14_isPushed_31 : decode cX14_isPushed 31 = .ok (.iconst 0, 1) := by decide +kernel
theorem dX14_isPushed_32 : decode cX14_isPushed 32 = .ok (.ireturn, 1) := by decide +kernel
set_option maxRecDepth 20000 in
theorem ggX14_isPushed_X14_isIn : GoodIn wsX14_isPushed wsX14_isIn := goodIn_r _ [4] (by decide +kernel) (by decide +kernel)
set_option maxRecDepth 20000 in
theorem gX14_isPushed_X14_isIn : GoodIn wsX14_isPushed (va_wsS RX14 63 yX14_isIn wsX14_isIn) := goodIn_app (goodIn_of _ (by decide +kernel)) ggX14_isPushed_X14_isIn
abbrev rX14_isPushed : Room := { frames := 1, cells := 0, slots := 0, locals := 22 }
noncomputable def b_X14_isPushed_32 (M : gMem) (s0 : Int32) : Option (Int32 × gMem) :=
  ck (s0 = 0 ∨ s0 = 1) <| some (s0, M)
noncomputable def b_X14_isPushed_27 (M : gMem)  : Option (Int32 × gMem) :=
  b_X14_isPushed_32 M ((1 : Int32))
noncomputable def b_X14_isPushed_0 (M : gMem) (x0 : Int32) : Option (Int32 × gMem) :=
  (if x0 = (30 : Int32) then b_X14_isPushed_27 M  else (if x0 = (2 : Int32) then b_X14_isPushed_27 M  else (if x0 = (4 : Int32) then b_X14_isPushed_27 M  else bd (f_X14_isIn M x0 ((15 : Int32)) ((19 : Int32))) fun r2 M2 => (if r2 = 0 then b_X14_isPushed_32 M2 ((0 : Int32)) else b_X14_isPushed_27 M2 ))))
noncomputable def f_X14_isPushed (M : gMem) (x0 : Int32) : Option (Int32 × gMem) :=
  b_X14_isPushed_0 M x0
set_option maxHeartbeats 4000000 in
set_option maxRecDepth 100000 in
theorem t_X14_isPushed_32 (X : gX p s m args meth c D cy B (gSt Z B H0) RX14 cX14_isPushed wsX14_isPushed 1) (hr : meth.sig.returnType = (some .boolean)) {Q : State → Prop} : ∀ (M : gMem) (s0 : Int32) (z : Int32 × gMem), b_X14_isPushed_32 M s0 = some z → (fun (r : Int32 × gMem) => Q = gMQ below D cy B H0 args s 0 0 (some (vI r.1)) r.2) z → gGo p l e rX14_isPushed s m args below meth c D cy B H0 1 0 0 Q 32 [] [vI s0] M := by
  intro M s0 z hf hK
  unfold b_X14_isPushed_32 at hf
  obtain ⟨hg1, hf⟩ := ck_e hf
  cases hf
  refine g_eqQ hK ?_
  exact g_zret X hr (gnb hg1) dX14_isPushed_32
set_option maxHeartbeats 4000000 in
set_option maxRecDepth 100000 in
theorem t_X14_isPushed_27 (X : gX p s m args meth c D cy B (gSt Z B H0) RX14 cX14_isPushed wsX14_isPushed 1) (hr : meth.sig.returnType = (some .boolean)) {Q : State → Prop} : ∀ (M : gMem)  (z : Int32 × gMem), b_X14_isPushed_27 M  = some z → (fun (r : Int32 × gMem) => Q = gMQ below D cy B H0 args s 0 0 (some (vI r.1)) r.2) z → gGo p l e rX14_isPushed s m args below meth c D cy B H0 1 0 0 Q 27 [] [] M := by
  intro M  z hf hK
  unfold b_X14_isPushed_27 at hf
  refine g_iconst (v := (1 : Int32)) X dX14_isPushed_27 (by decide) ?_
  refine g_goto (tgt := 32) X dX14_isPushed_28 (by decide) ?_
  refine g_sub (lvsub_of _ _ [] rfl) ?_
  exact t_X14_isPushed_32 X hr _ _ _ hf hK
set_option maxHeartbeats 4000000 in
set_option maxRecDepth 100000 in
theorem t_X14_isPushed_0 (X : gX p s m args meth c D cy B (gSt Z B H0) RX14 cX14_isPushed wsX14_isPushed 1) (hr : meth.sig.returnType = (some .boolean)) {Q : State → Prop} : ∀ (M : gMem) (x0 : Int32) (z : Int32 × gMem), b_X14_isPushed_0 M x0 = some z → (fun (r : Int32 × gMem) => Q = gMQ below D cy B H0 args s 0 0 (some (vI r.1)) r.2) z → gGo p l e rX14_isPushed s m args below meth c D cy B H0 1 0 0 Q 0 [(0, vI x0)] [] M := by
  intro M x0 z hf hK
  unfold b_X14_isPushed_0 at hf
  refine g_iload_n X dX14_isPushed_0 rfl rfl ?_
  refine g_bipush (v := (30 : Int32)) X dX14_isPushed_1 (by decide) ?_
  refine g_icmp_eq (tgt := 27) X dX14_isPushed_3 (by decide) (fun hc => ?_) (fun hc => ?_)
  · have hf := ife_t hc hf
    refine g_sub (lvsub_of _ _ [] rfl) ?_
    exact t_X14_isPushed_27 X hr _  _ hf hK
  · have hf := ife_f hc hf
    refine g_iload_n X dX14_isPushed_6 rfl rfl ?_
    refine g_iconst (v := (2 : Int32)) X dX14_isPushed_7 (by decide) ?_
    refine g_icmp_eq (tgt := 27) X dX14_isPushed_8 (by decide) (fun hc => ?_) (fun hc => ?_)
    · have hf := ife_t hc hf
      refine g_sub (lvsub_of _ _ [] rfl) ?_
      exact t_X14_isPushed_27 X hr _  _ hf hK
    · have hf := ife_f hc hf
      refine g_iload_n X dX14_isPushed_11 rfl rfl ?_
      refine g_iconst (v := (4 : Int32)) X dX14_isPushed_12 (by decide) ?_
      refine g_icmp_eq (tgt := 27) X dX14_isPushed_13 (by decide) (fun hc => ?_) (fun hc => ?_)
      · have hf := ife_t hc hf
        refine g_sub (lvsub_of _ _ [] rfl) ?_
        exact t_X14_isPushed_27 X hr _  _ hf hK
      · have hf := ife_f hc hf
        refine g_iload_n X dX14_isPushed_16 rfl rfl ?_
        refine g_bipush (v := (15 : Int32)) X dX14_isPushed_17 (by decide) ?_
        refine g_bipush (v := (19 : Int32)) X dX14_isPushed_19 (by decide) ?_
        obtain ⟨r2, M2, hq2, hf⟩ := bd_e hf
        refine g_callS (As := [vI x0, vI (15 : Int32), vI (19 : Int32)]) (st := []) (v := some (vI r2)) (M1 := M2) X (m_X14_isIn l hq2) (va_cwS 3 X.2.2.1 gX14_isPushed_X14_isIn rfl rfl rfl (by decide +kernel) ⟨Nat.le_of_ble_eq_true rfl, Nat.le_of_ble_eq_true rfl⟩) rfl rfl (Nat.le_of_ble_eq_true rfl) dX14_isPushed_21 ⟨by decide, by decide⟩ ?_
        refine g_if_eq (tgt := 31) X dX14_isPushed_24 (by decide) (fun hc => ?_) (fun hc => ?_)
        · have hf := ife_t hc hf
          refine g_iconst (v := (0 : Int32)) X dX14_isPushed_31 (by decide) ?_
          refine g_sub (lvsub_of _ _ [] rfl) ?_
          exact t_X14_isPushed_32 X hr _ _ _ hf hK
        · have hf := ife_f hc hf
          refine g_sub (lvsub_of _ _ [] rfl) ?_
          exact t_X14_isPushed_27 X hr _  _ hf hK
set_option maxHeartbeats 4000000 in
set_option maxRecDepth 100000 in
theorem m_X14_isPushed (l : Launch) {D : va_G} {cy : Nat → ClassId} {B : Nat} {H0 : Heap} {Z : Nat → Nat} {M M1 : gMem} {x0 : Int32} {r : Int32} (hf : f_X14_isPushed M x0 = some (r, M1)) : Met l yX14_isPushed wsX14_isPushed rX14_isPushed (va_Pc (List.map gv [vI x0]) (gPre D cy B H0 (gSt Z B H0) M)) (gQ D cy B H0 (some (vI r)) M1) 0 0 (gA B) := by
  refine Met.ofW (cc := cX14_isPushed) (maxL := 1) (ret := (some .boolean)) (by decide) rfl ?_
  intro p e s m args below meth c s₁ Bd hml hv
  obtain ⟨rfl, hW, hKK, hFs⟩ := hv
  have X : gX p s m _ meth c D cy B (gSt Z B H0) RX14 cX14_isPushed wsX14_isPushed 1 := ⟨Bd.exec, Bd.bytes, atoms_spec (ws := wsX14_isPushed) Bd.pre, findClass_of_methodNamed Bd.named, hml, hKK, by rw [hW.1]; exact hW.2.1, Bd.notSynchronized, hFs⟩
  have hr := Bd.returns
  have hl := lv_entry ([.int x0]) (n := 1) (Nat.le_of_ble_eq_true rfl)
  show W p l e rX14_isPushed s m _ below meth c s.heap [] 0 0 _ (entryFrame m ([.int x0] : List Value).toArray 1)
  rw [lg_entry_eq]
  generalize (lg_sl ([.int x0]) ++ List.replicate (1 - (lg_sl ([.int x0])).length) Slot.unset).toArray = ls at hl ⊢
  have hl : lv_has ls 1 (List.map gq [(0, vI x0)]) := hl
  exact t_X14_isPushed_0 X hr _ _ _ hf rfl s.heap [] ls hW va_S.rf (lv_has_sub hl (lvsub_of _ _ [0] rfl))
/-! ## TideLotsModel.both(III)I -/
theorem dX14_both_0 : decode cX14_both 0 = .ok (.iload_n 0, 1) := by decide +kernel
theorem dX14_both_1 : decode cX14_both 1 = .ok (.tableswitch 190 21 40 #[186, 190, 119, 125, 190, 190, 190, 190, 190, 190, 190, 95, 99, 103, 107, 131, 142, 153, 164, 175], 95) := by decide +kernel
theorem dX14_both_96 : decode cX14_both 96 = .ok (.iload_n 1, 1) := by decide +kernel
theorem dX14_both_97 : decode cX14_both 97 = .ok (.iload_n 2, 1) := by decide +kernel
theorem dX14_both_98 : decode cX14_both 98 = .ok (.iadd, 1) := by decide +kernel
theorem dX14_both_99 : decode cX14_both 99 = .ok (.ireturn, 1) := by decide +kernel
theorem dX14_both_100 : decode cX14_both 100 = .ok (.iload_n 1, 1) := by decide +kernel
theorem dX14_both_101 : decode cX14_both 101 = .ok (.iload_n 2, 1) := by decide +kernel
theorem dX14_both_102 : decode cX14_both 102 = .ok (.isub, 1) := by decide +kernel
theorem dX14_both_103 : decode cX14_both 103 = .ok (.ireturn, 1) := by decide +kernel
theorem dX14_both_104 : decode cX14_both 104 = .ok (.iload_n 1, 1) := by decide +kernel
theorem dX14_both_105 : decode cX14_both 105 = .ok (.iload_n 2, 1) := by decide +kernel
theorem dX14_both_106 : decode cX14_both 106 = .ok (.imul, 1) := by decide +kernel
theorem dX14_both_107 : decode cX14_both 107 = .ok (.ireturn, 1) := by decide +kernel
theorem dX14_both_108 : decode cX14_both 108 = .ok (.iload_n 2, 1) := by decide +kernel
theorem dX14_both_109 : decode cX14_both 109 = .ok (.ifCond .ne 7, 3) := by decide +kernel
theorem dX14_both_112 : decode cX14_both 112 = .ok (.iconst 0, 1) := by decide +kernel
theorem dX14_both_113 : decode cX14_both 113 = .ok (.goto 6, 3) := by decide +kernel
theorem dX14_both_116 : decode cX14_both 116 = .ok (.iload_n 1, 1) := by decide +kernel
theorem dX14_both_117 : decode cX14_both 117 = .ok (.iload_n 2, 1) := by decide +kernel
theorem dX14_both_118 : decode cX14_both 118 = .ok (.idiv, 1) := by decide +kernel
theorem dX14_both_119 : decode cX14_both 119 = .ok (.ireturn, 1) := by decide +kernel
theorem dX14_both_120 : decode cX14_both 120 = .ok (.iload_n 1, 1) := by decide +kernel
theorem dX14_both_121 : decode cX14_both 121 = .ok (.iload_n 2, 1) := by decide +kernel
theorem dX14_both_122 : decode cX14_both 122 = .ok (.invokestatic 70, 3) := by decide +kernel
theorem dX14_both_125 : decode cX14_both 125 = .ok (.ireturn, 1) := by decide +kernel
theorem dX14_both_126 : decode cX14_both 126 = .ok (.iload_n 1, 1) := by decide +kernel
theorem dX14_both_127 : decode cX14_both 127 = .ok (.iload_n 2, 1) := by decide +kernel
theorem dX14_both_128 : decode cX14_both 128 = .ok (.invokestatic 76, 3) := by decide +kernel
theorem dX14_both_131 : decode cX14_both 131 = .ok (.ireturn, 1) := by decide +kernel
theorem dX14_both_132 : decode cX14_both 132 = .ok (.iload_n 1, 1) := by decide +kernel
theorem dX14_both_133 : decode cX14_both 133 = .ok (.iload_n 2, 1) := by decide +kernel
theorem dX14_both_134 : decode cX14_both 134 = .ok (.if_icmp .ge 7, 3) := by decide +kernel
theorem dX14_both_137 : decode cX14_both 137 = .ok (.iconst 1, 1) := by decide +kernel
theorem dX14_both_138 : decode cX14_both 138 = .ok (.goto 4, 3) := by decide +kernel
theorem dX14_both_141 : decode cX14_both 141 = .ok (.iconst 0, 1) := by decide +kernel
theorem dX14_both_142 : decode cX14_both 142 = .ok (.ireturn, 1) := by decide +kernel
theorem dX14_both_143 : decode cX14_both 143 = .ok (.iload_n 1, 1) := by decide +kernel
theorem dX14_both_144 : decode cX14_both 144 = .ok (.iload_n 2, 1) := by decide +kernel
theorem dX14_both_145 : decode cX14_both 145 = .ok (.if_icmp .le 7, 3) := by decide +kernel
theorem dX14_both_148 : decode cX14_both 148 = .ok (.iconst 1, 1) := by decide +kernel
theorem dX14_both_149 : decode cX14_both 149 = .ok (.goto 4, 3) := by decide +kernel
theorem dX14_both_152 : decode cX14_both 152 = .ok (.iconst 0, 1) := by decide +kernel
theorem dX14_both_153 : decode cX14_both 153 = .ok (.ireturn, 1) := by decide +kernel
theorem dX14_both_154 : decode cX14_both 154 = .ok (.iload_n 1, 1) := by decide +kernel
theorem dX14_both_155 : decode cX14_both 155 = .ok (.iload_n 2, 1) := by decide +kernel
theorem dX14_both_156 : decode cX14_both 156 = .ok (.if_icmp .ne 7, 3) := by decide +kernel
theorem dX14_both_159 : decode cX14_both 159 = .ok (.iconst 1, 1) := by decide +kernel
theorem dX14_both_160 : decode cX14_both 160 = .ok (.goto 4, 3) := by decide +kernel
theorem dX14_both_163 : decode cX14_both 163 = .ok (.iconst 0, 1) := by decide +kernel
theorem dX14_both_164 : decode cX14_both 164 = .ok (.ireturn, 1) := by decide +kernel
theorem dX14_both_165 : decode cX14_both 165 = .ok (.iload_n 1, 1) := by decide +kernel
theorem dX14_both_166 : decode cX14_both 166 = .ok (.iload_n 2, 1) := by decide +kernel
theorem dX14_both_167 : decode cX14_both 167 = .ok (.if_icmp .gt 7, 3) := by decide +kernel
theorem dX14_both_170 : decode cX14_both 170 = .ok (.iconst 1, 1) := by decide +kernel
theorem dX14_both_171 : decode cX14_both 171 = .ok (.goto 4, 3) := by decide +kernel
theorem dX14_both_174 : decode cX14_both 174 = .ok (.iconst 0, 1) := by decide +kernel
theorem dX14_both_175 : decode cX14_both 175 = .ok (.ireturn, 1) := by decide +kernel
theorem dX14_both_176 : decode cX14_both 176 = .ok (.iload_n 1, 1) := by decide +kernel
theorem dX14_both_177 : decode cX14_both 177 = .ok (.iload_n 2, 1) := by decide +kernel
theorem dX14_both_178 : decode cX14_both 178 = .ok (.if_icmp .lt 7, 3) := by decide +kernel
theorem dX14_both_181 : decode cX14_both 181 = .ok (.iconst 1, 1) := by decide +kernel
theorem dX14_both_182 : decode cX14_both 182 = .ok (.goto 4, 3) := by decide +kernel
theorem dX14_both_185 : decode cX14_both 185 = .ok (.iconst 0, 1) := by decide +kernel
theorem dX14_both_186 : decode cX14_both 186 = .ok (.ireturn, 1) := by decide +kernel
theorem dX14_both_187 : decode cX14_both 187 = .ok (.iload_n 1, 1) := by decide +kernel
theorem dX14_both_188 : decode cX14_both 188 = .ok (.iload_n 2, 1) := by decide +kernel
theorem dX14_both_189 : decode cX14_both 189 = .ok (.iand, 1) := by decide +kernel
theorem dX14_both_190 : decode cX14_both 190 = .ok (.ireturn, 1) := by decide +kernel
theorem dX14_both_191 : decode cX14_both 191 = .ok (.iload_n 1, 1) := by decide +kernel
theorem dX14_both_192 : decode cX14_both 192 = .ok (.iload_n 2, 1) := by decide +kernel
theorem dX14_both_193 : decode cX14_both 193 = .ok (.ior, 1) := by decide +kernel
theorem dX14_both_194 : decode cX14_both 194 = .ok (.ireturn, 1) := by decide +kernel
theorem k_X14_both_m70 : Cond.methodLink RX14 70 Lib.Math.min.name ∈ wsX14_both := by decide +kernel
theorem k_X14_both_mmins : Cond.static Lib.Math.min.name ∈ wsX14_both := by decide +kernel
theorem k_X14_both_mi : Cond.initialized "java/lang/Math" ∈ wsX14_both := by decide +kernel
theorem k_X14_both_mminc : Cond.code Lib.Math.min.name Lib.Math.min.code 2 (some .int) ∈ wsX14_both := by decide +kernel
theorem k_X14_both_m76 : Cond.methodLink RX14 76 Lib.Math.max.name ∈ wsX14_both := by decide +kernel
theorem k_X14_both_mmaxs : Cond.static Lib.Math.max.name ∈ wsX14_both := by decide +kernel
theorem k_X14_both_mmaxc : Cond.code Lib.Math.max.name Lib.Math.max.code 2 (some .int) ∈ wsX14_both := by decide +kernel
abbrev rX14_both : Room := { frames := 1, cells := 0, slots := 0, locals := 13 }
noncomputable def b_X14_both_191 (M : gMem) (x1 : Int32) (x2 : Int32) : Option (Int32 × gMem) :=
  some ((x1 ||| x2), M)
noncomputable def b_X14_both_186 (M : gMem) (s0 : Int32) : Option (Int32 × gMem) :=
  some (s0, M)
noncomputable def b_X14_both_175 (M : gMem) (s0 : Int32) : Option (Int32 × gMem) :=
  some (s0, M)
noncomputable def b_X14_both_164 (M : gMem) (s0 : Int32) : Option (Int32 × gMem) :=
  some (s0, M)
noncomputable def b_X14_both_153 (M : gMem) (s0 : Int32) : Option (Int32 × gMem) :=
  some (s0, M)
noncomputable def b_X14_both_142 (M : gMem) (s0 : Int32) : Option (Int32 × gMem) :=
  some (s0, M)
noncomputable def b_X14_both_119 (M : gMem) (s0 : Int32) : Option (Int32 × gMem) :=
  some (s0, M)
noncomputable def b_X14_both_0 (M : gMem) (x0 : Int32) (x1 : Int32) (x2 : Int32) : Option (Int32 × gMem) :=
  (if x0 = (21 : Int32) then some ((x1 &&& x2), M) else (if x0 = (22 : Int32) then b_X14_both_191 M x1 x2 else (if x0 = (23 : Int32) then some ((imin x1 x2), M) else (if x0 = (24 : Int32) then some ((imax x1 x2), M) else (if x0 = (25 : Int32) then b_X14_both_191 M x1 x2 else (if x0 = (26 : Int32) then b_X14_both_191 M x1 x2 else (if x0 = (27 : Int32) then b_X14_both_191 M x1 x2 else (if x0 = (28 : Int32) then b_X14_both_191 M x1 x2 else (if x0 = (29 : Int32) then b_X14_both_191 M x1 x2 else (if x0 = (30 : Int32) then b_X14_both_191 M x1 x2 else (if x0 = (31 : Int32) then b_X14_both_191 M x1 x2 else (if x0 = (32 : Int32) then some ((x1 + x2), M) else (if x0 = (33 : Int32) then some ((x1 - x2), M) else (if x0 = (34 : Int32) then some ((x1 * x2), M) else (if x0 = (35 : Int32) then (if x2 = 0 then b_X14_both_119 M ((0 : Int32)) else ck (¬ x2 = 0) <| b_X14_both_119 M ((x1 / x2))) else (if x0 = (36 : Int32) then (if x2 ≤ x1 then b_X14_both_142 M ((0 : Int32)) else b_X14_both_142 M ((1 : Int32))) else (if x0 = (37 : Int32) then (if x1 ≤ x2 then b_X14_both_153 M ((0 : Int32)) else b_X14_both_153 M ((1 : Int32))) else (if x0 = (38 : Int32) then (if x1 = x2 then b_X14_both_164 M ((1 : Int32)) else b_X14_both_164 M ((0 : Int32))) else (if x0 = (39 : Int32) then (if x2 < x1 then b_X14_both_175 M ((0 : Int32)) else b_X14_both_175 M ((1 : Int32))) else (if x0 = (40 : Int32) then (if x1 < x2 then b_X14_both_186 M ((0 : Int32)) else b_X14_both_186 M ((1 : Int32))) else b_X14_both_191 M x1 x2))))))))))))))))))))
noncomputable def f_X14_both (M : gMem) (x0 : Int32) (x1 : Int32) (x2 : Int32) : Option (Int32 × gMem) :=
  b_X14_both_0 M x0 x1 x2
set_option maxHeartbeats 4000000 in
set_option maxRecDepth 100000 in
theorem t_X14_both_191 (X : gX p s m args meth c D cy B (gSt Z B H0) RX14 cX14_both wsX14_both 3) (hr : meth.sig.returnType = (some .int)) {Q : State → Prop} : ∀ (M : gMem) (x1 : Int32) (x2 : Int32) (z : Int32 × gMem), b_X14_both_191 M x1 x2 = some z → (fun (r : Int32 × gMem) => Q = gMQ below D cy B H0 args s 0 0 (some (vI r.1)) r.2) z → gGo p l e rX14_both s m args below meth c D cy B H0 3 0 0 Q 191 [(1, vI x1), (2, vI x2)] [] M := by
  intro M x1 x2 z hf hK
  unfold b_X14_both_191 at hf
  refine g_iload_n X dX14_both_191 rfl rfl ?_
  refine g_iload_n X dX14_both_192 rfl rfl ?_
  refine g_ior X dX14_both_193 ?_
  cases hf
  refine g_eqQ hK ?_
  exact g_iret X hr dX14_both_194
set_option maxHeartbeats 4000000 in
set_option maxRecDepth 100000 in
theorem t_X14_both_186 (X : gX p s m args meth c D cy B (gSt Z B H0) RX14 cX14_both wsX14_both 3) (hr : meth.sig.returnType = (some .int)) {Q : State → Prop} : ∀ (M : gMem) (s0 : Int32) (z : Int32 × gMem), b_X14_both_186 M s0 = some z → (fun (r : Int32 × gMem) => Q = gMQ below D cy B H0 args s 0 0 (some (vI r.1)) r.2) z → gGo p l e rX14_both s m args below meth c D cy B H0 3 0 0 Q 186 [] [vI s0] M := by
  intro M s0 z hf hK
  unfold b_X14_both_186 at hf
  cases hf
  refine g_eqQ hK ?_
  exact g_iret X hr dX14_both_186
set_option maxHeartbeats 4000000 in
set_option maxRecDepth 100000 in
theorem t_X14_both_175 (X : gX p s m args meth c D cy B (gSt Z B H0) RX14 cX14_both wsX14_both 3) (hr : meth.sig.returnType = (some .int)) {Q : State → Prop} : ∀ (M : gMem) (s0 : Int32) (z : Int32 × gMem), b_X14_both_175 M s0 = some z → (fun (r : Int32 × gMem) => Q = gMQ below D cy B H0 args s 0 0 (some (vI r.1)) r.2) z → gGo p l e rX14_both s m args below meth c D cy B H0 3 0 0 Q 175 [] [vI s0] M := by
  intro M s0 z hf hK
  unfold b_X14_both_175 at hf
  cases hf
  refine g_eqQ hK ?_
  exact g_iret X hr dX14_both_175
set_option maxHeartbeats 4000000 in
set_option maxRecDepth 100000 in
theorem t_X14_both_164 (X : gX p s m args meth c D cy B (gSt Z B H0) RX14 cX14_both wsX14_both 3) (hr : meth.sig.returnType = (some .int)) {Q : State → Prop} : ∀ (M : gMem) (s0 : Int32) (z : Int32 × gMem), b_X14_both_164 M s0 = some z → (fun (r : Int32 × gMem) => Q = gMQ below D cy B H0 args s 0 0 (some (vI r.1)) r.2) z → gGo p l e rX14_both s m args below meth c D cy B H0 3 0 0 Q 164 [] [vI s0] M := by
  intro M s0 z hf hK
  unfold b_X14_both_164 at hf
  cases hf
  refine g_eqQ hK ?_
  exact g_iret X hr dX14_both_164
set_option maxHeartbeats 4000000 in
set_option maxRecDepth 100000 in
theorem t_X14_both_153 (X : gX p s m args meth c D cy B (gSt Z B H0) RX14 cX14_both wsX14_both 3) (hr : meth.sig.returnType = (some .int)) {Q : State → Prop} : ∀ (M : gMem) (s0 : Int32) (z : Int32 × gMem), b_X14_both_153 M s0 = some z → (fun (r : Int32 × gMem) => Q = gMQ below D cy B H0 args s 0 0 (some (vI r.1)) r.2) z → gGo p l e rX14_both s m args below meth c D cy B H0 3 0 0 Q 153 [] [vI s0] M := by
  intro M s0 z hf hK
  unfold b_X14_both_153 at hf
  cases hf
  refine g_eqQ hK ?_
  exact g_iret X hr dX14_both_153
set_option maxHeartbeats 4000000 in
set_option maxRecDepth 100000 in
theorem t_X14_both_142 (X : gX p s m args meth c D cy B (gSt Z B H0) RX14 cX14_both wsX14_both 3) (hr : meth.sig.returnType = (some .int)) {Q : State → Prop} : ∀ (M : gMem) (s0 : Int32) (z : Int32 × gMem), b_X14_both_142 M s0 = some z → (fun (r : Int32 × gMem) => Q = gMQ below D cy B H0 args s 0 0 (some (vI r.1)) r.2) z → gGo p l e rX14_both s m args below meth c D cy B H0 3 0 0 Q 142 [] [vI s0] M := by
  intro M s0 z hf hK
  unfold b_X14_both_142 at hf
  cases hf
  refine g_eqQ hK ?_
  exact g_iret X hr dX14_both_142
set_option maxHeartbeats 4000000 in
set_option maxRecDepth 100000 in
theorem t_X14_both_119 (X : gX p s m args meth c D cy B (gSt Z B H0) RX14 cX14_both wsX14_both 3) (hr : meth.sig.returnType = (some .int)) {Q : State → Prop} : ∀ (M : gMem) (s0 : Int32) (z : Int32 × gMem), b_X14_both_119 M s0 = some z → (fun (r : Int32 × gMem) => Q = gMQ below D cy B H0 args s 0 0 (some (vI r.1)) r.2) z → gGo p l e rX14_both s m args below meth c D cy B H0 3 0 0 Q 119 [] [vI s0] M := by
  intro M s0 z hf hK
  unfold b_X14_both_119 at hf
  cases hf
  refine g_eqQ hK ?_
  exact g_iret X hr dX14_both_119
set_option maxHeartbeats 4000000 in
set_option maxRecDepth 100000 in
theorem t_X14_both_0 (X : gX p s m args meth c D cy B (gSt Z B H0) RX14 cX14_both wsX14_both 3) (hr : meth.sig.returnType = (some .int)) {Q : State → Prop} : ∀ (M : gMem) (x0 : Int32) (x1 : Int32) (x2 : Int32) (z : Int32 × gMem), b_X14_both_0 M x0 x1 x2 = some z → (fun (r : Int32 × gMem) => Q = gMQ below D cy B H0 args s 0 0 (some (vI r.1)) r.2) z → gGo p l e rX14_both s m args below meth c D cy B H0 3 0 0 Q 0 [(0, vI x0), (1, vI x1), (2, vI x2)] [] M := by
  intro M x0 x1 x2 z hf hK
  unfold b_X14_both_0 at hf
  refine g_iload_n X dX14_both_0 rfl rfl ?_
  by_cases hs1 : x0 = (21 : Int32)
  · have hf := ife_t hs1 hf
    refine g_tabin (tgt := 187) X dX14_both_1 hs1 (by decide) (by decide) rfl (by decide) ?_
    refine g_iload_n X dX14_both_187 rfl rfl ?_
    refine g_iload_n X dX14_both_188 rfl rfl ?_
    refine g_iand X dX14_both_189 ?_
    cases hf
    refine g_eqQ hK ?_
    exact g_iret X hr dX14_both_190
  · have hf := ife_f hs1 hf
    by_cases hs2 : x0 = (22 : Int32)
    · have hf := ife_t hs2 hf
      refine g_tabin (tgt := 191) X dX14_both_1 hs2 (by decide) (by decide) rfl (by decide) ?_
      refine g_sub (lvsub_of _ _ [1, 2] rfl) ?_
      exact t_X14_both_191 X hr _ _ _ _ hf hK
    · have hf := ife_f hs2 hf
      by_cases hs3 : x0 = (23 : Int32)
      · have hf := ife_t hs3 hf
        refine g_tabin (tgt := 120) X dX14_both_1 hs3 (by decide) (by decide) rfl (by decide) ?_
        refine g_iload_n X dX14_both_120 rfl rfl ?_
        refine g_iload_n X dX14_both_121 rfl rfl ?_
        refine g_min X k_X14_both_m70 k_X14_both_mmins k_X14_both_mi k_X14_both_mminc (Nat.le_of_ble_eq_true rfl) (Nat.le_of_ble_eq_true rfl) ⟨by decide, by decide⟩ dX14_both_122 ?_
        cases hf
        refine g_eqQ hK ?_
        exact g_iret X hr dX14_both_125
      · have hf := ife_f hs3 hf
        by_cases hs4 : x0 = (24 : Int32)
        · have hf := ife_t hs4 hf
          refine g_tabin (tgt := 126) X dX14_both_1 hs4 (by decide) (by decide) rfl (by decide) ?_
          refine g_iload_n X dX14_both_126 rfl rfl ?_
          refine g_iload_n X dX14_both_127 rfl rfl ?_
          refine g_max X k_X14_both_m76 k_X14_both_mmaxs k_X14_both_mi k_X14_both_mmaxc (Nat.le_of_ble_eq_true rfl) (Nat.le_of_ble_eq_true rfl) ⟨by decide, by decide⟩ dX14_both_128 ?_
          cases hf
          refine g_eqQ hK ?_
          exact g_iret X hr dX14_both_131
        · have hf := ife_f hs4 hf
          by_cases hs5 : x0 = (25 : Int32)
          · have hf := ife_t hs5 hf
            refine g_tabin (tgt := 191) X dX14_both_1 hs5 (by decide) (by decide) rfl (by decide) ?_
            refine g_sub (lvsub_of _ _ [1, 2] rfl) ?_
            exact t_X14_both_191 X hr _ _ _ _ hf hK
          · have hf := ife_f hs5 hf
            by_cases hs6 : x0 = (26 : Int32)
            · have hf := ife_t hs6 hf
              refine g_tabin (tgt := 191) X dX14_both_1 hs6 (by decide) (by decide) rfl (by decide) ?_
              refine g_sub (lvsub_of _ _ [1, 2] rfl) ?_
              exact t_X14_both_191 X hr _ _ _ _ hf hK
            · have hf := ife_f hs6 hf
              by_cases hs7 : x0 = (27 : Int32)
              · have hf := ife_t hs7 hf
                refine g_tabin (tgt := 191) X dX14_both_1 hs7 (by decide) (by decide) rfl (by decide) ?_
                refine g_sub (lvsub_of _ _ [1, 2] rfl) ?_
                exact t_X14_both_191 X hr _ _ _ _ hf hK
              · have hf := ife_f hs7 hf
                by_cases hs8 : x0 = (28 : Int32)
                · have hf := ife_t hs8 hf
                  refine g_tabin (tgt := 191) X dX14_both_1 hs8 (by decide) (by decide) rfl (by decide) ?_
                  refine g_sub (lvsub_of _ _ [1, 2] rfl) ?_
                  exact t_X14_both_191 X hr _ _ _ _ hf hK
                · have hf := ife_f hs8 hf
                  by_cases hs9 : x0 = (29 : Int32)
                  · have hf := ife_t hs9 hf
                    refine g_tabin (tgt := 191) X dX14_both_1 hs9 (by decide) (by decide) rfl (by decide) ?_
                    refine g_sub (lvsub_of _ _ [1, 2] rfl) ?_
                    exact t_X14_both_191 X hr _ _ _ _ hf hK
                  · have hf := ife_f hs9 hf
                    by_cases hs10 : x0 = (30 : Int32)
                    · have hf := ife_t hs10 hf
                      refine g_tabin (tgt := 191) X dX14_both_1 hs10 (by decide) (by decide) rfl (by decide) ?_
                      refine g_sub (lvsub_of _ _ [1, 2] rfl) ?_
                      exact t_X14_both_191 X hr _ _ _ _ hf hK
                    · have hf := ife_f hs10 hf
                      by_cases hs11 : x0 = (31 : Int32)
                      · have hf := ife_t hs11 hf
                        refine g_tabin (tgt := 191) X dX14_both_1 hs11 (by decide) (by decide) rfl (by decide) ?_
                        refine g_sub (lvsub_of _ _ [1, 2] rfl) ?_
                        exact t_X14_both_191 X hr _ _ _ _ hf hK
                      · have hf := ife_f hs11 hf
                        by_cases hs12 : x0 = (32 : Int32)
                        · have hf := ife_t hs12 hf
                          refine g_tabin (tgt := 96) X dX14_both_1 hs12 (by decide) (by decide) rfl (by decide) ?_
                          refine g_iload_n X dX14_both_96 rfl rfl ?_
                          refine g_iload_n X dX14_both_97 rfl rfl ?_
                          refine g_iadd X dX14_both_98 ?_
                          cases hf
                          refine g_eqQ hK ?_
                          exact g_iret X hr dX14_both_99
                        · have hf := ife_f hs12 hf
                          by_cases hs13 : x0 = (33 : Int32)
                          · have hf := ife_t hs13 hf
                            refine g_tabin (tgt := 100) X dX14_both_1 hs13 (by decide) (by decide) rfl (by decide) ?_
                            refine g_iload_n X dX14_both_100 rfl rfl ?_
                            refine g_iload_n X dX14_both_101 rfl rfl ?_
                            refine g_isub X dX14_both_102 ?_
                            cases hf
                            refine g_eqQ hK ?_
                            exact g_iret X hr dX14_both_103
                          · have hf := ife_f hs13 hf
                            by_cases hs14 : x0 = (34 : Int32)
                            · have hf := ife_t hs14 hf
                              refine g_tabin (tgt := 104) X dX14_both_1 hs14 (by decide) (by decide) rfl (by decide) ?_
                              refine g_iload_n X dX14_both_104 rfl rfl ?_
                              refine g_iload_n X dX14_both_105 rfl rfl ?_
                              refine g_imul X dX14_both_106 ?_
                              cases hf
                              refine g_eqQ hK ?_
                              exact g_iret X hr dX14_both_107
                            · have hf := ife_f hs14 hf
                              by_cases hs15 : x0 = (35 : Int32)
                              · have hf := ife_t hs15 hf
                                refine g_tabin (tgt := 108) X dX14_both_1 hs15 (by decide) (by decide) rfl (by decide) ?_
                                refine g_iload_n X dX14_both_108 rfl rfl ?_
                                refine g_if_ne (tgt := 116) X dX14_both_109 (by decide) (fun hc => ?_) (fun hc => ?_)
                                · have hf := ife_f hc hf
                                  refine g_iload_n X dX14_both_116 rfl rfl ?_
                                  refine g_iload_n X dX14_both_117 rfl rfl ?_
                                  obtain ⟨hg16, hf⟩ := ck_e hf
                                  refine g_idiv X dX14_both_118 hg16 ?_
                                  refine g_sub (lvsub_of _ _ [] rfl) ?_
                                  exact t_X14_both_119 X hr _ _ _ hf hK
                                · have hf := ife_t hc hf
                                  refine g_iconst (v := (0 : Int32)) X dX14_both_112 (by decide) ?_
                                  refine g_goto (tgt := 119) X dX14_both_113 (by decide) ?_
                                  refine g_sub (lvsub_of _ _ [] rfl) ?_
                                  exact t_X14_both_119 X hr _ _ _ hf hK
                              · have hf := ife_f hs15 hf
                                by_cases hs17 : x0 = (36 : Int32)
                                · have hf := ife_t hs17 hf
                                  refine g_tabin (tgt := 132) X dX14_both_1 hs17 (by decide) (by decide) rfl (by decide) ?_
                                  refine g_iload_n X dX14_both_132 rfl rfl ?_
                                  refine g_iload_n X dX14_both_133 rfl rfl ?_
                                  refine g_icmp_ge (tgt := 141) X dX14_both_134 (by decide) (fun hc => ?_) (fun hc => ?_)
                                  · have hf := ife_t hc hf
                                    refine g_iconst (v := (0 : Int32)) X dX14_both_141 (by decide) ?_
                                    refine g_sub (lvsub_of _ _ [] rfl) ?_
                                    exact t_X14_both_142 X hr _ _ _ hf hK
                                  · have hf := ife_f hc hf
                                    refine g_iconst (v := (1 : Int32)) X dX14_both_137 (by decide) ?_
                                    refine g_goto (tgt := 142) X dX14_both_138 (by decide) ?_
                                    refine g_sub (lvsub_of _ _ [] rfl) ?_
                                    exact t_X14_both_142 X hr _ _ _ hf hK
                                · have hf := ife_f hs17 hf
                                  by_cases hs18 : x0 = (37 : Int32)
                                  · have hf := ife_t hs18 hf
                                    refine g_tabin (tgt := 143) X dX14_both_1 hs18 (by decide) (by decide) rfl (by decide) ?_
                                    refine g_iload_n X dX14_both_143 rfl rfl ?_
                                    refine g_iload_n X dX14_both_144 rfl rfl ?_
                                    refine g_icmp_le (tgt := 152) X dX14_both_145 (by decide) (fun hc => ?_) (fun hc => ?_)
                                    · have hf := ife_t hc hf
                                      refine g_iconst (v := (0 : Int32)) X dX14_both_152 (by decide) ?_
                                      refine g_sub (lvsub_of _ _ [] rfl) ?_
                                      exact t_X14_both_153 X hr _ _ _ hf hK
                                    · have hf := ife_f hc hf
                                      refine g_iconst (v := (1 : Int32)) X dX14_both_148 (by decide) ?_
                                      refine g_goto (tgt := 153) X dX14_both_149 (by decide) ?_
                                      refine g_sub (lvsub_of _ _ [] rfl) ?_
                                      exact t_X14_both_153 X hr _ _ _ hf hK
                                  · have hf := ife_f hs18 hf
                                    by_cases hs19 : x0 = (38 : Int32)
                                    · have hf := ife_t hs19 hf
                                      refine g_tabin (tgt := 154) X dX14_both_1 hs19 (by decide) (by decide) rfl (by decide) ?_
                                      refine g_iload_n X dX14_both_154 rfl rfl ?_
                                      refine g_iload_n X dX14_both_155 rfl rfl ?_
                                      refine g_icmp_ne (tgt := 163) X dX14_both_156 (by decide) (fun hc => ?_) (fun hc => ?_)
                                      · have hf := ife_f hc hf
                                        refine g_iconst (v := (0 : Int32)) X dX14_both_163 (by decide) ?_
                                        refine g_sub (lvsub_of _ _ [] rfl) ?_
                                        exact t_X14_both_164 X hr _ _ _ hf hK
                                      · have hf := ife_t hc hf
                                        refine g_iconst (v := (1 : Int32)) X dX14_both_159 (by decide) ?_
                                        refine g_goto (tgt := 164) X dX14_both_160 (by decide) ?_
                                        refine g_sub (lvsub_of _ _ [] rfl) ?_
                                        exact t_X14_both_164 X hr _ _ _ hf hK
                                    · have hf := ife_f hs19 hf
                                      by_cases hs20 : x0 = (39 : Int32)
                                      · have hf := ife_t hs20 hf
                                        refine g_tabin (tgt := 165) X dX14_both_1 hs20 (by decide) (by decide) rfl (by decide) ?_
                                        refine g_iload_n X dX14_both_165 rfl rfl ?_
                                        refine g_iload_n X dX14_both_166 rfl rfl ?_
                                        refine g_icmp_gt (tgt := 174) X dX14_both_167 (by decide) (fun hc => ?_) (fun hc => ?_)
                                        · have hf := ife_t hc hf
                                          refine g_iconst (v := (0 : Int32)) X dX14_both_174 (by decide) ?_
                                          refine g_sub (lvsub_of _ _ [] rfl) ?_
                                          exact t_X14_both_175 X hr _ _ _ hf hK
                                        · have hf := ife_f hc hf
                                          refine g_iconst (v := (1 : Int32)) X dX14_both_170 (by decide) ?_
                                          refine g_goto (tgt := 175) X dX14_both_171 (by decide) ?_
                                          refine g_sub (lvsub_of _ _ [] rfl) ?_
                                          exact t_X14_both_175 X hr _ _ _ hf hK
                                      · have hf := ife_f hs20 hf
                                        by_cases hs21 : x0 = (40 : Int32)
                                        · have hf := ife_t hs21 hf
                                          refine g_tabin (tgt := 176) X dX14_both_1 hs21 (by decide) (by decide) rfl (by decide) ?_
                                          refine g_iload_n X dX14_both_176 rfl rfl ?_
                                          refine g_iload_n X dX14_both_177 rfl rfl ?_
                                          refine g_icmp_lt (tgt := 185) X dX14_both_178 (by decide) (fun hc => ?_) (fun hc => ?_)
                                          · have hf := ife_t hc hf
                                            refine g_iconst (v := (0 : Int32)) X dX14_both_185 (by decide) ?_
                                            refine g_sub (lvsub_of _ _ [] rfl) ?_
                                            exact t_X14_both_186 X hr _ _ _ hf hK
                                          · have hf := ife_f hc hf
                                            refine g_iconst (v := (1 : Int32)) X dX14_both_181 (by decide) ?_
                                            refine g_goto (tgt := 186) X dX14_both_182 (by decide) ?_
                                            refine g_sub (lvsub_of _ _ [] rfl) ?_
                                            exact t_X14_both_186 X hr _ _ _ hf hK
                                        · have hf := ife_f hs21 hf
                                          refine g_tabout (tgt := 191) X dX14_both_1 (gtab_out 20 (21) (by decide) (by decide) (fun i hi => match i, hi with | 0, _ => fun e => hs1 (e.trans (by decide)) | 1, _ => fun e => hs2 (e.trans (by decide)) | 2, _ => fun e => hs3 (e.trans (by decide)) | 3, _ => fun e => hs4 (e.trans (by decide)) | 4, _ => fun e => hs5 (e.trans (by decide)) | 5, _ => fun e => hs6 (e.trans (by decide)) | 6, _ => fun e => hs7 (e.trans (by decide)) | 7, _ => fun e => hs8 (e.trans (by decide)) | 8, _ => fun e => hs9 (e.trans (by decide)) | 9, _ => fun e => hs10 (e.trans (by decide)) | 10, _ => fun e => hs11 (e.trans (by decide)) | 11, _ => fun e => hs12 (e.trans (by decide)) | 12, _ => fun e => hs13 (e.trans (by decide)) | 13, _ => fun e => hs14 (e.trans (by decide)) | 14, _ => fun e => hs15 (e.trans (by decide)) | 15, _ => fun e => hs17 (e.trans (by decide)) | 16, _ => fun e => hs18 (e.trans (by decide)) | 17, _ => fun e => hs19 (e.trans (by decide)) | 18, _ => fun e => hs20 (e.trans (by decide)) | 19, _ => fun e => hs21 (e.trans (by decide)) | i + 20, h => absurd h (by omega))) (by decide) ?_
                                          refine g_sub (lvsub_of _ _ [1, 2] rfl) ?_
                                          exact t_X14_both_191 X hr _ _ _ _ hf hK
set_option maxHeartbeats 4000000 in
set_option maxRecDepth 100000 in
theorem m_X14_both (l : Launch) {D : va_G} {cy : Nat → ClassId} {B : Nat} {H0 : Heap} {Z : Nat → Nat} {M M1 : gMem} {x0 : Int32} {x1 : Int32} {x2 : Int32} {r : Int32} (hf : f_X14_both M x0 x1 x2 = some (r, M1)) : Met l yX14_both wsX14_both rX14_both (va_Pc (List.map gv [vI x0, vI x1, vI x2]) (gPre D cy B H0 (gSt Z B H0) M)) (gQ D cy B H0 (some (vI r)) M1) 0 0 (gA B) := by
  refine Met.ofW (cc := cX14_both) (maxL := 3) (ret := (some .int)) (by decide) rfl ?_
  intro p e s m args below meth c s₁ Bd hml hv
  obtain ⟨rfl, hW, hKK, hFs⟩ := hv
  have X : gX p s m _ meth c D cy B (gSt Z B H0) RX14 cX14_both wsX14_both 3 := ⟨Bd.exec, Bd.bytes, atoms_spec (ws := wsX14_both) Bd.pre, findClass_of_methodNamed Bd.named, hml, hKK, by rw [hW.1]; exact hW.2.1, Bd.notSynchronized, hFs⟩
  have hr := Bd.returns
  have hl := lv_entry ([.int x0, .int x1, .int x2]) (n := 3) (Nat.le_of_ble_eq_true rfl)
  show W p l e rX14_both s m _ below meth c s.heap [] 0 0 _ (entryFrame m ([.int x0, .int x1, .int x2] : List Value).toArray 3)
  rw [lg_entry_eq]
  generalize (lg_sl ([.int x0, .int x1, .int x2]) ++ List.replicate (3 - (lg_sl ([.int x0, .int x1, .int x2])).length) Slot.unset).toArray = ls at hl ⊢
  have hl : lv_has ls 3 (List.map gq [(0, vI x0), (1, vI x1), (2, vI x2)]) := hl
  exact t_X14_both_0 X hr _ _ _ _ _ hf rfl s.heap [] ls hW va_S.rf (lv_has_sub hl (lvsub_of _ _ [0, 1, 2] rfl))
end
