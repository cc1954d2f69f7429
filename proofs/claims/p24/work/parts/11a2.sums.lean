section
variable {p : Program} {l : Launch} {e : Env} {s : State} {m : MethodId} {args : Array Value} {below : List Frame} {meth : Method} {c : Code} {D : va_G} {cy : Nat → ClassId} {B : Nat} {H0 : Heap} {Z : Nat → Nat}
/-! ## TideLots$Sums.reckon(IILTideLots$Shore;)I -/
theorem dX9_reckon_0 : decode cX9_reckon 0 = .ok (.iconst 0, 1) := by decide +kernel
theorem dX9_reckon_1 : decode cX9_reckon 1 = .ok (.istore 4, 2) := by decide +kernel
theorem dX9_reckon_3 : decode cX9_reckon 3 = .ok (.iload_n 1, 1) := by decide +kernel
theorem dX9_reckon_4 : decode cX9_reckon 4 = .ok (.istore 5, 2) := by decide +kernel
theorem dX9_reckon_6 : decode cX9_reckon 6 = .ok (.iload 5, 2) := by decide +kernel
theorem dX9_reckon_8 : decode cX9_reckon 8 = .ok (.iload_n 2, 1) := by decide +kernel
theorem dX9_reckon_9 : decode cX9_reckon 9 = .ok (.if_icmp .ge 265, 3) := by decide +kernel
theorem dX9_reckon_12 : decode cX9_reckon 12 = .ok (.iload 5, 2) := by decide +kernel
theorem dX9_reckon_14 : decode cX9_reckon 14 = .ok (.aload_n 0, 1) := by decide +kernel
theorem dX9_reckon_15 : decode cX9_reckon 15 = .ok (.getfield 28, 3) := by decide +kernel
theorem dX9_reckon_18 : decode cX9_reckon 18 = .ok (.if_icmp .ge 256, 3) := by decide +kernel
theorem dX9_reckon_21 : decode cX9_reckon 21 = .ok (.getstatic 32, 3) := by decide +kernel
theorem dX9_reckon_24 : decode cX9_reckon 24 = .ok (.aload_n 0, 1) := by decide +kernel
theorem dX9_reckon_25 : decode cX9_reckon 25 = .ok (.getfield 11, 3) := by decide +kernel
theorem dX9_reckon_28 : decode cX9_reckon 28 = .ok (.iload 5, 2) := by decide +kernel
theorem dX9_reckon_30 : decode cX9_reckon 30 = .ok (.aaload, 1) := by decide +kernel
theorem dX9_reckon_31 : decode cX9_reckon 31 = .ok (.invokevirtual 37, 3) := by decide +kernel
theorem dX9_reckon_34 : decode cX9_reckon 34 = .ok (.iaload, 1) := by decide +kernel
theorem dX9_reckon_35 : decode cX9_reckon 35 = .ok (.tableswitch 189 5 24 #[134, 189, 93, 189, 189, 189, 189, 189, 93, 93, 93, 93, 93, 93, 93, 189, 189, 189, 189, 134], 93) := by decide +kernel
theorem dX9_reckon_128 : decode cX9_reckon 128 = .ok (.iload 4, 2) := by decide +kernel
theorem dX9_reckon_130 : decode cX9_reckon 130 = .ok (.aload_n 0, 1) := by decide +kernel
theorem dX9_reckon_131 : decode cX9_reckon 131 = .ok (.getfield 21, 3) := by decide +kernel
theorem dX9_reckon_134 : decode cX9_reckon 134 = .ok (.arraylength, 1) := by decide +kernel
theorem dX9_reckon_135 : decode cX9_reckon 135 = .ok (.if_icmp .ge 133, 3) := by decide +kernel
theorem dX9_reckon_138 : decode cX9_reckon 138 = .ok (.aload_n 0, 1) := by decide +kernel
theorem dX9_reckon_139 : decode cX9_reckon 139 = .ok (.getfield 21, 3) := by decide +kernel
theorem dX9_reckon_142 : decode cX9_reckon 142 = .ok (.iload 4, 2) := by decide +kernel
theorem dX9_reckon_144 : decode cX9_reckon 144 = .ok (.aload_n 3, 1) := by decide +kernel
theorem dX9_reckon_145 : decode cX9_reckon 145 = .ok (.aload_n 0, 1) := by decide +kernel
theorem dX9_reckon_146 : decode cX9_reckon 146 = .ok (.getfield 11, 3) := by decide +kernel
theorem dX9_reckon_149 : decode cX9_reckon 149 = .ok (.iload 5, 2) := by decide +kernel
theorem dX9_reckon_151 : decode cX9_reckon 151 = .ok (.aaload, 1) := by decide +kernel
theorem dX9_reckon_152 : decode cX9_reckon 152 = .ok (.aload_n 0, 1) := by decide +kernel
theorem dX9_reckon_153 : decode cX9_reckon 153 = .ok (.getfield 17, 3) := by decide +kernel
theorem dX9_reckon_156 : decode cX9_reckon 156 = .ok (.iload 5, 2) := by decide +kernel
theorem dX9_reckon_158 : decode cX9_reckon 158 = .ok (.iaload, 1) := by decide +kernel
theorem dX9_reckon_159 : decode cX9_reckon 159 = .ok (.invokestatic 41, 3) := by decide +kernel
theorem dX9_reckon_162 : decode cX9_reckon 162 = .ok (.iastore, 1) := by decide +kernel
theorem dX9_reckon_163 : decode cX9_reckon 163 = .ok (.iinc 4 1, 3) := by decide +kernel
theorem dX9_reckon_166 : decode cX9_reckon 166 = .ok (.goto 102, 3) := by decide +kernel
theorem dX9_reckon_169 : decode cX9_reckon 169 = .ok (.iload 4, 2) := by decide +kernel
theorem dX9_reckon_171 : decode cX9_reckon 171 = .ok (.iconst 1, 1) := by decide +kernel
theorem dX9_reckon_172 : decode cX9_reckon 172 = .ok (.if_icmp .lt 96, 3) := by decide +kernel
theorem dX9_reckon_175 : decode cX9_reckon 175 = .ok (.aload_n 0, 1) := by decide +kernel
theorem dX9_reckon_176 : decode cX9_reckon 176 = .ok (.getfield 21, 3) := by decide +kernel
theorem dX9_reckon_179 : decode cX9_reckon 179 = .ok (.iload 4, 2) := by decide +kernel
theorem dX9_reckon_181 : decode cX9_reckon 181 = .ok (.iconst 1, 1) := by decide +kernel
theorem dX9_reckon_182 : decode cX9_reckon 182 = .ok (.isub, 1) := by decide +kernel
theorem dX9_reckon_183 : decode cX9_reckon 183 = .ok (.aload_n 0, 1) := by decide +kernel
theorem dX9_reckon_184 : decode cX9_reckon 184 = .ok (.getfield 11, 3) := by decide +kernel
theorem dX9_reckon_187 : decode cX9_reckon 187 = .ok (.iload 5, 2) := by decide +kernel
theorem dX9_reckon_189 : decode cX9_reckon 189 = .ok (.aaload, 1) := by decide +kernel
theorem dX9_reckon_190 : decode cX9_reckon 190 = .ok (.getstatic 45, 3) := by decide +kernel
theorem dX9_reckon_193 : decode cX9_reckon 193 = .ok (.if_acmp .ne 17, 3) := by decide +kernel
theorem dX9_reckon_196 : decode cX9_reckon 196 = .ok (.iconst 1, 1) := by decide +kernel
theorem dX9_reckon_197 : decode cX9_reckon 197 = .ok (.aload_n 0, 1) := by decide +kernel
theorem dX9_reckon_198 : decode cX9_reckon 198 = .ok (.getfield 21, 3) := by decide +kernel
theorem dX9_reckon_201 : decode cX9_reckon 201 = .ok (.iload 4, 2) := by decide +kernel
theorem dX9_reckon_203 : decode cX9_reckon 203 = .ok (.iconst 1, 1) := by decide +kernel
theorem dX9_reckon_204 : decode cX9_reckon 204 = .ok (.isub, 1) := by decide +kernel
theorem dX9_reckon_205 : decode cX9_reckon 205 = .ok (.iaload, 1) := by decide +kernel
theorem dX9_reckon_206 : decode cX9_reckon 206 = .ok (.isub, 1) := by decide +kernel
theorem dX9_reckon_207 : decode cX9_reckon 207 = .ok (.goto 13, 3) := by decide +kernel
theorem dX9_reckon_210 : decode cX9_reckon 210 = .ok (.aload_n 0, 1) := by decide +kernel
theorem dX9_reckon_211 : decode cX9_reckon 211 = .ok (.getfield 21, 3) := by decide +kernel
theorem dX9_reckon_214 : decode cX9_reckon 214 = .ok (.iload 4, 2) := by decide +kernel
theorem dX9_reckon_216 : decode cX9_reckon 216 = .ok (.iconst 1, 1) := by decide +kernel
theorem dX9_reckon_217 : decode cX9_reckon 217 = .ok (.isub, 1) := by decide +kernel
theorem dX9_reckon_218 : decode cX9_reckon 218 = .ok (.iaload, 1) := by decide +kernel
theorem dX9_reckon_219 : decode cX9_reckon 219 = .ok (.ineg, 1) := by decide +kernel
theorem dX9_reckon_220 : decode cX9_reckon 220 = .ok (.iastore, 1) := by decide +kernel
theorem dX9_reckon_221 : decode cX9_reckon 221 = .ok (.goto 47, 3) := by decide +kernel
theorem dX9_reckon_224 : decode cX9_reckon 224 = .ok (.iload 4, 2) := by decide +kernel
theorem dX9_reckon_226 : decode cX9_reckon 226 = .ok (.iconst 2, 1) := by decide +kernel
theorem dX9_reckon_227 : decode cX9_reckon 227 = .ok (.if_icmp .lt 41, 3) := by decide +kernel
theorem dX9_reckon_230 : decode cX9_reckon 230 = .ok (.iinc 4 (-1), 3) := by decide +kernel
theorem dX9_reckon_233 : decode cX9_reckon 233 = .ok (.aload_n 0, 1) := by decide +kernel
theorem dX9_reckon_234 : decode cX9_reckon 234 = .ok (.getfield 21, 3) := by decide +kernel
theorem dX9_reckon_237 : decode cX9_reckon 237 = .ok (.iload 4, 2) := by decide +kernel
theorem dX9_reckon_239 : decode cX9_reckon 239 = .ok (.iconst 1, 1) := by decide +kernel
theorem dX9_reckon_240 : decode cX9_reckon 240 = .ok (.isub, 1) := by decide +kernel
theorem dX9_reckon_241 : decode cX9_reckon 241 = .ok (.aload_n 0, 1) := by decide +kernel
theorem dX9_reckon_242 : decode cX9_reckon 242 = .ok (.getfield 11, 3) := by decide +kernel
theorem dX9_reckon_245 : decode cX9_reckon 245 = .ok (.iload 5, 2) := by decide +kernel
theorem dX9_reckon_247 : decode cX9_reckon 247 = .ok (.aaload, 1) := by decide +kernel
theorem dX9_reckon_248 : decode cX9_reckon 248 = .ok (.aload_n 0, 1) := by decide +kernel
theorem dX9_reckon_249 : decode cX9_reckon 249 = .ok (.getfield 21, 3) := by decide +kernel
theorem dX9_reckon_252 : decode cX9_reckon 252 = .ok (.iload 4, 2) := by decide +kernel
theorem dX9_reckon_254 : decode cX9_reckon 254 = .ok (.iconst 1, 1) := by decide +kernel
theorem dX9_reckon_255 : decode cX9_reckon 255 = .ok (.isub, 1) := by decide +kernel
theorem dX9_reckon_256 : decode cX9_reckon 256 = .ok (.iaload, 1) := by decide +kernel
theorem dX9_reckon_257 : decode cX9_reckon 257 = .ok (.aload_n 0, 1) := by decide +kernel
theorem dX9_reckon_258 : decode cX9_reckon 258 = .ok (.getfield 21, 3) := by decide +kernel
theorem dX9_reckon_261 : decode cX9_reckon 261 = .ok (.iload 4, 2) := by decide +kernel
theorem dX9_reckon_263 : decode cX9_reckon 263 = .ok (.iaload, 1) := by decide +kernel
theorem dX9_reckon_264 : decode cX9_reckon 264 = .ok (.invokestatic 48, 3) := by decide +kernel
theorem dX9_reckon_267 : decode cX9_reckon 267 = .ok (.iastore, 1) := by decide +kernel
theorem dX9_reckon_268 : decode cX9_reckon 268 = .ok (.iinc 5 1, 3) := by decide +kernel
theorem dX9_reckon_271 : decode cX9_reckon 271 = .ok (.goto (-265), 3) := by decide +kernel
theorem dX9_reckon_274 : decode cX9_reckon 274 = .ok (.iload 4, 2) := by decide +kernel
theorem dX9_reckon_276 : decode cX9_reckon 276 = .ok (.ifCond .le 12, 3) := by decide +kernel
theorem dX9_reckon_279 : decode cX9_reckon 279 = .ok (.aload_n 0, 1) := by decide +kernel
theorem dX9_reckon_280 : decode cX9_reckon 280 = .ok (.getfield 21, 3) := by decide +kernel
theorem dX9_reckon_283 : decode cX9_reckon 283 = .ok (.iconst 0, 1) := by decide +kernel
theorem dX9_reckon_284 : decode cX9_reckon 284 = .ok (.iaload, 1) := by decide +kernel
theorem dX9_reckon_285 : decode cX9_reckon 285 = .ok (.goto 4, 3) := by decide +kernel
theorem dX9_reckon_288 : decode cX9_reckon 288 = .ok (.iconst 0, 1) := by decide +kernel
theorem dX9_reckon_289 : decode cX9_reckon 289 = .ok (.ireturn, 1) := by decide +kernel
set_option maxRecDepth 20000 in
theorem ggX9_reckon_X9_combine : GoodIn wsX9_reckon wsX9_combine := goodIn_r _ [34, 2, 35, 36, 37, 38, 39, 40, 41, 7, 8, 9, 10, 11, 12, 13] (by decide +kernel) (by decide +kernel)
set_option maxRecDepth 20000 in
theorem gX9_reckon_X9_combine : GoodIn wsX9_reckon (va_wsS RX9 48 yX9_combine wsX9_combine) := goodIn_app (goodIn_of _ (by decide +kernel)) ggX9_reckon_X9_combine
set_option maxRecDepth 20000 in
theorem ggX9_reckon_X9_valueOn : GoodIn wsX9_reckon wsX9_valueOn := goodIn_2 24 (goodIn_r _ [17, 2, 18, 19, 20, 21, 22, 23, 24, 25, 7, 8, 9, 10, 11, 12, 13, 26, 27, 28, 29, 30, 31, 46] (by decide +kernel) (by decide +kernel)) (goodIn_2 24 (goodIn_r _ [47, 48, 49, 50, 51, 52, 53, 54, 55, 56, 57, 58, 59, 60, 61, 62, 63, 64, 65, 66, 67, 68, 69, 70] (by decide +kernel) (by decide +kernel)) (goodIn_r _ [71, 72, 73, 74, 75, 76, 77] (by decide +kernel) (by decide +kernel)))
set_option maxRecDepth 20000 in
theorem gX9_reckon_X9_valueOn : GoodIn wsX9_reckon (va_wsS RX9 41 yX9_valueOn wsX9_valueOn) := goodIn_app (goodIn_of _ (by decide +kernel)) ggX9_reckon_X9_valueOn
set_option maxRecDepth 20000 in
theorem ggX9_reckon_Jx29ce0_ordinal_8abf5 : GoodIn wsX9_reckon wsJx29ce0_ordinal_8abf5 := goodIn_r _ [12, 13] (by decide +kernel) (by decide +kernel)
set_option maxRecDepth 20000 in
theorem gX9_reckon_Jx29ce0_ordinal_8abf5_u37X8 : GoodIn wsX9_reckon (va_wsU RX9 37 RX8 "java/lang/Enum" ⟨"TideLots$Sign", "ordinal", "()I"⟩ yJx29ce0_ordinal_8abf5 wsJx29ce0_ordinal_8abf5) := goodIn_app (goodIn_of _ (by decide +kernel)) ggX9_reckon_Jx29ce0_ordinal_8abf5
theorem k_X9_reckon_f21 : Cond.fieldLink RX9 21 "TideLots$Sums" "stack" "[I" ∈ wsX9_reckon := by decide +kernel
theorem i_X9_reckon_X9 : ∀ w ∈ u_ws RX9 TX9 4, w ∈ wsX9_reckon := by decide +kernel
theorem k_X9_reckon_f11 : Cond.fieldLink RX9 11 "TideLots$Sums" "signs" "[LTideLots$Sign;" ∈ wsX9_reckon := by decide +kernel
theorem k_X9_reckon_f45 : Cond.fieldLink RX9 45 "TideLots$Sign" "NOT" "LTideLots$Sign;" ∈ wsX9_reckon := by decide +kernel
theorem k_X9_reckon_f17 : Cond.fieldLink RX9 17 "TideLots$Sums" "values" "[I" ∈ wsX9_reckon := by decide +kernel
theorem k_X9_reckon_f28 : Cond.fieldLink RX9 28 "TideLots$Sums" "length" "I" ∈ wsX9_reckon := by decide +kernel
theorem k_X9_reckon_f32 : Cond.fieldLink RX9 32 "TideLots$1" "$SwitchMap$TideLots$Sign" "[I" ∈ wsX9_reckon := by decide +kernel
abbrev rX9_reckon : Room := { frames := 2, cells := 0, slots := 0, locals := 44 }
noncomputable def b_X9_reckon_289 (Z : Nat → Nat) (M : gMem) (s0 : Int32) : Option (Int32 × gMem) :=
  some (s0, M)
noncomputable def b_X9_reckon_274 (Z : Nat → Nat) (M : gMem) (x0 : Nat) (x4 : Int32) : Option (Int32 × gMem) :=
  (if x4 ≤ 0 then b_X9_reckon_289 Z M ((0 : Int32)) else ck (mT M x0 = 8) <| dr ((mR M x0 3)) fun a2 => ck (mT M a2 = 20) <| ck (inb (0 : Int32) (mL M a2)) <| b_X9_reckon_289 Z M ((mI M a2 ((0 : Int32)).toNatClampNeg)))
noncomputable def b_X9_reckon_268 (Z : Nat → Nat) (M : gMem) (x0 : Nat) (x2 : Int32) (x3 : Option Nat) (x4 : Int32) (x5 : Int32) : Option ((gMem × Int32 × Int32) ⊕ (Int32 × gMem)) :=
  some (.inl (M, x4, (x5 + (1 : Int32))))
noncomputable def b_X9_reckon_224 (Z : Nat → Nat) (M : gMem) (x0 : Nat) (x2 : Int32) (x3 : Option Nat) (x4 : Int32) (x5 : Int32) : Option ((gMem × Int32 × Int32) ⊕ (Int32 × gMem)) :=
  (if x4 < (2 : Int32) then b_X9_reckon_268 Z M x0 x2 x3 x4 x5 else ck (mT M x0 = 8) <| dr ((mR M x0 1)) fun a6 => ck (mT M a6 = 27) <| ck (inb x5 (mL M a6)) <| dr ((mR M x0 3)) fun a9 => ck (mT M a9 = 20) <| ck (inb ((x4 + (-1 : Int32)) - (1 : Int32)) (mL M a9)) <| ck (inb (x4 + (-1 : Int32)) (mL M a9)) <| bd (f_X9_combine Z M ((mR M a6 x5.toNatClampNeg)) ((mI M a9 (((x4 + (-1 : Int32)) - (1 : Int32))).toNatClampNeg)) ((mI M a9 ((x4 + (-1 : Int32))).toNatClampNeg))) fun r13 M13 => ck (mT M13 a9 = 20) <| ck (inb ((x4 + (-1 : Int32)) - (1 : Int32)) (mL M13 a9)) <| lw (wI M13 a9 (((x4 + (-1 : Int32)) - (1 : Int32))).toNatClampNeg r13) fun M16 => b_X9_reckon_268 Z M16 x0 x2 x3 ((x4 + (-1 : Int32))) x5)
noncomputable def b_X9_reckon_220 (Z : Nat → Nat) (M : gMem) (x0 : Nat) (x2 : Int32) (x3 : Option Nat) (x4 : Int32) (x5 : Int32) (s0 : Option Nat) (s1 : Int32) (s2 : Int32) : Option ((gMem × Int32 × Int32) ⊕ (Int32 × gMem)) :=
  dr s0 fun a18 => ck (mT M a18 = 20) <| ck (inb s1 (mL M a18)) <| lw (wI M a18 s1.toNatClampNeg s2) fun M21 => b_X9_reckon_268 Z M21 x0 x2 x3 x4 x5
noncomputable def b_X9_reckon_169 (Z : Nat → Nat) (M : gMem) (x0 : Nat) (x2 : Int32) (x3 : Option Nat) (x4 : Int32) (x5 : Int32) : Option ((gMem × Int32 × Int32) ⊕ (Int32 × gMem)) :=
  (if x4 < (1 : Int32) then b_X9_reckon_268 Z M x0 x2 x3 x4 x5 else ck (mT M x0 = 8) <| dr ((mR M x0 1)) fun a24 => ck (mT M a24 = 27) <| ck (inb x5 (mL M a24)) <| (if (mR M a24 x5.toNatClampNeg) = (some (Z 20)) then dr ((mR M x0 3)) fun a30 => ck (mT M a30 = 20) <| ck (inb (x4 - (1 : Int32)) (mL M a30)) <| b_X9_reckon_220 Z M x0 x2 x3 x4 x5 ((mR M x0 3)) ((x4 - (1 : Int32))) (((1 : Int32) - (mI M a30 ((x4 - (1 : Int32))).toNatClampNeg))) else dr ((mR M x0 3)) fun a27 => ck (mT M a27 = 20) <| ck (inb (x4 - (1 : Int32)) (mL M a27)) <| b_X9_reckon_220 Z M x0 x2 x3 x4 x5 ((mR M x0 3)) ((x4 - (1 : Int32))) ((-(mI M a27 ((x4 - (1 : Int32))).toNatClampNeg)))))
noncomputable def b_X9_reckon_128 (Z : Nat → Nat) (M : gMem) (x0 : Nat) (x2 : Int32) (x3 : Option Nat) (x4 : Int32) (x5 : Int32) : Option ((gMem × Int32 × Int32) ⊕ (Int32 × gMem)) :=
  ck (mT M x0 = 8) <| dr ((mR M x0 3)) fun a34 => ck (mT M a34 = 20) <| (if (Int32.ofNat (mL M a34)) ≤ x4 then b_X9_reckon_268 Z M x0 x2 x3 x4 x5 else dr ((mR M x0 1)) fun a36 => ck (mT M a36 = 27) <| ck (inb x5 (mL M a36)) <| dr ((mR M x0 2)) fun a39 => ck (mT M a39 = 20) <| ck (inb x5 (mL M a39)) <| bd (f_X9_valueOn Z M x3 ((mR M a36 x5.toNatClampNeg)) ((mI M a39 x5.toNatClampNeg))) fun r42 M42 => ck (mT M42 a34 = 20) <| ck (inb x4 (mL M42 a34)) <| lw (wI M42 a34 x4.toNatClampNeg r42) fun M45 => b_X9_reckon_268 Z M45 x0 x2 x3 ((x4 + (1 : Int32))) x5)
noncomputable def bb_X9_reckon_6 (Z : Nat → Nat) (M : gMem) (x0 : Nat) (x2 : Int32) (x3 : Option Nat) (x4 : Int32) (x5 : Int32) : Option ((gMem × Int32 × Int32) ⊕ (Int32 × gMem)) :=
  (if x2 ≤ x5 then oI (b_X9_reckon_274 Z M x0 x4) else ck (mT M x0 = 8) <| (if (mI M x0 0) ≤ x5 then oI (b_X9_reckon_274 Z M x0 x4) else dr ((mR M x0 1)) fun a50 => ck (mT M a50 = 27) <| ck (inb x5 (mL M a50)) <| dr (ordZ Z ((mR M a50 x5.toNatClampNeg))) fun o53 => (if (gSw o53) = (5 : Int32) then b_X9_reckon_169 Z M x0 x2 x3 x4 x5 else (if (gSw o53) = (6 : Int32) then b_X9_reckon_224 Z M x0 x2 x3 x4 x5 else (if (gSw o53) = (7 : Int32) then b_X9_reckon_128 Z M x0 x2 x3 x4 x5 else (if (gSw o53) = (8 : Int32) then b_X9_reckon_224 Z M x0 x2 x3 x4 x5 else (if (gSw o53) = (9 : Int32) then b_X9_reckon_224 Z M x0 x2 x3 x4 x5 else (if (gSw o53) = (10 : Int32) then b_X9_reckon_224 Z M x0 x2 x3 x4 x5 else (if (gSw o53) = (11 : Int32) then b_X9_reckon_224 Z M x0 x2 x3 x4 x5 else (if (gSw o53) = (12 : Int32) then b_X9_reckon_224 Z M x0 x2 x3 x4 x5 else (if (gSw o53) = (13 : Int32) then b_X9_reckon_128 Z M x0 x2 x3 x4 x5 else (if (gSw o53) = (14 : Int32) then b_X9_reckon_128 Z M x0 x2 x3 x4 x5 else (if (gSw o53) = (15 : Int32) then b_X9_reckon_128 Z M x0 x2 x3 x4 x5 else (if (gSw o53) = (16 : Int32) then b_X9_reckon_128 Z M x0 x2 x3 x4 x5 else (if (gSw o53) = (17 : Int32) then b_X9_reckon_128 Z M x0 x2 x3 x4 x5 else (if (gSw o53) = (18 : Int32) then b_X9_reckon_128 Z M x0 x2 x3 x4 x5 else (if (gSw o53) = (19 : Int32) then b_X9_reckon_128 Z M x0 x2 x3 x4 x5 else (if (gSw o53) = (20 : Int32) then b_X9_reckon_224 Z M x0 x2 x3 x4 x5 else (if (gSw o53) = (21 : Int32) then b_X9_reckon_224 Z M x0 x2 x3 x4 x5 else (if (gSw o53) = (22 : Int32) then b_X9_reckon_224 Z M x0 x2 x3 x4 x5 else (if (gSw o53) = (23 : Int32) then b_X9_reckon_224 Z M x0 x2 x3 x4 x5 else (if (gSw o53) = (24 : Int32) then b_X9_reckon_169 Z M x0 x2 x3 x4 x5 else b_X9_reckon_224 Z M x0 x2 x3 x4 x5))))))))))))))))))))))
noncomputable def lp_X9_reckon_6 (Z : Nat → Nat) (M : gMem) (x0 : Nat) (x2 : Int32) (x3 : Option Nat) (x4 : Int32) (x5 : Int32) : Option (Int32 × gMem) :=
  lp (fun (q : gMem × Int32 × Int32) => bb_X9_reckon_6 Z q.1 x0 x2 x3 q.2.1 q.2.2) (M, x4, x5)
noncomputable def b_X9_reckon_0 (Z : Nat → Nat) (M : gMem) (x0 : Nat) (x1 : Int32) (x2 : Int32) (x3 : Option Nat) : Option (Int32 × gMem) :=
  lp_X9_reckon_6 Z M x0 x2 x3 ((0 : Int32)) x1
noncomputable def f_X9_reckon (Z : Nat → Nat) (M : gMem) (x0 : Nat) (x1 : Int32) (x2 : Int32) (x3 : Option Nat) : Option (Int32 × gMem) :=
  b_X9_reckon_0 Z M x0 x1 x2 x3
set_option maxHeartbeats 4000000 in
set_option maxRecDepth 100000 in
theorem t_X9_reckon_289 (X : gX p s m args meth c D cy B (gSt Z B H0) RX9 cX9_reckon wsX9_reckon 6) (hr : meth.sig.returnType = (some .int)) {Q : State → Prop} : ∀ (M : gMem) (s0 : Int32) (z : Int32 × gMem), b_X9_reckon_289 Z M s0 = some z → (fun (r : Int32 × gMem) => Q = gMQ below D cy B H0 args s 0 0 (some (vI r.1)) r.2) z → gGo p l e rX9_reckon s m args below meth c D cy B H0 6 0 0 Q 289 [] [vI s0] M := by
  intro M s0 z hf hK
  unfold b_X9_reckon_289 at hf
  cases hf
  refine g_eqQ hK ?_
  exact g_iret X hr dX9_reckon_289
set_option maxHeartbeats 4000000 in
set_option maxRecDepth 100000 in
theorem t_X9_reckon_274 (X : gX p s m args meth c D cy B (gSt Z B H0) RX9 cX9_reckon wsX9_reckon 6) (hr : meth.sig.returnType = (some .int)) {Q : State → Prop} : ∀ (M : gMem) (x0 : Nat) (x4 : Int32) (z : Int32 × gMem), b_X9_reckon_274 Z M x0 x4 = some z → (fun (r : Int32 × gMem) => Q = gMQ below D cy B H0 args s 0 0 (some (vI r.1)) r.2) z → gGo p l e rX9_reckon s m args below meth c D cy B H0 6 0 0 Q 274 [(0, vR (some x0)), (4, vI x4)] [] M := by
  intro M x0 x4 z hf hK
  unfold b_X9_reckon_274 at hf
  refine g_iload X dX9_reckon_274 rfl ?_
  refine g_if_le (tgt := 288) X dX9_reckon_276 (by decide) (fun hc => ?_) (fun hc => ?_)
  · have hf := ife_t hc hf
    refine g_iconst (v := (0 : Int32)) X dX9_reckon_288 (by decide) ?_
    refine g_sub (lvsub_of _ _ [] rfl) ?_
    exact t_X9_reckon_289 X hr _ _ _ hf hK
  · have hf := ife_f hc hf
    refine g_aload_n X dX9_reckon_279 rfl rfl ?_
    obtain ⟨hT1, hf⟩ := ck_e hf
    refine g_get (ci := 7) (v := vR (mR M x0 3)) 3 X cdX9 i_X9_reckon_X9 (by decide) k_X9_reckon_f21 rfl dX9_reckon_280 rfl hT1 rfl ?_
    refine g_iconst (v := (0 : Int32)) X dX9_reckon_283 (by decide) ?_
    obtain ⟨a2, ha2, hf⟩ := dr_e hf
    obtain ⟨hT3, hf⟩ := ck_e hf
    obtain ⟨hg4, hf⟩ := ck_e hf
    refine g_iald X dX9_reckon_284 ha2 hT3 hg4 ?_
    refine g_goto (tgt := 289) X dX9_reckon_285 (by decide) ?_
    refine g_sub (lvsub_of _ _ [] rfl) ?_
    exact t_X9_reckon_289 X hr _ _ _ hf hK
set_option maxHeartbeats 4000000 in
set_option maxRecDepth 100000 in
theorem t_X9_reckon_268 (X : gX p s m args meth c D cy B (gSt Z B H0) RX9 cX9_reckon wsX9_reckon 6) (hr : meth.sig.returnType = (some .int)) {Q : State → Prop} : ∀ (M : gMem) (x0 : Nat) (x2 : Int32) (x3 : Option Nat) (x4 : Int32) (x5 : Int32) (z : (gMem × Int32 × Int32) ⊕ (Int32 × gMem)), b_X9_reckon_268 Z M x0 x2 x3 x4 x5 = some z → (Sum.elim (fun (q : gMem × Int32 × Int32) => gGo p l e rX9_reckon s m args below meth c D cy B H0 6 0 0 Q 6 [(0, vR (some x0)), (2, vI x2), (3, vR x3), (4, vI q.2.1), (5, vI q.2.2)] [] q.1) (fun (r : Int32 × gMem) => Q = gMQ below D cy B H0 args s 0 0 (some (vI r.1)) r.2)) z → gGo p l e rX9_reckon s m args below meth c D cy B H0 6 0 0 Q 268 [(0, vR (some x0)), (2, vI x2), (3, vR x3), (4, vI x4), (5, vI x5)] [] M := by
  intro M x0 x2 x3 x4 x5 z hf hK
  unfold b_X9_reckon_268 at hf
  refine g_iinc (v := (1 : Int32)) (lv' := [(5, vI (x5 + (1 : Int32))), (0, vR (some x0)), (2, vI x2), (3, vR x3), (4, vI x4)]) X dX9_reckon_268 rfl (by decide) (by decide) rfl ?_
  refine g_goto (tgt := 6) X dX9_reckon_271 (by decide) ?_
  cases hf
  refine g_sub (lvsub_of _ _ [1, 2, 3, 4, 0] rfl) ?_
  exact hK
set_option maxHeartbeats 4000000 in
set_option maxRecDepth 100000 in
theorem t_X9_reckon_224 (X : gX p s m args meth c D cy B (gSt Z B H0) RX9 cX9_reckon wsX9_reckon 6) (hr : meth.sig.returnType = (some .int)) {Q : State → Prop} : ∀ (M : gMem) (x0 : Nat) (x2 : Int32) (x3 : Option Nat) (x4 : Int32) (x5 : Int32) (z : (gMem × Int32 × Int32) ⊕ (Int32 × gMem)), b_X9_reckon_224 Z M x0 x2 x3 x4 x5 = some z → (Sum.elim (fun (q : gMem × Int32 × Int32) => gGo p l e rX9_reckon s m args below meth c D cy B H0 6 0 0 Q 6 [(0, vR (some x0)), (2, vI x2), (3, vR x3), (4, vI q.2.1), (5, vI q.2.2)] [] q.1) (fun (r : Int32 × gMem) => Q = gMQ below D cy B H0 args s 0 0 (some (vI r.1)) r.2)) z → gGo p l e rX9_reckon s m args below meth c D cy B H0 6 0 0 Q 224 [(0, vR (some x0)), (2, vI x2), (3, vR x3), (4, vI x4), (5, vI x5)] [] M := by
  intro M x0 x2 x3 x4 x5 z hf hK
  unfold b_X9_reckon_224 at hf
  refine g_iload X dX9_reckon_224 rfl ?_
  refine g_iconst (v := (2 : Int32)) X dX9_reckon_226 (by decide) ?_
  refine g_icmp_lt (tgt := 268) X dX9_reckon_227 (by decide) (fun hc => ?_) (fun hc => ?_)
  · have hf := ife_t hc hf
    refine g_sub (lvsub_of _ _ [0, 1, 2, 3, 4] rfl) ?_
    exact t_X9_reckon_268 X hr _ _ _ _ _ _ _ hf hK
  · have hf := ife_f hc hf
    refine g_iinc (v := (-1 : Int32)) (lv' := [(4, vI (x4 + (-1 : Int32))), (0, vR (some x0)), (2, vI x2), (3, vR x3), (5, vI x5)]) X dX9_reckon_230 rfl (by decide) (by decide) rfl ?_
    refine g_aload_n X dX9_reckon_233 rfl rfl ?_
    obtain ⟨hT5, hf⟩ := ck_e hf
    refine g_get (ci := 7) (v := vR (mR M x0 3)) 3 X cdX9 i_X9_reckon_X9 (by decide) k_X9_reckon_f21 rfl dX9_reckon_234 rfl hT5 rfl ?_
    refine g_iload X dX9_reckon_237 rfl ?_
    refine g_iconst (v := (1 : Int32)) X dX9_reckon_239 (by decide) ?_
    refine g_isub X dX9_reckon_240 ?_
    refine g_aload_n X dX9_reckon_241 rfl rfl ?_
    refine g_get (ci := 7) (v := vR (mR M x0 1)) 1 X cdX9 i_X9_reckon_X9 (by decide) k_X9_reckon_f11 rfl dX9_reckon_242 rfl hT5 rfl ?_
    refine g_iload X dX9_reckon_245 rfl ?_
    obtain ⟨a6, ha6, hf⟩ := dr_e hf
    obtain ⟨hT7, hf⟩ := ck_e hf
    obtain ⟨hg8, hf⟩ := ck_e hf
    refine g_aald (t0 := 7) X dX9_reckon_247 ha6 hT7 (by decide) rfl hg8 ?_
    refine g_aload_n X dX9_reckon_248 rfl rfl ?_
    refine g_get (ci := 7) (v := vR (mR M x0 3)) 3 X cdX9 i_X9_reckon_X9 (by decide) k_X9_reckon_f21 rfl dX9_reckon_249 rfl hT5 rfl ?_
    refine g_iload X dX9_reckon_252 rfl ?_
    refine g_iconst (v := (1 : Int32)) X dX9_reckon_254 (by decide) ?_
    refine g_isub X dX9_reckon_255 ?_
    obtain ⟨a9, ha9, hf⟩ := dr_e hf
    obtain ⟨hT10, hf⟩ := ck_e hf
    obtain ⟨hg11, hf⟩ := ck_e hf
    refine g_iald X dX9_reckon_256 ha9 hT10 hg11 ?_
    refine g_aload_n X dX9_reckon_257 rfl rfl ?_
    refine g_get (ci := 7) (v := vR (mR M x0 3)) 3 X cdX9 i_X9_reckon_X9 (by decide) k_X9_reckon_f21 rfl dX9_reckon_258 rfl hT5 rfl ?_
    refine g_iload X dX9_reckon_261 rfl ?_
    obtain ⟨hg12, hf⟩ := ck_e hf
    refine g_iald X dX9_reckon_263 ha9 hT10 hg12 ?_
    obtain ⟨r13, M13, hq13, hf⟩ := bd_e hf
    refine g_callS (As := [vR (mR M a6 x5.toNatClampNeg), vI (mI M a9 (((x4 + (-1 : Int32)) - (1 : Int32))).toNatClampNeg), vI (mI M a9 ((x4 + (-1 : Int32))).toNatClampNeg)]) (st := [vI ((x4 + (-1 : Int32)) - (1 : Int32)), vR (mR M x0 3)]) (v := some (vI r13)) (M1 := M13) X (m_X9_combine l hq13) (va_cwS 3 X.2.2.1 gX9_reckon_X9_combine rfl rfl rfl (by decide +kernel) ⟨Nat.le_of_ble_eq_true rfl, Nat.le_of_ble_eq_true rfl⟩) rfl rfl (Nat.le_of_ble_eq_true rfl) dX9_reckon_264 ⟨by decide, by decide⟩ ?_
    obtain ⟨hT14, hf⟩ := ck_e hf
    obtain ⟨hg15, hf⟩ := ck_e hf
    refine g_iast X dX9_reckon_267 ha9 hT14 hg15 ?_
    obtain ⟨M16, hM16, hf⟩ := lw_e hf
    rw [← hM16]
    have hT17 : mT M16 a9 = 20 := by rw [hM16]; exact hT14
    refine g_sub (lvsub_of _ _ [1, 2, 3, 0, 4] rfl) ?_
    exact t_X9_reckon_268 X hr _ _ _ _ _ _ _ hf hK
set_option maxHeartbeats 4000000 in
set_option maxRecDepth 100000 in
theorem t_X9_reckon_220 (X : gX p s m args meth c D cy B (gSt Z B H0) RX9 cX9_reckon wsX9_reckon 6) (hr : meth.sig.returnType = (some .int)) {Q : State → Prop} : ∀ (M : gMem) (x0 : Nat) (x2 : Int32) (x3 : Option Nat) (x4 : Int32) (x5 : Int32) (s0 : Option Nat) (s1 : Int32) (s2 : Int32) (z : (gMem × Int32 × Int32) ⊕ (Int32 × gMem)), b_X9_reckon_220 Z M x0 x2 x3 x4 x5 s0 s1 s2 = some z → (Sum.elim (fun (q : gMem × Int32 × Int32) => gGo p l e rX9_reckon s m args below meth c D cy B H0 6 0 0 Q 6 [(0, vR (some x0)), (2, vI x2), (3, vR x3), (4, vI q.2.1), (5, vI q.2.2)] [] q.1) (fun (r : Int32 × gMem) => Q = gMQ below D cy B H0 args s 0 0 (some (vI r.1)) r.2)) z → gGo p l e rX9_reckon s m args below meth c D cy B H0 6 0 0 Q 220 [(0, vR (some x0)), (2, vI x2), (3, vR x3), (4, vI x4), (5, vI x5)] [vI s2, vI s1, vR s0] M := by
  intro M x0 x2 x3 x4 x5 s0 s1 s2 z hf hK
  unfold b_X9_reckon_220 at hf
  obtain ⟨a18, ha18, hf⟩ := dr_e hf
  obtain ⟨hT19, hf⟩ := ck_e hf
  obtain ⟨hg20, hf⟩ := ck_e hf
  refine g_iast X dX9_reckon_220 ha18 hT19 hg20 ?_
  obtain ⟨M21, hM21, hf⟩ := lw_e hf
  rw [← hM21]
  have hT22 : mT M21 a18 = 20 := by rw [hM21]; exact hT19
  refine g_goto (tgt := 268) X dX9_reckon_221 (by decide) ?_
  refine g_sub (lvsub_of _ _ [0, 1, 2, 3, 4] rfl) ?_
  exact t_X9_reckon_268 X hr _ _ _ _ _ _ _ hf hK
set_option maxHeartbeats 4000000 in
set_option maxRecDepth 100000 in
theorem t_X9_reckon_169 (X : gX p s m args meth c D cy B (gSt Z B H0) RX9 cX9_reckon wsX9_reckon 6) (hr : meth.sig.returnType = (some .int)) {Q : State → Prop} : ∀ (M : gMem) (x0 : Nat) (x2 : Int32) (x3 : Option Nat) (x4 : Int32) (x5 : Int32) (z : (gMem × Int32 × Int32) ⊕ (Int32 × gMem)), b_X9_reckon_169 Z M x0 x2 x3 x4 x5 = some z → (Sum.elim (fun (q : gMem × Int32 × Int32) => gGo p l e rX9_reckon s m args below meth c D cy B H0 6 0 0 Q 6 [(0, vR (some x0)), (2, vI x2), (3, vR x3), (4, vI q.2.1), (5, vI q.2.2)] [] q.1) (fun (r : Int32 × gMem) => Q = gMQ below D cy B H0 args s 0 0 (some (vI r.1)) r.2)) z → gGo p l e rX9_reckon s m args below meth c D cy B H0 6 0 0 Q 169 [(0, vR (some x0)), (2, vI x2), (3, vR x3), (4, vI x4), (5, vI x5)] [] M := by
  intro M x0 x2 x3 x4 x5 z hf hK
  unfold b_X9_reckon_169 at hf
  refine g_iload X dX9_reckon_169 rfl ?_
  refine g_iconst (v := (1 : Int32)) X dX9_reckon_171 (by decide) ?_
  refine g_icmp_lt (tgt := 268) X dX9_reckon_172 (by decide) (fun hc => ?_) (fun hc => ?_)
  · have hf := ife_t hc hf
    refine g_sub (lvsub_of _ _ [0, 1, 2, 3, 4] rfl) ?_
    exact t_X9_reckon_268 X hr _ _ _ _ _ _ _ hf hK
  · have hf := ife_f hc hf
    refine g_aload_n X dX9_reckon_175 rfl rfl ?_
    obtain ⟨hT23, hf⟩ := ck_e hf
    refine g_get (ci := 7) (v := vR (mR M x0 3)) 3 X cdX9 i_X9_reckon_X9 (by decide) k_X9_reckon_f21 rfl dX9_reckon_176 rfl hT23 rfl ?_
    refine g_iload X dX9_reckon_179 rfl ?_
    refine g_iconst (v := (1 : Int32)) X dX9_reckon_181 (by decide) ?_
    refine g_isub X dX9_reckon_182 ?_
    refine g_aload_n X dX9_reckon_183 rfl rfl ?_
    refine g_get (ci := 7) (v := vR (mR M x0 1)) 1 X cdX9 i_X9_reckon_X9 (by decide) k_X9_reckon_f11 rfl dX9_reckon_184 rfl hT23 rfl ?_
    refine g_iload X dX9_reckon_187 rfl ?_
    obtain ⟨a24, ha24, hf⟩ := dr_e hf
    obtain ⟨hT25, hf⟩ := ck_e hf
    obtain ⟨hg26, hf⟩ := ck_e hf
    refine g_aald (t0 := 7) X dX9_reckon_189 ha24 hT25 (by decide) rfl hg26 ?_
    refine g_gets (w := vR (some (Z 20))) X (gSt_E X 20 (by decide)) k_X9_reckon_f45 rfl dX9_reckon_190 ?_
    refine g_acmp_ne (tgt := 210) X dX9_reckon_193 (by decide) (fun hc => ?_) (fun hc => ?_)
    · have hf := ife_f hc hf
      refine g_aload_n X dX9_reckon_210 rfl rfl ?_
      refine g_get (ci := 7) (v := vR (mR M x0 3)) 3 X cdX9 i_X9_reckon_X9 (by decide) k_X9_reckon_f21 rfl dX9_reckon_211 rfl hT23 rfl ?_
      refine g_iload X dX9_reckon_214 rfl ?_
      refine g_iconst (v := (1 : Int32)) X dX9_reckon_216 (by decide) ?_
      refine g_isub X dX9_reckon_217 ?_
      obtain ⟨a27, ha27, hf⟩ := dr_e hf
      obtain ⟨hT28, hf⟩ := ck_e hf
      obtain ⟨hg29, hf⟩ := ck_e hf
      refine g_iald X dX9_reckon_218 ha27 hT28 hg29 ?_
      refine g_ineg X dX9_reckon_219 ?_
      refine g_sub (lvsub_of _ _ [0, 1, 2, 3, 4] rfl) ?_
      exact t_X9_reckon_220 X hr _ _ _ _ _ _ _ _ _ _ hf hK
    · have hf := ife_t hc hf
      refine g_iconst (v := (1 : Int32)) X dX9_reckon_196 (by decide) ?_
      refine g_aload_n X dX9_reckon_197 rfl rfl ?_
      refine g_get (ci := 7) (v := vR (mR M x0 3)) 3 X cdX9 i_X9_reckon_X9 (by decide) k_X9_reckon_f21 rfl dX9_reckon_198 rfl hT23 rfl ?_
      refine g_iload X dX9_reckon_201 rfl ?_
      refine g_iconst (v := (1 : Int32)) X dX9_reckon_203 (by decide) ?_
      refine g_isub X dX9_reckon_204 ?_
      obtain ⟨a30, ha30, hf⟩ := dr_e hf
      obtain ⟨hT31, hf⟩ := ck_e hf
      obtain ⟨hg32, hf⟩ := ck_e hf
      refine g_iald X dX9_reckon_205 ha30 hT31 hg32 ?_
      refine g_isub X dX9_reckon_206 ?_
      refine g_goto (tgt := 220) X dX9_reckon_207 (by decide) ?_
      refine g_sub (lvsub_of _ _ [0, 1, 2, 3, 4] rfl) ?_
      exact t_X9_reckon_220 X hr _ _ _ _ _ _ _ _ _ _ hf hK
set_option maxHeartbeats 4000000 in
set_option maxRecDepth 100000 in
theorem t_X9_reckon_128 (X : gX p s m args meth c D cy B (gSt Z B H0) RX9 cX9_reckon wsX9_reckon 6) (hr : meth.sig.returnType = (some .int)) {Q : State → Prop} : ∀ (M : gMem) (x0 : Nat) (x2 : Int32) (x3 : Option Nat) (x4 : Int32) (x5 : Int32) (z : (gMem × Int32 × Int32) ⊕ (Int32 × gMem)), b_X9_reckon_128 Z M x0 x2 x3 x4 x5 = some z → (Sum.elim (fun (q : gMem × Int32 × Int32) => gGo p l e rX9_reckon s m args below meth c D cy B H0 6 0 0 Q 6 [(0, vR (some x0)), (2, vI x2), (3, vR x3), (4, vI q.2.1), (5, vI q.2.2)] [] q.1) (fun (r : Int32 × gMem) => Q = gMQ below D cy B H0 args s 0 0 (some (vI r.1)) r.2)) z → gGo p l e rX9_reckon s m args below meth c D cy B H0 6 0 0 Q 128 [(0, vR (some x0)), (2, vI x2), (3, vR x3), (4, vI x4), (5, vI x5)] [] M := by
  intro M x0 x2 x3 x4 x5 z hf hK
  unfold b_X9_reckon_128 at hf
  refine g_iload X dX9_reckon_128 rfl ?_
  refine g_aload_n X dX9_reckon_130 rfl rfl ?_
  obtain ⟨hT33, hf⟩ := ck_e hf
  refine g_get (ci := 7) (v := vR (mR M x0 3)) 3 X cdX9 i_X9_reckon_X9 (by decide) k_X9_reckon_f21 rfl dX9_reckon_131 rfl hT33 rfl ?_
  obtain ⟨a34, ha34, hf⟩ := dr_e hf
  obtain ⟨hT35, hf⟩ := ck_e hf
  refine g_alen (t0 := 0) X dX9_reckon_134 ha34 hT35 (by decide) rfl ?_
  refine g_icmp_ge (tgt := 268) X dX9_reckon_135 (by decide) (fun hc => ?_) (fun hc => ?_)
  · have hf := ife_t hc hf
    refine g_sub (lvsub_of _ _ [0, 1, 2, 3, 4] rfl) ?_
    exact t_X9_reckon_268 X hr _ _ _ _ _ _ _ hf hK
  · have hf := ife_f hc hf
    refine g_aload_n X dX9_reckon_138 rfl rfl ?_
    refine g_get (ci := 7) (v := vR (mR M x0 3)) 3 X cdX9 i_X9_reckon_X9 (by decide) k_X9_reckon_f21 rfl dX9_reckon_139 rfl hT33 rfl ?_
    refine g_iload X dX9_reckon_142 rfl ?_
    refine g_aload_n X dX9_reckon_144 rfl rfl ?_
    refine g_aload_n X dX9_reckon_145 rfl rfl ?_
    refine g_get (ci := 7) (v := vR (mR M x0 1)) 1 X cdX9 i_X9_reckon_X9 (by decide) k_X9_reckon_f11 rfl dX9_reckon_146 rfl hT33 rfl ?_
    refine g_iload X dX9_reckon_149 rfl ?_
    obtain ⟨a36, ha36, hf⟩ := dr_e hf
    obtain ⟨hT37, hf⟩ := ck_e hf
    obtain ⟨hg38, hf⟩ := ck_e hf
    refine g_aald (t0 := 7) X dX9_reckon_151 ha36 hT37 (by decide) rfl hg38 ?_
    refine g_aload_n X dX9_reckon_152 rfl rfl ?_
    refine g_get (ci := 7) (v := vR (mR M x0 2)) 2 X cdX9 i_X9_reckon_X9 (by decide) k_X9_reckon_f17 rfl dX9_reckon_153 rfl hT33 rfl ?_
    refine g_iload X dX9_reckon_156 rfl ?_
    obtain ⟨a39, ha39, hf⟩ := dr_e hf
    obtain ⟨hT40, hf⟩ := ck_e hf
    obtain ⟨hg41, hf⟩ := ck_e hf
    refine g_iald X dX9_reckon_158 ha39 hT40 hg41 ?_
    obtain ⟨r42, M42, hq42, hf⟩ := bd_e hf
    refine g_callS (As := [vR x3, vR (mR M a36 x5.toNatClampNeg), vI (mI M a39 x5.toNatClampNeg)]) (st := [vI x4, vR (mR M x0 3)]) (v := some (vI r42)) (M1 := M42) X (m_X9_valueOn l hq42) (va_cwS 3 X.2.2.1 gX9_reckon_X9_valueOn rfl rfl rfl (by decide +kernel) ⟨Nat.le_of_ble_eq_true rfl, Nat.le_of_ble_eq_true rfl⟩) rfl rfl (Nat.le_of_ble_eq_true rfl) dX9_reckon_159 ⟨by decide, by decide⟩ ?_
    obtain ⟨hT43, hf⟩ := ck_e hf
    obtain ⟨hg44, hf⟩ := ck_e hf
    refine g_iast X dX9_reckon_162 ha34 hT43 hg44 ?_
    obtain ⟨M45, hM45, hf⟩ := lw_e hf
    rw [← hM45]
    have hT46 : mT M45 a34 = 20 := by rw [hM45]; exact hT43
    refine g_iinc (v := (1 : Int32)) (lv' := [(4, vI (x4 + (1 : Int32))), (0, vR (some x0)), (2, vI x2), (3, vR x3), (5, vI x5)]) X dX9_reckon_163 rfl (by decide) (by decide) rfl ?_
    refine g_goto (tgt := 268) X dX9_reckon_166 (by decide) ?_
    refine g_sub (lvsub_of _ _ [1, 2, 3, 0, 4] rfl) ?_
    exact t_X9_reckon_268 X hr _ _ _ _ _ _ _ hf hK
set_option maxHeartbeats 4000000 in
set_option maxRecDepth 100000 in
theorem tb_X9_reckon_6 (X : gX p s m args meth c D cy B (gSt Z B H0) RX9 cX9_reckon wsX9_reckon 6) (hr : meth.sig.returnType = (some .int)) {Q : State → Prop} : ∀ (M : gMem) (x0 : Nat) (x2 : Int32) (x3 : Option Nat) (x4 : Int32) (x5 : Int32) (z : (gMem × Int32 × Int32) ⊕ (Int32 × gMem)), bb_X9_reckon_6 Z M x0 x2 x3 x4 x5 = some z → (Sum.elim (fun (q : gMem × Int32 × Int32) => gGo p l e rX9_reckon s m args below meth c D cy B H0 6 0 0 Q 6 [(0, vR (some x0)), (2, vI x2), (3, vR x3), (4, vI q.2.1), (5, vI q.2.2)] [] q.1) (fun (r : Int32 × gMem) => Q = gMQ below D cy B H0 args s 0 0 (some (vI r.1)) r.2)) z → gGo p l e rX9_reckon s m args below meth c D cy B H0 6 0 0 Q 6 [(0, vR (some x0)), (2, vI x2), (3, vR x3), (4, vI x4), (5, vI x5)] [] M := by
  intro M x0 x2 x3 x4 x5 z hf hK
  unfold bb_X9_reckon_6 at hf
  refine g_iload X dX9_reckon_6 rfl ?_
  refine g_iload_n X dX9_reckon_8 rfl rfl ?_
  refine g_icmp_ge (tgt := 274) X dX9_reckon_9 (by decide) (fun hc => ?_) (fun hc => ?_)
  · have hf := ife_t hc hf
    obtain ⟨w47, hw47, hz47⟩ := oI_e hf
    subst hz47
    have hf := hw47
    refine g_sub (lvsub_of _ _ [0, 3] rfl) ?_
    exact t_X9_reckon_274 X hr _ _ _ _ hf hK
  · have hf := ife_f hc hf
    refine g_iload X dX9_reckon_12 rfl ?_
    refine g_aload_n X dX9_reckon_14 rfl rfl ?_
    obtain ⟨hT48, hf⟩ := ck_e hf
    refine g_get (ci := 7) (v := vI (mI M x0 0)) 0 X cdX9 i_X9_reckon_X9 (by decide) k_X9_reckon_f28 rfl dX9_reckon_15 rfl hT48 rfl ?_
    refine g_icmp_ge (tgt := 274) X dX9_reckon_18 (by decide) (fun hc => ?_) (fun hc => ?_)
    · have hf := ife_t hc hf
      obtain ⟨w49, hw49, hz49⟩ := oI_e hf
      subst hz49
      have hf := hw49
      refine g_sub (lvsub_of _ _ [0, 3] rfl) ?_
      exact t_X9_reckon_274 X hr _ _ _ _ hf hK
    · have hf := ife_f hc hf
      refine g_gets (w := vR (some (Z 46))) X (gSt_SW X) k_X9_reckon_f32 rfl dX9_reckon_21 ?_
      refine g_aload_n X dX9_reckon_24 rfl rfl ?_
      refine g_get (ci := 7) (v := vR (mR M x0 1)) 1 X cdX9 i_X9_reckon_X9 (by decide) k_X9_reckon_f11 rfl dX9_reckon_25 rfl hT48 rfl ?_
      refine g_iload X dX9_reckon_28 rfl ?_
      obtain ⟨a50, ha50, hf⟩ := dr_e hf
      obtain ⟨hT51, hf⟩ := ck_e hf
      obtain ⟨hg52, hf⟩ := ck_e hf
      refine g_aald (t0 := 7) X dX9_reckon_30 ha50 hT51 (by decide) rfl hg52 ?_
      obtain ⟨o53, ho53, hf⟩ := dr_e hf
      refine g_callU (C := RX8) (owner := "java/lang/Enum") (As := []) (st := [vR (some (Z 46))]) (v := some (vI (nI o53))) X (m_ordinal l (ordZ_lt ho53)) (va_cwU 0 X.2.2.1 gX9_reckon_Jx29ce0_ordinal_8abf5_u37X8 rfl rfl rfl (by decide +kernel) (by decide +kernel) ⟨Nat.le_of_ble_eq_true rfl, Nat.le_of_ble_eq_true rfl⟩) rfl rfl (ordZ_eq ho53) (fun H hW => gO_recv (gSt_O X (ordZ_lt ho53)) hW) (Nat.le_of_ble_eq_true rfl) dX9_reckon_31 ⟨by decide, by decide⟩ ?_
      refine g_ialdT (w := gSw o53) X (gSt_SWt X) rfl (gord_nn (ordZ_lt ho53)) (gord_lt (ordZ_lt ho53)) (gord_sw (ordZ_lt ho53)) dX9_reckon_34 ?_
      by_cases hs54 : (gSw o53) = (5 : Int32)
      · have hf := ife_t hs54 hf
        refine g_tabin (tgt := 169) X dX9_reckon_35 hs54 (by decide) (by decide) rfl (by decide) ?_
        refine g_sub (lvsub_of _ _ [0, 1, 2, 3, 4] rfl) ?_
        exact t_X9_reckon_169 X hr _ _ _ _ _ _ _ hf hK
      · have hf := ife_f hs54 hf
        by_cases hs55 : (gSw o53) = (6 : Int32)
        · have hf := ife_t hs55 hf
          refine g_tabin (tgt := 224) X dX9_reckon_35 hs55 (by decide) (by decide) rfl (by decide) ?_
          refine g_sub (lvsub_of _ _ [0, 1, 2, 3, 4] rfl) ?_
          exact t_X9_reckon_224 X hr _ _ _ _ _ _ _ hf hK
        · have hf := ife_f hs55 hf
          by_cases hs56 : (gSw o53) = (7 : Int32)
          · have hf := ife_t hs56 hf
            refine g_tabin (tgt := 128) X dX9_reckon_35 hs56 (by decide) (by decide) rfl (by decide) ?_
            refine g_sub (lvsub_of _ _ [0, 1, 2, 3, 4] rfl) ?_
            exact t_X9_reckon_128 X hr _ _ _ _ _ _ _ hf hK
          · have hf := ife_f hs56 hf
            by_cases hs57 : (gSw o53) = (8 : Int32)
            · have hf := ife_t hs57 hf
              refine g_tabin (tgt := 224) X dX9_reckon_35 hs57 (by decide) (by decide) rfl (by decide) ?_
              refine g_sub (lvsub_of _ _ [0, 1, 2, 3, 4] rfl) ?_
              exact t_X9_reckon_224 X hr _ _ _ _ _ _ _ hf hK
            · have hf := ife_f hs57 hf
              by_cases hs58 : (gSw o53) = (9 : Int32)
              · have hf := ife_t hs58 hf
                refine g_tabin (tgt := 224) X dX9_reckon_35 hs58 (by decide) (by decide) rfl (by decide) ?_
                refine g_sub (lvsub_of _ _ [0, 1, 2, 3, 4] rfl) ?_
                exact t_X9_reckon_224 X hr _ _ _ _ _ _ _ hf hK
              · have hf := ife_f hs58 hf
                by_cases hs59 : (gSw o53) = (10 : Int32)
                · have hf := ife_t hs59 hf
                  refine g_tabin (tgt := 224) X dX9_reckon_35 hs59 (by decide) (by decide) rfl (by decide) ?_
                  refine g_sub (lvsub_of _ _ [0, 1, 2, 3, 4] rfl) ?_
                  exact t_X9_reckon_224 X hr _ _ _ _ _ _ _ hf hK
                · have hf := ife_f hs59 hf
                  by_cases hs60 : (gSw o53) = (11 : Int32)
                  · have hf := ife_t hs60 hf
                    refine g_tabin (tgt := 224) X dX9_reckon_35 hs60 (by decide) (by decide) rfl (by decide) ?_
                    refine g_sub (lvsub_of _ _ [0, 1, 2, 3, 4] rfl) ?_
                    exact t_X9_reckon_224 X hr _ _ _ _ _ _ _ hf hK
                  · have hf := ife_f hs60 hf
                    by_cases hs61 : (gSw o53) = (12 : Int32)
                    · have hf := ife_t hs61 hf
                      refine g_tabin (tgt := 224) X dX9_reckon_35 hs61 (by decide) (by decide) rfl (by decide) ?_
                      refine g_sub (lvsub_of _ _ [0, 1, 2, 3, 4] rfl) ?_
                      exact t_X9_reckon_224 X hr _ _ _ _ _ _ _ hf hK
                    · have hf := ife_f hs61 hf
                      by_cases hs62 : (gSw o53) = (13 : Int32)
                      · have hf := ife_t hs62 hf
                        refine g_tabin (tgt := 128) X dX9_reckon_35 hs62 (by decide) (by decide) rfl (by decide) ?_
                        refine g_sub (lvsub_of _ _ [0, 1, 2, 3, 4] rfl) ?_
                        exact t_X9_reckon_128 X hr _ _ _ _ _ _ _ hf hK
                      · have hf := ife_f hs62 hf
                        by_cases hs63 : (gSw o53) = (14 : Int32)
                        · have hf := ife_t hs63 hf
                          refine g_tabin (tgt := 128) X dX9_reckon_35 hs63 (by decide) (by decide) rfl (by decide) ?_
                          refine g_sub (lvsub_of _ _ [0, 1, 2, 3, 4] rfl) ?_
                          exact t_X9_reckon_128 X hr _ _ _ _ _ _ _ hf hK
                        · have hf := ife_f hs63 hf
                          by_cases hs64 : (gSw o53) = (15 : Int32)
                          · have hf := ife_t hs64 hf
                            refine g_tabin (tgt := 128) X dX9_reckon_35 hs64 (by decide) (by decide) rfl (by decide) ?_
                            refine g_sub (lvsub_of _ _ [0, 1, 2, 3, 4] rfl) ?_
                            exact t_X9_reckon_128 X hr _ _ _ _ _ _ _ hf hK
                          · have hf := ife_f hs64 hf
                            by_cases hs65 : (gSw o53) = (16 : Int32)
                            · have hf := ife_t hs65 hf
                              refine g_tabin (tgt := 128) X dX9_reckon_35 hs65 (by decide) (by decide) rfl (by decide) ?_
                              refine g_sub (lvsub_of _ _ [0, 1, 2, 3, 4] rfl) ?_
                              exact t_X9_reckon_128 X hr _ _ _ _ _ _ _ hf hK
                            · have hf := ife_f hs65 hf
                              by_cases hs66 : (gSw o53) = (17 : Int32)
                              · have hf := ife_t hs66 hf
                                refine g_tabin (tgt := 128) X dX9_reckon_35 hs66 (by decide) (by decide) rfl (by decide) ?_
                                refine g_sub (lvsub_of _ _ [0, 1, 2, 3, 4] rfl) ?_
                                exact t_X9_reckon_128 X hr _ _ _ _ _ _ _ hf hK
                              · have hf := ife_f hs66 hf
                                by_cases hs67 : (gSw o53) = (18 : Int32)
                                · have hf := ife_t hs67 hf
                                  refine g_tabin (tgt := 128) X dX9_reckon_35 hs67 (by decide) (by decide) rfl (by decide) ?_
                                  refine g_sub (lvsub_of _ _ [0, 1, 2, 3, 4] rfl) ?_
                                  exact t_X9_reckon_128 X hr _ _ _ _ _ _ _ hf hK
                                · have hf := ife_f hs67 hf
                                  by_cases hs68 : (gSw o53) = (19 : Int32)
                                  · have hf := ife_t hs68 hf
                                    refine g_tabin (tgt := 128) X dX9_reckon_35 hs68 (by decide) (by decide) rfl (by decide) ?_
                                    refine g_sub (lvsub_of _ _ [0, 1, 2, 3, 4] rfl) ?_
                                    exact t_X9_reckon_128 X hr _ _ _ _ _ _ _ hf hK
                                  · have hf := ife_f hs68 hf
                                    by_cases hs69 : (gSw o53) = (20 : Int32)
                                    · have hf := ife_t hs69 hf
                                      refine g_tabin (tgt := 224) X dX9_reckon_35 hs69 (by decide) (by decide) rfl (by decide) ?_
                                      refine g_sub (lvsub_of _ _ [0, 1, 2, 3, 4] rfl) ?_
                                      exact t_X9_reckon_224 X hr _ _ _ _ _ _ _ hf hK
                                    · have hf := ife_f hs69 hf
                                      by_cases hs70 : (gSw o53) = (21 : Int32)
                                      · have hf := ife_t hs70 hf
                                        refine g_tabin (tgt := 224) X dX9_reckon_35 hs70 (by decide) (by decide) rfl (by decide) ?_
                                        refine g_sub (lvsub_of _ _ [0, 1, 2, 3, 4] rfl) ?_
                                        exact t_X9_reckon_224 X hr _ _ _ _ _ _ _ hf hK
                                      · have hf := ife_f hs70 hf
                                        by_cases hs71 : (gSw o53) = (22 : Int32)
                                        · have hf := ife_t hs71 hf
                                          refine g_tabin (tgt := 224) X dX9_reckon_35 hs71 (by decide) (by decide) rfl (by decide) ?_
                                          refine g_sub (lvsub_of _ _ [0, 1, 2, 3, 4] rfl) ?_
                                          exact t_X9_reckon_224 X hr _ _ _ _ _ _ _ hf hK
                                        · have hf := ife_f hs71 hf
                                          by_cases hs72 : (gSw o53) = (23 : Int32)
                                          · have hf := ife_t hs72 hf
                                            refine g_tabin (tgt := 224) X dX9_reckon_35 hs72 (by decide) (by decide) rfl (by decide) ?_
                                            refine g_sub (lvsub_of _ _ [0, 1, 2, 3, 4] rfl) ?_
                                            exact t_X9_reckon_224 X hr _ _ _ _ _ _ _ hf hK
                                          · have hf := ife_f hs72 hf
                                            by_cases hs73 : (gSw o53) = (24 : Int32)
                                            · have hf := ife_t hs73 hf
                                              refine g_tabin (tgt := 169) X dX9_reckon_35 hs73 (by decide) (by decide) rfl (by decide) ?_
                                              refine g_sub (lvsub_of _ _ [0, 1, 2, 3, 4] rfl) ?_
                                              exact t_X9_reckon_169 X hr _ _ _ _ _ _ _ hf hK
                                            · have hf := ife_f hs73 hf
                                              refine g_tabout (tgt := 224) X dX9_reckon_35 (gtab_out 20 (5) (by decide) (by decide) (fun i hi => match i, hi with | 0, _ => fun e => hs54 (e.trans (by decide)) | 1, _ => fun e => hs55 (e.trans (by decide)) | 2, _ => fun e => hs56 (e.trans (by decide)) | 3, _ => fun e => hs57 (e.trans (by decide)) | 4, _ => fun e => hs58 (e.trans (by decide)) | 5, _ => fun e => hs59 (e.trans (by decide)) | 6, _ => fun e => hs60 (e.trans (by decide)) | 7, _ => fun e => hs61 (e.trans (by decide)) | 8, _ => fun e => hs62 (e.trans (by decide)) | 9, _ => fun e => hs63 (e.trans (by decide)) | 10, _ => fun e => hs64 (e.trans (by decide)) | 11, _ => fun e => hs65 (e.trans (by decide)) | 12, _ => fun e => hs66 (e.trans (by decide)) | 13, _ => fun e => hs67 (e.trans (by decide)) | 14, _ => fun e => hs68 (e.trans (by decide)) | 15, _ => fun e => hs69 (e.trans (by decide)) | 16, _ => fun e => hs70 (e.trans (by decide)) | 17, _ => fun e => hs71 (e.trans (by decide)) | 18, _ => fun e => hs72 (e.trans (by decide)) | 19, _ => fun e => hs73 (e.trans (by decide)) | i + 20, h => absurd h (by omega))) (by decide) ?_
                                              refine g_sub (lvsub_of _ _ [0, 1, 2, 3, 4] rfl) ?_
                                              exact t_X9_reckon_224 X hr _ _ _ _ _ _ _ hf hK
set_option maxHeartbeats 4000000 in
set_option maxRecDepth 100000 in
theorem tl_X9_reckon_6 (X : gX p s m args meth c D cy B (gSt Z B H0) RX9 cX9_reckon wsX9_reckon 6) (hr : meth.sig.returnType = (some .int)) {Q : State → Prop} : ∀ (M : gMem) (x0 : Nat) (x2 : Int32) (x3 : Option Nat) (x4 : Int32) (x5 : Int32) (z : Int32 × gMem), lp_X9_reckon_6 Z M x0 x2 x3 x4 x5 = some z → (fun (r : Int32 × gMem) => Q = gMQ below D cy B H0 args s 0 0 (some (vI r.1)) r.2) z → gGo p l e rX9_reckon s m args below meth c D cy B H0 6 0 0 Q 6 [(0, vR (some x0)), (2, vI x2), (3, vR x3), (4, vI x4), (5, vI x5)] [] M := by
  intro M x0 x2 x3 x4 x5 z hf hK
  refine lp_ind (P := (fun (q : gMem × Int32 × Int32) (z : Int32 × gMem) => (fun (r : Int32 × gMem) => Q = gMQ below D cy B H0 args s 0 0 (some (vI r.1)) r.2) z → gGo p l e rX9_reckon s m args below meth c D cy B H0 6 0 0 Q 6 [(0, vR (some x0)), (2, vI x2), (3, vR x3), (4, vI q.2.1), (5, vI q.2.2)] [] q.1)) (fun q z hq => ?_) _ _ hf hK
  intro hK
  obtain ⟨w, hw, hm⟩ := hq
  refine tb_X9_reckon_6 X hr _ _ _ _ _ _ w hw ?_
  cases w with
  | inl a => exact hm hK
  | inr b => cases hm; exact hK
set_option maxHeartbeats 4000000 in
set_option maxRecDepth 100000 in
theorem t_X9_reckon_0 (X : gX p s m args meth c D cy B (gSt Z B H0) RX9 cX9_reckon wsX9_reckon 6) (hr : meth.sig.returnType = (some .int)) {Q : State → Prop} : ∀ (M : gMem) (x0 : Nat) (x1 : Int32) (x2 : Int32) (x3 : Option Nat) (z : Int32 × gMem), b_X9_reckon_0 Z M x0 x1 x2 x3 = some z → (fun (r : Int32 × gMem) => Q = gMQ below D cy B H0 args s 0 0 (some (vI r.1)) r.2) z → gGo p l e rX9_reckon s m args below meth c D cy B H0 6 0 0 Q 0 [(0, vR (some x0)), (1, vI x1), (2, vI x2), (3, vR x3)] [] M := by
  intro M x0 x1 x2 x3 z hf hK
  unfold b_X9_reckon_0 at hf
  refine g_iconst (v := (0 : Int32)) X dX9_reckon_0 (by decide) ?_
  refine g_istore (lv' := [(4, vI (0 : Int32)), (0, vR (some x0)), (1, vI x1), (2, vI x2), (3, vR x3)]) X dX9_reckon_1 (by decide) rfl ?_
  refine g_iload_n X dX9_reckon_3 rfl rfl ?_
  refine g_istore (lv' := [(5, vI x1), (4, vI (0 : Int32)), (0, vR (some x0)), (1, vI x1), (2, vI x2), (3, vR x3)]) X dX9_reckon_4 (by decide) rfl ?_
  refine g_sub (lvsub_of _ _ [2, 4, 5, 1, 0] rfl) ?_
  exact tl_X9_reckon_6 X hr _ _ _ _ _ _ _ hf hK
set_option maxHeartbeats 4000000 in
set_option maxRecDepth 100000 in
theorem m_X9_reckon (l : Launch) {D : va_G} {cy : Nat → ClassId} {B : Nat} {H0 : Heap} {Z : Nat → Nat} {M M1 : gMem} {x0 : Nat} {x1 : Int32} {x2 : Int32} {x3 : Option Nat} {r : Int32} (hf : f_X9_reckon Z M x0 x1 x2 x3 = some (r, M1)) : Met l yX9_reckon wsX9_reckon rX9_reckon (va_Pc (Value.ref x0 :: List.map gv [vI x1, vI x2, vR x3]) (gPre D cy B H0 (gSt Z B H0) M)) (gQ D cy B H0 (some (vI r)) M1) 0 0 (gA B) := by
  refine Met.ofW (cc := cX9_reckon) (maxL := 6) (ret := (some .int)) (by decide) rfl ?_
  intro p e s m args below meth c s₁ Bd hml hv
  obtain ⟨rfl, hW, hKK, hFs⟩ := hv
  have X : gX p s m _ meth c D cy B (gSt Z B H0) RX9 cX9_reckon wsX9_reckon 6 := ⟨Bd.exec, Bd.bytes, atoms_spec (ws := wsX9_reckon) Bd.pre, findClass_of_methodNamed Bd.named, hml, hKK, by rw [hW.1]; exact hW.2.1, Bd.notSynchronized, hFs⟩
  have hr := Bd.returns
  rcases x3 with _ | x3
  · have hl := lv_entry ([.ref x0, .int x1, .int x2, .null]) (n := 6) (Nat.le_of_ble_eq_true rfl)
    show W p l e rX9_reckon s m _ below meth c s.heap [] 0 0 _ (entryFrame m ([.ref x0, .int x1, .int x2, .null] : List Value).toArray 6)
    rw [lg_entry_eq]
    generalize (lg_sl ([.ref x0, .int x1, .int x2, .null]) ++ List.replicate (6 - (lg_sl ([.ref x0, .int x1, .int x2, .null])).length) Slot.unset).toArray = ls at hl ⊢
    have hl : lv_has ls 6 (List.map gq [(0, vR (some x0)), (1, vI x1), (2, vI x2), (3, vR none)]) := hl
    exact t_X9_reckon_0 X hr _ _ _ _ _ _ hf rfl s.heap [] ls hW va_S.rf (lv_has_sub hl (lvsub_of _ _ [0, 1, 2, 3] rfl))
  · have hl := lv_entry ([.ref x0, .int x1, .int x2, .ref x3]) (n := 6) (Nat.le_of_ble_eq_true rfl)
    show W p l e rX9_reckon s m _ below meth c s.heap [] 0 0 _ (entryFrame m ([.ref x0, .int x1, .int x2, .ref x3] : List Value).toArray 6)
    rw [lg_entry_eq]
    generalize (lg_sl ([.ref x0, .int x1, .int x2, .ref x3]) ++ List.replicate (6 - (lg_sl ([.ref x0, .int x1, .int x2, .ref x3])).length) Slot.unset).toArray = ls at hl ⊢
    have hl : lv_has ls 6 (List.map gq [(0, vR (some x0)), (1, vI x1), (2, vI x2), (3, vR (some x3))]) := hl
    exact t_X9_reckon_0 X hr _ _ _ _ _ _ hf rfl s.heap [] ls hW va_S.rf (lv_has_sub hl (lvsub_of _ _ [0, 1, 2, 3] rfl))
end
