section
variable {p : Program} {l : Launch} {e : Env} {s : State} {m : MethodId} {args : Array Value} {below : List Frame} {meth : Method} {c : Code} {D : va_G} {cy : Nat → ClassId} {B : Nat} {H0 : Heap} {Z : Nat → Nat}
/-! ## TideLots$Reader.read()I -/
theorem dX6_read_0 : decode cX6_read 0 = .ok (.aload_n 0, 1) := by decide +kernel
theorem dX6_read_1 : decode cX6_read 1 = .ok (.getfield 34, 3) := by decide +kernel
theorem dX6_read_4 : decode cX6_read 4 = .ok (.invokevirtual 38, 3) := by decide +kernel
theorem dX6_read_7 : decode cX6_read 7 = .ok (.iconst 1, 1) := by decide +kernel
theorem dX6_read_8 : decode cX6_read 8 = .ok (.istore_n 1, 1) := by decide +kernel
theorem dX6_read_9 : decode cX6_read 9 = .ok (.iconst 0, 1) := by decide +kernel
theorem dX6_read_10 : decode cX6_read 10 = .ok (.istore_n 2, 1) := by decide +kernel
theorem dX6_read_11 : decode cX6_read 11 = .ok (.iload_n 2, 1) := by decide +kernel
theorem dX6_read_12 : decode cX6_read 12 = .ok (.sipush 400, 3) := by decide +kernel
theorem dX6_read_15 : decode cX6_read 15 = .ok (.if_icmp .ge 117, 3) := by decide +kernel
theorem dX6_read_18 : decode cX6_read 18 = .ok (.iload_n 1, 1) := by decide +kernel
theorem dX6_read_19 : decode cX6_read 19 = .ok (.ifCond .eq 113, 3) := by decide +kernel
theorem dX6_read_22 : decode cX6_read 22 = .ok (.aload_n 0, 1) := by decide +kernel
theorem dX6_read_23 : decode cX6_read 23 = .ok (.invokevirtual 43, 3) := by decide +kernel
theorem dX6_read_26 : decode cX6_read 26 = .ok (.getstatic 47, 3) := by decide +kernel
theorem dX6_read_29 : decode cX6_read 29 = .ok (.if_acmp .eq 103, 3) := by decide +kernel
theorem dX6_read_32 : decode cX6_read 32 = .ok (.getstatic 53, 3) := by decide +kernel
theorem dX6_read_35 : decode cX6_read 35 = .ok (.aload_n 0, 1) := by decide +kernel
theorem dX6_read_36 : decode cX6_read 36 = .ok (.invokevirtual 43, 3) := by decide +kernel
theorem dX6_read_39 : decode cX6_read 39 = .ok (.invokevirtual 59, 3) := by decide +kernel
theorem dX6_read_42 : decode cX6_read 42 = .ok (.iaload, 1) := by decide +kernel
theorem dX6_read_43 : decode cX6_read 43 = .ok (.tableswitch 61 1 4 #[29, 37, 45, 53], 29) := by decide +kernel
theorem dX6_read_72 : decode cX6_read 72 = .ok (.aload_n 0, 1) := by decide +kernel
theorem dX6_read_73 : decode cX6_read 73 = .ok (.invokevirtual 63, 3) := by decide +kernel
theorem dX6_read_76 : decode cX6_read 76 = .ok (.istore_n 1, 1) := by decide +kernel
theorem dX6_read_77 : decode cX6_read 77 = .ok (.goto 29, 3) := by decide +kernel
theorem dX6_read_80 : decode cX6_read 80 = .ok (.aload_n 0, 1) := by decide +kernel
theorem dX6_read_81 : decode cX6_read 81 = .ok (.invokevirtual 67, 3) := by decide +kernel
theorem dX6_read_84 : decode cX6_read 84 = .ok (.istore_n 1, 1) := by decide +kernel
theorem dX6_read_85 : decode cX6_read 85 = .ok (.goto 21, 3) := by decide +kernel
theorem dX6_read_88 : decode cX6_read 88 = .ok (.aload_n 0, 1) := by decide +kernel
theorem dX6_read_89 : decode cX6_read 89 = .ok (.invokevirtual 70, 3) := by decide +kernel
theorem dX6_read_92 : decode cX6_read 92 = .ok (.istore_n 1, 1) := by decide +kernel
theorem dX6_read_93 : decode cX6_read 93 = .ok (.goto 13, 3) := by decide +kernel
theorem dX6_read_96 : decode cX6_read 96 = .ok (.aload_n 0, 1) := by decide +kernel
theorem dX6_read_97 : decode cX6_read 97 = .ok (.invokevirtual 73, 3) := by decide +kernel
theorem dX6_read_100 : decode cX6_read 100 = .ok (.istore_n 1, 1) := by decide +kernel
theorem dX6_read_101 : decode cX6_read 101 = .ok (.goto 5, 3) := by decide +kernel
theorem dX6_read_104 : decode cX6_read 104 = .ok (.iconst 0, 1) := by decide +kernel
theorem dX6_read_105 : decode cX6_read 105 = .ok (.istore_n 1, 1) := by decide +kernel
theorem dX6_read_106 : decode cX6_read 106 = .ok (.iload_n 1, 1) := by decide +kernel
theorem dX6_read_107 : decode cX6_read 107 = .ok (.ifCond .eq 17, 3) := by decide +kernel
theorem dX6_read_110 : decode cX6_read 110 = .ok (.aload_n 0, 1) := by decide +kernel
theorem dX6_read_111 : decode cX6_read 111 = .ok (.getstatic 76, 3) := by decide +kernel
theorem dX6_read_114 : decode cX6_read 114 = .ok (.invokevirtual 79, 3) := by decide +kernel
theorem dX6_read_117 : decode cX6_read 117 = .ok (.ifCond .eq 7, 3) := by decide +kernel
theorem dX6_read_120 : decode cX6_read 120 = .ok (.iconst 1, 1) := by decide +kernel
theorem dX6_read_121 : decode cX6_read 121 = .ok (.goto 4, 3) := by decide +kernel
theorem dX6_read_124 : decode cX6_read 124 = .ok (.iconst 0, 1) := by decide +kernel
theorem dX6_read_125 : decode cX6_read 125 = .ok (.istore_n 1, 1) := by decide +kernel
theorem dX6_read_126 : decode cX6_read 126 = .ok (.iinc 2 1, 3) := by decide +kernel
theorem dX6_read_129 : decode cX6_read 129 = .ok (.goto (-118), 3) := by decide +kernel
theorem dX6_read_132 : decode cX6_read 132 = .ok (.iload_n 1, 1) := by decide +kernel
theorem dX6_read_133 : decode cX6_read 133 = .ok (.ifCond .ne 24, 3) := by decide +kernel
theorem dX6_read_136 : decode cX6_read 136 = .ok (.aload_n 0, 1) := by decide +kernel
theorem dX6_read_137 : decode cX6_read 137 = .ok (.iconst 1, 1) := by decide +kernel
theorem dX6_read_138 : decode cX6_read 138 = .ok (.putfield 83, 3) := by decide +kernel
theorem dX6_read_141 : decode cX6_read 141 = .ok (.aload_n 0, 1) := by decide +kernel
theorem dX6_read_142 : decode cX6_read 142 = .ok (.aload_n 0, 1) := by decide +kernel
theorem dX6_read_143 : decode cX6_read 143 = .ok (.getfield 30, 3) := by decide +kernel
theorem dX6_read_146 : decode cX6_read 146 = .ok (.getfield 86, 3) := by decide +kernel
theorem dX6_read_149 : decode cX6_read 149 = .ok (.aload_n 0, 1) := by decide +kernel
theorem dX6_read_150 : decode cX6_read 150 = .ok (.getfield 91, 3) := by decide +kernel
theorem dX6_read_153 : decode cX6_read 153 = .ok (.iaload, 1) := by decide +kernel
theorem dX6_read_154 : decode cX6_read 154 = .ok (.putfield 9, 3) := by decide +kernel
theorem dX6_read_157 : decode cX6_read 157 = .ok (.aload_n 0, 1) := by decide +kernel
theorem dX6_read_158 : decode cX6_read 158 = .ok (.getfield 83, 3) := by decide +kernel
theorem dX6_read_161 : decode cX6_read 161 = .ok (.ireturn, 1) := by decide +kernel
set_option maxRecDepth 20000 in
theorem ggX6_read_X6_take : GoodIn wsX6_read wsX6_take := goodIn_r _ [48, 8, 6, 26, 251, 252, 253, 254, 255, 256, 257, 258, 259, 260, 261, 262, 263, 264, 265] (by decide +kernel) (by decide +kernel)
set_option maxRecDepth 20000 in
theorem gX6_read_X6_take : GoodIn wsX6_read (wsV RX6 79 RX6 yX6_take wsX6_take) := goodIn_app (goodIn_of _ (by decide +kernel)) ggX6_read_X6_take
set_option maxRecDepth 20000 in
theorem ggX6_read_X6_sign : GoodIn wsX6_read wsX6_sign := goodIn_r _ [25, 6, 26, 8, 251, 252, 253, 254, 255, 256, 257, 258, 259, 260, 261, 262, 263, 264, 265] (by decide +kernel) (by decide +kernel)
set_option maxRecDepth 20000 in
theorem gX6_read_X6_sign : GoodIn wsX6_read (wsV RX6 43 RX6 yX6_sign wsX6_sign) := goodIn_app (goodIn_of _ (by decide +kernel)) ggX6_read_X6_sign
set_option maxRecDepth 20000 in
theorem ggX6_read_Jx29ce0_ordinal_8abf5 : GoodIn wsX6_read wsJx29ce0_ordinal_8abf5 := goodIn_r _ [32, 33] (by decide +kernel) (by decide +kernel)
set_option maxRecDepth 20000 in
theorem gX6_read_Jx29ce0_ordinal_8abf5_u59X8 : GoodIn wsX6_read (va_wsU RX6 59 RX8 "java/lang/Enum" ⟨"TideLots$Sign", "ordinal", "()I"⟩ yJx29ce0_ordinal_8abf5 wsJx29ce0_ordinal_8abf5) := goodIn_app (goodIn_of _ (by decide +kernel)) ggX6_read_Jx29ce0_ordinal_8abf5
set_option maxRecDepth 20000 in
theorem ggX6_read_X6_groundLine : GoodIn wsX6_read wsX6_groundLine := goodIn_2 24 (goodIn_r _ [37, 38, 39, 1, 40, 41, 42, 43, 44, 45, 46, 47, 24, 48, 8, 6, 26, 49, 50, 51, 52, 53, 54, 21] (by decide +kernel) (by decide +kernel)) (goodIn_2 24 (goodIn_r _ [22, 23, 25, 55, 56, 57, 58, 59, 60, 61, 62, 63, 64, 65, 5, 7, 9, 66, 67, 68, 69, 70, 71, 72] (by decide +kernel) (by decide +kernel)) (goodIn_2 24 (goodIn_r _ [13, 73, 15, 74, 75, 76, 77, 78, 79, 80, 81, 82, 83, 84, 85, 86, 87, 88, 89, 90, 91, 92, 93, 94] (by decide +kernel) (by decide +kernel)) (goodIn_2 24 (goodIn_r _ [95, 96, 97, 98, 251, 252, 253, 254, 255, 256, 257, 258, 259, 287, 288, 289, 290, 260, 261, 262, 263, 264, 265, 291] (by decide +kernel) (by decide +kernel)) (goodIn_r _ [292, 266, 267, 268, 269, 270, 271, 272, 273, 274, 275, 276, 277, 278, 279, 280, 281, 282] (by decide +kernel) (by decide +kernel)))))
set_option maxRecDepth 20000 in
theorem gX6_read_X6_groundLine : GoodIn wsX6_read (wsV RX6 63 RX6 yX6_groundLine wsX6_groundLine) := goodIn_app (goodIn_of _ (by decide +kernel)) ggX6_read_X6_groundLine
set_option maxRecDepth 20000 in
theorem ggX6_read_X6_fisherLine : GoodIn wsX6_read wsX6_fisherLine := goodIn_2 24 (goodIn_r _ [102, 103, 104, 1, 105, 41, 106, 107, 108, 109, 110, 111, 45, 46, 47, 24, 48, 8, 6, 26, 49, 50, 51, 52] (by decide +kernel) (by decide +kernel)) (goodIn_2 24 (goodIn_r _ [53, 54, 21, 22, 23, 25, 55, 56, 57, 58, 59, 60, 61, 62, 63, 64, 65, 5, 7, 9, 66, 67, 68, 69] (by decide +kernel) (by decide +kernel)) (goodIn_2 24 (goodIn_r _ [112, 113, 114, 13, 115, 16, 74, 75, 76, 77, 116, 117, 118, 119, 120, 121, 122, 123, 124, 125, 126, 127, 128, 129] (by decide +kernel) (by decide +kernel)) (goodIn_2 24 (goodIn_r _ [130, 131, 132, 133, 89, 90, 91, 92, 93, 251, 252, 253, 254, 255, 256, 257, 258, 259, 293, 294, 295, 296, 297, 298] (by decide +kernel) (by decide +kernel)) (goodIn_2 24 (goodIn_r _ [299, 300, 301, 302, 303, 260, 261, 262, 263, 264, 265, 291, 292, 266, 267, 268, 269, 270, 271, 272, 273, 274, 275, 276] (by decide +kernel) (by decide +kernel)) (goodIn_r _ [277, 278, 279, 280, 281, 282] (by decide +kernel) (by decide +kernel))))))
set_option maxRecDepth 20000 in
theorem gX6_read_X6_fisherLine : GoodIn wsX6_read (wsV RX6 67 RX6 yX6_fisherLine wsX6_fisherLine) := goodIn_app (goodIn_of _ (by decide +kernel)) ggX6_read_X6_fisherLine
set_option maxRecDepth 20000 in
theorem ggX6_read_X6_goLine : GoodIn wsX6_read wsX6_goLine := goodIn_2 24 (goodIn_r _ [137, 1, 138, 139, 104, 41, 140, 141, 39, 142, 143, 144, 145, 146, 147, 62, 63, 64, 24, 65, 5, 6, 7, 8] (by decide +kernel) (by decide +kernel)) (goodIn_2 24 (goodIn_r _ [9, 148, 149, 150, 13, 151, 17, 74, 75, 76, 77, 152, 45, 46, 47, 48, 26, 153, 154, 155, 156, 53, 54, 21] (by decide +kernel) (by decide +kernel)) (goodIn_2 24 (goodIn_r _ [22, 23, 25, 55, 56, 57, 58, 59, 60, 61, 157, 158, 159, 160, 161, 162, 163, 164, 165, 166, 167, 168, 169, 170] (by decide +kernel) (by decide +kernel)) (goodIn_2 24 (goodIn_r _ [171, 172, 173, 174, 175, 176, 177, 178, 3, 179, 180, 181, 182, 27, 28, 29, 30, 31, 32, 33, 183, 184, 185, 186] (by decide +kernel) (by decide +kernel)) (goodIn_2 24 (goodIn_r _ [187, 188, 189, 190, 191, 192, 193, 194, 195, 196, 197, 198, 199, 200, 201, 202, 44, 89, 90, 91, 92, 93, 203, 204] (by decide +kernel) (by decide +kernel)) (goodIn_2 24 (goodIn_r _ [205, 206, 251, 252, 253, 254, 255, 256, 257, 258, 259, 266, 267, 268, 269, 270, 271, 272, 273, 274, 275, 276, 277, 278] (by decide +kernel) (by decide +kernel)) (goodIn_r _ [279, 280, 281, 282, 304, 305, 306, 307, 283, 284, 285, 286, 260, 261, 262, 263, 264, 265, 291, 292] (by decide +kernel) (by decide +kernel)))))))
set_option maxRecDepth 20000 in
theorem gX6_read_X6_goLine : GoodIn wsX6_read (wsV RX6 70 RX6 yX6_goLine wsX6_goLine) := goodIn_app (goodIn_of _ (by decide +kernel)) ggX6_read_X6_goLine
set_option maxRecDepth 20000 in
theorem ggX6_read_X6_pactLine : GoodIn wsX6_read wsX6_pactLine := goodIn_2 24 (goodIn_r _ [210, 211, 212, 1, 213, 44, 214, 215, 39, 41, 216, 143, 144, 217, 218, 219, 45, 46, 47, 24, 48, 8, 6, 26] (by decide +kernel) (by decide +kernel)) (goodIn_2 24 (goodIn_r _ [49, 50, 51, 52, 53, 54, 21, 22, 23, 25, 55, 56, 57, 58, 59, 60, 61, 62, 63, 64, 65, 5, 7, 9] (by decide +kernel) (by decide +kernel)) (goodIn_2 24 (goodIn_r _ [66, 67, 68, 69, 220, 221, 222, 13, 223, 18, 74, 75, 76, 77, 224, 225, 226, 227, 228, 229, 230, 231, 232, 233] (by decide +kernel) (by decide +kernel)) (goodIn_2 24 (goodIn_r _ [234, 235, 236, 237, 238, 239, 240, 241, 242, 104, 243, 244, 245, 246, 153, 154, 155, 156, 247, 248, 249, 250, 183, 184] (by decide +kernel) (by decide +kernel)) (goodIn_2 24 (goodIn_r _ [185, 186, 187, 188, 189, 190, 191, 165, 166, 167, 168, 169, 170, 171, 172, 192, 193, 194, 195, 196, 197, 198, 3, 199] (by decide +kernel) (by decide +kernel)) (goodIn_2 24 (goodIn_r _ [200, 201, 202, 27, 28, 29, 30, 31, 32, 33, 89, 90, 91, 92, 93, 251, 252, 253, 254, 255, 256, 257, 258, 259] (by decide +kernel) (by decide +kernel)) (goodIn_2 24 (goodIn_r _ [308, 309, 310, 311, 312, 313, 314, 315, 266, 267, 268, 269, 270, 271, 272, 273, 274, 275, 276, 277, 278, 279, 280, 281] (by decide +kernel) (by decide +kernel)) (goodIn_r _ [282, 283, 284, 285, 286, 260, 261, 262, 263, 264, 265, 291, 292] (by decide +kernel) (by decide +kernel))))))))
set_option maxRecDepth 20000 in
theorem gX6_read_X6_pactLine : GoodIn wsX6_read (wsV RX6 73 RX6 yX6_pactLine wsX6_pactLine) := goodIn_app (goodIn_of _ (by decide +kernel)) ggX6_read_X6_pactLine
set_option maxRecDepth 20000 in
theorem ggX6_read_X7_forget : GoodIn wsX6_read wsX7_forget := goodIn_r _ [14, 15, 16, 17, 18, 19, 20, 266, 267, 268, 269, 270, 271, 272, 273, 274, 275, 276, 277, 278, 279, 280, 281, 282, 283, 284, 285, 286] (by decide +kernel) (by decide +kernel)
set_option maxRecDepth 20000 in
theorem gX6_read_X7_forget : GoodIn wsX6_read (wsV RX6 38 RX7 yX7_forget wsX7_forget) := goodIn_app (goodIn_of _ (by decide +kernel)) ggX6_read_X7_forget
theorem k_X6_read_f83 : Cond.fieldLink RX6 83 "TideLots$Reader" "error" "I" ∈ wsX6_read := by decide +kernel
theorem i_X6_read_X6 : ∀ w ∈ u_ws RX6 TX6 9, w ∈ wsX6_read := by decide +kernel
theorem k_X6_read_f30 : Cond.fieldLink RX6 30 "TideLots$Reader" "tape" "LTideLots$Tape;" ∈ wsX6_read := by decide +kernel
theorem k_X6_read_f86 : Cond.fieldLink RX6 86 "TideLots$Tape" "starts" "[I" ∈ wsX6_read := by decide +kernel
theorem i_X6_read_X10 : ∀ w ∈ u_ws RX10 TX10 6, w ∈ wsX6_read := by decide +kernel
theorem k_X6_read_f91 : Cond.fieldLink RX6 91 "TideLots$Reader" "at" "I" ∈ wsX6_read := by decide +kernel
theorem k_X6_read_f9 : Cond.fieldLink RX6 9 "TideLots$Reader" "errorAt" "I" ∈ wsX6_read := by decide +kernel
theorem k_X6_read_f76 : Cond.fieldLink RX6 76 "TideLots$Sign" "SEMICOLON" "LTideLots$Sign;" ∈ wsX6_read := by decide +kernel
theorem k_X6_read_f47 : Cond.fieldLink RX6 47 "TideLots$Sign" "END" "LTideLots$Sign;" ∈ wsX6_read := by decide +kernel
theorem k_X6_read_f53 : Cond.fieldLink RX6 53 "TideLots$1" "$SwitchMap$TideLots$Sign" "[I" ∈ wsX6_read := by decide +kernel
theorem k_X6_read_f34 : Cond.fieldLink RX6 34 "TideLots$Reader" "built" "LTideLots$Shore;" ∈ wsX6_read := by decide +kernel
abbrev rX6_read : Room := { frames := 68, cells := 0, slots := 0, locals := 2649 }
noncomputable def b_X6_read_157 (Z : Nat → Nat) (M : gMem) (x0 : Nat) : Option (Int32 × gMem) :=
  ck (mT M x0 = 6) <| some ((mI M x0 7), M)
noncomputable def b_X6_read_132 (Z : Nat → Nat) (M : gMem) (x0 : Nat) (x1 : Int32) : Option (Int32 × gMem) :=
  (if x1 = 0 then ck (mT M x0 = 6) <| lw (wI M x0 7 ((1 : Int32))) fun M3 => dr ((mR M3 x0 1)) fun a5 => ck (mT M3 a5 = 9) <| dr ((mR M3 a5 3)) fun a7 => ck (mT M3 a7 = 20) <| ck (inb (mI M3 x0 6) (mL M3 a7)) <| lw (wI M3 x0 0 ((mI M3 a7 ((mI M3 x0 6)).toNatClampNeg))) fun M10 => b_X6_read_157 Z M10 x0 else b_X6_read_157 Z M x0)
noncomputable def b_X6_read_125 (Z : Nat → Nat) (M : gMem) (x0 : Nat) (x2 : Int32) (s0 : Int32) : Option ((gMem × Int32 × Int32) ⊕ (Int32 × gMem)) :=
  some (.inl (M, s0, (x2 + (1 : Int32))))
noncomputable def b_X6_read_124 (Z : Nat → Nat) (M : gMem) (x0 : Nat) (x2 : Int32) : Option ((gMem × Int32 × Int32) ⊕ (Int32 × gMem)) :=
  b_X6_read_125 Z M x0 x2 ((0 : Int32))
noncomputable def b_X6_read_106 (Z : Nat → Nat) (M : gMem) (x0 : Nat) (x1 : Int32) (x2 : Int32) : Option ((gMem × Int32 × Int32) ⊕ (Int32 × gMem)) :=
  (if x1 = 0 then b_X6_read_124 Z M x0 x2 else ck (mT M x0 = 6) <| bd (f_X6_take M x0 ((some (Z 29)))) fun r14 M14 => (if r14 = 0 then b_X6_read_124 Z M14 x0 x2 else b_X6_read_125 Z M14 x0 x2 ((1 : Int32))))
noncomputable def bb_X6_read_11 (Z : Nat → Nat) (M : gMem) (x0 : Nat) (x1 : Int32) (x2 : Int32) : Option ((gMem × Int32 × Int32) ⊕ (Int32 × gMem)) :=
  (if (400 : Int32) ≤ x2 then oI (b_X6_read_132 Z M x0 x1) else (if x1 = 0 then oI (b_X6_read_132 Z M x0 x1) else ck (mT M x0 = 6) <| bd (f_X6_sign M x0) fun r18 M18 => (if r18 = (some (Z 42)) then oI (b_X6_read_132 Z M18 x0 x1) else ck (mT M18 x0 = 6) <| bd (f_X6_sign M18 x0) fun r21 M21 => dr (ordZ Z r21) fun o23 => (if (gSw o23) = (1 : Int32) then ck (mT M21 x0 = 6) <| bd (f_X6_groundLine Z M21 x0) fun r25 M25 => b_X6_read_106 Z M25 x0 r25 x2 else (if (gSw o23) = (2 : Int32) then ck (mT M21 x0 = 6) <| bd (f_X6_fisherLine Z M21 x0) fun r28 M28 => b_X6_read_106 Z M28 x0 r28 x2 else (if (gSw o23) = (3 : Int32) then ck (mT M21 x0 = 6) <| bd (f_X6_goLine Z M21 x0) fun r31 M31 => b_X6_read_106 Z M31 x0 r31 x2 else (if (gSw o23) = (4 : Int32) then ck (mT M21 x0 = 6) <| bd (f_X6_pactLine Z M21 x0) fun r34 M34 => b_X6_read_106 Z M34 x0 r34 x2 else b_X6_read_106 Z M21 x0 ((0 : Int32)) x2)))))))
noncomputable def lp_X6_read_11 (Z : Nat → Nat) (M : gMem) (x0 : Nat) (x1 : Int32) (x2 : Int32) : Option (Int32 × gMem) :=
  lp (fun (q : gMem × Int32 × Int32) => bb_X6_read_11 Z q.1 x0 q.2.1 q.2.2) (M, x1, x2)
noncomputable def b_X6_read_0 (Z : Nat → Nat) (M : gMem) (x0 : Nat) : Option (Int32 × gMem) :=
  ck (mT M x0 = 6) <| dr ((mR M x0 2)) fun a38 => ck (mT M a38 = 7) <| bd (f_X7_forget M a38) fun _ M37 => lp_X6_read_11 Z M37 x0 ((1 : Int32)) ((0 : Int32))
noncomputable def f_X6_read (Z : Nat → Nat) (M : gMem) (x0 : Nat) : Option (Int32 × gMem) :=
  b_X6_read_0 Z M x0
set_option maxHeartbeats 4000000 in
set_option maxRecDepth 100000 in
theorem t_X6_read_157 (X : gX p s m args meth c D cy B (gSt Z B H0) RX6 cX6_read wsX6_read 3) (hr : meth.sig.returnType = (some .int)) {Q : State → Prop} : ∀ (M : gMem) (x0 : Nat) (z : Int32 × gMem), b_X6_read_157 Z M x0 = some z → (fun (r : Int32 × gMem) => Q = gMQ below D cy B H0 args s 0 0 (some (vI r.1)) r.2) z → gGo p l e rX6_read s m args below meth c D cy B H0 3 0 0 Q 157 [(0, vR (some x0))] [] M := by
  intro M x0 z hf hK
  unfold b_X6_read_157 at hf
  refine g_aload_n X dX6_read_157 rfl rfl ?_
  obtain ⟨hT1, hf⟩ := ck_e hf
  refine g_get (ci := 5) (v := vI (mI M x0 7)) 7 X cdX6 i_X6_read_X6 (by decide) k_X6_read_f83 rfl dX6_read_158 rfl hT1 rfl ?_
  cases hf
  refine g_eqQ hK ?_
  exact g_iret X hr dX6_read_161
set_option maxHeartbeats 4000000 in
set_option maxRecDepth 100000 in
theorem t_X6_read_132 (X : gX p s m args meth c D cy B (gSt Z B H0) RX6 cX6_read wsX6_read 3) (hr : meth.sig.returnType = (some .int)) {Q : State → Prop} : ∀ (M : gMem) (x0 : Nat) (x1 : Int32) (z : Int32 × gMem), b_X6_read_132 Z M x0 x1 = some z → (fun (r : Int32 × gMem) => Q = gMQ below D cy B H0 args s 0 0 (some (vI r.1)) r.2) z → gGo p l e rX6_read s m args below meth c D cy B H0 3 0 0 Q 132 [(0, vR (some x0)), (1, vI x1)] [] M := by
  intro M x0 x1 z hf hK
  unfold b_X6_read_132 at hf
  refine g_iload_n X dX6_read_132 rfl rfl ?_
  refine g_if_ne (tgt := 157) X dX6_read_133 (by decide) (fun hc => ?_) (fun hc => ?_)
  · have hf := ife_f hc hf
    refine g_sub (lvsub_of _ _ [0] rfl) ?_
    exact t_X6_read_157 X hr _ _ _ hf hK
  · have hf := ife_t hc hf
    refine g_aload_n X dX6_read_136 rfl rfl ?_
    refine g_iconst (v := (1 : Int32)) X dX6_read_137 (by decide) ?_
    obtain ⟨hT2, hf⟩ := ck_e hf
    refine g_putI (ci := 5) 7 X cdX6 i_X6_read_X6 (by decide) k_X6_read_f83 rfl dX6_read_138 rfl hT2 (Or.inl rfl) rfl rfl rfl ?_
    obtain ⟨M3, hM3, hf⟩ := lw_e hf
    rw [← hM3]
    have hT4 : mT M3 x0 = 6 := by rw [hM3]; exact hT2
    refine g_aload_n X dX6_read_141 rfl rfl ?_
    refine g_aload_n X dX6_read_142 rfl rfl ?_
    refine g_get (ci := 5) (v := vR (mR M3 x0 1)) 1 X cdX6 i_X6_read_X6 (by decide) k_X6_read_f30 rfl dX6_read_143 rfl hT4 rfl ?_
    obtain ⟨a5, ha5, hf⟩ := dr_e hf
    obtain ⟨hT6, hf⟩ := ck_e hf
    refine g_get (ci := 8) (v := vR (mR M3 a5 3)) 3 X cdX10 i_X6_read_X10 (by decide) k_X6_read_f86 rfl dX6_read_146 ha5 hT6 rfl ?_
    refine g_aload_n X dX6_read_149 rfl rfl ?_
    refine g_get (ci := 5) (v := vI (mI M3 x0 6)) 6 X cdX6 i_X6_read_X6 (by decide) k_X6_read_f91 rfl dX6_read_150 rfl hT4 rfl ?_
    obtain ⟨a7, ha7, hf⟩ := dr_e hf
    obtain ⟨hT8, hf⟩ := ck_e hf
    obtain ⟨hg9, hf⟩ := ck_e hf
    refine g_iald X dX6_read_153 ha7 hT8 hg9 ?_
    refine g_putI (ci := 5) 0 X cdX6 i_X6_read_X6 (by decide) k_X6_read_f9 rfl dX6_read_154 rfl hT4 (Or.inl rfl) rfl rfl rfl ?_
    obtain ⟨M10, hM10, hf⟩ := lw_e hf
    rw [← hM10]
    have hT11 : mT M10 x0 = 6 := by rw [hM10]; exact hT4
    have hT12 : mT M10 a5 = 9 := by rw [hM10]; exact hT6
    have hT13 : mT M10 a7 = 20 := by rw [hM10]; exact hT8
    refine g_sub (lvsub_of _ _ [0] rfl) ?_
    exact t_X6_read_157 X hr _ _ _ hf hK
set_option maxHeartbeats 4000000 in
set_option maxRecDepth 100000 in
theorem t_X6_read_125 (X : gX p s m args meth c D cy B (gSt Z B H0) RX6 cX6_read wsX6_read 3) (hr : meth.sig.returnType = (some .int)) {Q : State → Prop} : ∀ (M : gMem) (x0 : Nat) (x2 : Int32) (s0 : Int32) (z : (gMem × Int32 × Int32) ⊕ (Int32 × gMem)), b_X6_read_125 Z M x0 x2 s0 = some z → (Sum.elim (fun (q : gMem × Int32 × Int32) => gGo p l e rX6_read s m args below meth c D cy B H0 3 0 0 Q 11 [(0, vR (some x0)), (1, vI q.2.1), (2, vI q.2.2)] [] q.1) (fun (r : Int32 × gMem) => Q = gMQ below D cy B H0 args s 0 0 (some (vI r.1)) r.2)) z → gGo p l e rX6_read s m args below meth c D cy B H0 3 0 0 Q 125 [(0, vR (some x0)), (2, vI x2)] [vI s0] M := by
  intro M x0 x2 s0 z hf hK
  unfold b_X6_read_125 at hf
  refine g_istore_n (lv' := [(1, vI s0), (0, vR (some x0)), (2, vI x2)]) X dX6_read_125 rfl (by decide) rfl ?_
  refine g_iinc (v := (1 : Int32)) (lv' := [(2, vI (x2 + (1 : Int32))), (1, vI s0), (0, vR (some x0))]) X dX6_read_126 rfl (by decide) (by decide) rfl ?_
  refine g_goto (tgt := 11) X dX6_read_129 (by decide) ?_
  cases hf
  refine g_sub (lvsub_of _ _ [2, 1, 0] rfl) ?_
  exact hK
set_option maxHeartbeats 4000000 in
set_option maxRecDepth 100000 in
theorem t_X6_read_124 (X : gX p s m args meth c D cy B (gSt Z B H0) RX6 cX6_read wsX6_read 3) (hr : meth.sig.returnType = (some .int)) {Q : State → Prop} : ∀ (M : gMem) (x0 : Nat) (x2 : Int32) (z : (gMem × Int32 × Int32) ⊕ (Int32 × gMem)), b_X6_read_124 Z M x0 x2 = some z → (Sum.elim (fun (q : gMem × Int32 × Int32) => gGo p l e rX6_read s m args below meth c D cy B H0 3 0 0 Q 11 [(0, vR (some x0)), (1, vI q.2.1), (2, vI q.2.2)] [] q.1) (fun (r : Int32 × gMem) => Q = gMQ below D cy B H0 args s 0 0 (some (vI r.1)) r.2)) z → gGo p l e rX6_read s m args below meth c D cy B H0 3 0 0 Q 124 [(0, vR (some x0)), (2, vI x2)] [] M := by
  intro M x0 x2 z hf hK
  unfold b_X6_read_124 at hf
  refine g_iconst (v := (0 : Int32)) X dX6_read_124 (by decide) ?_
  refine g_sub (lvsub_of _ _ [0, 1] rfl) ?_
  exact t_X6_read_125 X hr _ _ _ _ _ hf hK
set_option maxHeartbeats 4000000 in
set_option maxRecDepth 100000 in
theorem t_X6_read_106 (X : gX p s m args meth c D cy B (gSt Z B H0) RX6 cX6_read wsX6_read 3) (hr : meth.sig.returnType = (some .int)) {Q : State → Prop} : ∀ (M : gMem) (x0 : Nat) (x1 : Int32) (x2 : Int32) (z : (gMem × Int32 × Int32) ⊕ (Int32 × gMem)), b_X6_read_106 Z M x0 x1 x2 = some z → (Sum.elim (fun (q : gMem × Int32 × Int32) => gGo p l e rX6_read s m args below meth c D cy B H0 3 0 0 Q 11 [(0, vR (some x0)), (1, vI q.2.1), (2, vI q.2.2)] [] q.1) (fun (r : Int32 × gMem) => Q = gMQ below D cy B H0 args s 0 0 (some (vI r.1)) r.2)) z → gGo p l e rX6_read s m args below meth c D cy B H0 3 0 0 Q 106 [(0, vR (some x0)), (1, vI x1), (2, vI x2)] [] M := by
  intro M x0 x1 x2 z hf hK
  unfold b_X6_read_106 at hf
  refine g_iload_n X dX6_read_106 rfl rfl ?_
  refine g_if_eq (tgt := 124) X dX6_read_107 (by decide) (fun hc => ?_) (fun hc => ?_)
  · have hf := ife_t hc hf
    refine g_sub (lvsub_of _ _ [0, 2] rfl) ?_
    exact t_X6_read_124 X hr _ _ _ _ hf hK
  · have hf := ife_f hc hf
    refine g_aload_n X dX6_read_110 rfl rfl ?_
    refine g_gets (w := vR (some (Z 29))) X (gSt_E X 29 (by decide)) k_X6_read_f76 rfl dX6_read_111 ?_
    obtain ⟨hT15, hf⟩ := ck_e hf
    obtain ⟨r14, M14, hq14, hf⟩ := bd_e hf
    refine g_callV (ci := 5) (b := x0) (As := [vR (some (Z 29))]) (st := []) (v := some (vI r14)) (M1 := M14) X (m_X6_take l hq14) (cwV 1 X.2.2.1 gX6_read_X6_take rfl rfl rfl (by decide +kernel) ⟨Nat.le_of_ble_eq_true rfl, Nat.le_of_ble_eq_true rfl⟩) rfl rfl rfl hT15 (by decide) rfl (Nat.le_of_ble_eq_true rfl) dX6_read_114 ⟨by decide, by decide⟩ ?_
    refine g_if_eq (tgt := 124) X dX6_read_117 (by decide) (fun hc => ?_) (fun hc => ?_)
    · have hf := ife_t hc hf
      refine g_sub (lvsub_of _ _ [0, 2] rfl) ?_
      exact t_X6_read_124 X hr _ _ _ _ hf hK
    · have hf := ife_f hc hf
      refine g_iconst (v := (1 : Int32)) X dX6_read_120 (by decide) ?_
      refine g_goto (tgt := 125) X dX6_read_121 (by decide) ?_
      refine g_sub (lvsub_of _ _ [0, 2] rfl) ?_
      exact t_X6_read_125 X hr _ _ _ _ _ hf hK
set_option maxHeartbeats 4000000 in
set_option maxRecDepth 100000 in
theorem tb_X6_read_11 (X : gX p s m args meth c D cy B (gSt Z B H0) RX6 cX6_read wsX6_read 3) (hr : meth.sig.returnType = (some .int)) {Q : State → Prop} : ∀ (M : gMem) (x0 : Nat) (x1 : Int32) (x2 : Int32) (z : (gMem × Int32 × Int32) ⊕ (Int32 × gMem)), bb_X6_read_11 Z M x0 x1 x2 = some z → (Sum.elim (fun (q : gMem × Int32 × Int32) => gGo p l e rX6_read s m args below meth c D cy B H0 3 0 0 Q 11 [(0, vR (some x0)), (1, vI q.2.1), (2, vI q.2.2)] [] q.1) (fun (r : Int32 × gMem) => Q = gMQ below D cy B H0 args s 0 0 (some (vI r.1)) r.2)) z → gGo p l e rX6_read s m args below meth c D cy B H0 3 0 0 Q 11 [(0, vR (some x0)), (1, vI x1), (2, vI x2)] [] M := by
  intro M x0 x1 x2 z hf hK
  unfold bb_X6_read_11 at hf
  refine g_iload_n X dX6_read_11 rfl rfl ?_
  refine g_sipush (v := (400 : Int32)) X dX6_read_12 (by decide) ?_
  refine g_icmp_ge (tgt := 132) X dX6_read_15 (by decide) (fun hc => ?_) (fun hc => ?_)
  · have hf := ife_t hc hf
    obtain ⟨w16, hw16, hz16⟩ := oI_e hf
    subst hz16
    have hf := hw16
    refine g_sub (lvsub_of _ _ [0, 1] rfl) ?_
    exact t_X6_read_132 X hr _ _ _ _ hf hK
  · have hf := ife_f hc hf
    refine g_iload_n X dX6_read_18 rfl rfl ?_
    refine g_if_eq (tgt := 132) X dX6_read_19 (by decide) (fun hc => ?_) (fun hc => ?_)
    · have hf := ife_t hc hf
      obtain ⟨w17, hw17, hz17⟩ := oI_e hf
      subst hz17
      have hf := hw17
      refine g_sub (lvsub_of _ _ [0, 1] rfl) ?_
      exact t_X6_read_132 X hr _ _ _ _ hf hK
    · have hf := ife_f hc hf
      refine g_aload_n X dX6_read_22 rfl rfl ?_
      obtain ⟨hT19, hf⟩ := ck_e hf
      obtain ⟨r18, M18, hq18, hf⟩ := bd_e hf
      refine g_callV (ci := 5) (b := x0) (As := []) (st := []) (v := some (vR r18)) (M1 := M18) X (m_X6_sign l hq18) (cwV 0 X.2.2.1 gX6_read_X6_sign rfl rfl rfl (by decide +kernel) ⟨Nat.le_of_ble_eq_true rfl, Nat.le_of_ble_eq_true rfl⟩) rfl rfl rfl hT19 (by decide) rfl (Nat.le_of_ble_eq_true rfl) dX6_read_23 ⟨by decide, by decide⟩ ?_
      refine g_gets (w := vR (some (Z 42))) X (gSt_E X 42 (by decide)) k_X6_read_f47 rfl dX6_read_26 ?_
      refine g_acmp_eq (tgt := 132) X dX6_read_29 (by decide) (fun hc => ?_) (fun hc => ?_)
      · have hf := ife_t hc hf
        obtain ⟨w20, hw20, hz20⟩ := oI_e hf
        subst hz20
        have hf := hw20
        refine g_sub (lvsub_of _ _ [0, 1] rfl) ?_
        exact t_X6_read_132 X hr _ _ _ _ hf hK
      · have hf := ife_f hc hf
        refine g_gets (w := vR (some (Z 46))) X (gSt_SW X) k_X6_read_f53 rfl dX6_read_32 ?_
        refine g_aload_n X dX6_read_35 rfl rfl ?_
        obtain ⟨hT22, hf⟩ := ck_e hf
        obtain ⟨r21, M21, hq21, hf⟩ := bd_e hf
        refine g_callV (ci := 5) (b := x0) (As := []) (st := [vR (some (Z 46))]) (v := some (vR r21)) (M1 := M21) X (m_X6_sign l hq21) (cwV 0 X.2.2.1 gX6_read_X6_sign rfl rfl rfl (by decide +kernel) ⟨Nat.le_of_ble_eq_true rfl, Nat.le_of_ble_eq_true rfl⟩) rfl rfl rfl hT22 (by decide) rfl (Nat.le_of_ble_eq_true rfl) dX6_read_36 ⟨by decide, by decide⟩ ?_
        obtain ⟨o23, ho23, hf⟩ := dr_e hf
        refine g_callU (C := RX8) (owner := "java/lang/Enum") (As := []) (st := [vR (some (Z 46))]) (v := some (vI (nI o23))) X (m_ordinal l (ordZ_lt ho23)) (va_cwU 0 X.2.2.1 gX6_read_Jx29ce0_ordinal_8abf5_u59X8 rfl rfl rfl (by decide +kernel) (by decide +kernel) ⟨Nat.le_of_ble_eq_true rfl, Nat.le_of_ble_eq_true rfl⟩) rfl rfl (ordZ_eq ho23) (fun H hW => gO_recv (gSt_O X (ordZ_lt ho23)) hW) (Nat.le_of_ble_eq_true rfl) dX6_read_39 ⟨by decide, by decide⟩ ?_
        refine g_ialdT (w := gSw o23) X (gSt_SWt X) rfl (gord_nn (ordZ_lt ho23)) (gord_lt (ordZ_lt ho23)) (gord_sw (ordZ_lt ho23)) dX6_read_42 ?_
        by_cases hs24 : (gSw o23) = (1 : Int32)
        · have hf := ife_t hs24 hf
          refine g_tabin (tgt := 72) X dX6_read_43 hs24 (by decide) (by decide) rfl (by decide) ?_
          refine g_aload_n X dX6_read_72 rfl rfl ?_
          obtain ⟨hT26, hf⟩ := ck_e hf
          obtain ⟨r25, M25, hq25, hf⟩ := bd_e hf
          refine g_callV (ci := 5) (b := x0) (As := []) (st := []) (v := some (vI r25)) (M1 := M25) X (m_X6_groundLine l hq25) (cwV 0 X.2.2.1 gX6_read_X6_groundLine rfl rfl rfl (by decide +kernel) ⟨Nat.le_of_ble_eq_true rfl, Nat.le_of_ble_eq_true rfl⟩) rfl rfl rfl hT26 (by decide) rfl (Nat.le_of_ble_eq_true rfl) dX6_read_73 ⟨by decide, by decide⟩ ?_
          refine g_istore_n (lv' := [(1, vI r25), (0, vR (some x0)), (2, vI x2)]) X dX6_read_76 rfl (by decide) rfl ?_
          refine g_goto (tgt := 106) X dX6_read_77 (by decide) ?_
          refine g_sub (lvsub_of _ _ [1, 0, 2] rfl) ?_
          exact t_X6_read_106 X hr _ _ _ _ _ hf hK
        · have hf := ife_f hs24 hf
          by_cases hs27 : (gSw o23) = (2 : Int32)
          · have hf := ife_t hs27 hf
            refine g_tabin (tgt := 80) X dX6_read_43 hs27 (by decide) (by decide) rfl (by decide) ?_
            refine g_aload_n X dX6_read_80 rfl rfl ?_
            obtain ⟨hT29, hf⟩ := ck_e hf
            obtain ⟨r28, M28, hq28, hf⟩ := bd_e hf
            refine g_callV (ci := 5) (b := x0) (As := []) (st := []) (v := some (vI r28)) (M1 := M28) X (m_X6_fisherLine l hq28) (cwV 0 X.2.2.1 gX6_read_X6_fisherLine rfl rfl rfl (by decide +kernel) ⟨Nat.le_of_ble_eq_true rfl, Nat.le_of_ble_eq_true rfl⟩) rfl rfl rfl hT29 (by decide) rfl (Nat.le_of_ble_eq_true rfl) dX6_read_81 ⟨by decide, by decide⟩ ?_
            refine g_istore_n (lv' := [(1, vI r28), (0, vR (some x0)), (2, vI x2)]) X dX6_read_84 rfl (by decide) rfl ?_
            refine g_goto (tgt := 106) X dX6_read_85 (by decide) ?_
            refine g_sub (lvsub_of _ _ [1, 0, 2] rfl) ?_
            exact t_X6_read_106 X hr _ _ _ _ _ hf hK
          · have hf := ife_f hs27 hf
            by_cases hs30 : (gSw o23) = (3 : Int32)
            · have hf := ife_t hs30 hf
              refine g_tabin (tgt := 88) X dX6_read_43 hs30 (by decide) (by decide) rfl (by decide) ?_
              refine g_aload_n X dX6_read_88 rfl rfl ?_
              obtain ⟨hT32, hf⟩ := ck_e hf
              obtain ⟨r31, M31, hq31, hf⟩ := bd_e hf
              refine g_callV (ci := 5) (b := x0) (As := []) (st := []) (v := some (vI r31)) (M1 := M31) X (m_X6_goLine l hq31) (cwV 0 X.2.2.1 gX6_read_X6_goLine rfl rfl rfl (by decide +kernel) ⟨Nat.le_of_ble_eq_true rfl, Nat.le_of_ble_eq_true rfl⟩) rfl rfl rfl hT32 (by decide) rfl (Nat.le_of_ble_eq_true rfl) dX6_read_89 ⟨by decide, by decide⟩ ?_
              refine g_istore_n (lv' := [(1, vI r31), (0, vR (some x0)), (2, vI x2)]) X dX6_read_92 rfl (by decide) rfl ?_
              refine g_goto (tgt := 106) X dX6_read_93 (by decide) ?_
              refine g_sub (lvsub_of _ _ [1, 0, 2] rfl) ?_
              exact t_X6_read_106 X hr _ _ _ _ _ hf hK
            · have hf := ife_f hs30 hf
              by_cases hs33 : (gSw o23) = (4 : Int32)
              · have hf := ife_t hs33 hf
                refine g_tabin (tgt := 96) X dX6_read_43 hs33 (by decide) (by decide) rfl (by decide) ?_
                refine g_aload_n X dX6_read_96 rfl rfl ?_
                obtain ⟨hT35, hf⟩ := ck_e hf
                obtain ⟨r34, M34, hq34, hf⟩ := bd_e hf
                refine g_callV (ci := 5) (b := x0) (As := []) (st := []) (v := some (vI r34)) (M1 := M34) X (m_X6_pactLine l hq34) (cwV 0 X.2.2.1 gX6_read_X6_pactLine rfl rfl rfl (by decide +kernel) ⟨Nat.le_of_ble_eq_true rfl, Nat.le_of_ble_eq_true rfl⟩) rfl rfl rfl hT35 (by decide) rfl (Nat.le_of_ble_eq_true rfl) dX6_read_97 ⟨by decide, by decide⟩ ?_
                refine g_istore_n (lv' := [(1, vI r34), (0, vR (some x0)), (2, vI x2)]) X dX6_read_100 rfl (by decide) rfl ?_
                refine g_goto (tgt := 106) X dX6_read_101 (by decide) ?_
                refine g_sub (lvsub_of _ _ [1, 0, 2] rfl) ?_
                exact t_X6_read_106 X hr _ _ _ _ _ hf hK
              · have hf := ife_f hs33 hf
                refine g_tabout (tgt := 104) X dX6_read_43 (gtab_out 4 (1) (by decide) (by decide) (fun i hi => match i, hi with | 0, _ => fun e => hs24 (e.trans (by decide)) | 1, _ => fun e => hs27 (e.trans (by decide)) | 2, _ => fun e => hs30 (e.trans (by decide)) | 3, _ => fun e => hs33 (e.trans (by decide)) | i + 4, h => absurd h (by omega))) (by decide) ?_
                refine g_iconst (v := (0 : Int32)) X dX6_read_104 (by decide) ?_
                refine g_istore_n (lv' := [(1, vI (0 : Int32)), (0, vR (some x0)), (2, vI x2)]) X dX6_read_105 rfl (by decide) rfl ?_
                refine g_sub (lvsub_of _ _ [1, 0, 2] rfl) ?_
                exact t_X6_read_106 X hr _ _ _ _ _ hf hK
set_option maxHeartbeats 4000000 in
set_option maxRecDepth 100000 in
theorem tl_X6_read_11 (X : gX p s m args meth c D cy B (gSt Z B H0) RX6 cX6_read wsX6_read 3) (hr : meth.sig.returnType = (some .int)) {Q : State → Prop} : ∀ (M : gMem) (x0 : Nat) (x1 : Int32) (x2 : Int32) (z : Int32 × gMem), lp_X6_read_11 Z M x0 x1 x2 = some z → (fun (r : Int32 × gMem) => Q = gMQ below D cy B H0 args s 0 0 (some (vI r.1)) r.2) z → gGo p l e rX6_read s m args below meth c D cy B H0 3 0 0 Q 11 [(0, vR (some x0)), (1, vI x1), (2, vI x2)] [] M := by
  intro M x0 x1 x2 z hf hK
  refine lp_ind (P := (fun (q : gMem × Int32 × Int32) (z : Int32 × gMem) => (fun (r : Int32 × gMem) => Q = gMQ below D cy B H0 args s 0 0 (some (vI r.1)) r.2) z → gGo p l e rX6_read s m args below meth c D cy B H0 3 0 0 Q 11 [(0, vR (some x0)), (1, vI q.2.1), (2, vI q.2.2)] [] q.1)) (fun q z hq => ?_) _ _ hf hK
  intro hK
  obtain ⟨w, hw, hm⟩ := hq
  refine tb_X6_read_11 X hr _ _ _ _ w hw ?_
  cases w with
  | inl a => exact hm hK
  | inr b => cases hm; exact hK
set_option maxHeartbeats 4000000 in
set_option maxRecDepth 100000 in
theorem t_X6_read_0 (X : gX p s m args meth c D cy B (gSt Z B H0) RX6 cX6_read wsX6_read 3) (hr : meth.sig.returnType = (some .int)) {Q : State → Prop} : ∀ (M : gMem) (x0 : Nat) (z : Int32 × gMem), b_X6_read_0 Z M x0 = some z → (fun (r : Int32 × gMem) => Q = gMQ below D cy B H0 args s 0 0 (some (vI r.1)) r.2) z → gGo p l e rX6_read s m args below meth c D cy B H0 3 0 0 Q 0 [(0, vR (some x0))] [] M := by
  intro M x0 z hf hK
  unfold b_X6_read_0 at hf
  refine g_aload_n X dX6_read_0 rfl rfl ?_
  obtain ⟨hT36, hf⟩ := ck_e hf
  refine g_get (ci := 5) (v := vR (mR M x0 2)) 2 X cdX6 i_X6_read_X6 (by decide) k_X6_read_f34 rfl dX6_read_1 rfl hT36 rfl ?_
  obtain ⟨a38, ha38, hf⟩ := dr_e hf
  obtain ⟨hT39, hf⟩ := ck_e hf
  obtain ⟨r37, M37, hq37, hf⟩ := bd_e hf
  refine g_callV (ci := 6) (b := a38) (As := []) (st := []) (v := none) (M1 := M37) X (m_X7_forget l hq37) (cwV 0 X.2.2.1 gX6_read_X7_forget rfl rfl rfl (by decide +kernel) ⟨Nat.le_of_ble_eq_true rfl, Nat.le_of_ble_eq_true rfl⟩) rfl rfl ha38 hT39 (by decide) rfl (Nat.le_of_ble_eq_true rfl) dX6_read_4 ⟨by decide, by decide⟩ ?_
  refine g_iconst (v := (1 : Int32)) X dX6_read_7 (by decide) ?_
  refine g_istore_n (lv' := [(1, vI (1 : Int32)), (0, vR (some x0))]) X dX6_read_8 rfl (by decide) rfl ?_
  refine g_iconst (v := (0 : Int32)) X dX6_read_9 (by decide) ?_
  refine g_istore_n (lv' := [(2, vI (0 : Int32)), (1, vI (1 : Int32)), (0, vR (some x0))]) X dX6_read_10 rfl (by decide) rfl ?_
  refine g_sub (lvsub_of _ _ [2, 1, 0] rfl) ?_
  exact tl_X6_read_11 X hr _ _ _ _ _ hf hK
set_option maxHeartbeats 4000000 in
set_option maxRecDepth 100000 in
theorem m_X6_read (l : Launch) {D : va_G} {cy : Nat → ClassId} {B : Nat} {H0 : Heap} {Z : Nat → Nat} {M M1 : gMem} {x0 : Nat} {r : Int32} (hf : f_X6_read Z M x0 = some (r, M1)) : Met l yX6_read wsX6_read rX6_read (va_Pc (Value.ref x0 :: List.map gv []) (gPre D cy B H0 (gSt Z B H0) M)) (gQ D cy B H0 (some (vI r)) M1) 0 0 (gA B) := by
  refine Met.ofW (cc := cX6_read) (maxL := 3) (ret := (some .int)) (by decide) rfl ?_
  intro p e s m args below meth c s₁ Bd hml hv
  obtain ⟨rfl, hW, hKK, hFs⟩ := hv
  have X : gX p s m _ meth c D cy B (gSt Z B H0) RX6 cX6_read wsX6_read 3 := ⟨Bd.exec, Bd.bytes, atoms_spec (ws := wsX6_read) Bd.pre, findClass_of_methodNamed Bd.named, hml, hKK, by rw [hW.1]; exact hW.2.1, Bd.notSynchronized, hFs⟩
  have hr := Bd.returns
  have hl := lv_entry ([.ref x0]) (n := 3) (Nat.le_of_ble_eq_true rfl)
  show W p l e rX6_read s m _ below meth c s.heap [] 0 0 _ (entryFrame m ([.ref x0] : List Value).toArray 3)
  rw [lg_entry_eq]
  generalize (lg_sl ([.ref x0]) ++ List.replicate (3 - (lg_sl ([.ref x0])).length) Slot.unset).toArray = ls at hl ⊢
  have hl : lv_has ls 3 (List.map gq [(0, vR (some x0))]) := hl
  exact t_X6_read_0 X hr _ _ _ hf rfl s.heap [] ls hW va_S.rf (lv_has_sub hl (lvsub_of _ _ [0] rfl))
end
