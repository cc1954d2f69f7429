section
variable {p : Program} {l : Launch} {e : Env} {s : State} {m : MethodId} {args : Array Value} {below : List Frame} {meth : Method} {c : Code} {D : va_G} {cy : Nat → ClassId} {B : Nat} {H0 : Heap} {Z : Nat → Nat}
/-! ## TideLotsModel.read()I -/
theorem dX14_read_0 : decode cX14_read 0 = .ok (.aload_n 0, 1) := by decide +kernel
theorem dX14_read_1 : decode cX14_read 1 = .ok (.new 32, 3) := by decide +kernel
theorem dX14_read_4 : decode cX14_read 4 = .ok (.dup, 1) := by decide +kernel
theorem dX14_read_5 : decode cX14_read 5 = .ok (.invokespecial 34, 3) := by decide +kernel
theorem dX14_read_8 : decode cX14_read 8 = .ok (.putfield 39, 3) := by decide +kernel
theorem dX14_read_11 : decode cX14_read 11 = .ok (.aload_n 0, 1) := by decide +kernel
theorem dX14_read_12 : decode cX14_read 12 = .ok (.invokevirtual 267, 3) := by decide +kernel
theorem dX14_read_15 : decode cX14_read 15 = .ok (.aload_n 0, 1) := by decide +kernel
theorem dX14_read_16 : decode cX14_read 16 = .ok (.iconst 0, 1) := by decide +kernel
theorem dX14_read_17 : decode cX14_read 17 = .ok (.putfield 118, 3) := by decide +kernel
theorem dX14_read_20 : decode cX14_read 20 = .ok (.aload_n 0, 1) := by decide +kernel
theorem dX14_read_21 : decode cX14_read 21 = .ok (.iconst 0, 1) := by decide +kernel
theorem dX14_read_22 : decode cX14_read 22 = .ok (.putfield 187, 3) := by decide +kernel
theorem dX14_read_25 : decode cX14_read 25 = .ok (.aload_n 0, 1) := by decide +kernel
theorem dX14_read_26 : decode cX14_read 26 = .ok (.invokevirtual 270, 3) := by decide +kernel
theorem dX14_read_29 : decode cX14_read 29 = .ok (.ifCond .ne 18, 3) := by decide +kernel
theorem dX14_read_32 : decode cX14_read 32 = .ok (.aload_n 0, 1) := by decide +kernel
theorem dX14_read_33 : decode cX14_read 33 = .ok (.aload_n 0, 1) := by decide +kernel
theorem dX14_read_34 : decode cX14_read 34 = .ok (.getfield 20, 3) := by decide +kernel
theorem dX14_read_37 : decode cX14_read 37 = .ok (.aload_n 0, 1) := by decide +kernel
theorem dX14_read_38 : decode cX14_read 38 = .ok (.getfield 118, 3) := by decide +kernel
theorem dX14_read_41 : decode cX14_read 41 = .ok (.iaload, 1) := by decide +kernel
theorem dX14_read_42 : decode cX14_read 42 = .ok (.putfield 13, 3) := by decide +kernel
theorem dX14_read_45 : decode cX14_read 45 = .ok (.iconst 1, 1) := by decide +kernel
theorem dX14_read_46 : decode cX14_read 46 = .ok (.ireturn, 1) := by decide +kernel
theorem dX14_read_47 : decode cX14_read 47 = .ok (.aload_n 0, 1) := by decide +kernel
theorem dX14_read_48 : decode cX14_read 48 = .ok (.getfield 118, 3) := by decide +kernel
theorem dX14_read_51 : decode cX14_read 51 = .ok (.istore_n 1, 1) := by decide +kernel
theorem dX14_read_52 : decode cX14_read 52 = .ok (.aload_n 0, 1) := by decide +kernel
theorem dX14_read_53 : decode cX14_read 53 = .ok (.iconst 0, 1) := by decide +kernel
theorem dX14_read_54 : decode cX14_read 54 = .ok (.putfield 118, 3) := by decide +kernel
theorem dX14_read_57 : decode cX14_read 57 = .ok (.aload_n 0, 1) := by decide +kernel
theorem dX14_read_58 : decode cX14_read 58 = .ok (.getfield 118, 3) := by decide +kernel
theorem dX14_read_61 : decode cX14_read 61 = .ok (.iload_n 1, 1) := by decide +kernel
theorem dX14_read_62 : decode cX14_read 62 = .ok (.if_icmp .ge 47, 3) := by decide +kernel
theorem dX14_read_65 : decode cX14_read 65 = .ok (.aload_n 0, 1) := by decide +kernel
theorem dX14_read_66 : decode cX14_read 66 = .ok (.aload_n 0, 1) := by decide +kernel
theorem dX14_read_67 : decode cX14_read 67 = .ok (.getfield 118, 3) := by decide +kernel
theorem dX14_read_70 : decode cX14_read 70 = .ok (.invokevirtual 273, 3) := by decide +kernel
theorem dX14_read_73 : decode cX14_read 73 = .ok (.istore_n 2, 1) := by decide +kernel
theorem dX14_read_74 : decode cX14_read 74 = .ok (.iload_n 2, 1) := by decide +kernel
theorem dX14_read_75 : decode cX14_read 75 = .ok (.ifCond .ne 6, 3) := by decide +kernel
theorem dX14_read_78 : decode cX14_read 78 = .ok (.goto 18, 3) := by decide +kernel
theorem dX14_read_81 : decode cX14_read 81 = .ok (.aload_n 0, 1) := by decide +kernel
theorem dX14_read_82 : decode cX14_read 82 = .ok (.aload_n 0, 1) := by decide +kernel
theorem dX14_read_83 : decode cX14_read 83 = .ok (.getfield 20, 3) := by decide +kernel
theorem dX14_read_86 : decode cX14_read 86 = .ok (.aload_n 0, 1) := by decide +kernel
theorem dX14_read_87 : decode cX14_read 87 = .ok (.getfield 118, 3) := by decide +kernel
theorem dX14_read_90 : decode cX14_read 90 = .ok (.iaload, 1) := by decide +kernel
theorem dX14_read_91 : decode cX14_read 91 = .ok (.putfield 13, 3) := by decide +kernel
theorem dX14_read_94 : decode cX14_read 94 = .ok (.iload_n 2, 1) := by decide +kernel
theorem dX14_read_95 : decode cX14_read 95 = .ok (.ireturn, 1) := by decide +kernel
theorem dX14_read_96 : decode cX14_read 96 = .ok (.aload_n 0, 1) := by decide +kernel
theorem dX14_read_97 : decode cX14_read 97 = .ok (.dup, 1) := by decide +kernel
theorem dX14_read_98 : decode cX14_read 98 = .ok (.getfield 118, 3) := by decide +kernel
theorem dX14_read_101 : decode cX14_read 101 = .ok (.iconst 1, 1) := by decide +kernel
theorem dX14_read_102 : decode cX14_read 102 = .ok (.iadd, 1) := by decide +kernel
theorem dX14_read_103 : decode cX14_read 103 = .ok (.putfield 118, 3) := by decide +kernel
theorem dX14_read_106 : decode cX14_read 106 = .ok (.goto (-49), 3) := by decide +kernel
theorem dX14_read_109 : decode cX14_read 109 = .ok (.iconst 0, 1) := by decide +kernel
theorem dX14_read_110 : decode cX14_read 110 = .ok (.istore_n 2, 1) := by decide +kernel
theorem dX14_read_111 : decode cX14_read 111 = .ok (.iload_n 2, 1) := by decide +kernel
theorem dX14_read_112 : decode cX14_read 112 = .ok (.aload_n 0, 1) := by decide +kernel
theorem dX14_read_113 : decode cX14_read 113 = .ok (.getfield 39, 3) := by decide +kernel
theorem dX14_read_116 : decode cX14_read 116 = .ok (.getfield 193, 3) := by decide +kernel
theorem dX14_read_119 : decode cX14_read 119 = .ok (.if_icmp .ge 48, 3) := by decide +kernel
theorem dX14_read_122 : decode cX14_read 122 = .ok (.aload_n 0, 1) := by decide +kernel
theorem dX14_read_123 : decode cX14_read 123 = .ok (.getfield 39, 3) := by decide +kernel
theorem dX14_read_126 : decode cX14_read 126 = .ok (.getfield 127, 3) := by decide +kernel
theorem dX14_read_129 : decode cX14_read 129 = .ok (.aload_n 0, 1) := by decide +kernel
theorem dX14_read_130 : decode cX14_read 130 = .ok (.getfield 39, 3) := by decide +kernel
theorem dX14_read_133 : decode cX14_read 133 = .ok (.getfield 190, 3) := by decide +kernel
theorem dX14_read_136 : decode cX14_read 136 = .ok (.iload_n 2, 1) := by decide +kernel
theorem dX14_read_137 : decode cX14_read 137 = .ok (.iaload, 1) := by decide +kernel
theorem dX14_read_138 : decode cX14_read 138 = .ok (.aload_n 0, 1) := by decide +kernel
theorem dX14_read_139 : decode cX14_read 139 = .ok (.getfield 29, 3) := by decide +kernel
theorem dX14_read_142 : decode cX14_read 142 = .ok (.aload_n 0, 1) := by decide +kernel
theorem dX14_read_143 : decode cX14_read 143 = .ok (.getfield 39, 3) := by decide +kernel
theorem dX14_read_146 : decode cX14_read 146 = .ok (.getfield 127, 3) := by decide +kernel
theorem dX14_read_149 : decode cX14_read 149 = .ok (.aload_n 0, 1) := by decide +kernel
theorem dX14_read_150 : decode cX14_read 150 = .ok (.getfield 39, 3) := by decide +kernel
theorem dX14_read_153 : decode cX14_read 153 = .ok (.getfield 190, 3) := by decide +kernel
theorem dX14_read_156 : decode cX14_read 156 = .ok (.iload_n 2, 1) := by decide +kernel
theorem dX14_read_157 : decode cX14_read 157 = .ok (.iaload, 1) := by decide +kernel
theorem dX14_read_158 : decode cX14_read 158 = .ok (.iaload, 1) := by decide +kernel
theorem dX14_read_159 : decode cX14_read 159 = .ok (.iaload, 1) := by decide +kernel
theorem dX14_read_160 : decode cX14_read 160 = .ok (.iastore, 1) := by decide +kernel
theorem dX14_read_161 : decode cX14_read 161 = .ok (.iinc 2 1, 3) := by decide +kernel
theorem dX14_read_164 : decode cX14_read 164 = .ok (.goto (-53), 3) := by decide +kernel
theorem dX14_read_167 : decode cX14_read 167 = .ok (.iconst 0, 1) := by decide +kernel
theorem dX14_read_168 : decode cX14_read 168 = .ok (.ireturn, 1) := by decide +kernel
set_option maxRecDepth 20000 in
theorem ggX14_read_X14_errorOf : GoodIn wsX14_read wsX14_errorOf := goodIn_r _ [255, 4, 37, 9, 256, 257, 258, 35, 259, 260, 261, 262, 263, 39, 45, 7, 244, 245, 246, 247, 264, 265, 266, 267, 268, 269, 270, 271, 272, 273, 274, 275, 276, 277, 278, 304, 305, 306, 307, 308, 309, 310, 311, 312, 313, 314, 315, 316, 317, 318, 279, 280, 281, 282, 283, 284, 285, 286, 287, 288, 289, 290, 291, 292, 293, 294, 295, 296, 297, 298, 299, 300, 301, 302, 303] (by decide +kernel) (by decide +kernel)
set_option maxRecDepth 20000 in
theorem gX14_read_X14_errorOf : GoodIn wsX14_read (wsV RX14 273 RX14 yX14_errorOf wsX14_errorOf) := goodIn_app (goodIn_of _ (by decide +kernel)) ggX14_read_X14_errorOf
set_option maxRecDepth 20000 in
theorem ggX14_read_X13_init : GoodIn wsX14_read wsX13_init := goodIn_r _ [11, 12, 13, 14, 15, 16, 17, 18, 19, 20, 21, 22, 23, 24, 25, 26, 27, 28, 29, 30, 31, 279, 280, 281, 282, 283, 284, 285, 286, 287, 288, 289, 290, 291, 292, 293, 294, 295, 296, 297, 298, 299, 300, 301, 302, 303] (by decide +kernel) (by decide +kernel)
set_option maxRecDepth 20000 in
theorem gX14_read_X13_init_n34 : GoodIn wsX14_read (wsX13_init) := ggX14_read_X13_init
set_option maxRecDepth 20000 in
theorem ggX14_read_X14_cut_c : GoodIn wsX14_read [.code yX14_cut cX14_cut 3 none] := goodIn_r _ [36] (by decide +kernel) (by decide +kernel)
set_option maxRecDepth 20000 in
theorem ggX14_read_X14_cut_wsX14_cut_r1 : GoodIn wsX14_read wsX14_cut_r1 := goodIn_r _ [7, 37, 9, 38, 39, 40, 41, 42, 35, 43, 44, 45, 46, 47, 48, 49, 50, 51, 52, 53, 54, 55, 56, 57] (by decide +kernel) (by decide +kernel)
set_option maxRecDepth 20000 in
theorem ggX14_read_X14_cut_wsX14_cut_r2 : GoodIn wsX14_read wsX14_cut_r2 := goodIn_r _ [58, 59, 60, 61, 62, 63, 64, 65, 66, 67, 68, 69, 70, 71, 72, 73, 74, 75, 76, 77, 78, 79, 80, 81] (by decide +kernel) (by decide +kernel)
set_option maxRecDepth 20000 in
theorem ggX14_read_X14_cut_wsX14_cut_r3 : GoodIn wsX14_read wsX14_cut_r3 := goodIn_r _ [82, 83, 84, 85, 86, 87, 88, 89, 90, 91, 92, 93, 94, 95, 96, 97, 98, 99, 100, 101, 102, 103, 104, 105] (by decide +kernel) (by decide +kernel)
set_option maxRecDepth 20000 in
theorem ggX14_read_X14_cut_wsX14_cut_r4 : GoodIn wsX14_read wsX14_cut_r4 := goodIn_r _ [106, 107, 108, 109, 110, 111, 112, 113, 114, 115, 116, 117, 118, 119, 120, 121, 122, 123, 124, 125, 126, 127, 128, 129] (by decide +kernel) (by decide +kernel)
set_option maxRecDepth 20000 in
theorem ggX14_read_X14_cut_wsX14_cut_r5 : GoodIn wsX14_read wsX14_cut_r5 := goodIn_r _ [130, 131, 132, 133, 134, 135, 136, 137, 138, 139, 140, 141, 142, 143, 144, 145, 146, 147, 148, 149, 150, 151, 152, 153] (by decide +kernel) (by decide +kernel)
set_option maxRecDepth 20000 in
theorem ggX14_read_X14_cut_wsX14_cut_r6 : GoodIn wsX14_read wsX14_cut_r6 := goodIn_r _ [154, 155, 156, 157, 158, 159, 160, 161, 162, 163, 164, 165, 166, 167, 168, 169, 170] (by decide +kernel) (by decide +kernel)
set_option maxRecDepth 20000 in
theorem ggX14_read_X14_cut_wsX140 : GoodIn wsX14_read wsX140 := goodIn_sub (by decide +kernel) (by decide +kernel)
set_option maxRecDepth 20000 in
theorem ggX14_read_X14_cut : GoodIn wsX14_read wsX14_cut := goodIn_c1 ggX14_read_X14_cut_c (goodIn_app (goodIn_app ggX14_read_X14_cut_wsX14_cut_r1 (goodIn_app ggX14_read_X14_cut_wsX14_cut_r2 (goodIn_app ggX14_read_X14_cut_wsX14_cut_r3 (goodIn_app ggX14_read_X14_cut_wsX14_cut_r4 (goodIn_app ggX14_read_X14_cut_wsX14_cut_r5 ggX14_read_X14_cut_wsX14_cut_r6))))) ggX14_read_X14_cut_wsX140)
set_option maxRecDepth 20000 in
theorem gX14_read_X14_cut : GoodIn wsX14_read (wsV RX14 267 RX14 yX14_cut wsX14_cut) := goodIn_app (goodIn_of _ (by decide +kernel)) ggX14_read_X14_cut
set_option maxRecDepth 20000 in
theorem ggX14_read_X14_isText_c : GoodIn wsX14_read [.code yX14_isText cX14_isText 2 (some .boolean)] := goodIn_r _ [174] (by decide +kernel) (by decide +kernel)
set_option maxRecDepth 20000 in
theorem ggX14_read_X14_isText_wsX14_isText_r1 : GoodIn wsX14_read wsX14_isText_r1 := goodIn_r _ [175, 176, 177, 35, 178, 38, 5, 179, 180, 181, 182, 183, 184, 185, 186, 37, 187, 188, 189, 190, 191, 192, 193, 194] (by decide +kernel) (by decide +kernel)
set_option maxRecDepth 20000 in
theorem ggX14_read_X14_isText_wsX14_isText_r2 : GoodIn wsX14_read wsX14_isText_r2 := goodIn_r _ [195, 196, 197, 198, 199, 200, 201, 202, 4, 203, 127, 124, 128, 204, 205, 206, 207, 208, 209, 210, 211, 212, 213, 214] (by decide +kernel) (by decide +kernel)
set_option maxRecDepth 20000 in
theorem ggX14_read_X14_isText_wsX14_isText_r3 : GoodIn wsX14_read wsX14_isText_r3 := goodIn_r _ [215, 216, 217, 218, 219, 6, 220, 221, 222, 223, 224, 225, 226, 227, 228, 229, 230, 231, 232, 233, 234, 235, 236, 237] (by decide +kernel) (by decide +kernel)
set_option maxRecDepth 20000 in
theorem ggX14_read_X14_isText_wsX14_isText_r4 : GoodIn wsX14_read wsX14_isText_r4 := goodIn_r _ [238, 239, 240, 241, 242, 243, 244, 245, 246, 247, 39, 45, 7, 248, 249, 250, 251] (by decide +kernel) (by decide +kernel)
set_option maxRecDepth 20000 in
theorem ggX14_read_X14_isText_wsX140 : GoodIn wsX14_read wsX140 := goodIn_sub (by decide +kernel) (by decide +kernel)
set_option maxRecDepth 20000 in
theorem ggX14_read_X14_isText_wsX130 : GoodIn wsX14_read wsX130 := goodIn_sub (by decide +kernel) (by decide +kernel)
set_option maxRecDepth 20000 in
theorem ggX14_read_X14_isText : GoodIn wsX14_read wsX14_isText := goodIn_c1 ggX14_read_X14_isText_c (goodIn_app (goodIn_app (goodIn_app ggX14_read_X14_isText_wsX14_isText_r1 (goodIn_app ggX14_read_X14_isText_wsX14_isText_r2 (goodIn_app ggX14_read_X14_isText_wsX14_isText_r3 ggX14_read_X14_isText_wsX14_isText_r4))) ggX14_read_X14_isText_wsX140) ggX14_read_X14_isText_wsX130)
set_option maxRecDepth 20000 in
theorem gX14_read_X14_isText : GoodIn wsX14_read (wsV RX14 270 RX14 yX14_isText wsX14_isText) := goodIn_app (goodIn_of _ (by decide +kernel)) ggX14_read_X14_isText
theorem k_X14_read_f39 : Cond.fieldLink RX14 39 "TideLotsModel" "reading" "LTideLotsModel$Told;" ∈ wsX14_read := by decide +kernel
theorem i_X14_read_X14 : ∀ w ∈ u_ws RX14 TX14 15, w ∈ wsX14_read := by decide +kernel
theorem i_X14_read_X13 : ∀ w ∈ u_ws RX13 TX13 25, w ∈ wsX14_read := by decide +kernel
theorem k_X14_read_f29 : Cond.fieldLink RX14 29 "TideLotsModel" "meant" "[I" ∈ wsX14_read := by decide +kernel
theorem k_X14_read_f118 : Cond.fieldLink RX14 118 "TideLotsModel" "token" "I" ∈ wsX14_read := by decide +kernel
theorem k_X14_read_f20 : Cond.fieldLink RX14 20 "TideLotsModel" "from" "[I" ∈ wsX14_read := by decide +kernel
theorem k_X14_read_f13 : Cond.fieldLink RX14 13 "TideLotsModel" "errorAt" "I" ∈ wsX14_read := by decide +kernel
theorem k_X14_read_cl32 : Cond.classLink RX14 32 RX13 ∈ wsX14_read := by decide +kernel
theorem k_X14_read_inX13 : Cond.instantiable RX13 25 ∈ wsX14_read := by decide +kernel
theorem k_X14_read_iiX13 : Cond.initialized RX13 ∈ wsX14_read := by decide +kernel
theorem kn_X14_34 : Cond.methodLinkNest "TideLotsModel" (34 : Nat) ({ cls := "TideLotsModel$Told", name := "<init>", desc := "()V" } : MethodName) "TideLotsModel" ∈ gNs := by decide +kernel
theorem k_X14_read_imX13_init : Cond.instanceMethod yX13_init ∈ wsX14_read := by decide +kernel
theorem k_X14_read_f187 : Cond.fieldLink RX14 187 "TideLotsModel" "depth" "I" ∈ wsX14_read := by decide +kernel
abbrev rX14_read : Room := { frames := 71, cells := 17, slots := 1469, locals := 2708 }
noncomputable def bb_X14_read_111 (Z : Nat → Nat) (M : gMem) (x0 : Nat) (x2 : Int32) : Option ((gMem × Int32) ⊕ (Int32 × gMem)) :=
  ck (mT M x0 = 13) <| dr ((mR M x0 12)) fun a2 => ck (mT M a2 = 12) <| (if (mI M a2 24) ≤ x2 then oI (some ((0 : Int32), M)) else dr ((mR M a2 23)) fun a5 => ck (mT M a5 = 20) <| ck (inb x2 (mL M a5)) <| ck (inb x2 (mL M a5)) <| dr ((mR M a2 21)) fun a9 => ck (mT M a9 = 20) <| ck (inb (mI M a5 x2.toNatClampNeg) (mL M a9)) <| dr ((mR M x0 8)) fun a12 => ck (mT M a12 = 20) <| ck (inb (mI M a9 ((mI M a5 x2.toNatClampNeg)).toNatClampNeg) (mL M a12)) <| ck (inb (mI M a5 x2.toNatClampNeg) (mL M a9)) <| lw (wI M a9 ((mI M a5 x2.toNatClampNeg)).toNatClampNeg ((mI M a12 ((mI M a9 ((mI M a5 x2.toNatClampNeg)).toNatClampNeg)).toNatClampNeg))) fun M16 => some (.inl (M16, (x2 + (1 : Int32)))))
noncomputable def lp_X14_read_111 (Z : Nat → Nat) (M : gMem) (x0 : Nat) (x2 : Int32) : Option (Int32 × gMem) :=
  lp (fun (q : gMem × Int32) => bb_X14_read_111 Z q.1 x0 q.2) (M, x2)
noncomputable def bb_X14_read_57 (Z : Nat → Nat) (M : gMem) (x0 : Nat) (x1 : Int32) : Option ((gMem) ⊕ (Int32 × gMem)) :=
  ck (mT M x0 = 13) <| (if x1 ≤ (mI M x0 9) then oI (lp_X14_read_111 Z M x0 ((0 : Int32))) else bd (f_X14_errorOf M x0 ((mI M x0 9))) fun r24 M24 => (if r24 = 0 then ck (mT M24 x0 = 13) <| lw (wI M24 x0 9 (((mI M24 x0 9) + (1 : Int32)))) fun M34 => some (.inl M34) else ck (mT M24 x0 = 13) <| dr ((mR M24 x0 5)) fun a26 => ck (mT M24 a26 = 20) <| ck (inb (mI M24 x0 9) (mL M24 a26)) <| lw (wI M24 x0 3 ((mI M24 a26 ((mI M24 x0 9)).toNatClampNeg))) fun M29 => oI (some (r24, M29))))
noncomputable def lp_X14_read_57 (Z : Nat → Nat) (M : gMem) (x0 : Nat) (x1 : Int32) : Option (Int32 × gMem) :=
  lp (fun (q : gMem) => bb_X14_read_57 Z q x0 x1) M
noncomputable def b_X14_read_0 (Z : Nat → Nat) (M : gMem) (x0 : Nat) : Option (Int32 × gMem) :=
  lw (nW M 12 0) fun M36 => bd (f_X13_init M36 ((mN M))) fun _ M37 => ck (mT M37 x0 = 13) <| lw (wR M37 x0 12 ((some (mN M)))) fun M39 => bd (f_X14_cut Z M39 x0) fun _ M41 => ck (mT M41 x0 = 13) <| lw (wI M41 x0 9 ((0 : Int32))) fun M43 => lw (wI M43 x0 10 ((0 : Int32))) fun M45 => bd (f_X14_isText M45 x0) fun r47 M47 => (if r47 = 0 then ck (mT M47 x0 = 13) <| dr ((mR M47 x0 5)) fun a52 => ck (mT M47 a52 = 20) <| ck (inb (mI M47 x0 9) (mL M47 a52)) <| lw (wI M47 x0 3 ((mI M47 a52 ((mI M47 x0 9)).toNatClampNeg))) fun M55 => some ((1 : Int32), M55) else ck (mT M47 x0 = 13) <| lw (wI M47 x0 9 ((0 : Int32))) fun M49 => lp_X14_read_57 Z M49 x0 ((mI M47 x0 9)))
noncomputable def f_X14_read (Z : Nat → Nat) (M : gMem) (x0 : Nat) : Option (Int32 × gMem) :=
  b_X14_read_0 Z M x0
set_option maxHeartbeats 4000000 in
set_option maxRecDepth 100000 in
theorem tb_X14_read_111 (X2 : gX p s m args meth c D cy B (gSt2 Z B H0) RX14 cX14_read wsX14_read 3) (hr : meth.sig.returnType = (some .int)) {Q : State → Prop} : ∀ (M : gMem) (x0 : Nat) (x2 : Int32) (z : (gMem × Int32) ⊕ (Int32 × gMem)), bb_X14_read_111 Z M x0 x2 = some z → (Sum.elim (fun (q : gMem × Int32) => gGo p l e rX14_read s m args below meth c D cy B H0 3 17 1469 Q 111 [(0, vR (some x0)), (2, vI q.2)] [] q.1) (fun (r : Int32 × gMem) => Q = gMQ below D cy B H0 args s 17 1469 (some (vI r.1)) r.2)) z → gGo p l e rX14_read s m args below meth c D cy B H0 3 17 1469 Q 111 [(0, vR (some x0)), (2, vI x2)] [] M := by
  intro M x0 x2 z hf hK
  unfold bb_X14_read_111 at hf
  have X := gX_w X2
  refine g_iload_n X dX14_read_111 rfl rfl ?_
  refine g_aload_n X dX14_read_112 rfl rfl ?_
  obtain ⟨hT1, hf⟩ := ck_e hf
  refine g_get (ci := 12) (v := vR (mR M x0 12)) 12 X cdX14 i_X14_read_X14 (by decide) k_X14_read_f39 rfl dX14_read_113 rfl hT1 rfl ?_
  obtain ⟨a2, ha2, hf⟩ := dr_e hf
  obtain ⟨hT3, hf⟩ := ck_e hf
  refine g_getN (ci := 11) (w := vI (mI M a2 24)) 24 X cdX13 i_X14_read_X13 (by decide) (gNw X _ kn_X14_193) rfl dX14_read_116 ha2 hT3 rfl ?_
  refine g_icmp_ge (tgt := 167) X dX14_read_119 (by decide) (fun hc => ?_) (fun hc => ?_)
  · have hf := ife_t hc hf
    refine g_iconst (v := (0 : Int32)) X dX14_read_167 (by decide) ?_
    obtain ⟨w4, hw4, hz4⟩ := oI_e hf
    subst hz4
    have hf := hw4
    cases hf
    refine g_eqQ hK ?_
    exact g_iret X hr dX14_read_168
  · have hf := ife_f hc hf
    refine g_aload_n X dX14_read_122 rfl rfl ?_
    refine g_get (ci := 12) (v := vR (mR M x0 12)) 12 X cdX14 i_X14_read_X14 (by decide) k_X14_read_f39 rfl dX14_read_123 rfl hT1 rfl ?_
    refine g_getN (ci := 11) (w := vR (mR M a2 21)) 21 X cdX13 i_X14_read_X13 (by decide) (gNw X _ kn_X14_127) rfl dX14_read_126 ha2 hT3 rfl ?_
    refine g_aload_n X dX14_read_129 rfl rfl ?_
    refine g_get (ci := 12) (v := vR (mR M x0 12)) 12 X cdX14 i_X14_read_X14 (by decide) k_X14_read_f39 rfl dX14_read_130 rfl hT1 rfl ?_
    refine g_getN (ci := 11) (w := vR (mR M a2 23)) 23 X cdX13 i_X14_read_X13 (by decide) (gNw X _ kn_X14_190) rfl dX14_read_133 ha2 hT3 rfl ?_
    refine g_iload_n X dX14_read_136 rfl rfl ?_
    obtain ⟨a5, ha5, hf⟩ := dr_e hf
    obtain ⟨hT6, hf⟩ := ck_e hf
    obtain ⟨hg7, hf⟩ := ck_e hf
    refine g_iald X dX14_read_137 ha5 hT6 hg7 ?_
    refine g_aload_n X dX14_read_138 rfl rfl ?_
    refine g_get (ci := 12) (v := vR (mR M x0 8)) 8 X cdX14 i_X14_read_X14 (by decide) k_X14_read_f29 rfl dX14_read_139 rfl hT1 rfl ?_
    refine g_aload_n X dX14_read_142 rfl rfl ?_
    refine g_get (ci := 12) (v := vR (mR M x0 12)) 12 X cdX14 i_X14_read_X14 (by decide) k_X14_read_f39 rfl dX14_read_143 rfl hT1 rfl ?_
    refine g_getN (ci := 11) (w := vR (mR M a2 21)) 21 X cdX13 i_X14_read_X13 (by decide) (gNw X _ kn_X14_127) rfl dX14_read_146 ha2 hT3 rfl ?_
    refine g_aload_n X dX14_read_149 rfl rfl ?_
    refine g_get (ci := 12) (v := vR (mR M x0 12)) 12 X cdX14 i_X14_read_X14 (by decide) k_X14_read_f39 rfl dX14_read_150 rfl hT1 rfl ?_
    refine g_getN (ci := 11) (w := vR (mR M a2 23)) 23 X cdX13 i_X14_read_X13 (by decide) (gNw X _ kn_X14_190) rfl dX14_read_153 ha2 hT3 rfl ?_
    refine g_iload_n X dX14_read_156 rfl rfl ?_
    obtain ⟨hg8, hf⟩ := ck_e hf
    refine g_iald X dX14_read_157 ha5 hT6 hg8 ?_
    obtain ⟨a9, ha9, hf⟩ := dr_e hf
    obtain ⟨hT10, hf⟩ := ck_e hf
    obtain ⟨hg11, hf⟩ := ck_e hf
    refine g_iald X dX14_read_158 ha9 hT10 hg11 ?_
    obtain ⟨a12, ha12, hf⟩ := dr_e hf
    obtain ⟨hT13, hf⟩ := ck_e hf
    obtain ⟨hg14, hf⟩ := ck_e hf
    refine g_iald X dX14_read_159 ha12 hT13 hg14 ?_
    obtain ⟨hg15, hf⟩ := ck_e hf
    refine g_iast X dX14_read_160 ha9 hT10 hg15 ?_
    obtain ⟨M16, hM16, hf⟩ := lw_e hf
    rw [← hM16]
    have hT17 : mT M16 x0 = 13 := by rw [hM16]; exact hT1
    have hT18 : mT M16 a2 = 12 := by rw [hM16]; exact hT3
    have hT19 : mT M16 a5 = 20 := by rw [hM16]; exact hT6
    have hT20 : mT M16 a9 = 20 := by rw [hM16]; exact hT10
    have hT21 : mT M16 a12 = 20 := by rw [hM16]; exact hT13
    refine g_iinc (v := (1 : Int32)) (lv' := [(2, vI (x2 + (1 : Int32))), (0, vR (some x0))]) X dX14_read_161 rfl (by decide) (by decide) rfl ?_
    refine g_goto (tgt := 111) X dX14_read_164 (by decide) ?_
    cases hf
    refine g_sub (lvsub_of _ _ [1, 0] rfl) ?_
    exact hK
set_option maxHeartbeats 4000000 in
set_option maxRecDepth 100000 in
theorem tl_X14_read_111 (X2 : gX p s m args meth c D cy B (gSt2 Z B H0) RX14 cX14_read wsX14_read 3) (hr : meth.sig.returnType = (some .int)) {Q : State → Prop} : ∀ (M : gMem) (x0 : Nat) (x2 : Int32) (z : Int32 × gMem), lp_X14_read_111 Z M x0 x2 = some z → (fun (r : Int32 × gMem) => Q = gMQ below D cy B H0 args s 17 1469 (some (vI r.1)) r.2) z → gGo p l e rX14_read s m args below meth c D cy B H0 3 17 1469 Q 111 [(0, vR (some x0)), (2, vI x2)] [] M := by
  intro M x0 x2 z hf hK
  refine lp_ind (P := (fun (q : gMem × Int32) (z : Int32 × gMem) => (fun (r : Int32 × gMem) => Q = gMQ below D cy B H0 args s 17 1469 (some (vI r.1)) r.2) z → gGo p l e rX14_read s m args below meth c D cy B H0 3 17 1469 Q 111 [(0, vR (some x0)), (2, vI q.2)] [] q.1)) (fun q z hq => ?_) _ _ hf hK
  intro hK
  obtain ⟨w, hw, hm⟩ := hq
  refine tb_X14_read_111 X2 hr _ _ _ w hw ?_
  cases w with
  | inl a => exact hm hK
  | inr b => cases hm; exact hK
set_option maxHeartbeats 4000000 in
set_option maxRecDepth 100000 in
theorem tb_X14_read_57 (X2 : gX p s m args meth c D cy B (gSt2 Z B H0) RX14 cX14_read wsX14_read 3) (hr : meth.sig.returnType = (some .int)) {Q : State → Prop} : ∀ (M : gMem) (x0 : Nat) (x1 : Int32) (z : (gMem) ⊕ (Int32 × gMem)), bb_X14_read_57 Z M x0 x1 = some z → (Sum.elim (fun (q : gMem) => gGo p l e rX14_read s m args below meth c D cy B H0 3 17 1469 Q 57 [(0, vR (some x0)), (1, vI x1)] [] q) (fun (r : Int32 × gMem) => Q = gMQ below D cy B H0 args s 17 1469 (some (vI r.1)) r.2)) z → gGo p l e rX14_read s m args below meth c D cy B H0 3 17 1469 Q 57 [(0, vR (some x0)), (1, vI x1)] [] M := by
  intro M x0 x1 z hf hK
  unfold bb_X14_read_57 at hf
  have X := gX_w X2
  refine g_aload_n X dX14_read_57 rfl rfl ?_
  obtain ⟨hT22, hf⟩ := ck_e hf
  refine g_get (ci := 12) (v := vI (mI M x0 9)) 9 X cdX14 i_X14_read_X14 (by decide) k_X14_read_f118 rfl dX14_read_58 rfl hT22 rfl ?_
  refine g_iload_n X dX14_read_61 rfl rfl ?_
  refine g_icmp_ge (tgt := 109) X dX14_read_62 (by decide) (fun hc => ?_) (fun hc => ?_)
  · have hf := ife_t hc hf
    refine g_iconst (v := (0 : Int32)) X dX14_read_109 (by decide) ?_
    refine g_istore_n (lv' := [(2, vI (0 : Int32)), (0, vR (some x0)), (1, vI x1)]) X dX14_read_110 rfl (by decide) rfl ?_
    obtain ⟨w23, hw23, hz23⟩ := oI_e hf
    subst hz23
    have hf := hw23
    refine g_sub (lvsub_of _ _ [1, 0] rfl) ?_
    exact tl_X14_read_111 X2 hr _ _ _ _ hf hK
  · have hf := ife_f hc hf
    refine g_aload_n X dX14_read_65 rfl rfl ?_
    refine g_aload_n X dX14_read_66 rfl rfl ?_
    refine g_get (ci := 12) (v := vI (mI M x0 9)) 9 X cdX14 i_X14_read_X14 (by decide) k_X14_read_f118 rfl dX14_read_67 rfl hT22 rfl ?_
    obtain ⟨r24, M24, hq24, hf⟩ := bd_e hf
    refine g_callV (ci := 12) (b := x0) (As := [vI (mI M x0 9)]) (st := []) (v := some (vI r24)) (M1 := M24) X (m_X14_errorOf l hq24) (cwV 1 X.2.2.1 gX14_read_X14_errorOf rfl rfl rfl (by decide +kernel) ⟨Nat.le_of_ble_eq_true rfl, Nat.le_of_ble_eq_true rfl⟩) rfl rfl rfl hT22 (by decide) rfl (Nat.le_of_ble_eq_true rfl) dX14_read_70 ⟨by decide, by decide⟩ ?_
    refine g_istore_n (lv' := [(2, vI r24), (0, vR (some x0)), (1, vI x1)]) X dX14_read_73 rfl (by decide) rfl ?_
    refine g_iload_n X dX14_read_74 rfl rfl ?_
    refine g_if_ne (tgt := 81) X dX14_read_75 (by decide) (fun hc => ?_) (fun hc => ?_)
    · have hf := ife_f hc hf
      refine g_aload_n X dX14_read_81 rfl rfl ?_
      refine g_aload_n X dX14_read_82 rfl rfl ?_
      obtain ⟨hT25, hf⟩ := ck_e hf
      refine g_get (ci := 12) (v := vR (mR M24 x0 5)) 5 X cdX14 i_X14_read_X14 (by decide) k_X14_read_f20 rfl dX14_read_83 rfl hT25 rfl ?_
      refine g_aload_n X dX14_read_86 rfl rfl ?_
      refine g_get (ci := 12) (v := vI (mI M24 x0 9)) 9 X cdX14 i_X14_read_X14 (by decide) k_X14_read_f118 rfl dX14_read_87 rfl hT25 rfl ?_
      obtain ⟨a26, ha26, hf⟩ := dr_e hf
      obtain ⟨hT27, hf⟩ := ck_e hf
      obtain ⟨hg28, hf⟩ := ck_e hf
      refine g_iald X dX14_read_90 ha26 hT27 hg28 ?_
      refine g_putI (ci := 12) 3 X cdX14 i_X14_read_X14 (by decide) k_X14_read_f13 rfl dX14_read_91 rfl hT25 (Or.inl rfl) rfl rfl rfl ?_
      obtain ⟨M29, hM29, hf⟩ := lw_e hf
      rw [← hM29]
      have hT30 : mT M29 x0 = 13 := by rw [hM29]; exact hT25
      have hT31 : mT M29 a26 = 20 := by rw [hM29]; exact hT27
      refine g_iload_n X dX14_read_94 rfl rfl ?_
      obtain ⟨w32, hw32, hz32⟩ := oI_e hf
      subst hz32
      have hf := hw32
      cases hf
      refine g_eqQ hK ?_
      exact g_iret X hr dX14_read_95
    · have hf := ife_t hc hf
      refine g_goto (tgt := 96) X dX14_read_78 (by decide) ?_
      refine g_aload_n X dX14_read_96 rfl rfl ?_
      refine g_dup X dX14_read_97 rfl ?_
      obtain ⟨hT33, hf⟩ := ck_e hf
      refine g_get (ci := 12) (v := vI (mI M24 x0 9)) 9 X cdX14 i_X14_read_X14 (by decide) k_X14_read_f118 rfl dX14_read_98 rfl hT33 rfl ?_
      refine g_iconst (v := (1 : Int32)) X dX14_read_101 (by decide) ?_
      refine g_iadd X dX14_read_102 ?_
      refine g_putI (ci := 12) 9 X cdX14 i_X14_read_X14 (by decide) k_X14_read_f118 rfl dX14_read_103 rfl hT33 (Or.inl rfl) rfl rfl rfl ?_
      obtain ⟨M34, hM34, hf⟩ := lw_e hf
      rw [← hM34]
      have hT35 : mT M34 x0 = 13 := by rw [hM34]; exact hT33
      refine g_goto (tgt := 57) X dX14_read_106 (by decide) ?_
      cases hf
      refine g_sub (lvsub_of _ _ [1, 2] rfl) ?_
      exact hK
set_option maxHeartbeats 4000000 in
set_option maxRecDepth 100000 in
theorem tl_X14_read_57 (X2 : gX p s m args meth c D cy B (gSt2 Z B H0) RX14 cX14_read wsX14_read 3) (hr : meth.sig.returnType = (some .int)) {Q : State → Prop} : ∀ (M : gMem) (x0 : Nat) (x1 : Int32) (z : Int32 × gMem), lp_X14_read_57 Z M x0 x1 = some z → (fun (r : Int32 × gMem) => Q = gMQ below D cy B H0 args s 17 1469 (some (vI r.1)) r.2) z → gGo p l e rX14_read s m args below meth c D cy B H0 3 17 1469 Q 57 [(0, vR (some x0)), (1, vI x1)] [] M := by
  intro M x0 x1 z hf hK
  refine lp_ind (P := (fun (q : gMem) (z : Int32 × gMem) => (fun (r : Int32 × gMem) => Q = gMQ below D cy B H0 args s 17 1469 (some (vI r.1)) r.2) z → gGo p l e rX14_read s m args below meth c D cy B H0 3 17 1469 Q 57 [(0, vR (some x0)), (1, vI x1)] [] q)) (fun q z hq => ?_) _ _ hf hK
  intro hK
  obtain ⟨w, hw, hm⟩ := hq
  refine tb_X14_read_57 X2 hr _ _ _ w hw ?_
  cases w with
  | inl a => exact hm hK
  | inr b => cases hm; exact hK
set_option maxHeartbeats 4000000 in
set_option maxRecDepth 100000 in
theorem t_X14_read_0 (X2 : gX p s m args meth c D cy B (gSt2 Z B H0) RX14 cX14_read wsX14_read 3) (hr : meth.sig.returnType = (some .int)) {Q : State → Prop} : ∀ (M : gMem) (x0 : Nat) (z : Int32 × gMem), b_X14_read_0 Z M x0 = some z → (fun (r : Int32 × gMem) => Q = gMQ below D cy B H0 args s 17 1469 (some (vI r.1)) r.2) z → gGo p l e rX14_read s m args below meth c D cy B H0 3 0 0 Q 0 [(0, vR (some x0))] [] M := by
  intro M x0 z hf hK
  unfold b_X14_read_0 at hf
  have X := gX_w X2
  refine g_aload_n X dX14_read_0 rfl rfl ?_
  refine g_new (ci := 11) X cdX13 i_X14_read_X13 k_X14_read_cl32 k_X14_read_inX13 k_X14_read_iiX13 (by intro i hi; rcases (show i = 0 ∨ i = 1 ∨ i = 2 ∨ i = 3 ∨ i = 4 ∨ i = 5 ∨ i = 6 ∨ i = 7 ∨ i = 8 ∨ i = 9 ∨ i = 10 ∨ i = 11 ∨ i = 12 ∨ i = 13 ∨ i = 14 ∨ i = 15 ∨ i = 16 ∨ i = 17 ∨ i = 18 ∨ i = 19 ∨ i = 20 ∨ i = 21 ∨ i = 22 ∨ i = 23 ∨ i = 24 by omega) with rfl | rfl | rfl | rfl | rfl | rfl | rfl | rfl | rfl | rfl | rfl | rfl | rfl | rfl | rfl | rfl | rfl | rfl | rfl | rfl | rfl | rfl | rfl | rfl | rfl <;> rfl) ⟨by decide, by decide⟩ dX14_read_1 ?_
  obtain ⟨M36, hM36, hf⟩ := lw_e hf
  rw [← hM36]
  refine g_dup X dX14_read_4 rfl ?_
  obtain ⟨r37, M37, hq37, hf⟩ := bd_e hf
  refine g_callIN (b := (mN M)) (As := []) (st := [vR (some (mN M)), vR (some x0)]) (M1 := M37) X (m_X13_init l hq37) ⟨va_cnB 0 X.2.2.1 gX14_read_X13_init_n34 rfl rfl rfl (gNw X _ kn_X14_34) (X.2.2.1 _ k_X14_read_iiX13) (by decide +kernel) ⟨Nat.le_of_ble_eq_true rfl, Nat.le_of_ble_eq_true rfl⟩, rfl, X.2.2.1 _ k_X14_read_imX13_init⟩ rfl rfl rfl (Nat.le_of_ble_eq_true rfl) dX14_read_5 ⟨by decide, by decide⟩ ?_
  obtain ⟨hT38, hf⟩ := ck_e hf
  refine g_putR (ci := 12) 12 X cdX14 i_X14_read_X14 (by decide) k_X14_read_f39 rfl dX14_read_8 rfl hT38 (Or.inl rfl) (gnO _ _) (gfO _ _) rfl ?_
  obtain ⟨M39, hM39, hf⟩ := lw_e hf
  rw [← hM39]
  have hT40 : mT M39 x0 = 13 := by rw [hM39]; exact hT38
  refine g_aload_n X dX14_read_11 rfl rfl ?_
  obtain ⟨r41, M41, hq41, hf⟩ := bd_e hf
  refine g_callV (ci := 12) (b := x0) (As := []) (st := []) (v := none) (M1 := M41) X2 (m_X14_cut l hq41) (cwV 0 X.2.2.1 gX14_read_X14_cut rfl rfl rfl (by decide +kernel) ⟨Nat.le_of_ble_eq_true rfl, Nat.le_of_ble_eq_true rfl⟩) rfl rfl rfl hT40 (by decide) rfl (Nat.le_of_ble_eq_true rfl) dX14_read_12 ⟨by decide, by decide⟩ ?_
  refine g_aload_n X dX14_read_15 rfl rfl ?_
  refine g_iconst (v := (0 : Int32)) X dX14_read_16 (by decide) ?_
  obtain ⟨hT42, hf⟩ := ck_e hf
  refine g_putI (ci := 12) 9 X cdX14 i_X14_read_X14 (by decide) k_X14_read_f118 rfl dX14_read_17 rfl hT42 (Or.inl rfl) rfl rfl rfl ?_
  obtain ⟨M43, hM43, hf⟩ := lw_e hf
  rw [← hM43]
  have hT44 : mT M43 x0 = 13 := by rw [hM43]; exact hT42
  refine g_aload_n X dX14_read_20 rfl rfl ?_
  refine g_iconst (v := (0 : Int32)) X dX14_read_21 (by decide) ?_
  refine g_putI (ci := 12) 10 X cdX14 i_X14_read_X14 (by decide) k_X14_read_f187 rfl dX14_read_22 rfl hT44 (Or.inl rfl) rfl rfl rfl ?_
  obtain ⟨M45, hM45, hf⟩ := lw_e hf
  rw [← hM45]
  have hT46 : mT M45 x0 = 13 := by rw [hM45]; exact hT44
  refine g_aload_n X dX14_read_25 rfl rfl ?_
  obtain ⟨r47, M47, hq47, hf⟩ := bd_e hf
  refine g_callV (ci := 12) (b := x0) (As := []) (st := []) (v := some (vI r47)) (M1 := M47) X (m_X14_isText l hq47) (cwV 0 X.2.2.1 gX14_read_X14_isText rfl rfl rfl (by decide +kernel) ⟨Nat.le_of_ble_eq_true rfl, Nat.le_of_ble_eq_true rfl⟩) rfl rfl rfl hT46 (by decide) rfl (Nat.le_of_ble_eq_true rfl) dX14_read_26 ⟨by decide, by decide⟩ ?_
  refine g_if_ne (tgt := 47) X dX14_read_29 (by decide) (fun hc => ?_) (fun hc => ?_)
  · have hf := ife_f hc hf
    refine g_aload_n X dX14_read_47 rfl rfl ?_
    obtain ⟨hT48, hf⟩ := ck_e hf
    refine g_get (ci := 12) (v := vI (mI M47 x0 9)) 9 X cdX14 i_X14_read_X14 (by decide) k_X14_read_f118 rfl dX14_read_48 rfl hT48 rfl ?_
    refine g_istore_n (lv' := [(1, vI (mI M47 x0 9)), (0, vR (some x0))]) X dX14_read_51 rfl (by decide) rfl ?_
    refine g_aload_n X dX14_read_52 rfl rfl ?_
    refine g_iconst (v := (0 : Int32)) X dX14_read_53 (by decide) ?_
    refine g_putI (ci := 12) 9 X cdX14 i_X14_read_X14 (by decide) k_X14_read_f118 rfl dX14_read_54 rfl hT48 (Or.inl rfl) rfl rfl rfl ?_
    obtain ⟨M49, hM49, hf⟩ := lw_e hf
    rw [← hM49]
    have hT50 : mT M49 x0 = 13 := by rw [hM49]; exact hT48
    refine g_sub (lvsub_of _ _ [1, 0] rfl) ?_
    exact tl_X14_read_57 X2 hr _ _ _ _ hf hK
  · have hf := ife_t hc hf
    refine g_aload_n X dX14_read_32 rfl rfl ?_
    refine g_aload_n X dX14_read_33 rfl rfl ?_
    obtain ⟨hT51, hf⟩ := ck_e hf
    refine g_get (ci := 12) (v := vR (mR M47 x0 5)) 5 X cdX14 i_X14_read_X14 (by decide) k_X14_read_f20 rfl dX14_read_34 rfl hT51 rfl ?_
    refine g_aload_n X dX14_read_37 rfl rfl ?_
    refine g_get (ci := 12) (v := vI (mI M47 x0 9)) 9 X cdX14 i_X14_read_X14 (by decide) k_X14_read_f118 rfl dX14_read_38 rfl hT51 rfl ?_
    obtain ⟨a52, ha52, hf⟩ := dr_e hf
    obtain ⟨hT53, hf⟩ := ck_e hf
    obtain ⟨hg54, hf⟩ := ck_e hf
    refine g_iald X dX14_read_41 ha52 hT53 hg54 ?_
    refine g_putI (ci := 12) 3 X cdX14 i_X14_read_X14 (by decide) k_X14_read_f13 rfl dX14_read_42 rfl hT51 (Or.inl rfl) rfl rfl rfl ?_
    obtain ⟨M55, hM55, hf⟩ := lw_e hf
    rw [← hM55]
    have hT56 : mT M55 x0 = 13 := by rw [hM55]; exact hT51
    have hT57 : mT M55 a52 = 20 := by rw [hM55]; exact hT53
    refine g_iconst (v := (1 : Int32)) X dX14_read_45 (by decide) ?_
    cases hf
    refine g_eqQ hK ?_
    exact g_iret X hr dX14_read_46
set_option maxHeartbeats 4000000 in
set_option maxRecDepth 100000 in
theorem m_X14_read (l : Launch) {D : va_G} {cy : Nat → ClassId} {B : Nat} {H0 : Heap} {Z : Nat → Nat} {M M1 : gMem} {x0 : Nat} {r : Int32} (hf : f_X14_read Z M x0 = some (r, M1)) : Met l yX14_read wsX14_read rX14_read (va_Pc (Value.ref x0 :: List.map gv []) (gPre D cy B H0 (gSt2 Z B H0) M)) (gQ D cy B H0 (some (vI r)) M1) 17 1469 (gA B) := by
  refine Met.ofW (cc := cX14_read) (maxL := 3) (ret := (some .int)) (by decide) rfl ?_
  intro p e s m args below meth c s₁ Bd hml hv
  obtain ⟨rfl, hW, hKK, hFs⟩ := hv
  have X2 : gX p s m _ meth c D cy B (gSt2 Z B H0) RX14 cX14_read wsX14_read 3 := ⟨Bd.exec, Bd.bytes, atoms_spec (ws := wsX14_read) Bd.pre, findClass_of_methodNamed Bd.named, hml, hKK, by rw [hW.1]; exact hW.2.1, Bd.notSynchronized, hFs⟩
  have hr := Bd.returns
  have hl := lv_entry ([.ref x0]) (n := 3) (Nat.le_of_ble_eq_true rfl)
  show W p l e rX14_read s m _ below meth c s.heap [] 0 0 _ (entryFrame m ([.ref x0] : List Value).toArray 3)
  rw [lg_entry_eq]
  generalize (lg_sl ([.ref x0]) ++ List.replicate (3 - (lg_sl ([.ref x0])).length) Slot.unset).toArray = ls at hl ⊢
  have hl : lv_has ls 3 (List.map gq [(0, vR (some x0))]) := hl
  exact t_X14_read_0 X2 hr _ _ _ hf rfl s.heap [] ls hW va_S.rf (lv_has_sub hl (lvsub_of _ _ [0] rfl))
/-! ## TideLotsModel.teach()I -/
theorem dX14_teach_0 : decode cX14_teach 0 = .ok (.aload_n 0, 1) := by decide +kernel
theorem dX14_teach_1 : decode cX14_teach 1 = .ok (.iconst 0, 1) := by decide +kernel
theorem dX14_teach_2 : decode cX14_teach 2 = .ok (.putfield 57, 3) := by decide +kernel
theorem dX14_teach_5 : decode cX14_teach 5 = .ok (.aload_n 0, 1) := by decide +kernel
theorem dX14_teach_6 : decode cX14_teach 6 = .ok (.iconst (-1), 1) := by decide +kernel
theorem dX14_teach_7 : decode cX14_teach 7 = .ok (.putfield 13, 3) := by decide +kernel
theorem dX14_teach_10 : decode cX14_teach 10 = .ok (.aload_n 0, 1) := by decide +kernel
theorem dX14_teach_11 : decode cX14_teach 11 = .ok (.invokevirtual 279, 3) := by decide +kernel
theorem dX14_teach_14 : decode cX14_teach 14 = .ok (.istore_n 1, 1) := by decide +kernel
theorem dX14_teach_15 : decode cX14_teach 15 = .ok (.aload_n 0, 1) := by decide +kernel
theorem dX14_teach_16 : decode cX14_teach 16 = .ok (.iconst 0, 1) := by decide +kernel
theorem dX14_teach_17 : decode cX14_teach 17 = .ok (.putfield 79, 3) := by decide +kernel
theorem dX14_teach_20 : decode cX14_teach 20 = .ok (.iload_n 1, 1) := by decide +kernel
theorem dX14_teach_21 : decode cX14_teach 21 = .ok (.ifCond .le 5, 3) := by decide +kernel
theorem dX14_teach_24 : decode cX14_teach 24 = .ok (.iload_n 1, 1) := by decide +kernel
theorem dX14_teach_25 : decode cX14_teach 25 = .ok (.ireturn, 1) := by decide +kernel
theorem dX14_teach_26 : decode cX14_teach 26 = .ok (.aload_n 0, 1) := by decide +kernel
theorem dX14_teach_27 : decode cX14_teach 27 = .ok (.aload_n 0, 1) := by decide +kernel
theorem dX14_teach_28 : decode cX14_teach 28 = .ok (.getfield 39, 3) := by decide +kernel
theorem dX14_teach_31 : decode cX14_teach 31 = .ok (.putfield 35, 3) := by decide +kernel
theorem dX14_teach_34 : decode cX14_teach 34 = .ok (.aload_n 0, 1) := by decide +kernel
theorem dX14_teach_35 : decode cX14_teach 35 = .ok (.getfield 47, 3) := by decide +kernel
theorem dX14_teach_38 : decode cX14_teach 38 = .ok (.invokevirtual 54, 3) := by decide +kernel
theorem dX14_teach_41 : decode cX14_teach 41 = .ok (.iconst 0, 1) := by decide +kernel
theorem dX14_teach_42 : decode cX14_teach 42 = .ok (.ireturn, 1) := by decide +kernel
set_option maxRecDepth 20000 in
theorem ggX14_teach_X14_read_c : GoodIn wsX14_teach [.code yX14_read cX14_read 3 (some .int)] := goodIn_r _ [11] (by decide +kernel) (by decide +kernel)
set_option maxRecDepth 20000 in
theorem ggX14_teach_X14_read_wsX14_read_r1 : GoodIn wsX14_teach wsX14_read_r1 := goodIn_r _ [12, 13, 14, 4, 15, 16, 17, 2, 18, 19, 20, 21, 22, 23, 24, 25, 26, 27, 28, 29, 30, 31, 32, 33] (by decide +kernel) (by decide +kernel)
set_option maxRecDepth 20000 in
theorem ggX14_teach_X14_read_wsX14_read_r2 : GoodIn wsX14_teach wsX14_read_r2 := goodIn_r _ [34, 35, 36, 37, 38, 39, 40, 41, 42, 43, 10, 44, 45, 46, 47, 48, 49, 50, 51, 3, 52, 53, 54, 55] (by decide +kernel) (by decide +kernel)
set_option maxRecDepth 20000 in
theorem ggX14_teach_X14_read_wsX14_read_r3 : GoodIn wsX14_teach wsX14_read_r3 := goodIn_r _ [56, 57, 58, 59, 60, 61, 62, 63, 64, 65, 66, 67, 68, 69, 70, 71, 72, 73, 74, 75, 76, 77, 78, 79] (by decide +kernel) (by decide +kernel)
set_option maxRecDepth 20000 in
theorem ggX14_teach_X14_read_wsX14_read_r4 : GoodIn wsX14_teach wsX14_read_r4 := goodIn_r _ [80, 81, 82, 83, 84, 85, 86, 87, 88, 89, 90, 91, 92, 93, 94, 95, 96, 97, 98, 99, 100, 101, 102, 103] (by decide +kernel) (by decide +kernel)
set_option maxRecDepth 20000 in
theorem ggX14_teach_X14_read_wsX14_read_r5 : GoodIn wsX14_teach wsX14_read_r5 := goodIn_r _ [104, 105, 106, 107, 108, 109, 110, 111, 112, 113, 114, 115, 116, 117, 118, 119, 120, 121, 122, 123, 124, 125, 126, 127] (by decide +kernel) (by decide +kernel)
set_option maxRecDepth 20000 in
theorem ggX14_teach_X14_read_wsX14_read_r6 : GoodIn wsX14_teach wsX14_read_r6 := goodIn_r _ [128, 129, 130, 131, 132, 133, 134, 135, 136, 137, 138, 139, 140, 141, 142, 143, 144, 145, 146, 147, 148, 149, 150, 151] (by decide +kernel) (by decide +kernel)
set_option maxRecDepth 20000 in
theorem ggX14_teach_X14_read_wsX14_read_r7 : GoodIn wsX14_teach wsX14_read_r7 := goodIn_r _ [152, 153, 154, 155, 156, 157, 158, 159, 160, 161, 162, 163, 164, 165, 166, 167, 168, 169, 170, 171, 172, 173, 174, 175] (by decide +kernel) (by decide +kernel)
set_option maxRecDepth 20000 in
theorem ggX14_teach_X14_read_wsX14_read_r8 : GoodIn wsX14_teach wsX14_read_r8 := goodIn_r _ [176, 177, 178, 179, 180, 181, 182, 183, 184, 185, 186, 187, 188, 189, 190, 191, 192, 193, 194, 195, 196, 197, 198, 199] (by decide +kernel) (by decide +kernel)
set_option maxRecDepth 20000 in
theorem ggX14_teach_X14_read_wsX14_read_r9 : GoodIn wsX14_teach wsX14_read_r9 := goodIn_r _ [200, 201, 202, 203, 204, 205, 206, 207, 208, 209, 210, 211, 212, 213, 214, 215, 216, 217, 218, 219, 220, 221, 222, 223] (by decide +kernel) (by decide +kernel)
set_option maxRecDepth 20000 in
theorem ggX14_teach_X14_read_wsX14_read_r10 : GoodIn wsX14_teach wsX14_read_r10 := goodIn_r _ [224, 225, 226, 227, 228, 229, 230, 231, 232, 233, 234, 235, 236, 237, 238, 239, 240, 241, 242, 243, 244, 245, 246, 247] (by decide +kernel) (by decide +kernel)
set_option maxRecDepth 20000 in
theorem ggX14_teach_X14_read_wsX14_read_r11 : GoodIn wsX14_teach wsX14_read_r11 := goodIn_r _ [248, 249, 250, 251, 252, 253, 254, 255, 256, 257, 258, 259, 260, 261, 262, 263, 264, 265, 266, 267, 268, 269, 270, 271] (by decide +kernel) (by decide +kernel)
set_option maxRecDepth 20000 in
theorem ggX14_teach_X14_read_wsX14_read_r12 : GoodIn wsX14_teach wsX14_read_r12 := goodIn_r _ [272, 273, 274, 275, 276, 277, 278, 279, 280, 281, 282, 283, 284, 285] (by decide +kernel) (by decide +kernel)
set_option maxRecDepth 20000 in
theorem ggX14_teach_X14_read_wsX130 : GoodIn wsX14_teach wsX130 := goodIn_sub (by decide +kernel) (by decide +kernel)
set_option maxRecDepth 20000 in
theorem ggX14_teach_X14_read_wsX140 : GoodIn wsX14_teach wsX140 := goodIn_sub (by decide +kernel) (by decide +kernel)
set_option maxRecDepth 20000 in
theorem ggX14_teach_X14_read : GoodIn wsX14_teach wsX14_read := goodIn_c1 ggX14_teach_X14_read_c (goodIn_app (goodIn_app (goodIn_app ggX14_teach_X14_read_wsX14_read_r1 (goodIn_app ggX14_teach_X14_read_wsX14_read_r2 (goodIn_app ggX14_teach_X14_read_wsX14_read_r3 (goodIn_app ggX14_teach_X14_read_wsX14_read_r4 (goodIn_app ggX14_teach_X14_read_wsX14_read_r5 (goodIn_app ggX14_teach_X14_read_wsX14_read_r6 (goodIn_app ggX14_teach_X14_read_wsX14_read_r7 (goodIn_app ggX14_teach_X14_read_wsX14_read_r8 (goodIn_app ggX14_teach_X14_read_wsX14_read_r9 (goodIn_app ggX14_teach_X14_read_wsX14_read_r10 (goodIn_app ggX14_teach_X14_read_wsX14_read_r11 ggX14_teach_X14_read_wsX14_read_r12))))))))))) ggX14_teach_X14_read_wsX130) ggX14_teach_X14_read_wsX140)
set_option maxRecDepth 20000 in
theorem gX14_teach_X14_read : GoodIn wsX14_teach (wsV RX14 279 RX14 yX14_read wsX14_read) := goodIn_app (goodIn_of _ (by decide +kernel)) ggX14_teach_X14_read
set_option maxRecDepth 20000 in
theorem ggX14_teach_X12_begin : GoodIn wsX14_teach wsX12_begin := goodIn_r _ [290, 291, 292, 293, 294, 295, 296, 297, 298, 299, 300, 301, 302, 303, 304, 305, 306, 307, 289, 308, 309, 310, 311, 312, 353, 354, 355, 356, 357, 358, 359, 360, 361, 362, 363, 364, 365, 366, 367, 368, 369, 370, 371, 313, 314, 315, 316, 317, 318, 319, 320, 321, 322, 323, 324, 325, 326, 327, 328, 329, 330, 331, 332, 333, 334, 335, 336, 337, 338, 339, 340, 341, 342, 343, 344, 345, 346, 347, 348, 349, 350, 351, 352] (by decide +kernel) (by decide +kernel)
set_option maxRecDepth 20000 in
theorem gX14_teach_X12_begin : GoodIn wsX14_teach (wsV RX14 54 RX12 yX12_begin wsX12_begin) := goodIn_app (goodIn_of _ (by decide +kernel)) ggX14_teach_X12_begin
theorem k_X14_teach_f57 : Cond.fieldLink RX14 57 "TideLotsModel" "thrown" "I" ∈ wsX14_teach := by decide +kernel
theorem i_X14_teach_X14 : ∀ w ∈ u_ws RX14 TX14 15, w ∈ wsX14_teach := by decide +kernel
theorem k_X14_teach_f13 : Cond.fieldLink RX14 13 "TideLotsModel" "errorAt" "I" ∈ wsX14_teach := by decide +kernel
theorem k_X14_teach_f79 : Cond.fieldLink RX14 79 "TideLotsModel" "size" "I" ∈ wsX14_teach := by decide +kernel
theorem k_X14_teach_f39 : Cond.fieldLink RX14 39 "TideLotsModel" "reading" "LTideLotsModel$Told;" ∈ wsX14_teach := by decide +kernel
theorem k_X14_teach_f35 : Cond.fieldLink RX14 35 "TideLotsModel" "told" "LTideLotsModel$Told;" ∈ wsX14_teach := by decide +kernel
theorem k_X14_teach_f47 : Cond.fieldLink RX14 47 "TideLotsModel" "s" "LTideLotsModel$State;" ∈ wsX14_teach := by decide +kernel
abbrev rX14_teach : Room := { frames := 72, cells := 18, slots := 1478, locals := 2730 }
noncomputable def b_X14_teach_0 (Z : Nat → Nat) (M : gMem) (x0 : Nat) : Option (Int32 × gMem) :=
  ck (mT M x0 = 13) <| lw (wI M x0 0 ((0 : Int32))) fun M2 => lw (wI M2 x0 3 ((-1 : Int32))) fun M4 => bd (f_X14_read Z M4 x0) fun r6 M6 => ck (mT M6 x0 = 13) <| lw (wI M6 x0 2 ((0 : Int32))) fun M8 => (if r6 ≤ 0 then lw (wR M8 x0 11 ((mR M8 x0 12))) fun M10 => dr ((mR M10 x0 13)) fun a13 => ck (mT M10 a13 = 11) <| bd (f_X12_begin M10 a13) fun _ M12 => some ((0 : Int32), M12) else some (r6, M8))
noncomputable def f_X14_teach (Z : Nat → Nat) (M : gMem) (x0 : Nat) : Option (Int32 × gMem) :=
  b_X14_teach_0 Z M x0
set_option maxHeartbeats 4000000 in
set_option maxRecDepth 100000 in
theorem t_X14_teach_0 (X2 : gX p s m args meth c D cy B (gSt2 Z B H0) RX14 cX14_teach wsX14_teach 2) (hr : meth.sig.returnType = (some .int)) {Q : State → Prop} : ∀ (M : gMem) (x0 : Nat) (z : Int32 × gMem), b_X14_teach_0 Z M x0 = some z → (fun (r : Int32 × gMem) => Q = gMQ below D cy B H0 args s 18 1478 (some (vI r.1)) r.2) z → gGo p l e rX14_teach s m args below meth c D cy B H0 2 0 0 Q 0 [(0, vR (some x0))] [] M := by
  intro M x0 z hf hK
  unfold b_X14_teach_0 at hf
  have X := gX_w X2
  refine g_aload_n X dX14_teach_0 rfl rfl ?_
  refine g_iconst (v := (0 : Int32)) X dX14_teach_1 (by decide) ?_
  obtain ⟨hT1, hf⟩ := ck_e hf
  refine g_putI (ci := 12) 0 X cdX14 i_X14_teach_X14 (by decide) k_X14_teach_f57 rfl dX14_teach_2 rfl hT1 (Or.inl rfl) rfl rfl rfl ?_
  obtain ⟨M2, hM2, hf⟩ := lw_e hf
  rw [← hM2]
  have hT3 : mT M2 x0 = 13 := by rw [hM2]; exact hT1
  refine g_aload_n X dX14_teach_5 rfl rfl ?_
  refine g_iconst (v := (-1 : Int32)) X dX14_teach_6 (by decide) ?_
  refine g_putI (ci := 12) 3 X cdX14 i_X14_teach_X14 (by decide) k_X14_teach_f13 rfl dX14_teach_7 rfl hT3 (Or.inl rfl) rfl rfl rfl ?_
  obtain ⟨M4, hM4, hf⟩ := lw_e hf
  rw [← hM4]
  have hT5 : mT M4 x0 = 13 := by rw [hM4]; exact hT3
  refine g_aload_n X dX14_teach_10 rfl rfl ?_
  obtain ⟨r6, M6, hq6, hf⟩ := bd_e hf
  refine g_callV (ci := 12) (b := x0) (As := []) (st := []) (v := some (vI r6)) (M1 := M6) X2 (m_X14_read l hq6) (cwV 0 X.2.2.1 gX14_teach_X14_read rfl rfl rfl (by decide +kernel) ⟨Nat.le_of_ble_eq_true rfl, Nat.le_of_ble_eq_true rfl⟩) rfl rfl rfl hT5 (by decide) rfl (Nat.le_of_ble_eq_true rfl) dX14_teach_11 ⟨by decide, by decide⟩ ?_
  refine g_istore_n (lv' := [(1, vI r6), (0, vR (some x0))]) X dX14_teach_14 rfl (by decide) rfl ?_
  refine g_aload_n X dX14_teach_15 rfl rfl ?_
  refine g_iconst (v := (0 : Int32)) X dX14_teach_16 (by decide) ?_
  obtain ⟨hT7, hf⟩ := ck_e hf
  refine g_putI (ci := 12) 2 X cdX14 i_X14_teach_X14 (by decide) k_X14_teach_f79 rfl dX14_teach_17 rfl hT7 (Or.inl rfl) rfl rfl rfl ?_
  obtain ⟨M8, hM8, hf⟩ := lw_e hf
  rw [← hM8]
  have hT9 : mT M8 x0 = 13 := by rw [hM8]; exact hT7
  refine g_iload_n X dX14_teach_20 rfl rfl ?_
  refine g_if_le (tgt := 26) X dX14_teach_21 (by decide) (fun hc => ?_) (fun hc => ?_)
  · have hf := ife_t hc hf
    refine g_aload_n X dX14_teach_26 rfl rfl ?_
    refine g_aload_n X dX14_teach_27 rfl rfl ?_
    refine g_get (ci := 12) (v := vR (mR M8 x0 12)) 12 X cdX14 i_X14_teach_X14 (by decide) k_X14_teach_f39 rfl dX14_teach_28 rfl hT9 rfl ?_
    refine g_putR (ci := 12) 11 X cdX14 i_X14_teach_X14 (by decide) k_X14_teach_f35 rfl dX14_teach_31 rfl hT9 (Or.inl rfl) (gnO _ _) (gfO _ _) rfl ?_
    obtain ⟨M10, hM10, hf⟩ := lw_e hf
    rw [← hM10]
    have hT11 : mT M10 x0 = 13 := by rw [hM10]; exact hT9
    refine g_aload_n X dX14_teach_34 rfl rfl ?_
    refine g_get (ci := 12) (v := vR (mR M10 x0 13)) 13 X cdX14 i_X14_teach_X14 (by decide) k_X14_teach_f47 rfl dX14_teach_35 rfl hT11 rfl ?_
    obtain ⟨a13, ha13, hf⟩ := dr_e hf
    obtain ⟨hT14, hf⟩ := ck_e hf
    obtain ⟨r12, M12, hq12, hf⟩ := bd_e hf
    refine g_callV (ci := 10) (b := a13) (As := []) (st := []) (v := none) (M1 := M12) X2 (m_X12_begin l hq12) (cwV 0 X.2.2.1 gX14_teach_X12_begin rfl rfl rfl (by decide +kernel) ⟨Nat.le_of_ble_eq_true rfl, Nat.le_of_ble_eq_true rfl⟩) rfl rfl ha13 hT14 (by decide) rfl (Nat.le_of_ble_eq_true rfl) dX14_teach_38 ⟨by decide, by decide⟩ ?_
    refine g_iconst (v := (0 : Int32)) X dX14_teach_41 (by decide) ?_
    cases hf
    refine g_eqQ hK ?_
    exact g_iret X hr dX14_teach_42
  · have hf := ife_f hc hf
    refine g_iload_n X dX14_teach_24 rfl rfl ?_
    cases hf
    refine g_eqQ hK ?_
    refine g_wide (k' := 18) (n' := 1478) (by decide) (by decide) ?_
    exact g_iret X hr dX14_teach_25
set_option maxHeartbeats 4000000 in
set_option maxRecDepth 100000 in
theorem m_X14_teach (l : Launch) {D : va_G} {cy : Nat → ClassId} {B : Nat} {H0 : Heap} {Z : Nat → Nat} {M M1 : gMem} {x0 : Nat} {r : Int32} (hf : f_X14_teach Z M x0 = some (r, M1)) : Met l yX14_teach wsX14_teach rX14_teach (va_Pc (Value.ref x0 :: List.map gv []) (gPre D cy B H0 (gSt2 Z B H0) M)) (gQ D cy B H0 (some (vI r)) M1) 18 1478 (gA B) := by
  refine Met.ofW (cc := cX14_teach) (maxL := 2) (ret := (some .int)) (by decide) rfl ?_
  intro p e s m args below meth c s₁ Bd hml hv
  obtain ⟨rfl, hW, hKK, hFs⟩ := hv
  have X2 : gX p s m _ meth c D cy B (gSt2 Z B H0) RX14 cX14_teach wsX14_teach 2 := ⟨Bd.exec, Bd.bytes, atoms_spec (ws := wsX14_teach) Bd.pre, findClass_of_methodNamed Bd.named, hml, hKK, by rw [hW.1]; exact hW.2.1, Bd.notSynchronized, hFs⟩
  have hr := Bd.returns
  have hl := lv_entry ([.ref x0]) (n := 2) (Nat.le_of_ble_eq_true rfl)
  show W p l e rX14_teach s m _ below meth c s.heap [] 0 0 _ (entryFrame m ([.ref x0] : List Value).toArray 2)
  rw [lg_entry_eq]
  generalize (lg_sl ([.ref x0]) ++ List.replicate (2 - (lg_sl ([.ref x0])).length) Slot.unset).toArray = ls at hl ⊢
  have hl : lv_has ls 2 (List.map gq [(0, vR (some x0))]) := hl
  exact t_X14_teach_0 X2 hr _ _ _ hf rfl s.heap [] ls hW va_S.rf (lv_has_sub hl (lvsub_of _ _ [0] rfl))
end
