section
variable {p : Program} {l : Launch} {e : Env} {s : State} {m : MethodId} {args : Array Value} {below : List Frame} {meth : Method} {c : Code} {D : va_G} {cy : Nat → ClassId} {B : Nat} {H0 : Heap} {Z : Nat → Nat}
/-! ## TideLotsLaw.sum([II)Ljava/lang/String; -/
theorem dL_sum_0 : decode cL_sum 0 = .ok (.aload_n 0, 1) := by decide +kernel
theorem dL_sum_1 : decode cL_sum 1 = .ok (.iconst 2, 1) := by decide +kernel
theorem dL_sum_2 : decode cL_sum 2 = .ok (.iaload, 1) := by decide +kernel
theorem dL_sum_3 : decode cL_sum 3 = .ok (.istore_n 2, 1) := by decide +kernel
theorem dL_sum_4 : decode cL_sum 4 = .ok (.aload_n 0, 1) := by decide +kernel
theorem dL_sum_5 : decode cL_sum 5 = .ok (.iconst 1, 1) := by decide +kernel
theorem dL_sum_6 : decode cL_sum 6 = .ok (.iaload, 1) := by decide +kernel
theorem dL_sum_7 : decode cL_sum 7 = .ok (.tableswitch 143 0 3 #[29, 49, 83, 119], 29) := by decide +kernel
theorem dL_sum_36 : decode cL_sum 36 = .ok (.new 32, 3) := by decide +kernel
theorem dL_sum_39 : decode cL_sum 39 = .ok (.dup, 1) := by decide +kernel
theorem dL_sum_40 : decode cL_sum 40 = .ok (.invokespecial 34, 3) := by decide +kernel
theorem dL_sum_43 : decode cL_sum 43 = .ok (.ldc 99, 2) := by decide +kernel
theorem dL_sum_45 : decode cL_sum 45 = .ok (.invokevirtual 37, 3) := by decide +kernel
theorem dL_sum_48 : decode cL_sum 48 = .ok (.iload_n 2, 1) := by decide +kernel
theorem dL_sum_49 : decode cL_sum 49 = .ok (.invokevirtual 47, 3) := by decide +kernel
theorem dL_sum_52 : decode cL_sum 52 = .ok (.invokevirtual 50, 3) := by decide +kernel
theorem dL_sum_55 : decode cL_sum 55 = .ok (.areturn, 1) := by decide +kernel
theorem dL_sum_56 : decode cL_sum 56 = .ok (.new 32, 3) := by decide +kernel
theorem dL_sum_59 : decode cL_sum 59 = .ok (.dup, 1) := by decide +kernel
theorem dL_sum_60 : decode cL_sum 60 = .ok (.invokespecial 34, 3) := by decide +kernel
theorem dL_sum_63 : decode cL_sum 63 = .ok (.ldc 101, 2) := by decide +kernel
theorem dL_sum_65 : decode cL_sum 65 = .ok (.invokevirtual 37, 3) := by decide +kernel
theorem dL_sum_68 : decode cL_sum 68 = .ok (.aload_n 0, 1) := by decide +kernel
theorem dL_sum_69 : decode cL_sum 69 = .ok (.iconst 0, 1) := by decide +kernel
theorem dL_sum_70 : decode cL_sum 70 = .ok (.iaload, 1) := by decide +kernel
theorem dL_sum_71 : decode cL_sum 71 = .ok (.invokevirtual 47, 3) := by decide +kernel
theorem dL_sum_74 : decode cL_sum 74 = .ok (.ldc 103, 2) := by decide +kernel
theorem dL_sum_76 : decode cL_sum 76 = .ok (.invokevirtual 37, 3) := by decide +kernel
theorem dL_sum_79 : decode cL_sum 79 = .ok (.iload_n 2, 1) := by decide +kernel
theorem dL_sum_80 : decode cL_sum 80 = .ok (.bipush 30, 2) := by decide +kernel
theorem dL_sum_82 : decode cL_sum 82 = .ok (.irem, 1) := by decide +kernel
theorem dL_sum_83 : decode cL_sum 83 = .ok (.invokevirtual 47, 3) := by decide +kernel
theorem dL_sum_86 : decode cL_sum 86 = .ok (.invokevirtual 50, 3) := by decide +kernel
theorem dL_sum_89 : decode cL_sum 89 = .ok (.areturn, 1) := by decide +kernel
theorem dL_sum_90 : decode cL_sum 90 = .ok (.new 32, 3) := by decide +kernel
theorem dL_sum_93 : decode cL_sum 93 = .ok (.dup, 1) := by decide +kernel
theorem dL_sum_94 : decode cL_sum 94 = .ok (.invokespecial 34, 3) := by decide +kernel
theorem dL_sum_97 : decode cL_sum 97 = .ok (.ldc 105, 2) := by decide +kernel
theorem dL_sum_99 : decode cL_sum 99 = .ok (.invokevirtual 37, 3) := by decide +kernel
theorem dL_sum_102 : decode cL_sum 102 = .ok (.iload_n 2, 1) := by decide +kernel
theorem dL_sum_103 : decode cL_sum 103 = .ok (.invokevirtual 47, 3) := by decide +kernel
theorem dL_sum_106 : decode cL_sum 106 = .ok (.ldc 107, 2) := by decide +kernel
theorem dL_sum_108 : decode cL_sum 108 = .ok (.invokevirtual 37, 3) := by decide +kernel
theorem dL_sum_111 : decode cL_sum 111 = .ok (.aload_n 0, 1) := by decide +kernel
theorem dL_sum_112 : decode cL_sum 112 = .ok (.iconst 3, 1) := by decide +kernel
theorem dL_sum_113 : decode cL_sum 113 = .ok (.iaload, 1) := by decide +kernel
theorem dL_sum_114 : decode cL_sum 114 = .ok (.invokevirtual 47, 3) := by decide +kernel
theorem dL_sum_117 : decode cL_sum 117 = .ok (.ldc 109, 2) := by decide +kernel
theorem dL_sum_119 : decode cL_sum 119 = .ok (.invokevirtual 37, 3) := by decide +kernel
theorem dL_sum_122 : decode cL_sum 122 = .ok (.invokevirtual 50, 3) := by decide +kernel
theorem dL_sum_125 : decode cL_sum 125 = .ok (.areturn, 1) := by decide +kernel
theorem dL_sum_126 : decode cL_sum 126 = .ok (.new 32, 3) := by decide +kernel
theorem dL_sum_129 : decode cL_sum 129 = .ok (.dup, 1) := by decide +kernel
theorem dL_sum_130 : decode cL_sum 130 = .ok (.invokespecial 34, 3) := by decide +kernel
theorem dL_sum_133 : decode cL_sum 133 = .ok (.iload_n 2, 1) := by decide +kernel
theorem dL_sum_134 : decode cL_sum 134 = .ok (.invokevirtual 47, 3) := by decide +kernel
theorem dL_sum_137 : decode cL_sum 137 = .ok (.ldc 111, 2) := by decide +kernel
theorem dL_sum_139 : decode cL_sum 139 = .ok (.invokevirtual 37, 3) := by decide +kernel
theorem dL_sum_142 : decode cL_sum 142 = .ok (.iload_n 1, 1) := by decide +kernel
theorem dL_sum_143 : decode cL_sum 143 = .ok (.invokevirtual 47, 3) := by decide +kernel
theorem dL_sum_146 : decode cL_sum 146 = .ok (.invokevirtual 50, 3) := by decide +kernel
theorem dL_sum_149 : decode cL_sum 149 = .ok (.areturn, 1) := by decide +kernel
theorem dL_sum_150 : decode cL_sum 150 = .ok (.new 32, 3) := by decide +kernel
theorem dL_sum_153 : decode cL_sum 153 = .ok (.dup, 1) := by decide +kernel
theorem dL_sum_154 : decode cL_sum 154 = .ok (.invokespecial 34, 3) := by decide +kernel
theorem dL_sum_157 : decode cL_sum 157 = .ok (.ldc 113, 2) := by decide +kernel
theorem dL_sum_159 : decode cL_sum 159 = .ok (.invokevirtual 37, 3) := by decide +kernel
theorem dL_sum_162 : decode cL_sum 162 = .ok (.iload_n 2, 1) := by decide +kernel
theorem dL_sum_163 : decode cL_sum 163 = .ok (.invokevirtual 47, 3) := by decide +kernel
theorem dL_sum_166 : decode cL_sum 166 = .ok (.ldc 115, 2) := by decide +kernel
theorem dL_sum_168 : decode cL_sum 168 = .ok (.invokevirtual 37, 3) := by decide +kernel
theorem dL_sum_171 : decode cL_sum 171 = .ok (.invokevirtual 50, 3) := by decide +kernel
theorem dL_sum_174 : decode cL_sum 174 = .ok (.areturn, 1) := by decide +kernel
set_option maxRecDepth 20000 in
theorem ggL_sum_J4_init_da8c8 : GoodIn wsL_sum wsJ4_init_da8c8 := goodIn_r _ [6, 7, 8, 9, 10, 11, 12, 13, 14, 15, 16, 17, 18, 19, 20, 21, 22, 23, 24, 25, 235, 236, 237, 238] (by decide +kernel) (by decide +kernel)
set_option maxRecDepth 20000 in
theorem gL_sum_J4_init_da8c8 : GoodIn wsL_sum (wsJ4_init_da8c8) := ggL_sum_J4_init_da8c8
set_option maxRecDepth 20000 in
theorem ggL_sum_J4_append_15ec4_c : GoodIn wsL_sum [.code yJ4_append_15ec4 cJ4_append_15ec4 2 (some (.object "java/lang/StringBuilder"))] := goodIn_r _ [29] (by decide +kernel) (by decide +kernel)
set_option maxRecDepth 20000 in
theorem ggL_sum_J4_append_15ec4_wsJ4_append_15ec4_r1 : GoodIn wsL_sum wsJ4_append_15ec4_r1 := goodIn_r _ [30, 31, 32, 33, 9, 34, 35, 36, 37, 38, 39, 40, 16, 41, 42, 43, 44, 45, 17, 46, 47, 48, 49, 50] (by decide +kernel) (by decide +kernel)
set_option maxRecDepth 20000 in
theorem ggL_sum_J4_append_15ec4_wsJ4_append_15ec4_r2 : GoodIn wsL_sum wsJ4_append_15ec4_r2 := goodIn_r _ [51, 52, 53, 54, 55, 56, 57, 58, 59, 60, 61, 62, 63, 64, 65, 66, 67, 68, 69, 70, 71, 72, 73, 15] (by decide +kernel) (by decide +kernel)
set_option maxRecDepth 20000 in
theorem ggL_sum_J4_append_15ec4_wsJ4_append_15ec4_r3 : GoodIn wsL_sum wsJ4_append_15ec4_r3 := goodIn_r _ [74, 75, 76, 77, 78, 79, 80, 81, 82, 83, 84, 85, 14, 86, 87, 20, 88, 89, 90, 91, 92, 93, 94, 95] (by decide +kernel) (by decide +kernel)
set_option maxRecDepth 20000 in
theorem ggL_sum_J4_append_15ec4_wsJ4_append_15ec4_r4 : GoodIn wsL_sum wsJ4_append_15ec4_r4 := goodIn_r _ [96, 97, 98, 99, 100, 101, 102, 103, 104, 105, 106, 107, 108, 109, 110, 111, 112, 113, 114, 115, 116, 117, 118, 119] (by decide +kernel) (by decide +kernel)
set_option maxRecDepth 20000 in
theorem ggL_sum_J4_append_15ec4_wsJ4_append_15ec4_r5 : GoodIn wsL_sum wsJ4_append_15ec4_r5 := goodIn_r _ [120, 121, 122, 123, 124, 125, 126, 127, 128, 129, 130, 131, 132, 133, 134, 135, 136, 18, 19, 21, 22, 23, 24, 25] (by decide +kernel) (by decide +kernel)
set_option maxRecDepth 20000 in
theorem ggL_sum_J4_append_15ec4_wsJ4_append_15ec4_r6 : GoodIn wsL_sum wsJ4_append_15ec4_r6 := goodIn_r _ [137, 138, 139, 140, 141, 142, 143, 144, 145, 146, 147, 148, 149, 150, 151, 152, 153, 154, 155, 156, 157, 158] (by decide +kernel) (by decide +kernel)
set_option maxRecDepth 20000 in
theorem ggL_sum_J4_append_15ec4_wsJ40 : GoodIn wsL_sum wsJ40 := goodIn_sub (by decide +kernel) (by decide +kernel)
set_option maxRecDepth 20000 in
theorem ggL_sum_J4_append_15ec4_wsJ00 : GoodIn wsL_sum wsJ00 := goodIn_sub (by decide +kernel) (by decide +kernel)
set_option maxRecDepth 20000 in
theorem ggL_sum_J4_append_15ec4 : GoodIn wsL_sum wsJ4_append_15ec4 := goodIn_c1 ggL_sum_J4_append_15ec4_c (goodIn_app (goodIn_app (goodIn_app ggL_sum_J4_append_15ec4_wsJ4_append_15ec4_r1 (goodIn_app ggL_sum_J4_append_15ec4_wsJ4_append_15ec4_r2 (goodIn_app ggL_sum_J4_append_15ec4_wsJ4_append_15ec4_r3 (goodIn_app ggL_sum_J4_append_15ec4_wsJ4_append_15ec4_r4 (goodIn_app ggL_sum_J4_append_15ec4_wsJ4_append_15ec4_r5 ggL_sum_J4_append_15ec4_wsJ4_append_15ec4_r6))))) ggL_sum_J4_append_15ec4_wsJ40) ggL_sum_J4_append_15ec4_wsJ00)
set_option maxRecDepth 20000 in
theorem gL_sum_J4_append_15ec4 : GoodIn wsL_sum (wsV RL 37 RJ4 yJ4_append_15ec4 wsJ4_append_15ec4) := goodIn_app (goodIn_of _ (by decide +kernel)) ggL_sum_J4_append_15ec4
set_option maxRecDepth 20000 in
theorem ggL_sum_J4_append_bf812 : GoodIn wsL_sum wsJ4_append_bf812 := goodIn_2 24 (goodIn_r _ [162, 163, 164, 32, 165, 9, 166, 35, 16, 167, 168, 169, 170, 41, 42, 43, 44, 45, 17, 46, 47, 48, 49, 50] (by decide +kernel) (by decide +kernel)) (goodIn_2 24 (goodIn_r _ [51, 52, 53, 54, 55, 56, 57, 58, 59, 60, 61, 62, 63, 64, 65, 66, 67, 68, 69, 70, 71, 72, 73, 15] (by decide +kernel) (by decide +kernel)) (goodIn_2 24 (goodIn_r _ [74, 75, 76, 77, 78, 79, 80, 81, 82, 83, 84, 85, 14, 171, 172, 173, 174, 175, 176, 177, 20, 178, 89, 90] (by decide +kernel) (by decide +kernel)) (goodIn_2 24 (goodIn_r _ [91, 92, 93, 94, 95, 96, 97, 98, 99, 100, 101, 102, 103, 104, 179, 180, 181, 182, 183, 105, 106, 107, 108, 109] (by decide +kernel) (by decide +kernel)) (goodIn_r _ [235, 236, 237, 238] (by decide +kernel) (by decide +kernel)))))
set_option maxRecDepth 20000 in
theorem gL_sum_J4_append_bf812 : GoodIn wsL_sum (wsV RL 47 RJ4 yJ4_append_bf812 wsJ4_append_bf812) := goodIn_app (goodIn_of _ (by decide +kernel)) ggL_sum_J4_append_bf812
set_option maxRecDepth 20000 in
theorem ggL_sum_J4_toString_0e30d : GoodIn wsL_sum wsJ4_toString_0e30d := goodIn_2 24 (goodIn_r _ [187, 188, 189, 98, 190, 191, 192, 193, 194, 195, 196, 12, 13, 120, 114, 119, 197, 198, 199, 200, 201, 9, 202, 16] (by decide +kernel) (by decide +kernel)) (goodIn_2 24 (goodIn_r _ [203, 204, 205, 206, 207, 3, 208, 209, 32, 210, 211, 35, 212, 82, 83, 84, 85, 14, 17, 213, 214, 66, 215, 68] (by decide +kernel) (by decide +kernel)) (goodIn_2 24 (goodIn_r _ [69, 70, 71, 72, 73, 216, 217, 218, 15, 74, 75, 58, 76, 77, 78, 79, 80, 219, 220, 221, 222, 223, 20, 224] (by decide +kernel) (by decide +kernel)) (goodIn_2 24 (goodIn_r _ [225, 226, 227, 144, 145, 146, 93, 94, 95, 147, 148, 149, 100, 150, 151, 103, 152, 228, 229, 230, 89, 108, 109, 22] (by decide +kernel) (by decide +kernel)) (goodIn_r _ [23, 24, 25, 231, 232, 233, 234, 239, 240, 241, 242, 235, 236, 237, 238] (by decide +kernel) (by decide +kernel)))))
set_option maxRecDepth 20000 in
theorem gL_sum_J4_toString_0e30d : GoodIn wsL_sum (wsV RL 50 RJ4 yJ4_toString_0e30d wsJ4_toString_0e30d) := goodIn_app (goodIn_of _ (by decide +kernel)) ggL_sum_J4_toString_0e30d
theorem i_L_sum_J4 : ∀ w ∈ u_ws RJ4 TJ4 4, w ∈ wsL_sum := by decide +kernel
theorem k_L_sum_cl32 : Cond.classLink RL 32 RJ4 ∈ wsL_sum := by decide +kernel
theorem k_L_sum_inJ4 : Cond.instantiable RJ4 4 ∈ wsL_sum := by decide +kernel
theorem k_L_sum_iiJ4 : Cond.initialized RJ4 ∈ wsL_sum := by decide +kernel
theorem k_L_sum_ml34 : Cond.methodLink RL 34 yJ4_init_da8c8 ∈ wsL_sum := by decide +kernel
theorem k_L_sum_imJ4_init_da8c8 : Cond.instanceMethod yJ4_init_da8c8 ∈ wsL_sum := by decide +kernel
abbrev rL_sum : Room := { frames := 6, cells := 9, slots := 14424, locals := 171 }
noncomputable def b_L_sum_0 (Z : Nat → Nat) (M : gMem) (x0 : Option Nat) (x1 : Int32) : Option (Option Nat × gMem) :=
  dr x0 fun a1 => ck (mT M a1 = 20) <| ck (inb (2 : Int32) (mL M a1)) <| ck (inb (1 : Int32) (mL M a1)) <| (if (mI M a1 ((1 : Int32)).toNatClampNeg) = (0 : Int32) then lw (nW M 13 0) fun M6 => bd (f_J4_init_da8c8 Z M6 ((mN M))) fun _ M7 => ck (mT M7 (mN M) = 13) <| bd (f_J4_append_15ec4_S Z M7 ((mN M)) 67) fun r8 M8 => dr r8 fun a11 => ck (mT M8 a11 = 13) <| bd (f_J4_append_bf812 Z M8 a11 ((mI M a1 ((2 : Int32)).toNatClampNeg))) fun r10 M10 => dr r10 fun a14 => ck (mT M10 a14 = 13) <| bd (f_J4_toString_0e30d Z M10 a14) fun r13 M13 => some (r13, M13) else (if (mI M a1 ((1 : Int32)).toNatClampNeg) = (1 : Int32) then lw (nW M 13 0) fun M17 => bd (f_J4_init_da8c8 Z M17 ((mN M))) fun _ M18 => ck (mT M18 (mN M) = 13) <| bd (f_J4_append_15ec4_S Z M18 ((mN M)) 68) fun r19 M19 => ck (mT M19 a1 = 20) <| ck (inb (0 : Int32) (mL M19 a1)) <| dr r19 fun a24 => ck (mT M19 a24 = 13) <| bd (f_J4_append_bf812 Z M19 a24 ((mI M19 a1 ((0 : Int32)).toNatClampNeg))) fun r23 M23 => dr r23 fun a27 => ck (mT M23 a27 = 13) <| bd (f_J4_append_15ec4_S Z M23 a27 69) fun r26 M26 => dr r26 fun a30 => ck (mT M26 a30 = 13) <| bd (f_J4_append_bf812 Z M26 a30 (((mI M a1 ((2 : Int32)).toNatClampNeg) - (mI M a1 ((2 : Int32)).toNatClampNeg) / (30 : Int32) * (30 : Int32)))) fun r29 M29 => dr r29 fun a33 => ck (mT M29 a33 = 13) <| bd (f_J4_toString_0e30d Z M29 a33) fun r32 M32 => some (r32, M32) else (if (mI M a1 ((1 : Int32)).toNatClampNeg) = (2 : Int32) then lw (nW M 13 0) fun M36 => bd (f_J4_init_da8c8 Z M36 ((mN M))) fun _ M37 => ck (mT M37 (mN M) = 13) <| bd (f_J4_append_15ec4_S Z M37 ((mN M)) 70) fun r38 M38 => dr r38 fun a41 => ck (mT M38 a41 = 13) <| bd (f_J4_append_bf812 Z M38 a41 ((mI M a1 ((2 : Int32)).toNatClampNeg))) fun r40 M40 => dr r40 fun a44 => ck (mT M40 a44 = 13) <| bd (f_J4_append_15ec4_S Z M40 a44 71) fun r43 M43 => ck (mT M43 a1 = 20) <| ck (inb (3 : Int32) (mL M43 a1)) <| dr r43 fun a49 => ck (mT M43 a49 = 13) <| bd (f_J4_append_bf812 Z M43 a49 ((mI M43 a1 ((3 : Int32)).toNatClampNeg))) fun r48 M48 => dr r48 fun a52 => ck (mT M48 a52 = 13) <| bd (f_J4_append_15ec4_S Z M48 a52 72) fun r51 M51 => dr r51 fun a55 => ck (mT M51 a55 = 13) <| bd (f_J4_toString_0e30d Z M51 a55) fun r54 M54 => some (r54, M54) else (if (mI M a1 ((1 : Int32)).toNatClampNeg) = (3 : Int32) then lw (nW M 13 0) fun M58 => bd (f_J4_init_da8c8 Z M58 ((mN M))) fun _ M59 => ck (mT M59 (mN M) = 13) <| bd (f_J4_append_bf812 Z M59 ((mN M)) ((mI M a1 ((2 : Int32)).toNatClampNeg))) fun r60 M60 => dr r60 fun a63 => ck (mT M60 a63 = 13) <| bd (f_J4_append_15ec4_S Z M60 a63 73) fun r62 M62 => dr r62 fun a66 => ck (mT M62 a66 = 13) <| bd (f_J4_append_bf812 Z M62 a66 x1) fun r65 M65 => dr r65 fun a69 => ck (mT M65 a69 = 13) <| bd (f_J4_toString_0e30d Z M65 a69) fun r68 M68 => some (r68, M68) else lw (nW M 13 0) fun M71 => bd (f_J4_init_da8c8 Z M71 ((mN M))) fun _ M72 => ck (mT M72 (mN M) = 13) <| bd (f_J4_append_15ec4_S Z M72 ((mN M)) 74) fun r73 M73 => dr r73 fun a76 => ck (mT M73 a76 = 13) <| bd (f_J4_append_bf812 Z M73 a76 ((mI M a1 ((2 : Int32)).toNatClampNeg))) fun r75 M75 => dr r75 fun a79 => ck (mT M75 a79 = 13) <| bd (f_J4_append_15ec4_S Z M75 a79 75) fun r78 M78 => dr r78 fun a82 => ck (mT M78 a82 = 13) <| bd (f_J4_toString_0e30d Z M78 a82) fun r81 M81 => some (r81, M81)))))
noncomputable def f_L_sum (Z : Nat → Nat) (M : gMem) (x0 : Option Nat) (x1 : Int32) : Option (Option Nat × gMem) :=
  b_L_sum_0 Z M x0 x1
set_option maxHeartbeats 4000000 in
set_option maxRecDepth 100000 in
theorem t_L_sum_0 (X2 : gX p s m args meth c D cy B (gSt2 Z B H0) RL cL_sum wsL_sum 3) (hr : meth.sig.returnType = (some (.object "java/lang/String"))) {Q : State → Prop} : ∀ (M : gMem) (x0 : Option Nat) (x1 : Int32) (z : Option Nat × gMem), b_L_sum_0 Z M x0 x1 = some z → (fun (r : Option Nat × gMem) => Q = gMQ below D cy B H0 args s 9 14424 (some (vR r.1)) r.2) z → gGo p l e rL_sum s m args below meth c D cy B H0 3 0 0 Q 0 [(0, vR x0), (1, vI x1)] [] M := by
  intro M x0 x1 z hf hK
  unfold b_L_sum_0 at hf
  have X := gX_w X2
  refine g_aload_n X dL_sum_0 rfl rfl ?_
  refine g_iconst (v := (2 : Int32)) X dL_sum_1 (by decide) ?_
  obtain ⟨a1, ha1, hf⟩ := dr_e hf
  obtain ⟨hT2, hf⟩ := ck_e hf
  obtain ⟨hg3, hf⟩ := ck_e hf
  refine g_iald X dL_sum_2 ha1 hT2 hg3 ?_
  refine g_istore_n (lv' := [(2, vI (mI M a1 ((2 : Int32)).toNatClampNeg)), (0, vR x0), (1, vI x1)]) X dL_sum_3 rfl (by decide) rfl ?_
  refine g_aload_n X dL_sum_4 rfl rfl ?_
  refine g_iconst (v := (1 : Int32)) X dL_sum_5 (by decide) ?_
  obtain ⟨hg4, hf⟩ := ck_e hf
  refine g_iald X dL_sum_6 ha1 hT2 hg4 ?_
  by_cases hs5 : (mI M a1 ((1 : Int32)).toNatClampNeg) = (0 : Int32)
  · have hf := ife_t hs5 hf
    refine g_tabin (tgt := 36) X dL_sum_7 hs5 (by decide) (by decide) rfl (by decide) ?_
    refine g_new (ci := 12) X cdJ4 i_L_sum_J4 k_L_sum_cl32 k_L_sum_inJ4 k_L_sum_iiJ4 (by intro i hi; rcases (show i = 0 ∨ i = 1 ∨ i = 2 ∨ i = 3 by omega) with rfl | rfl | rfl | rfl <;> rfl) ⟨by decide, by decide⟩ dL_sum_36 ?_
    obtain ⟨M6, hM6, hf⟩ := lw_e hf
    rw [← hM6]
    refine g_dup X dL_sum_39 rfl ?_
    obtain ⟨r7, M7, hq7, hf⟩ := bd_e hf
    refine g_callI (b := (mN M)) (As := []) (st := [vR (some (mN M))]) (M1 := M7) X (m_J4_init_da8c8 l hq7) (cwI 0 X.2.2.1 gL_sum_J4_init_da8c8 rfl rfl rfl (X.2.2.1 _ k_L_sum_iiJ4) (X.2.2.1 _ k_L_sum_ml34) (X.2.2.1 _ k_L_sum_imJ4_init_da8c8) rfl (by decide +kernel) ⟨Nat.le_of_ble_eq_true rfl, Nat.le_of_ble_eq_true rfl⟩) rfl rfl rfl (Nat.le_of_ble_eq_true rfl) dL_sum_40 ⟨by decide, by decide⟩ ?_
    refine g_lds (q := Z (100 + 67)) X (gSt2_lit X2 (99, "", 67) (by decide +kernel)) dL_sum_43 ?_
    obtain ⟨hT9, hf⟩ := ck_e hf
    obtain ⟨r8, M8, hq8, hf⟩ := bd_e hf
    refine g_callV (ci := 12) (b := (mN M)) (As := [vR (some (Z (100 + 67)))]) (st := []) (v := some (vR r8)) (M1 := M8) X2 (m_J4_append_15ec4_S l hq8) (cwV 1 X.2.2.1 gL_sum_J4_append_15ec4 rfl rfl rfl (by decide +kernel) ⟨Nat.le_of_ble_eq_true rfl, Nat.le_of_ble_eq_true rfl⟩) rfl rfl rfl hT9 (by decide) rfl (Nat.le_of_ble_eq_true rfl) dL_sum_45 ⟨by decide, by decide⟩ ?_
    refine g_iload_n X dL_sum_48 rfl rfl ?_
    obtain ⟨a11, ha11, hf⟩ := dr_e hf
    obtain ⟨hT12, hf⟩ := ck_e hf
    obtain ⟨r10, M10, hq10, hf⟩ := bd_e hf
    refine g_callV (ci := 12) (b := a11) (As := [vI (mI M a1 ((2 : Int32)).toNatClampNeg)]) (st := []) (v := some (vR r10)) (M1 := M10) X2 (m_J4_append_bf812 l hq10) (cwV 1 X.2.2.1 gL_sum_J4_append_bf812 rfl rfl rfl (by decide +kernel) ⟨Nat.le_of_ble_eq_true rfl, Nat.le_of_ble_eq_true rfl⟩) rfl rfl ha11 hT12 (by decide) rfl (Nat.le_of_ble_eq_true rfl) dL_sum_49 ⟨by decide, by decide⟩ ?_
    obtain ⟨a14, ha14, hf⟩ := dr_e hf
    obtain ⟨hT15, hf⟩ := ck_e hf
    obtain ⟨r13, M13, hq13, hf⟩ := bd_e hf
    refine g_callV (ci := 12) (b := a14) (As := []) (st := []) (v := some (vR r13)) (M1 := M13) X2 (m_J4_toString_0e30d l hq13) (cwV 0 X.2.2.1 gL_sum_J4_toString_0e30d rfl rfl rfl (by decide +kernel) ⟨Nat.le_of_ble_eq_true rfl, Nat.le_of_ble_eq_true rfl⟩) rfl rfl ha14 hT15 (by decide) rfl (Nat.le_of_ble_eq_true rfl) dL_sum_52 ⟨by decide, by decide⟩ ?_
    cases hf
    refine g_eqQ hK ?_
    refine g_wide (k' := 9) (n' := 14424) (by decide) (by decide) ?_
    exact g_aret X hr (Or.inl ⟨_, rfl⟩) dL_sum_55
  · have hf := ife_f hs5 hf
    by_cases hs16 : (mI M a1 ((1 : Int32)).toNatClampNeg) = (1 : Int32)
    · have hf := ife_t hs16 hf
      refine g_tabin (tgt := 56) X dL_sum_7 hs16 (by decide) (by decide) rfl (by decide) ?_
      refine g_new (ci := 12) X cdJ4 i_L_sum_J4 k_L_sum_cl32 k_L_sum_inJ4 k_L_sum_iiJ4 (by intro i hi; rcases (show i = 0 ∨ i = 1 ∨ i = 2 ∨ i = 3 by omega) with rfl | rfl | rfl | rfl <;> rfl) ⟨by decide, by decide⟩ dL_sum_56 ?_
      obtain ⟨M17, hM17, hf⟩ := lw_e hf
      rw [← hM17]
      refine g_dup X dL_sum_59 rfl ?_
      obtain ⟨r18, M18, hq18, hf⟩ := bd_e hf
      refine g_callI (b := (mN M)) (As := []) (st := [vR (some (mN M))]) (M1 := M18) X (m_J4_init_da8c8 l hq18) (cwI 0 X.2.2.1 gL_sum_J4_init_da8c8 rfl rfl rfl (X.2.2.1 _ k_L_sum_iiJ4) (X.2.2.1 _ k_L_sum_ml34) (X.2.2.1 _ k_L_sum_imJ4_init_da8c8) rfl (by decide +kernel) ⟨Nat.le_of_ble_eq_true rfl, Nat.le_of_ble_eq_true rfl⟩) rfl rfl rfl (Nat.le_of_ble_eq_true rfl) dL_sum_60 ⟨by decide, by decide⟩ ?_
      refine g_lds (q := Z (100 + 68)) X (gSt2_lit X2 (101, "fish g", 68) (by decide +kernel)) dL_sum_63 ?_
      obtain ⟨hT20, hf⟩ := ck_e hf
      obtain ⟨r19, M19, hq19, hf⟩ := bd_e hf
      refine g_callV (ci := 12) (b := (mN M)) (As := [vR (some (Z (100 + 68)))]) (st := []) (v := some (vR r19)) (M1 := M19) X2 (m_J4_append_15ec4_S l hq19) (cwV 1 X.2.2.1 gL_sum_J4_append_15ec4 rfl rfl rfl (by decide +kernel) ⟨Nat.le_of_ble_eq_true rfl, Nat.le_of_ble_eq_true rfl⟩) rfl rfl rfl hT20 (by decide) rfl (Nat.le_of_ble_eq_true rfl) dL_sum_65 ⟨by decide, by decide⟩ ?_
      refine g_aload_n X dL_sum_68 rfl rfl ?_
      refine g_iconst (v := (0 : Int32)) X dL_sum_69 (by decide) ?_
      obtain ⟨hT21, hf⟩ := ck_e hf
      obtain ⟨hg22, hf⟩ := ck_e hf
      refine g_iald X dL_sum_70 ha1 hT21 hg22 ?_
      obtain ⟨a24, ha24, hf⟩ := dr_e hf
      obtain ⟨hT25, hf⟩ := ck_e hf
      obtain ⟨r23, M23, hq23, hf⟩ := bd_e hf
      refine g_callV (ci := 12) (b := a24) (As := [vI (mI M19 a1 ((0 : Int32)).toNatClampNeg)]) (st := []) (v := some (vR r23)) (M1 := M23) X2 (m_J4_append_bf812 l hq23) (cwV 1 X.2.2.1 gL_sum_J4_append_bf812 rfl rfl rfl (by decide +kernel) ⟨Nat.le_of_ble_eq_true rfl, Nat.le_of_ble_eq_true rfl⟩) rfl rfl ha24 hT25 (by decide) rfl (Nat.le_of_ble_eq_true rfl) dL_sum_71 ⟨by decide, by decide⟩ ?_
      refine g_lds (q := Z (100 + 69)) X (gSt2_lit X2 (103, "/2+", 69) (by decide +kernel)) dL_sum_74 ?_
      obtain ⟨a27, ha27, hf⟩ := dr_e hf
      obtain ⟨hT28, hf⟩ := ck_e hf
      obtain ⟨r26, M26, hq26, hf⟩ := bd_e hf
      refine g_callV (ci := 12) (b := a27) (As := [vR (some (Z (100 + 69)))]) (st := []) (v := some (vR r26)) (M1 := M26) X2 (m_J4_append_15ec4_S l hq26) (cwV 1 X.2.2.1 gL_sum_J4_append_15ec4 rfl rfl rfl (by decide +kernel) ⟨Nat.le_of_ble_eq_true rfl, Nat.le_of_ble_eq_true rfl⟩) rfl rfl ha27 hT28 (by decide) rfl (Nat.le_of_ble_eq_true rfl) dL_sum_76 ⟨by decide, by decide⟩ ?_
      refine g_iload_n X dL_sum_79 rfl rfl ?_
      refine g_bipush (v := (30 : Int32)) X dL_sum_80 (by decide) ?_
      refine g_irem X dL_sum_82 (by decide) ?_
      obtain ⟨a30, ha30, hf⟩ := dr_e hf
      obtain ⟨hT31, hf⟩ := ck_e hf
      obtain ⟨r29, M29, hq29, hf⟩ := bd_e hf
      refine g_callV (ci := 12) (b := a30) (As := [vI ((mI M a1 ((2 : Int32)).toNatClampNeg) - (mI M a1 ((2 : Int32)).toNatClampNeg) / (30 : Int32) * (30 : Int32))]) (st := []) (v := some (vR r29)) (M1 := M29) X2 (m_J4_append_bf812 l hq29) (cwV 1 X.2.2.1 gL_sum_J4_append_bf812 rfl rfl rfl (by decide +kernel) ⟨Nat.le_of_ble_eq_true rfl, Nat.le_of_ble_eq_true rfl⟩) rfl rfl ha30 hT31 (by decide) rfl (Nat.le_of_ble_eq_true rfl) dL_sum_83 ⟨by decide, by decide⟩ ?_
      obtain ⟨a33, ha33, hf⟩ := dr_e hf
      obtain ⟨hT34, hf⟩ := ck_e hf
      obtain ⟨r32, M32, hq32, hf⟩ := bd_e hf
      refine g_callV (ci := 12) (b := a33) (As := []) (st := []) (v := some (vR r32)) (M1 := M32) X2 (m_J4_toString_0e30d l hq32) (cwV 0 X.2.2.1 gL_sum_J4_toString_0e30d rfl rfl rfl (by decide +kernel) ⟨Nat.le_of_ble_eq_true rfl, Nat.le_of_ble_eq_true rfl⟩) rfl rfl ha33 hT34 (by decide) rfl (Nat.le_of_ble_eq_true rfl) dL_sum_86 ⟨by decide, by decide⟩ ?_
      cases hf
      refine g_eqQ hK ?_
      refine g_wide (k' := 9) (n' := 14424) (by decide) (by decide) ?_
      exact g_aret X hr (Or.inl ⟨_, rfl⟩) dL_sum_89
    · have hf := ife_f hs16 hf
      by_cases hs35 : (mI M a1 ((1 : Int32)).toNatClampNeg) = (2 : Int32)
      · have hf := ife_t hs35 hf
        refine g_tabin (tgt := 90) X dL_sum_7 hs35 (by decide) (by decide) rfl (by decide) ?_
        refine g_new (ci := 12) X cdJ4 i_L_sum_J4 k_L_sum_cl32 k_L_sum_inJ4 k_L_sum_iiJ4 (by intro i hi; rcases (show i = 0 ∨ i = 1 ∨ i = 2 ∨ i = 3 by omega) with rfl | rfl | rfl | rfl <;> rfl) ⟨by decide, by decide⟩ dL_sum_90 ?_
        obtain ⟨M36, hM36, hf⟩ := lw_e hf
        rw [← hM36]
        refine g_dup X dL_sum_93 rfl ?_
        obtain ⟨r37, M37, hq37, hf⟩ := bd_e hf
        refine g_callI (b := (mN M)) (As := []) (st := [vR (some (mN M))]) (M1 := M37) X (m_J4_init_da8c8 l hq37) (cwI 0 X.2.2.1 gL_sum_J4_init_da8c8 rfl rfl rfl (X.2.2.1 _ k_L_sum_iiJ4) (X.2.2.1 _ k_L_sum_ml34) (X.2.2.1 _ k_L_sum_imJ4_init_da8c8) rfl (by decide +kernel) ⟨Nat.le_of_ble_eq_true rfl, Nat.le_of_ble_eq_true rfl⟩) rfl rfl rfl (Nat.le_of_ble_eq_true rfl) dL_sum_94 ⟨by decide, by decide⟩ ?_
        refine g_lds (q := Z (100 + 70)) X (gSt2_lit X2 (105, "max(", 70) (by decide +kernel)) dL_sum_97 ?_
        obtain ⟨hT39, hf⟩ := ck_e hf
        obtain ⟨r38, M38, hq38, hf⟩ := bd_e hf
        refine g_callV (ci := 12) (b := (mN M)) (As := [vR (some (Z (100 + 70)))]) (st := []) (v := some (vR r38)) (M1 := M38) X2 (m_J4_append_15ec4_S l hq38) (cwV 1 X.2.2.1 gL_sum_J4_append_15ec4 rfl rfl rfl (by decide +kernel) ⟨Nat.le_of_ble_eq_true rfl, Nat.le_of_ble_eq_true rfl⟩) rfl rfl rfl hT39 (by decide) rfl (Nat.le_of_ble_eq_true rfl) dL_sum_99 ⟨by decide, by decide⟩ ?_
        refine g_iload_n X dL_sum_102 rfl rfl ?_
        obtain ⟨a41, ha41, hf⟩ := dr_e hf
        obtain ⟨hT42, hf⟩ := ck_e hf
        obtain ⟨r40, M40, hq40, hf⟩ := bd_e hf
        refine g_callV (ci := 12) (b := a41) (As := [vI (mI M a1 ((2 : Int32)).toNatClampNeg)]) (st := []) (v := some (vR r40)) (M1 := M40) X2 (m_J4_append_bf812 l hq40) (cwV 1 X.2.2.1 gL_sum_J4_append_bf812 rfl rfl rfl (by decide +kernel) ⟨Nat.le_of_ble_eq_true rfl, Nat.le_of_ble_eq_true rfl⟩) rfl rfl ha41 hT42 (by decide) rfl (Nat.le_of_ble_eq_true rfl) dL_sum_103 ⟨by decide, by decide⟩ ?_
        refine g_lds (q := Z (100 + 71)) X (gSt2_lit X2 (107, ",tide*", 71) (by decide +kernel)) dL_sum_106 ?_
        obtain ⟨a44, ha44, hf⟩ := dr_e hf
        obtain ⟨hT45, hf⟩ := ck_e hf
        obtain ⟨r43, M43, hq43, hf⟩ := bd_e hf
        refine g_callV (ci := 12) (b := a44) (As := [vR (some (Z (100 + 71)))]) (st := []) (v := some (vR r43)) (M1 := M43) X2 (m_J4_append_15ec4_S l hq43) (cwV 1 X.2.2.1 gL_sum_J4_append_15ec4 rfl rfl rfl (by decide +kernel) ⟨Nat.le_of_ble_eq_true rfl, Nat.le_of_ble_eq_true rfl⟩) rfl rfl ha44 hT45 (by decide) rfl (Nat.le_of_ble_eq_true rfl) dL_sum_108 ⟨by decide, by decide⟩ ?_
        refine g_aload_n X dL_sum_111 rfl rfl ?_
        refine g_iconst (v := (3 : Int32)) X dL_sum_112 (by decide) ?_
        obtain ⟨hT46, hf⟩ := ck_e hf
        obtain ⟨hg47, hf⟩ := ck_e hf
        refine g_iald X dL_sum_113 ha1 hT46 hg47 ?_
        obtain ⟨a49, ha49, hf⟩ := dr_e hf
        obtain ⟨hT50, hf⟩ := ck_e hf
        obtain ⟨r48, M48, hq48, hf⟩ := bd_e hf
        refine g_callV (ci := 12) (b := a49) (As := [vI (mI M43 a1 ((3 : Int32)).toNatClampNeg)]) (st := []) (v := some (vR r48)) (M1 := M48) X2 (m_J4_append_bf812 l hq48) (cwV 1 X.2.2.1 gL_sum_J4_append_bf812 rfl rfl rfl (by decide +kernel) ⟨Nat.le_of_ble_eq_true rfl, Nat.le_of_ble_eq_true rfl⟩) rfl rfl ha49 hT50 (by decide) rfl (Nat.le_of_ble_eq_true rfl) dL_sum_114 ⟨by decide, by decide⟩ ?_
        refine g_lds (q := Z (100 + 72)) X (gSt2_lit X2 (109, ")", 72) (by decide +kernel)) dL_sum_117 ?_
        obtain ⟨a52, ha52, hf⟩ := dr_e hf
        obtain ⟨hT53, hf⟩ := ck_e hf
        obtain ⟨r51, M51, hq51, hf⟩ := bd_e hf
        refine g_callV (ci := 12) (b := a52) (As := [vR (some (Z (100 + 72)))]) (st := []) (v := some (vR r51)) (M1 := M51) X2 (m_J4_append_15ec4_S l hq51) (cwV 1 X.2.2.1 gL_sum_J4_append_15ec4 rfl rfl rfl (by decide +kernel) ⟨Nat.le_of_ble_eq_true rfl, Nat.le_of_ble_eq_true rfl⟩) rfl rfl ha52 hT53 (by decide) rfl (Nat.le_of_ble_eq_true rfl) dL_sum_119 ⟨by decide, by decide⟩ ?_
        obtain ⟨a55, ha55, hf⟩ := dr_e hf
        obtain ⟨hT56, hf⟩ := ck_e hf
        obtain ⟨r54, M54, hq54, hf⟩ := bd_e hf
        refine g_callV (ci := 12) (b := a55) (As := []) (st := []) (v := some (vR r54)) (M1 := M54) X2 (m_J4_toString_0e30d l hq54) (cwV 0 X.2.2.1 gL_sum_J4_toString_0e30d rfl rfl rfl (by decide +kernel) ⟨Nat.le_of_ble_eq_true rfl, Nat.le_of_ble_eq_true rfl⟩) rfl rfl ha55 hT56 (by decide) rfl (Nat.le_of_ble_eq_true rfl) dL_sum_122 ⟨by decide, by decide⟩ ?_
        cases hf
        refine g_eqQ hK ?_
        exact g_aret X hr (Or.inl ⟨_, rfl⟩) dL_sum_125
      · have hf := ife_f hs35 hf
        by_cases hs57 : (mI M a1 ((1 : Int32)).toNatClampNeg) = (3 : Int32)
        · have hf := ife_t hs57 hf
          refine g_tabin (tgt := 126) X dL_sum_7 hs57 (by decide) (by decide) rfl (by decide) ?_
          refine g_new (ci := 12) X cdJ4 i_L_sum_J4 k_L_sum_cl32 k_L_sum_inJ4 k_L_sum_iiJ4 (by intro i hi; rcases (show i = 0 ∨ i = 1 ∨ i = 2 ∨ i = 3 by omega) with rfl | rfl | rfl | rfl <;> rfl) ⟨by decide, by decide⟩ dL_sum_126 ?_
          obtain ⟨M58, hM58, hf⟩ := lw_e hf
          rw [← hM58]
          refine g_dup X dL_sum_129 rfl ?_
          obtain ⟨r59, M59, hq59, hf⟩ := bd_e hf
          refine g_callI (b := (mN M)) (As := []) (st := [vR (some (mN M))]) (M1 := M59) X (m_J4_init_da8c8 l hq59) (cwI 0 X.2.2.1 gL_sum_J4_init_da8c8 rfl rfl rfl (X.2.2.1 _ k_L_sum_iiJ4) (X.2.2.1 _ k_L_sum_ml34) (X.2.2.1 _ k_L_sum_imJ4_init_da8c8) rfl (by decide +kernel) ⟨Nat.le_of_ble_eq_true rfl, Nat.le_of_ble_eq_true rfl⟩) rfl rfl rfl (Nat.le_of_ble_eq_true rfl) dL_sum_130 ⟨by decide, by decide⟩ ?_
          refine g_iload_n X dL_sum_133 rfl rfl ?_
          obtain ⟨hT61, hf⟩ := ck_e hf
          obtain ⟨r60, M60, hq60, hf⟩ := bd_e hf
          refine g_callV (ci := 12) (b := (mN M)) (As := [vI (mI M a1 ((2 : Int32)).toNatClampNeg)]) (st := []) (v := some (vR r60)) (M1 := M60) X2 (m_J4_append_bf812 l hq60) (cwV 1 X.2.2.1 gL_sum_J4_append_bf812 rfl rfl rfl (by decide +kernel) ⟨Nat.le_of_ble_eq_true rfl, Nat.le_of_ble_eq_true rfl⟩) rfl rfl rfl hT61 (by decide) rfl (Nat.le_of_ble_eq_true rfl) dL_sum_134 ⟨by decide, by decide⟩ ?_
          refine g_lds (q := Z (100 + 73)) X (gSt2_lit X2 (111, "-store f", 73) (by decide +kernel)) dL_sum_137 ?_
          obtain ⟨a63, ha63, hf⟩ := dr_e hf
          obtain ⟨hT64, hf⟩ := ck_e hf
          obtain ⟨r62, M62, hq62, hf⟩ := bd_e hf
          refine g_callV (ci := 12) (b := a63) (As := [vR (some (Z (100 + 73)))]) (st := []) (v := some (vR r62)) (M1 := M62) X2 (m_J4_append_15ec4_S l hq62) (cwV 1 X.2.2.1 gL_sum_J4_append_15ec4 rfl rfl rfl (by decide +kernel) ⟨Nat.le_of_ble_eq_true rfl, Nat.le_of_ble_eq_true rfl⟩) rfl rfl ha63 hT64 (by decide) rfl (Nat.le_of_ble_eq_true rfl) dL_sum_139 ⟨by decide, by decide⟩ ?_
          refine g_iload_n X dL_sum_142 rfl rfl ?_
          obtain ⟨a66, ha66, hf⟩ := dr_e hf
          obtain ⟨hT67, hf⟩ := ck_e hf
          obtain ⟨r65, M65, hq65, hf⟩ := bd_e hf
          refine g_callV (ci := 12) (b := a66) (As := [vI x1]) (st := []) (v := some (vR r65)) (M1 := M65) X2 (m_J4_append_bf812 l hq65) (cwV 1 X.2.2.1 gL_sum_J4_append_bf812 rfl rfl rfl (by decide +kernel) ⟨Nat.le_of_ble_eq_true rfl, Nat.le_of_ble_eq_true rfl⟩) rfl rfl ha66 hT67 (by decide) rfl (Nat.le_of_ble_eq_true rfl) dL_sum_143 ⟨by decide, by decide⟩ ?_
          obtain ⟨a69, ha69, hf⟩ := dr_e hf
          obtain ⟨hT70, hf⟩ := ck_e hf
          obtain ⟨r68, M68, hq68, hf⟩ := bd_e hf
          refine g_callV (ci := 12) (b := a69) (As := []) (st := []) (v := some (vR r68)) (M1 := M68) X2 (m_J4_toString_0e30d l hq68) (cwV 0 X.2.2.1 gL_sum_J4_toString_0e30d rfl rfl rfl (by decide +kernel) ⟨Nat.le_of_ble_eq_true rfl, Nat.le_of_ble_eq_true rfl⟩) rfl rfl ha69 hT70 (by decide) rfl (Nat.le_of_ble_eq_true rfl) dL_sum_146 ⟨by decide, by decide⟩ ?_
          cases hf
          refine g_eqQ hK ?_
          refine g_wide (k' := 9) (n' := 14424) (by decide) (by decide) ?_
          exact g_aret X hr (Or.inl ⟨_, rfl⟩) dL_sum_149
        · have hf := ife_f hs57 hf
          refine g_tabout (tgt := 150) X dL_sum_7 (gtab_out 4 (0) (by decide) (by decide) (fun i hi => match i, hi with | 0, _ => fun e => hs5 (e.trans (by decide)) | 1, _ => fun e => hs16 (e.trans (by decide)) | 2, _ => fun e => hs35 (e.trans (by decide)) | 3, _ => fun e => hs57 (e.trans (by decide)) | i + 4, h => absurd h (by omega))) (by decide) ?_
          refine g_new (ci := 12) X cdJ4 i_L_sum_J4 k_L_sum_cl32 k_L_sum_inJ4 k_L_sum_iiJ4 (by intro i hi; rcases (show i = 0 ∨ i = 1 ∨ i = 2 ∨ i = 3 by omega) with rfl | rfl | rfl | rfl <;> rfl) ⟨by decide, by decide⟩ dL_sum_150 ?_
          obtain ⟨M71, hM71, hf⟩ := lw_e hf
          rw [← hM71]
          refine g_dup X dL_sum_153 rfl ?_
          obtain ⟨r72, M72, hq72, hf⟩ := bd_e hf
          refine g_callI (b := (mN M)) (As := []) (st := [vR (some (mN M))]) (M1 := M72) X (m_J4_init_da8c8 l hq72) (cwI 0 X.2.2.1 gL_sum_J4_init_da8c8 rfl rfl rfl (X.2.2.1 _ k_L_sum_iiJ4) (X.2.2.1 _ k_L_sum_ml34) (X.2.2.1 _ k_L_sum_imJ4_init_da8c8) rfl (by decide +kernel) ⟨Nat.le_of_ble_eq_true rfl, Nat.le_of_ble_eq_true rfl⟩) rfl rfl rfl (Nat.le_of_ble_eq_true rfl) dL_sum_154 ⟨by decide, by decide⟩ ?_
          refine g_lds (q := Z (100 + 74)) X (gSt2_lit X2 (113, "(", 74) (by decide +kernel)) dL_sum_157 ?_
          obtain ⟨hT74, hf⟩ := ck_e hf
          obtain ⟨r73, M73, hq73, hf⟩ := bd_e hf
          refine g_callV (ci := 12) (b := (mN M)) (As := [vR (some (Z (100 + 74)))]) (st := []) (v := some (vR r73)) (M1 := M73) X2 (m_J4_append_15ec4_S l hq73) (cwV 1 X.2.2.1 gL_sum_J4_append_15ec4 rfl rfl rfl (by decide +kernel) ⟨Nat.le_of_ble_eq_true rfl, Nat.le_of_ble_eq_true rfl⟩) rfl rfl rfl hT74 (by decide) rfl (Nat.le_of_ble_eq_true rfl) dL_sum_159 ⟨by decide, by decide⟩ ?_
          refine g_iload_n X dL_sum_162 rfl rfl ?_
          obtain ⟨a76, ha76, hf⟩ := dr_e hf
          obtain ⟨hT77, hf⟩ := ck_e hf
          obtain ⟨r75, M75, hq75, hf⟩ := bd_e hf
          refine g_callV (ci := 12) (b := a76) (As := [vI (mI M a1 ((2 : Int32)).toNatClampNeg)]) (st := []) (v := some (vR r75)) (M1 := M75) X2 (m_J4_append_bf812 l hq75) (cwV 1 X.2.2.1 gL_sum_J4_append_bf812 rfl rfl rfl (by decide +kernel) ⟨Nat.le_of_ble_eq_true rfl, Nat.le_of_ble_eq_true rfl⟩) rfl rfl ha76 hT77 (by decide) rfl (Nat.le_of_ble_eq_true rfl) dL_sum_163 ⟨by decide, by decide⟩ ?_
          refine g_lds (q := Z (100 + 75)) X (gSt2_lit X2 (115, "*99999*99999)/(tide-3)", 75) (by decide +kernel)) dL_sum_166 ?_
          obtain ⟨a79, ha79, hf⟩ := dr_e hf
          obtain ⟨hT80, hf⟩ := ck_e hf
          obtain ⟨r78, M78, hq78, hf⟩ := bd_e hf
          refine g_callV (ci := 12) (b := a79) (As := [vR (some (Z (100 + 75)))]) (st := []) (v := some (vR r78)) (M1 := M78) X2 (m_J4_append_15ec4_S l hq78) (cwV 1 X.2.2.1 gL_sum_J4_append_15ec4 rfl rfl rfl (by decide +kernel) ⟨Nat.le_of_ble_eq_true rfl, Nat.le_of_ble_eq_true rfl⟩) rfl rfl ha79 hT80 (by decide) rfl (Nat.le_of_ble_eq_true rfl) dL_sum_168 ⟨by decide, by decide⟩ ?_
          obtain ⟨a82, ha82, hf⟩ := dr_e hf
          obtain ⟨hT83, hf⟩ := ck_e hf
          obtain ⟨r81, M81, hq81, hf⟩ := bd_e hf
          refine g_callV (ci := 12) (b := a82) (As := []) (st := []) (v := some (vR r81)) (M1 := M81) X2 (m_J4_toString_0e30d l hq81) (cwV 0 X.2.2.1 gL_sum_J4_toString_0e30d rfl rfl rfl (by decide +kernel) ⟨Nat.le_of_ble_eq_true rfl, Nat.le_of_ble_eq_true rfl⟩) rfl rfl ha82 hT83 (by decide) rfl (Nat.le_of_ble_eq_true rfl) dL_sum_171 ⟨by decide, by decide⟩ ?_
          cases hf
          refine g_eqQ hK ?_
          refine g_wide (k' := 9) (n' := 14424) (by decide) (by decide) ?_
          exact g_aret X hr (Or.inl ⟨_, rfl⟩) dL_sum_174
set_option maxHeartbeats 4000000 in
set_option maxRecDepth 100000 in
theorem m_L_sum (l : Launch) {D : va_G} {cy : Nat → ClassId} {B : Nat} {H0 : Heap} {Z : Nat → Nat} {M M1 : gMem} {x0 : Option Nat} {x1 : Int32} {r : Option Nat} (hf : f_L_sum Z M x0 x1 = some (r, M1)) : Met l yL_sum wsL_sum rL_sum (va_Pc (List.map gv [vR x0, vI x1]) (gPre D cy B H0 (gSt2 Z B H0) M)) (gQ D cy B H0 (some (vR r)) M1) 9 14424 (gA B) := by
  refine Met.ofW (cc := cL_sum) (maxL := 3) (ret := (some (.object "java/lang/String"))) (by decide) rfl ?_
  intro p e s m args below meth c s₁ Bd hml hv
  obtain ⟨rfl, hW, hKK, hFs⟩ := hv
  have X2 : gX p s m _ meth c D cy B (gSt2 Z B H0) RL cL_sum wsL_sum 3 := ⟨Bd.exec, Bd.bytes, atoms_spec (ws := wsL_sum) Bd.pre, findClass_of_methodNamed Bd.named, hml, hKK, by rw [hW.1]; exact hW.2.1, Bd.notSynchronized, hFs⟩
  have hr := Bd.returns
  rcases x0 with _ | x0
  · have hl := lv_entry ([.null, .int x1]) (n := 3) (Nat.le_of_ble_eq_true rfl)
    show W p l e rL_sum s m _ below meth c s.heap [] 0 0 _ (entryFrame m ([.null, .int x1] : List Value).toArray 3)
    rw [lg_entry_eq]
    generalize (lg_sl ([.null, .int x1]) ++ List.replicate (3 - (lg_sl ([.null, .int x1])).length) Slot.unset).toArray = ls at hl ⊢
    have hl : lv_has ls 3 (List.map gq [(0, vR none), (1, vI x1)]) := hl
    exact t_L_sum_0 X2 hr _ _ _ _ hf rfl s.heap [] ls hW va_S.rf (lv_has_sub hl (lvsub_of _ _ [0, 1] rfl))
  · have hl := lv_entry ([.ref x0, .int x1]) (n := 3) (Nat.le_of_ble_eq_true rfl)
    show W p l e rL_sum s m _ below meth c s.heap [] 0 0 _ (entryFrame m ([.ref x0, .int x1] : List Value).toArray 3)
    rw [lg_entry_eq]
    generalize (lg_sl ([.ref x0, .int x1]) ++ List.replicate (3 - (lg_sl ([.ref x0, .int x1])).length) Slot.unset).toArray = ls at hl ⊢
    have hl : lv_has ls 3 (List.map gq [(0, vR (some x0)), (1, vI x1)]) := hl
    exact t_L_sum_0 X2 hr _ _ _ _ hf rfl s.heap [] ls hW va_S.rf (lv_has_sub hl (lvsub_of _ _ [0, 1] rfl))
end
