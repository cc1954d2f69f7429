section
theorem goodIn_c1 {big a : List Cond} {c : Cond} (hc : GoodIn big [c]) (ha : GoodIn big a) : GoodIn big (c :: a) := fun w h => (List.mem_cons.mp h).elim (fun e => hc w (List.mem_singleton.mpr e)) (ha w)
variable {p : Program} {l : Launch} {e : Env} {s : State} {m : MethodId} {args : Array Value} {below : List Frame} {meth : Method} {c : Code} {D : va_G} {cy : Nat → ClassId} {B : Nat} {H0 : Heap} {Z : Nat → Nat}
/-! ## TideLots.teach()I -/
theorem dX11_teach_0 : decode cX11_teach 0 = .ok (.aload_n 0, 1) := by decide +kernel
theorem dX11_teach_1 : decode cX11_teach 1 = .ok (.getfield 10, 3) := by decide +kernel
theorem dX11_teach_4 : decode cX11_teach 4 = .ok (.invokevirtual 49, 3) := by decide +kernel
theorem dX11_teach_7 : decode cX11_teach 7 = .ok (.new 52, 3) := by decide +kernel
theorem dX11_teach_10 : decode cX11_teach 10 = .ok (.dup, 1) := by decide +kernel
theorem dX11_teach_11 : decode cX11_teach 11 = .ok (.aload_n 0, 1) := by decide +kernel
theorem dX11_teach_12 : decode cX11_teach 12 = .ok (.getfield 10, 3) := by decide +kernel
theorem dX11_teach_15 : decode cX11_teach 15 = .ok (.aload_n 0, 1) := by decide +kernel
theorem dX11_teach_16 : decode cX11_teach 16 = .ok (.getfield 23, 3) := by decide +kernel
theorem dX11_teach_19 : decode cX11_teach 19 = .ok (.invokespecial 54, 3) := by decide +kernel
theorem dX11_teach_22 : decode cX11_teach 22 = .ok (.astore_n 1, 1) := by decide +kernel
theorem dX11_teach_23 : decode cX11_teach 23 = .ok (.aload_n 1, 1) := by decide +kernel
theorem dX11_teach_24 : decode cX11_teach 24 = .ok (.invokevirtual 57, 3) := by decide +kernel
theorem dX11_teach_27 : decode cX11_teach 27 = .ok (.istore_n 2, 1) := by decide +kernel
theorem dX11_teach_28 : decode cX11_teach 28 = .ok (.aload_n 0, 1) := by decide +kernel
theorem dX11_teach_29 : decode cX11_teach 29 = .ok (.aload_n 1, 1) := by decide +kernel
theorem dX11_teach_30 : decode cX11_teach 30 = .ok (.getfield 61, 3) := by decide +kernel
theorem dX11_teach_33 : decode cX11_teach 33 = .ok (.putfield 26, 3) := by decide +kernel
theorem dX11_teach_36 : decode cX11_teach 36 = .ok (.aload_n 0, 1) := by decide +kernel
theorem dX11_teach_37 : decode cX11_teach 37 = .ok (.getfield 10, 3) := by decide +kernel
theorem dX11_teach_40 : decode cX11_teach 40 = .ok (.iconst 0, 1) := by decide +kernel
theorem dX11_teach_41 : decode cX11_teach 41 = .ok (.putfield 30, 3) := by decide +kernel
theorem dX11_teach_44 : decode cX11_teach 44 = .ok (.iload_n 2, 1) := by decide +kernel
theorem dX11_teach_45 : decode cX11_teach 45 = .ok (.ifCond .ne 49, 3) := by decide +kernel
theorem dX11_teach_48 : decode cX11_teach 48 = .ok (.aload_n 0, 1) := by decide +kernel
theorem dX11_teach_49 : decode cX11_teach 49 = .ok (.getfield 23, 3) := by decide +kernel
theorem dX11_teach_52 : decode cX11_teach 52 = .ok (.aload_n 0, 1) := by decide +kernel
theorem dX11_teach_53 : decode cX11_teach 53 = .ok (.getfield 19, 3) := by decide +kernel
theorem dX11_teach_56 : decode cX11_teach 56 = .ok (.getfield 62, 3) := by decide +kernel
theorem dX11_teach_59 : decode cX11_teach 59 = .ok (.putfield 62, 3) := by decide +kernel
theorem dX11_teach_62 : decode cX11_teach 62 = .ok (.aload_n 0, 1) := by decide +kernel
theorem dX11_teach_63 : decode cX11_teach 63 = .ok (.getfield 23, 3) := by decide +kernel
theorem dX11_teach_66 : decode cX11_teach 66 = .ok (.aload_n 0, 1) := by decide +kernel
theorem dX11_teach_67 : decode cX11_teach 67 = .ok (.getfield 19, 3) := by decide +kernel
theorem dX11_teach_70 : decode cX11_teach 70 = .ok (.getfield 65, 3) := by decide +kernel
theorem dX11_teach_73 : decode cX11_teach 73 = .ok (.putfield 65, 3) := by decide +kernel
theorem dX11_teach_76 : decode cX11_teach 76 = .ok (.aload_n 0, 1) := by decide +kernel
theorem dX11_teach_77 : decode cX11_teach 77 = .ok (.getfield 19, 3) := by decide +kernel
theorem dX11_teach_80 : decode cX11_teach 80 = .ok (.astore_n 3, 1) := by decide +kernel
theorem dX11_teach_81 : decode cX11_teach 81 = .ok (.aload_n 0, 1) := by decide +kernel
theorem dX11_teach_82 : decode cX11_teach 82 = .ok (.aload_n 0, 1) := by decide +kernel
theorem dX11_teach_83 : decode cX11_teach 83 = .ok (.getfield 23, 3) := by decide +kernel
theorem dX11_teach_86 : decode cX11_teach 86 = .ok (.putfield 19, 3) := by decide +kernel
theorem dX11_teach_89 : decode cX11_teach 89 = .ok (.aload_n 0, 1) := by decide +kernel
theorem dX11_teach_90 : decode cX11_teach 90 = .ok (.aload_n 3, 1) := by decide +kernel
theorem dX11_teach_91 : decode cX11_teach 91 = .ok (.putfield 23, 3) := by decide +kernel
theorem dX11_teach_94 : decode cX11_teach 94 = .ok (.iload_n 2, 1) := by decide +kernel
theorem dX11_teach_95 : decode cX11_teach 95 = .ok (.ireturn, 1) := by decide +kernel
set_option maxRecDepth 20000 in
theorem ggX11_teach_X10_scan : GoodIn wsX11_teach wsX10_scan := goodIn_2 24 (goodIn_r _ [16, 17, 18, 19, 20, 21, 22, 23, 24, 25, 15, 26, 27, 28, 29, 30, 31, 32, 33, 34, 35, 36, 37, 38] (by decide +kernel) (by decide +kernel)) (goodIn_2 24 (goodIn_r _ [39, 40, 41, 42, 43, 44, 45, 46, 47, 48, 49, 50, 51, 52, 53, 54, 55, 56, 57, 58, 59, 60, 61, 62] (by decide +kernel) (by decide +kernel)) (goodIn_2 24 (goodIn_r _ [63, 64, 65, 66, 67, 68, 69, 70, 71, 72, 73, 74, 75, 76, 77, 78, 79, 80, 81, 82, 83, 84, 85, 86] (by decide +kernel) (by decide +kernel)) (goodIn_2 24 (goodIn_r _ [87, 88, 89, 90, 91, 92, 93, 94, 95, 96, 97, 98, 99, 100, 101, 102, 103, 104, 105, 106, 107, 108, 109, 110] (by decide +kernel) (by decide +kernel)) (goodIn_r _ [111, 112, 113, 114, 115, 116, 117, 118, 401, 402, 403, 404, 405, 406, 424, 425, 426, 427] (by decide +kernel) (by decide +kernel)))))
set_option maxRecDepth 20000 in
theorem gX11_teach_X10_scan : GoodIn wsX11_teach (wsV RX11 49 RX10 yX10_scan wsX10_scan) := goodIn_app (goodIn_of _ (by decide +kernel)) ggX11_teach_X10_scan
set_option maxRecDepth 20000 in
theorem ggX11_teach_X6_init : GoodIn wsX11_teach wsX6_init := goodIn_r _ [121, 122, 123, 124, 125, 126, 127, 128, 129, 130, 131, 132, 133, 134, 135, 136, 137, 138, 139, 140, 141, 142, 143, 392, 393, 394, 395, 396, 397, 398, 399, 400, 428, 429] (by decide +kernel) (by decide +kernel)
set_option maxRecDepth 20000 in
theorem gX11_teach_X6_init : GoodIn wsX11_teach (wsX6_init) := ggX11_teach_X6_init
set_option maxRecDepth 20000 in
theorem ggX11_teach_X6_read_c : GoodIn wsX11_teach [.code yX6_read cX6_read 3 (some .int)] := goodIn_r _ [147] (by decide +kernel) (by decide +kernel)
set_option maxRecDepth 20000 in
theorem ggX11_teach_X6_read_wsX6_read_r1 : GoodIn wsX11_teach wsX6_read_r1 := goodIn_r _ [133, 148, 149, 150, 151, 132, 152, 153, 125, 154, 155, 156, 157, 158, 159, 160, 161, 162, 163, 164, 165, 166, 167, 4] (by decide +kernel) (by decide +kernel)
set_option maxRecDepth 20000 in
theorem ggX11_teach_X6_read_wsX6_read_r2 : GoodIn wsX11_teach wsX6_read_r2 := goodIn_r _ [168, 169, 170, 171, 172, 173, 174, 175, 176, 177, 178, 179, 180, 181, 129, 182, 183, 184, 185, 186, 187, 188, 189, 190] (by decide +kernel) (by decide +kernel)
set_option maxRecDepth 20000 in
theorem ggX11_teach_X6_read_wsX6_read_r3 : GoodIn wsX11_teach wsX6_read_r3 := goodIn_r _ [191, 192, 193, 194, 195, 196, 197, 198, 199, 128, 200, 201, 143, 202, 203, 204, 205, 206, 207, 208, 209, 210, 211, 212] (by decide +kernel) (by decide +kernel)
set_option maxRecDepth 20000 in
theorem ggX11_teach_X6_read_wsX6_read_r4 : GoodIn wsX11_teach wsX6_read_r4 := goodIn_r _ [213, 214, 215, 140, 216, 217, 218, 219, 220, 221, 222, 223, 224, 225, 226, 227, 228, 229, 230, 231, 232, 233, 234, 235] (by decide +kernel) (by decide +kernel)
set_option maxRecDepth 20000 in
theorem ggX11_teach_X6_read_wsX6_read_r5 : GoodIn wsX11_teach wsX6_read_r5 := goodIn_r _ [236, 237, 238, 239, 240, 241, 242, 130, 243, 244, 245, 246, 247, 248, 249, 250, 251, 252, 253, 254, 255, 256, 257, 258] (by decide +kernel) (by decide +kernel)
set_option maxRecDepth 20000 in
theorem ggX11_teach_X6_read_wsX6_read_r6 : GoodIn wsX11_teach wsX6_read_r6 := goodIn_r _ [259, 260, 261, 262, 263, 264, 265, 266, 267, 268, 269, 270, 271, 272, 273, 274, 275, 276, 277, 278, 279, 280, 281, 282] (by decide +kernel) (by decide +kernel)
set_option maxRecDepth 20000 in
theorem ggX11_teach_X6_read_wsX6_read_r7 : GoodIn wsX11_teach wsX6_read_r7 := goodIn_r _ [283, 284, 285, 286, 287, 288, 289, 290, 291, 292, 293, 294, 295, 296, 297, 298, 299, 300, 301, 302, 303, 304, 305, 306] (by decide +kernel) (by decide +kernel)
set_option maxRecDepth 20000 in
theorem ggX11_teach_X6_read_wsX6_read_r8 : GoodIn wsX11_teach wsX6_read_r8 := goodIn_r _ [307, 308, 309, 310, 311, 312, 313, 314, 315, 316, 317, 318, 319, 320, 321, 322, 323, 324, 325, 326, 327, 328, 329, 330] (by decide +kernel) (by decide +kernel)
set_option maxRecDepth 20000 in
theorem ggX11_teach_X6_read_wsX6_read_r9 : GoodIn wsX11_teach wsX6_read_r9 := goodIn_r _ [331, 332, 333, 334, 335, 336, 337, 338, 339, 340, 341, 342, 343, 344, 345, 346, 347, 348, 349, 131, 350, 351, 352, 353] (by decide +kernel) (by decide +kernel)
set_option maxRecDepth 20000 in
theorem ggX11_teach_X6_read_wsX6_read_r10 : GoodIn wsX11_teach wsX6_read_r10 := goodIn_r _ [354, 355, 356, 357, 358, 359, 360, 361, 362, 363, 364, 365, 366, 367, 368, 369, 370, 371, 372, 373, 374, 375, 376, 377] (by decide +kernel) (by decide +kernel)
set_option maxRecDepth 20000 in
theorem ggX11_teach_X6_read_wsX6_read_r11 : GoodIn wsX11_teach wsX6_read_r11 := goodIn_r _ [378, 379, 380, 381, 382, 383, 384, 385, 386, 387] (by decide +kernel) (by decide +kernel)
set_option maxRecDepth 20000 in
theorem ggX11_teach_X6_read_wsX60 : GoodIn wsX11_teach wsX60 := goodIn_sub (by decide +kernel) (by decide +kernel)
set_option maxRecDepth 20000 in
theorem ggX11_teach_X6_read_wsX100 : GoodIn wsX11_teach wsX100 := goodIn_sub (by decide +kernel) (by decide +kernel)
set_option maxRecDepth 20000 in
theorem ggX11_teach_X6_read_wsX70 : GoodIn wsX11_teach wsX70 := goodIn_sub (by decide +kernel) (by decide +kernel)
set_option maxRecDepth 20000 in
theorem ggX11_teach_X6_read_wsX90 : GoodIn wsX11_teach wsX90 := goodIn_sub (by decide +kernel) (by decide +kernel)
set_option maxRecDepth 20000 in
theorem ggX11_teach_X6_read_wsX30 : GoodIn wsX11_teach wsX30 := goodIn_sub (by decide +kernel) (by decide +kernel)
set_option maxRecDepth 20000 in
theorem ggX11_teach_X6_read_wsX40 : GoodIn wsX11_teach wsX40 := goodIn_sub (by decide +kernel) (by decide +kernel)
set_option maxRecDepth 20000 in
theorem ggX11_teach_X6_read_wsX10 : GoodIn wsX11_teach wsX10 := goodIn_sub (by decide +kernel) (by decide +kernel)
set_option maxRecDepth 20000 in
theorem ggX11_teach_X6_read_wsX20 : GoodIn wsX11_teach wsX20 := goodIn_sub (by decide +kernel) (by decide +kernel)
set_option maxRecDepth 20000 in
theorem ggX11_teach_X6_read_wsX50 : GoodIn wsX11_teach wsX50 := goodIn_sub (by decide +kernel) (by decide +kernel)
set_option maxRecDepth 20000 in
theorem ggX11_teach_X6_read : GoodIn wsX11_teach wsX6_read := goodIn_c1 ggX11_teach_X6_read_c (goodIn_app (goodIn_app (goodIn_app (goodIn_app (goodIn_app (goodIn_app (goodIn_app (goodIn_app (goodIn_app (goodIn_app ggX11_teach_X6_read_wsX6_read_r1 (goodIn_app ggX11_teach_X6_read_wsX6_read_r2 (goodIn_app ggX11_teach_X6_read_wsX6_read_r3 (goodIn_app ggX11_teach_X6_read_wsX6_read_r4 (goodIn_app ggX11_teach_X6_read_wsX6_read_r5 (goodIn_app ggX11_teach_X6_read_wsX6_read_r6 (goodIn_app ggX11_teach_X6_read_wsX6_read_r7 (goodIn_app ggX11_teach_X6_read_wsX6_read_r8 (goodIn_app ggX11_teach_X6_read_wsX6_read_r9 (goodIn_app ggX11_teach_X6_read_wsX6_read_r10 ggX11_teach_X6_read_wsX6_read_r11)))))))))) ggX11_teach_X6_read_wsX60) ggX11_teach_X6_read_wsX100) ggX11_teach_X6_read_wsX70) ggX11_teach_X6_read_wsX90) ggX11_teach_X6_read_wsX30) ggX11_teach_X6_read_wsX40) ggX11_teach_X6_read_wsX10) ggX11_teach_X6_read_wsX20) ggX11_teach_X6_read_wsX50)
set_option maxRecDepth 20000 in
theorem gX11_teach_X6_read : GoodIn wsX11_teach (wsV RX11 57 RX6 yX6_read wsX6_read) := goodIn_app (goodIn_of _ (by decide +kernel)) ggX11_teach_X6_read
theorem k_X11_teach_f10 : Cond.fieldLink RX11 10 "TideLots" "tape" "LTideLots$Tape;" ∈ wsX11_teach := by decide +kernel
theorem i_X11_teach_X11 : ∀ w ∈ u_ws RX11 TX11 4, w ∈ wsX11_teach := by decide +kernel
theorem i_X11_teach_X6 : ∀ w ∈ u_ws RX6 TX6 9, w ∈ wsX11_teach := by decide +kernel
theorem k_X11_teach_cl52 : Cond.classLink RX11 52 RX6 ∈ wsX11_teach := by decide +kernel
theorem k_X11_teach_inX6 : Cond.instantiable RX6 9 ∈ wsX11_teach := by decide +kernel
theorem k_X11_teach_iiX6 : Cond.initialized RX6 ∈ wsX11_teach := by decide +kernel
theorem k_X11_teach_f23 : Cond.fieldLink RX11 23 "TideLots" "other" "LTideLots$Shore;" ∈ wsX11_teach := by decide +kernel
theorem k_X11_teach_ml54 : Cond.methodLink RX11 54 yX6_init ∈ wsX11_teach := by decide +kernel
theorem k_X11_teach_imX6_init : Cond.instanceMethod yX6_init ∈ wsX11_teach := by decide +kernel
theorem k_X11_teach_f61 : Cond.fieldLink RX11 61 "TideLots$Reader" "errorAt" "I" ∈ wsX11_teach := by decide +kernel
theorem k_X11_teach_f26 : Cond.fieldLink RX11 26 "TideLots" "errorAt" "I" ∈ wsX11_teach := by decide +kernel
theorem k_X11_teach_f30 : Cond.fieldLink RX11 30 "TideLots$Tape" "length" "I" ∈ wsX11_teach := by decide +kernel
theorem i_X11_teach_X10 : ∀ w ∈ u_ws RX10 TX10 6, w ∈ wsX11_teach := by decide +kernel
theorem k_X11_teach_f19 : Cond.fieldLink RX11 19 "TideLots" "shore" "LTideLots$Shore;" ∈ wsX11_teach := by decide +kernel
theorem k_X11_teach_f62 : Cond.fieldLink RX11 62 "TideLots$Shore" "tide" "I" ∈ wsX11_teach := by decide +kernel
theorem i_X11_teach_X7 : ∀ w ∈ u_ws RX7 TX7 17, w ∈ wsX11_teach := by decide +kernel
theorem k_X11_teach_f65 : Cond.fieldLink RX11 65 "TideLots$Shore" "luck" "I" ∈ wsX11_teach := by decide +kernel
abbrev rX11_teach : Room := { frames := 69, cells := 7, slots := 39, locals := 2671 }
noncomputable def b_X11_teach_94 (Z : Nat → Nat) (M : gMem) (x2 : Int32) : Option (Int32 × gMem) :=
  some (x2, M)
noncomputable def b_X11_teach_0 (Z : Nat → Nat) (M : gMem) (x0 : Nat) : Option (Int32 × gMem) :=
  ck (mT M x0 = 10) <| dr ((mR M x0 0)) fun a3 => ck (mT M a3 = 9) <| bd (f_X10_scan Z M a3) fun _ M2 => lw (nW M2 6 0) fun M5 => ck (mT M5 x0 = 10) <| bd (f_X6_init M5 ((mN M2)) ((mR M5 x0 0)) ((mR M5 x0 2))) fun _ M7 => ck (mT M7 (mN M2) = 6) <| bd (f_X6_read Z M7 ((mN M2))) fun r8 M8 => ck (mT M8 (mN M2) = 6) <| ck (mT M8 x0 = 10) <| lw (wI M8 x0 3 ((mI M8 (mN M2) 0))) fun M12 => dr ((mR M12 x0 0)) fun a15 => ck (mT M12 a15 = 9) <| lw (wI M12 a15 0 ((0 : Int32))) fun M17 => (if r8 = 0 then dr ((mR M17 x0 1)) fun a21 => ck (mT M17 a21 = 7) <| dr ((mR M17 x0 2)) fun a23 => ck (mT M17 a23 = 7) <| lw (wI M17 a23 0 ((mI M17 a21 0))) fun M25 => dr ((mR M25 x0 1)) fun a31 => ck (mT M25 a31 = 7) <| dr ((mR M25 x0 2)) fun a33 => ck (mT M25 a33 = 7) <| lw (wI M25 a33 1 ((mI M25 a31 1))) fun M35 => lw (wR M35 x0 1 ((mR M35 x0 2))) fun M43 => lw (wR M43 x0 2 ((mR M35 x0 1))) fun M51 => b_X11_teach_94 Z M51 r8 else b_X11_teach_94 Z M17 r8)
noncomputable def f_X11_teach (Z : Nat → Nat) (M : gMem) (x0 : Nat) : Option (Int32 × gMem) :=
  b_X11_teach_0 Z M x0
set_option maxHeartbeats 4000000 in
set_option maxRecDepth 100000 in
theorem t_X11_teach_94 (X : gX p s m args meth c D cy B (gSt Z B H0) RX11 cX11_teach wsX11_teach 4) (hr : meth.sig.returnType = (some .int)) {Q : State → Prop} : ∀ (M : gMem) (x2 : Int32) (z : Int32 × gMem), b_X11_teach_94 Z M x2 = some z → (fun (r : Int32 × gMem) => Q = gMQ below D cy B H0 args s 7 39 (some (vI r.1)) r.2) z → gGo p l e rX11_teach s m args below meth c D cy B H0 4 7 39 Q 94 [(2, vI x2)] [] M := by
  intro M x2 z hf hK
  unfold b_X11_teach_94 at hf
  refine g_iload_n X dX11_teach_94 rfl rfl ?_
  cases hf
  refine g_eqQ hK ?_
  exact g_iret X hr dX11_teach_95
set_option maxHeartbeats 4000000 in
set_option maxRecDepth 100000 in
theorem t_X11_teach_0 (X : gX p s m args meth c D cy B (gSt Z B H0) RX11 cX11_teach wsX11_teach 4) (hr : meth.sig.returnType = (some .int)) {Q : State → Prop} : ∀ (M : gMem) (x0 : Nat) (z : Int32 × gMem), b_X11_teach_0 Z M x0 = some z → (fun (r : Int32 × gMem) => Q = gMQ below D cy B H0 args s 7 39 (some (vI r.1)) r.2) z → gGo p l e rX11_teach s m args below meth c D cy B H0 4 0 0 Q 0 [(0, vR (some x0))] [] M := by
  intro M x0 z hf hK
  unfold b_X11_teach_0 at hf
  refine g_aload_n X dX11_teach_0 rfl rfl ?_
  obtain ⟨hT1, hf⟩ := ck_e hf
  refine g_get (ci := 9) (v := vR (mR M x0 0)) 0 X cdX11 i_X11_teach_X11 (by decide) k_X11_teach_f10 rfl dX11_teach_1 rfl hT1 rfl ?_
  obtain ⟨a3, ha3, hf⟩ := dr_e hf
  obtain ⟨hT4, hf⟩ := ck_e hf
  obtain ⟨r2, M2, hq2, hf⟩ := bd_e hf
  refine g_callV (ci := 8) (b := a3) (As := []) (st := []) (v := none) (M1 := M2) X (m_X10_scan l hq2) (cwV 0 X.2.2.1 gX11_teach_X10_scan rfl rfl rfl (by decide +kernel) ⟨Nat.le_of_ble_eq_true rfl, Nat.le_of_ble_eq_true rfl⟩) rfl rfl ha3 hT4 (by decide) rfl (Nat.le_of_ble_eq_true rfl) dX11_teach_4 ⟨by decide, by decide⟩ ?_
  refine g_new (ci := 5) X cdX6 i_X11_teach_X6 k_X11_teach_cl52 k_X11_teach_inX6 k_X11_teach_iiX6 (by intro i hi; rcases (show i = 0 ∨ i = 1 ∨ i = 2 ∨ i = 3 ∨ i = 4 ∨ i = 5 ∨ i = 6 ∨ i = 7 ∨ i = 8 by omega) with rfl | rfl | rfl | rfl | rfl | rfl | rfl | rfl | rfl <;> rfl) ⟨by decide, by decide⟩ dX11_teach_7 ?_
  obtain ⟨M5, hM5, hf⟩ := lw_e hf
  rw [← hM5]
  refine g_dup X dX11_teach_10 rfl ?_
  refine g_aload_n X dX11_teach_11 rfl rfl ?_
  obtain ⟨hT6, hf⟩ := ck_e hf
  refine g_get (ci := 9) (v := vR (mR M5 x0 0)) 0 X cdX11 i_X11_teach_X11 (by decide) k_X11_teach_f10 rfl dX11_teach_12 rfl hT6 rfl ?_
  refine g_aload_n X dX11_teach_15 rfl rfl ?_
  refine g_get (ci := 9) (v := vR (mR M5 x0 2)) 2 X cdX11 i_X11_teach_X11 (by decide) k_X11_teach_f23 rfl dX11_teach_16 rfl hT6 rfl ?_
  obtain ⟨r7, M7, hq7, hf⟩ := bd_e hf
  refine g_callI (b := (mN M2)) (As := [vR (mR M5 x0 0), vR (mR M5 x0 2)]) (st := [vR (some (mN M2))]) (M1 := M7) X (m_X6_init l hq7) (cwI 2 X.2.2.1 gX11_teach_X6_init rfl rfl rfl (X.2.2.1 _ k_X11_teach_iiX6) (X.2.2.1 _ k_X11_teach_ml54) (X.2.2.1 _ k_X11_teach_imX6_init) rfl (by decide +kernel) ⟨Nat.le_of_ble_eq_true rfl, Nat.le_of_ble_eq_true rfl⟩) rfl rfl rfl (Nat.le_of_ble_eq_true rfl) dX11_teach_19 ⟨by decide, by decide⟩ ?_
  refine g_astore_n (lv' := [(1, vR (some (mN M2))), (0, vR (some x0))]) X dX11_teach_22 rfl (by decide) rfl ?_
  refine g_aload_n X dX11_teach_23 rfl rfl ?_
  obtain ⟨hT9, hf⟩ := ck_e hf
  obtain ⟨r8, M8, hq8, hf⟩ := bd_e hf
  refine g_callV (ci := 5) (b := (mN M2)) (As := []) (st := []) (v := some (vI r8)) (M1 := M8) X (m_X6_read l hq8) (cwV 0 X.2.2.1 gX11_teach_X6_read rfl rfl rfl (by decide +kernel) ⟨Nat.le_of_ble_eq_true rfl, Nat.le_of_ble_eq_true rfl⟩) rfl rfl rfl hT9 (by decide) rfl (Nat.le_of_ble_eq_true rfl) dX11_teach_24 ⟨by decide, by decide⟩ ?_
  refine g_istore_n (lv' := [(2, vI r8), (1, vR (some (mN M2))), (0, vR (some x0))]) X dX11_teach_27 rfl (by decide) rfl ?_
  refine g_aload_n X dX11_teach_28 rfl rfl ?_
  refine g_aload_n X dX11_teach_29 rfl rfl ?_
  obtain ⟨hT10, hf⟩ := ck_e hf
  refine g_get (ci := 5) (v := vI (mI M8 (mN M2) 0)) 0 X cdX6 i_X11_teach_X6 (by decide) k_X11_teach_f61 rfl dX11_teach_30 rfl hT10 rfl ?_
  obtain ⟨hT11, hf⟩ := ck_e hf
  refine g_putI (ci := 9) 3 X cdX11 i_X11_teach_X11 (by decide) k_X11_teach_f26 rfl dX11_teach_33 rfl hT11 (Or.inl rfl) rfl rfl rfl ?_
  obtain ⟨M12, hM12, hf⟩ := lw_e hf
  rw [← hM12]
  have hT13 : mT M12 (mN M2) = 6 := by rw [hM12]; exact hT10
  have hT14 : mT M12 x0 = 10 := by rw [hM12]; exact hT11
  refine g_aload_n X dX11_teach_36 rfl rfl ?_
  refine g_get (ci := 9) (v := vR (mR M12 x0 0)) 0 X cdX11 i_X11_teach_X11 (by decide) k_X11_teach_f10 rfl dX11_teach_37 rfl hT14 rfl ?_
  refine g_iconst (v := (0 : Int32)) X dX11_teach_40 (by decide) ?_
  obtain ⟨a15, ha15, hf⟩ := dr_e hf
  obtain ⟨hT16, hf⟩ := ck_e hf
  refine g_putI (ci := 8) 0 X cdX10 i_X11_teach_X10 (by decide) k_X11_teach_f30 rfl dX11_teach_41 ha15 hT16 (Or.inl rfl) rfl rfl rfl ?_
  obtain ⟨M17, hM17, hf⟩ := lw_e hf
  rw [← hM17]
  have hT18 : mT M17 (mN M2) = 6 := by rw [hM17]; exact hT13
  have hT19 : mT M17 x0 = 10 := by rw [hM17]; exact hT14
  have hT20 : mT M17 a15 = 9 := by rw [hM17]; exact hT16
  refine g_iload_n X dX11_teach_44 rfl rfl ?_
  refine g_if_ne (tgt := 94) X dX11_teach_45 (by decide) (fun hc => ?_) (fun hc => ?_)
  · have hf := ife_f hc hf
    refine g_sub (lvsub_of _ _ [0] rfl) ?_
    exact t_X11_teach_94 X hr _ _ _ hf hK
  · have hf := ife_t hc hf
    refine g_aload_n X dX11_teach_48 rfl rfl ?_
    refine g_get (ci := 9) (v := vR (mR M17 x0 2)) 2 X cdX11 i_X11_teach_X11 (by decide) k_X11_teach_f23 rfl dX11_teach_49 rfl hT19 rfl ?_
    refine g_aload_n X dX11_teach_52 rfl rfl ?_
    refine g_get (ci := 9) (v := vR (mR M17 x0 1)) 1 X cdX11 i_X11_teach_X11 (by decide) k_X11_teach_f19 rfl dX11_teach_53 rfl hT19 rfl ?_
    obtain ⟨a21, ha21, hf⟩ := dr_e hf
    obtain ⟨hT22, hf⟩ := ck_e hf
    refine g_get (ci := 6) (v := vI (mI M17 a21 0)) 0 X cdX7 i_X11_teach_X7 (by decide) k_X11_teach_f62 rfl dX11_teach_56 ha21 hT22 rfl ?_
    obtain ⟨a23, ha23, hf⟩ := dr_e hf
    obtain ⟨hT24, hf⟩ := ck_e hf
    refine g_putI (ci := 6) 0 X cdX7 i_X11_teach_X7 (by decide) k_X11_teach_f62 rfl dX11_teach_59 ha23 hT24 (Or.inl rfl) rfl rfl rfl ?_
    obtain ⟨M25, hM25, hf⟩ := lw_e hf
    rw [← hM25]
    have hT26 : mT M25 (mN M2) = 6 := by rw [hM25]; exact hT18
    have hT27 : mT M25 x0 = 10 := by rw [hM25]; exact hT19
    have hT28 : mT M25 a15 = 9 := by rw [hM25]; exact hT20
    have hT29 : mT M25 a21 = 7 := by rw [hM25]; exact hT22
    have hT30 : mT M25 a23 = 7 := by rw [hM25]; exact hT24
    refine g_aload_n X dX11_teach_62 rfl rfl ?_
    refine g_get (ci := 9) (v := vR (mR M25 x0 2)) 2 X cdX11 i_X11_teach_X11 (by decide) k_X11_teach_f23 rfl dX11_teach_63 rfl hT27 rfl ?_
    refine g_aload_n X dX11_teach_66 rfl rfl ?_
    refine g_get (ci := 9) (v := vR (mR M25 x0 1)) 1 X cdX11 i_X11_teach_X11 (by decide) k_X11_teach_f19 rfl dX11_teach_67 rfl hT27 rfl ?_
    obtain ⟨a31, ha31, hf⟩ := dr_e hf
    obtain ⟨hT32, hf⟩ := ck_e hf
    refine g_get (ci := 6) (v := vI (mI M25 a31 1)) 1 X cdX7 i_X11_teach_X7 (by decide) k_X11_teach_f65 rfl dX11_teach_70 ha31 hT32 rfl ?_
    obtain ⟨a33, ha33, hf⟩ := dr_e hf
    obtain ⟨hT34, hf⟩ := ck_e hf
    refine g_putI (ci := 6) 1 X cdX7 i_X11_teach_X7 (by decide) k_X11_teach_f65 rfl dX11_teach_73 ha33 hT34 (Or.inl rfl) rfl rfl rfl ?_
    obtain ⟨M35, hM35, hf⟩ := lw_e hf
    rw [← hM35]
    have hT36 : mT M35 (mN M2) = 6 := by rw [hM35]; exact hT26
    have hT37 : mT M35 x0 = 10 := by rw [hM35]; exact hT27
    have hT38 : mT M35 a15 = 9 := by rw [hM35]; exact hT28
    have hT39 : mT M35 a21 = 7 := by rw [hM35]; exact hT29
    have hT40 : mT M35 a23 = 7 := by rw [hM35]; exact hT30
    have hT41 : mT M35 a31 = 7 := by rw [hM35]; exact hT32
    have hT42 : mT M35 a33 = 7 := by rw [hM35]; exact hT34
    refine g_aload_n X dX11_teach_76 rfl rfl ?_
    refine g_get (ci := 9) (v := vR (mR M35 x0 1)) 1 X cdX11 i_X11_teach_X11 (by decide) k_X11_teach_f19 rfl dX11_teach_77 rfl hT37 rfl ?_
    refine g_astore_n (lv' := [(3, vR (mR M35 x0 1)), (2, vI r8), (1, vR (some (mN M2))), (0, vR (some x0))]) X dX11_teach_80 rfl (by decide) rfl ?_
    refine g_aload_n X dX11_teach_81 rfl rfl ?_
    refine g_aload_n X dX11_teach_82 rfl rfl ?_
    refine g_get (ci := 9) (v := vR (mR M35 x0 2)) 2 X cdX11 i_X11_teach_X11 (by decide) k_X11_teach_f23 rfl dX11_teach_83 rfl hT37 rfl ?_
    refine g_putR (ci := 9) 1 X cdX11 i_X11_teach_X11 (by decide) k_X11_teach_f19 rfl dX11_teach_86 rfl hT37 (Or.inl rfl) (gnO _ _) (gfO _ _) rfl ?_
    obtain ⟨M43, hM43, hf⟩ := lw_e hf
    rw [← hM43]
    have hT44 : mT M43 (mN M2) = 6 := by rw [hM43]; exact hT36
    have hT45 : mT M43 x0 = 10 := by rw [hM43]; exact hT37
    have hT46 : mT M43 a15 = 9 := by rw [hM43]; exact hT38
    have hT47 : mT M43 a21 = 7 := by rw [hM43]; exact hT39
    have hT48 : mT M43 a23 = 7 := by rw [hM43]; exact hT40
    have hT49 : mT M43 a31 = 7 := by rw [hM43]; exact hT41
    have hT50 : mT M43 a33 = 7 := by rw [hM43]; exact hT42
    refine g_aload_n X dX11_teach_89 rfl rfl ?_
    refine g_aload_n X dX11_teach_90 rfl rfl ?_
    refine g_putR (ci := 9) 2 X cdX11 i_X11_teach_X11 (by decide) k_X11_teach_f23 rfl dX11_teach_91 rfl hT45 (Or.inl rfl) (gnO _ _) (gfO _ _) rfl ?_
    obtain ⟨M51, hM51, hf⟩ := lw_e hf
    rw [← hM51]
    have hT52 : mT M51 (mN M2) = 6 := by rw [hM51]; exact hT44
    have hT53 : mT M51 x0 = 10 := by rw [hM51]; exact hT45
    have hT54 : mT M51 a15 = 9 := by rw [hM51]; exact hT46
    have hT55 : mT M51 a21 = 7 := by rw [hM51]; exact hT47
    have hT56 : mT M51 a23 = 7 := by rw [hM51]; exact hT48
    have hT57 : mT M51 a31 = 7 := by rw [hM51]; exact hT49
    have hT58 : mT M51 a33 = 7 := by rw [hM51]; exact hT50
    refine g_sub (lvsub_of _ _ [1] rfl) ?_
    exact t_X11_teach_94 X hr _ _ _ hf hK
set_option maxHeartbeats 4000000 in
set_option maxRecDepth 100000 in
theorem m_X11_teach (l : Launch) {D : va_G} {cy : Nat → ClassId} {B : Nat} {H0 : Heap} {Z : Nat → Nat} {M M1 : gMem} {x0 : Nat} {r : Int32} (hf : f_X11_teach Z M x0 = some (r, M1)) : Met l yX11_teach wsX11_teach rX11_teach (va_Pc (Value.ref x0 :: List.map gv []) (gPre D cy B H0 (gSt Z B H0) M)) (gQ D cy B H0 (some (vI r)) M1) 7 39 (gA B) := by
  refine Met.ofW (cc := cX11_teach) (maxL := 4) (ret := (some .int)) (by decide) rfl ?_
  intro p e s m args below meth c s₁ Bd hml hv
  obtain ⟨rfl, hW, hKK, hFs⟩ := hv
  have X : gX p s m _ meth c D cy B (gSt Z B H0) RX11 cX11_teach wsX11_teach 4 := ⟨Bd.exec, Bd.bytes, atoms_spec (ws := wsX11_teach) Bd.pre, findClass_of_methodNamed Bd.named, hml, hKK, by rw [hW.1]; exact hW.2.1, Bd.notSynchronized, hFs⟩
  have hr := Bd.returns
  have hl := lv_entry ([.ref x0]) (n := 4) (Nat.le_of_ble_eq_true rfl)
  show W p l e rX11_teach s m _ below meth c s.heap [] 0 0 _ (entryFrame m ([.ref x0] : List Value).toArray 4)
  rw [lg_entry_eq]
  generalize (lg_sl ([.ref x0]) ++ List.replicate (4 - (lg_sl ([.ref x0])).length) Slot.unset).toArray = ls at hl ⊢
  have hl : lv_has ls 4 (List.map gq [(0, vR (some x0))]) := hl
  exact t_X11_teach_0 X hr _ _ _ hf rfl s.heap [] ls hW va_S.rf (lv_has_sub hl (lvsub_of _ _ [0] rfl))
end
