section
variable {p : Program} {l : Launch} {e : Env} {s : State} {m : MethodId} {args : Array Value} {below : List Frame} {meth : Method} {c : Code} {D : va_G} {cy : Nat → ClassId} {B : Nat} {H0 : Heap} {Z : Nat → Nat}
/-! ## TideLotsModel$State.begin()V -/
theorem dX12_begin_0 : decode cX12_begin 0 = .ok (.aload_n 0, 1) := by decide +kernel
theorem dX12_begin_1 : decode cX12_begin 1 = .ok (.aload_n 0, 1) := by decide +kernel
theorem dX12_begin_2 : decode cX12_begin 2 = .ok (.getfield 3, 3) := by decide +kernel
theorem dX12_begin_5 : decode cX12_begin 5 = .ok (.getfield 81, 3) := by decide +kernel
theorem dX12_begin_8 : decode cX12_begin 8 = .ok (.getfield 85, 3) := by decide +kernel
theorem dX12_begin_11 : decode cX12_begin 11 = .ok (.aload_n 0, 1) := by decide +kernel
theorem dX12_begin_12 : decode cX12_begin 12 = .ok (.getfield 19, 3) := by decide +kernel
theorem dX12_begin_15 : decode cX12_begin 15 = .ok (.invokevirtual 77, 3) := by decide +kernel
theorem dX12_begin_18 : decode cX12_begin 18 = .ok (.aload_n 0, 1) := by decide +kernel
theorem dX12_begin_19 : decode cX12_begin 19 = .ok (.aload_n 0, 1) := by decide +kernel
theorem dX12_begin_20 : decode cX12_begin 20 = .ok (.getfield 3, 3) := by decide +kernel
theorem dX12_begin_23 : decode cX12_begin 23 = .ok (.getfield 81, 3) := by decide +kernel
theorem dX12_begin_26 : decode cX12_begin 26 = .ok (.getfield 88, 3) := by decide +kernel
theorem dX12_begin_29 : decode cX12_begin 29 = .ok (.aload_n 0, 1) := by decide +kernel
theorem dX12_begin_30 : decode cX12_begin 30 = .ok (.getfield 29, 3) := by decide +kernel
theorem dX12_begin_33 : decode cX12_begin 33 = .ok (.invokevirtual 77, 3) := by decide +kernel
theorem dX12_begin_36 : decode cX12_begin 36 = .ok (.bipush 9, 2) := by decide +kernel
theorem dX12_begin_38 : decode cX12_begin 38 = .ok (.anewarray 89, 3) := by decide +kernel
theorem dX12_begin_41 : decode cX12_begin 41 = .ok (.dup, 1) := by decide +kernel
theorem dX12_begin_42 : decode cX12_begin 42 = .ok (.iconst 0, 1) := by decide +kernel
theorem dX12_begin_43 : decode cX12_begin 43 = .ok (.aload_n 0, 1) := by decide +kernel
theorem dX12_begin_44 : decode cX12_begin 44 = .ok (.getfield 23, 3) := by decide +kernel
theorem dX12_begin_47 : decode cX12_begin 47 = .ok (.aastore, 1) := by decide +kernel
theorem dX12_begin_48 : decode cX12_begin 48 = .ok (.dup, 1) := by decide +kernel
theorem dX12_begin_49 : decode cX12_begin 49 = .ok (.iconst 1, 1) := by decide +kernel
theorem dX12_begin_50 : decode cX12_begin 50 = .ok (.aload_n 0, 1) := by decide +kernel
theorem dX12_begin_51 : decode cX12_begin 51 = .ok (.getfield 26, 3) := by decide +kernel
theorem dX12_begin_54 : decode cX12_begin 54 = .ok (.aastore, 1) := by decide +kernel
theorem dX12_begin_55 : decode cX12_begin 55 = .ok (.dup, 1) := by decide +kernel
theorem dX12_begin_56 : decode cX12_begin 56 = .ok (.iconst 2, 1) := by decide +kernel
theorem dX12_begin_57 : decode cX12_begin 57 = .ok (.aload_n 0, 1) := by decide +kernel
theorem dX12_begin_58 : decode cX12_begin 58 = .ok (.getfield 32, 3) := by decide +kernel
theorem dX12_begin_61 : decode cX12_begin 61 = .ok (.aastore, 1) := by decide +kernel
theorem dX12_begin_62 : decode cX12_begin 62 = .ok (.dup, 1) := by decide +kernel
theorem dX12_begin_63 : decode cX12_begin 63 = .ok (.iconst 3, 1) := by decide +kernel
theorem dX12_begin_64 : decode cX12_begin 64 = .ok (.aload_n 0, 1) := by decide +kernel
theorem dX12_begin_65 : decode cX12_begin 65 = .ok (.getfield 35, 3) := by decide +kernel
theorem dX12_begin_68 : decode cX12_begin 68 = .ok (.aastore, 1) := by decide +kernel
theorem dX12_begin_69 : decode cX12_begin 69 = .ok (.dup, 1) := by decide +kernel
theorem dX12_begin_70 : decode cX12_begin 70 = .ok (.iconst 4, 1) := by decide +kernel
theorem dX12_begin_71 : decode cX12_begin 71 = .ok (.aload_n 0, 1) := by decide +kernel
theorem dX12_begin_72 : decode cX12_begin 72 = .ok (.getfield 41, 3) := by decide +kernel
theorem dX12_begin_75 : decode cX12_begin 75 = .ok (.aastore, 1) := by decide +kernel
theorem dX12_begin_76 : decode cX12_begin 76 = .ok (.dup, 1) := by decide +kernel
theorem dX12_begin_77 : decode cX12_begin 77 = .ok (.iconst 5, 1) := by decide +kernel
theorem dX12_begin_78 : decode cX12_begin 78 = .ok (.aload_n 0, 1) := by decide +kernel
theorem dX12_begin_79 : decode cX12_begin 79 = .ok (.getfield 44, 3) := by decide +kernel
theorem dX12_begin_82 : decode cX12_begin 82 = .ok (.aastore, 1) := by decide +kernel
theorem dX12_begin_83 : decode cX12_begin 83 = .ok (.dup, 1) := by decide +kernel
theorem dX12_begin_84 : decode cX12_begin 84 = .ok (.bipush 6, 2) := by decide +kernel
theorem dX12_begin_86 : decode cX12_begin 86 = .ok (.aload_n 0, 1) := by decide +kernel
theorem dX12_begin_87 : decode cX12_begin 87 = .ok (.getfield 47, 3) := by decide +kernel
theorem dX12_begin_90 : decode cX12_begin 90 = .ok (.aastore, 1) := by decide +kernel
theorem dX12_begin_91 : decode cX12_begin 91 = .ok (.dup, 1) := by decide +kernel
theorem dX12_begin_92 : decode cX12_begin 92 = .ok (.bipush 7, 2) := by decide +kernel
theorem dX12_begin_94 : decode cX12_begin 94 = .ok (.aload_n 0, 1) := by decide +kernel
theorem dX12_begin_95 : decode cX12_begin 95 = .ok (.getfield 50, 3) := by decide +kernel
theorem dX12_begin_98 : decode cX12_begin 98 = .ok (.aastore, 1) := by decide +kernel
theorem dX12_begin_99 : decode cX12_begin 99 = .ok (.dup, 1) := by decide +kernel
theorem dX12_begin_100 : decode cX12_begin 100 = .ok (.bipush 8, 2) := by decide +kernel
theorem dX12_begin_102 : decode cX12_begin 102 = .ok (.aload_n 0, 1) := by decide +kernel
theorem dX12_begin_103 : decode cX12_begin 103 = .ok (.getfield 53, 3) := by decide +kernel
theorem dX12_begin_106 : decode cX12_begin 106 = .ok (.aastore, 1) := by decide +kernel
theorem dX12_begin_107 : decode cX12_begin 107 = .ok (.astore_n 1, 1) := by decide +kernel
theorem dX12_begin_108 : decode cX12_begin 108 = .ok (.aload_n 1, 1) := by decide +kernel
theorem dX12_begin_109 : decode cX12_begin 109 = .ok (.astore_n 2, 1) := by decide +kernel
theorem dX12_begin_110 : decode cX12_begin 110 = .ok (.aload_n 2, 1) := by decide +kernel
theorem dX12_begin_111 : decode cX12_begin 111 = .ok (.arraylength, 1) := by decide +kernel
theorem dX12_begin_112 : decode cX12_begin 112 = .ok (.istore_n 3, 1) := by decide +kernel
theorem dX12_begin_113 : decode cX12_begin 113 = .ok (.iconst 0, 1) := by decide +kernel
theorem dX12_begin_114 : decode cX12_begin 114 = .ok (.istore 4, 2) := by decide +kernel
theorem dX12_begin_116 : decode cX12_begin 116 = .ok (.iload 4, 2) := by decide +kernel
theorem dX12_begin_118 : decode cX12_begin 118 = .ok (.iload_n 3, 1) := by decide +kernel
theorem dX12_begin_119 : decode cX12_begin 119 = .ok (.if_icmp .ge 38, 3) := by decide +kernel
theorem dX12_begin_122 : decode cX12_begin 122 = .ok (.aload_n 2, 1) := by decide +kernel
theorem dX12_begin_123 : decode cX12_begin 123 = .ok (.iload 4, 2) := by decide +kernel
theorem dX12_begin_125 : decode cX12_begin 125 = .ok (.aaload, 1) := by decide +kernel
theorem dX12_begin_126 : decode cX12_begin 126 = .ok (.astore 5, 2) := by decide +kernel
theorem dX12_begin_128 : decode cX12_begin 128 = .ok (.iconst 0, 1) := by decide +kernel
theorem dX12_begin_129 : decode cX12_begin 129 = .ok (.istore 6, 2) := by decide +kernel
theorem dX12_begin_131 : decode cX12_begin 131 = .ok (.iload 6, 2) := by decide +kernel
theorem dX12_begin_133 : decode cX12_begin 133 = .ok (.aload 5, 2) := by decide +kernel
theorem dX12_begin_135 : decode cX12_begin 135 = .ok (.arraylength, 1) := by decide +kernel
theorem dX12_begin_136 : decode cX12_begin 136 = .ok (.if_icmp .ge 15, 3) := by decide +kernel
theorem dX12_begin_139 : decode cX12_begin 139 = .ok (.aload 5, 2) := by decide +kernel
theorem dX12_begin_141 : decode cX12_begin 141 = .ok (.iload 6, 2) := by decide +kernel
theorem dX12_begin_143 : decode cX12_begin 143 = .ok (.iconst 0, 1) := by decide +kernel
theorem dX12_begin_144 : decode cX12_begin 144 = .ok (.iastore, 1) := by decide +kernel
theorem dX12_begin_145 : decode cX12_begin 145 = .ok (.iinc 6 1, 3) := by decide +kernel
theorem dX12_begin_148 : decode cX12_begin 148 = .ok (.goto (-17), 3) := by decide +kernel
theorem dX12_begin_151 : decode cX12_begin 151 = .ok (.iinc 4 1, 3) := by decide +kernel
theorem dX12_begin_154 : decode cX12_begin 154 = .ok (.goto (-38), 3) := by decide +kernel
theorem dX12_begin_157 : decode cX12_begin 157 = .ok (.iconst 0, 1) := by decide +kernel
theorem dX12_begin_158 : decode cX12_begin 158 = .ok (.istore_n 2, 1) := by decide +kernel
theorem dX12_begin_159 : decode cX12_begin 159 = .ok (.iload_n 2, 1) := by decide +kernel
theorem dX12_begin_160 : decode cX12_begin 160 = .ok (.bipush 8, 2) := by decide +kernel
theorem dX12_begin_162 : decode cX12_begin 162 = .ok (.if_icmp .ge 16, 3) := by decide +kernel
theorem dX12_begin_165 : decode cX12_begin 165 = .ok (.aload_n 0, 1) := by decide +kernel
theorem dX12_begin_166 : decode cX12_begin 166 = .ok (.getfield 38, 3) := by decide +kernel
theorem dX12_begin_169 : decode cX12_begin 169 = .ok (.iload_n 2, 1) := by decide +kernel
theorem dX12_begin_170 : decode cX12_begin 170 = .ok (.iconst (-1), 1) := by decide +kernel
theorem dX12_begin_171 : decode cX12_begin 171 = .ok (.iastore, 1) := by decide +kernel
theorem dX12_begin_172 : decode cX12_begin 172 = .ok (.iinc 2 1, 3) := by decide +kernel
theorem dX12_begin_175 : decode cX12_begin 175 = .ok (.goto (-16), 3) := by decide +kernel
theorem dX12_begin_178 : decode cX12_begin 178 = .ok (.return_, 1) := by decide +kernel
set_option maxRecDepth 20000 in
theorem ggX12_begin_X12_copy : GoodIn wsX12_begin wsX12_copy := goodIn_rr wsB_X12_begin_in _ [(1, 18), (1, 19), (1, 20), (1, 21), (1, 22)] (by decide +kernel) (by decide +kernel)
set_option maxRecDepth 20000 in
theorem gX12_begin_X12_copy : GoodIn wsX12_begin (wsV RX12 77 RX12 yX12_copy wsX12_copy) := goodIn_app (goodIn_rr wsB_X12_begin_in _ [(1, 14), (1, 15), (1, 16), (1, 17)] (by decide +kernel) (by decide +kernel)) ggX12_begin_X12_copy
theorem k_X12_begin_f38 : Cond.fieldLink RX12 38 "TideLotsModel$State" "where" "[I" ∈ wsX12_begin := by decide +kernel
theorem i_X12_begin_X12 : ∀ w ∈ u_ws RX12 TX12 19, w ∈ wsX12_begin := by decide +kernel
theorem k_X12_begin_f3 : Cond.fieldLink RX12 3 "TideLotsModel$State" "this$0" "LTideLotsModel;" ∈ wsX12_begin := by decide +kernel
theorem i_X12_begin_X14 : ∀ w ∈ u_ws RX14 TX14 15, w ∈ wsX12_begin := by decide +kernel
theorem kn_X12_85 : Cond.fieldLinkNest "TideLotsModel$State" (85 : Nat) "TideLotsModel$Told" "fish" "[I" "TideLotsModel" ∈ gNs := by decide +kernel
theorem i_X12_begin_X13 : ∀ w ∈ u_ws RX13 TX13 25, w ∈ wsX12_begin := by decide +kernel
theorem k_X12_begin_f19 : Cond.fieldLink RX12 19 "TideLotsModel$State" "fish" "[I" ∈ wsX12_begin := by decide +kernel
theorem kn_X12_88 : Cond.fieldLinkNest "TideLotsModel$State" (88 : Nat) "TideLotsModel$Told" "mesh" "[I" "TideLotsModel" ∈ gNs := by decide +kernel
theorem k_X12_begin_f29 : Cond.fieldLink RX12 29 "TideLotsModel$State" "mesh" "[I" ∈ wsX12_begin := by decide +kernel
theorem k_X12_begin_cl89 : Cond.classLink RX12 89 "[I" ∈ wsX12_begin := by decide +kernel
theorem k_X12_begin_f23 : Cond.fieldLink RX12 23 "TideLotsModel$State" "boats" "[I" ∈ wsX12_begin := by decide +kernel
theorem k_X12_begin_f26 : Cond.fieldLink RX12 26 "TideLotsModel$State" "took" "[I" ∈ wsX12_begin := by decide +kernel
theorem k_X12_begin_f32 : Cond.fieldLink RX12 32 "TideLotsModel$State" "store" "[I" ∈ wsX12_begin := by decide +kernel
theorem k_X12_begin_f35 : Cond.fieldLink RX12 35 "TideLotsModel$State" "caught" "[I" ∈ wsX12_begin := by decide +kernel
theorem k_X12_begin_f41 : Cond.fieldLink RX12 41 "TideLotsModel$State" "tears" "[I" ∈ wsX12_begin := by decide +kernel
theorem k_X12_begin_f44 : Cond.fieldLink RX12 44 "TideLotsModel$State" "cheats" "[I" ∈ wsX12_begin := by decide +kernel
theorem k_X12_begin_f47 : Cond.fieldLink RX12 47 "TideLotsModel$State" "shown" "[I" ∈ wsX12_begin := by decide +kernel
theorem k_X12_begin_f50 : Cond.fieldLink RX12 50 "TideLotsModel$State" "hidden" "[I" ∈ wsX12_begin := by decide +kernel
theorem k_X12_begin_f53 : Cond.fieldLink RX12 53 "TideLotsModel$State" "hid" "[I" ∈ wsX12_begin := by decide +kernel
abbrev rX12_begin : Room := { frames := 2, cells := 1, slots := 9, locals := 82 }
noncomputable def bb_X12_begin_159 (M : gMem) (x0 : Nat) (x2 : Int32) : Option ((gMem × Int32) ⊕ (Unit × gMem)) :=
  (if (8 : Int32) ≤ x2 then oI (some ((), M)) else ck (mT M x0 = 11) <| dr ((mR M x0 8)) fun a3 => ck (mT M a3 = 20) <| ck (inb x2 (mL M a3)) <| lw (wI M a3 x2.toNatClampNeg ((-1 : Int32))) fun M6 => some (.inl (M6, (x2 + (1 : Int32)))))
noncomputable def lp_X12_begin_159 (M : gMem) (x0 : Nat) (x2 : Int32) : Option (Unit × gMem) :=
  lp (fun (q : gMem × Int32) => bb_X12_begin_159 q.1 x0 q.2) (M, x2)
noncomputable def bb_X12_begin_131 (M : gMem) (x0 : Nat) (x2 : Option Nat) (x3 : Int32) (x4 : Int32) (x5 : Option Nat) (x6 : Int32) : Option ((gMem × Int32) ⊕ ((gMem × Int32) ⊕ (Unit × gMem))) :=
  dr x5 fun a9 => ck (mT M a9 = 20) <| (if (Int32.ofNat (mL M a9)) ≤ x6 then oI (some (.inl (M, (x4 + (1 : Int32))))) else ck (inb x6 (mL M a9)) <| lw (wI M a9 x6.toNatClampNeg ((0 : Int32))) fun M13 => some (.inl (M13, (x6 + (1 : Int32)))))
noncomputable def lp_X12_begin_131 (M : gMem) (x0 : Nat) (x2 : Option Nat) (x3 : Int32) (x4 : Int32) (x5 : Option Nat) (x6 : Int32) : Option ((gMem × Int32) ⊕ (Unit × gMem)) :=
  lp (fun (q : gMem × Int32) => bb_X12_begin_131 q.1 x0 x2 x3 x4 x5 q.2) (M, x6)
noncomputable def bb_X12_begin_116 (M : gMem) (x0 : Nat) (x2 : Option Nat) (x3 : Int32) (x4 : Int32) : Option ((gMem × Int32) ⊕ (Unit × gMem)) :=
  (if x3 ≤ x4 then oI (lp_X12_begin_159 M x0 ((0 : Int32))) else dr x2 fun a16 => ck (mT M a16 = 28) <| ck (inb x4 (mL M a16)) <| lp_X12_begin_131 M x0 x2 x3 x4 ((mR M a16 x4.toNatClampNeg)) ((0 : Int32)))
noncomputable def lp_X12_begin_116 (M : gMem) (x0 : Nat) (x2 : Option Nat) (x3 : Int32) (x4 : Int32) : Option (Unit × gMem) :=
  lp (fun (q : gMem × Int32) => bb_X12_begin_116 q.1 x0 x2 x3 q.2) (M, x4)
noncomputable def b_X12_begin_0 (M : gMem) (x0 : Nat) : Option (Unit × gMem) :=
  ck (mT M x0 = 11) <| dr ((mR M x0 18)) fun a20 => ck (mT M a20 = 13) <| dr ((mR M a20 11)) fun a22 => ck (mT M a22 = 12) <| bd (f_X12_copy M x0 ((mR M a22 2)) ((mR M x0 2))) fun _ M24 => ck (mT M24 x0 = 11) <| dr ((mR M24 x0 18)) fun a26 => ck (mT M24 a26 = 13) <| dr ((mR M24 a26 11)) fun a28 => ck (mT M24 a28 = 12) <| bd (f_X12_copy M24 x0 ((mR M24 a28 5)) ((mR M24 x0 5))) fun _ M30 => lw (nW M30 28 ((9 : Int32)).toNatClampNeg) fun M31 => ck (mT M31 x0 = 11) <| ck (mT M31 (mN M30) = 28) <| ck (inb (0 : Int32) (mL M31 (mN M30))) <| dr ((mR M31 x0 3)) fun a35 => ck (mT M31 a35 = 20) <| lw (wR M31 (mN M30) ((0 : Int32)).toNatClampNeg ((mR M31 x0 3))) fun M37 => ck (inb (1 : Int32) (mL M37 (mN M30))) <| dr ((mR M37 x0 4)) fun a42 => ck (mT M37 a42 = 20) <| lw (wR M37 (mN M30) ((1 : Int32)).toNatClampNeg ((mR M37 x0 4))) fun M44 => ck (inb (2 : Int32) (mL M44 (mN M30))) <| dr ((mR M44 x0 6)) fun a50 => ck (mT M44 a50 = 20) <| lw (wR M44 (mN M30) ((2 : Int32)).toNatClampNeg ((mR M44 x0 6))) fun M52 => ck (inb (3 : Int32) (mL M52 (mN M30))) <| dr ((mR M52 x0 7)) fun a59 => ck (mT M52 a59 = 20) <| lw (wR M52 (mN M30) ((3 : Int32)).toNatClampNeg ((mR M52 x0 7))) fun M61 => ck (inb (4 : Int32) (mL M61 (mN M30))) <| dr ((mR M61 x0 9)) fun a69 => ck (mT M61 a69 = 20) <| lw (wR M61 (mN M30) ((4 : Int32)).toNatClampNeg ((mR M61 x0 9))) fun M71 => ck (inb (5 : Int32) (mL M71 (mN M30))) <| dr ((mR M71 x0 10)) fun a80 => ck (mT M71 a80 = 20) <| lw (wR M71 (mN M30) ((5 : Int32)).toNatClampNeg ((mR M71 x0 10))) fun M82 => ck (inb (6 : Int32) (mL M82 (mN M30))) <| dr ((mR M82 x0 11)) fun a92 => ck (mT M82 a92 = 20) <| lw (wR M82 (mN M30) ((6 : Int32)).toNatClampNeg ((mR M82 x0 11))) fun M94 => ck (inb (7 : Int32) (mL M94 (mN M30))) <| dr ((mR M94 x0 12)) fun a105 => ck (mT M94 a105 = 20) <| lw (wR M94 (mN M30) ((7 : Int32)).toNatClampNeg ((mR M94 x0 12))) fun M107 => ck (inb (8 : Int32) (mL M107 (mN M30))) <| dr ((mR M107 x0 13)) fun a119 => ck (mT M107 a119 = 20) <| lw (wR M107 (mN M30) ((8 : Int32)).toNatClampNeg ((mR M107 x0 13))) fun M121 => lp_X12_begin_116 M121 x0 ((some (mN M30))) ((Int32.ofNat (mL M121 (mN M30)))) ((0 : Int32))
noncomputable def f_X12_begin (M : gMem) (x0 : Nat) : Option (Unit × gMem) :=
  b_X12_begin_0 M x0
set_option maxHeartbeats 4000000 in
set_option maxRecDepth 100000 in
theorem tb_X12_begin_159 (X2 : gX p s m args meth c D cy B (gSt2 Z B H0) RX12 cX12_begin wsX12_begin 7) (hr : meth.sig.returnType = none) {Q : State → Prop} : ∀ (M : gMem) (x0 : Nat) (x2 : Int32) (z : (gMem × Int32) ⊕ (Unit × gMem)), bb_X12_begin_159 M x0 x2 = some z → (Sum.elim (fun (q : gMem × Int32) => gGo p l e rX12_begin s m args below meth c D cy B H0 7 1 9 Q 159 [(0, vR (some x0)), (2, vI q.2)] [] q.1) (fun (r : Unit × gMem) => Q = gMQ below D cy B H0 args s 1 9 none r.2)) z → gGo p l e rX12_begin s m args below meth c D cy B H0 7 1 9 Q 159 [(0, vR (some x0)), (2, vI x2)] [] M := by
  intro M x0 x2 z hf hK
  unfold bb_X12_begin_159 at hf
  have X := gX_w X2
  refine g_iload_n X dX12_begin_159 rfl rfl ?_
  refine g_bipush (v := (8 : Int32)) X dX12_begin_160 (by decide) ?_
  refine g_icmp_ge (tgt := 178) X dX12_begin_162 (by decide) (fun hc => ?_) (fun hc => ?_)
  · have hf := ife_t hc hf
    obtain ⟨w1, hw1, hz1⟩ := oI_e hf
    subst hz1
    have hf := hw1
    cases hf
    refine g_eqQ hK ?_
    exact g_vret X hr dX12_begin_178
  · have hf := ife_f hc hf
    refine g_aload_n X dX12_begin_165 rfl rfl ?_
    obtain ⟨hT2, hf⟩ := ck_e hf
    refine g_get (ci := 10) (v := vR (mR M x0 8)) 8 X cdX12 i_X12_begin_X12 (by decide) k_X12_begin_f38 rfl dX12_begin_166 rfl hT2 rfl ?_
    refine g_iload_n X dX12_begin_169 rfl rfl ?_
    refine g_iconst (v := (-1 : Int32)) X dX12_begin_170 (by decide) ?_
    obtain ⟨a3, ha3, hf⟩ := dr_e hf
    obtain ⟨hT4, hf⟩ := ck_e hf
    obtain ⟨hg5, hf⟩ := ck_e hf
    refine g_iast X dX12_begin_171 ha3 hT4 hg5 ?_
    obtain ⟨M6, hM6, hf⟩ := lw_e hf
    rw [← hM6]
    have hT7 : mT M6 x0 = 11 := by rw [hM6]; exact hT2
    have hT8 : mT M6 a3 = 20 := by rw [hM6]; exact hT4
    refine g_iinc (v := (1 : Int32)) (lv' := [(2, vI (x2 + (1 : Int32))), (0, vR (some x0))]) X dX12_begin_172 rfl (by decide) (by decide) rfl ?_
    refine g_goto (tgt := 159) X dX12_begin_175 (by decide) ?_
    cases hf
    refine g_sub (lvsub_of _ _ [1, 0] rfl) ?_
    exact hK
set_option maxHeartbeats 4000000 in
set_option maxRecDepth 100000 in
theorem tl_X12_begin_159 (X2 : gX p s m args meth c D cy B (gSt2 Z B H0) RX12 cX12_begin wsX12_begin 7) (hr : meth.sig.returnType = none) {Q : State → Prop} : ∀ (M : gMem) (x0 : Nat) (x2 : Int32) (z : Unit × gMem), lp_X12_begin_159 M x0 x2 = some z → (fun (r : Unit × gMem) => Q = gMQ below D cy B H0 args s 1 9 none r.2) z → gGo p l e rX12_begin s m args below meth c D cy B H0 7 1 9 Q 159 [(0, vR (some x0)), (2, vI x2)] [] M := by
  intro M x0 x2 z hf hK
  refine lp_ind (P := (fun (q : gMem × Int32) (z : Unit × gMem) => (fun (r : Unit × gMem) => Q = gMQ below D cy B H0 args s 1 9 none r.2) z → gGo p l e rX12_begin s m args below meth c D cy B H0 7 1 9 Q 159 [(0, vR (some x0)), (2, vI q.2)] [] q.1)) (fun q z hq => ?_) _ _ hf hK
  intro hK
  obtain ⟨w, hw, hm⟩ := hq
  refine tb_X12_begin_159 X2 hr _ _ _ w hw ?_
  cases w with
  | inl a => exact hm hK
  | inr b => cases hm; exact hK
set_option maxHeartbeats 4000000 in
set_option maxRecDepth 100000 in
theorem tb_X12_begin_131 (X2 : gX p s m args meth c D cy B (gSt2 Z B H0) RX12 cX12_begin wsX12_begin 7) (hr : meth.sig.returnType = none) {Q : State → Prop} : ∀ (M : gMem) (x0 : Nat) (x2 : Option Nat) (x3 : Int32) (x4 : Int32) (x5 : Option Nat) (x6 : Int32) (z : (gMem × Int32) ⊕ ((gMem × Int32) ⊕ (Unit × gMem))), bb_X12_begin_131 M x0 x2 x3 x4 x5 x6 = some z → (Sum.elim (fun (q : gMem × Int32) => gGo p l e rX12_begin s m args below meth c D cy B H0 7 1 9 Q 131 [(0, vR (some x0)), (2, vR x2), (3, vI x3), (4, vI x4), (5, vR x5), (6, vI q.2)] [] q.1) (Sum.elim (fun (q : gMem × Int32) => gGo p l e rX12_begin s m args below meth c D cy B H0 7 1 9 Q 116 [(0, vR (some x0)), (2, vR x2), (3, vI x3), (4, vI q.2)] [] q.1) (fun (r : Unit × gMem) => Q = gMQ below D cy B H0 args s 1 9 none r.2))) z → gGo p l e rX12_begin s m args below meth c D cy B H0 7 1 9 Q 131 [(0, vR (some x0)), (2, vR x2), (3, vI x3), (4, vI x4), (5, vR x5), (6, vI x6)] [] M := by
  intro M x0 x2 x3 x4 x5 x6 z hf hK
  unfold bb_X12_begin_131 at hf
  have X := gX_w X2
  refine g_iload X dX12_begin_131 rfl ?_
  refine g_aload X dX12_begin_133 rfl ?_
  obtain ⟨a9, ha9, hf⟩ := dr_e hf
  obtain ⟨hT10, hf⟩ := ck_e hf
  refine g_alen (t0 := 0) X dX12_begin_135 ha9 hT10 (by decide) rfl ?_
  refine g_icmp_ge (tgt := 151) X dX12_begin_136 (by decide) (fun hc => ?_) (fun hc => ?_)
  · have hf := ife_t hc hf
    refine g_iinc (v := (1 : Int32)) (lv' := [(4, vI (x4 + (1 : Int32))), (0, vR (some x0)), (2, vR x2), (3, vI x3), (5, vR x5), (6, vI x6)]) X dX12_begin_151 rfl (by decide) (by decide) rfl ?_
    refine g_goto (tgt := 116) X dX12_begin_154 (by decide) ?_
    obtain ⟨w11, hw11, hz11⟩ := oI_e hf
    subst hz11
    have hf := hw11
    cases hf
    refine g_sub (lvsub_of _ _ [1, 2, 3, 0] rfl) ?_
    exact hK
  · have hf := ife_f hc hf
    refine g_aload X dX12_begin_139 rfl ?_
    refine g_iload X dX12_begin_141 rfl ?_
    refine g_iconst (v := (0 : Int32)) X dX12_begin_143 (by decide) ?_
    obtain ⟨hg12, hf⟩ := ck_e hf
    refine g_iast X dX12_begin_144 ha9 hT10 hg12 ?_
    obtain ⟨M13, hM13, hf⟩ := lw_e hf
    rw [← hM13]
    have hT14 : mT M13 a9 = 20 := by rw [hM13]; exact hT10
    refine g_iinc (v := (1 : Int32)) (lv' := [(6, vI (x6 + (1 : Int32))), (0, vR (some x0)), (2, vR x2), (3, vI x3), (4, vI x4), (5, vR x5)]) X dX12_begin_145 rfl (by decide) (by decide) rfl ?_
    refine g_goto (tgt := 131) X dX12_begin_148 (by decide) ?_
    cases hf
    refine g_sub (lvsub_of _ _ [1, 2, 3, 4, 5, 0] rfl) ?_
    exact hK
set_option maxHeartbeats 4000000 in
set_option maxRecDepth 100000 in
theorem tl_X12_begin_131 (X2 : gX p s m args meth c D cy B (gSt2 Z B H0) RX12 cX12_begin wsX12_begin 7) (hr : meth.sig.returnType = none) {Q : State → Prop} : ∀ (M : gMem) (x0 : Nat) (x2 : Option Nat) (x3 : Int32) (x4 : Int32) (x5 : Option Nat) (x6 : Int32) (z : (gMem × Int32) ⊕ (Unit × gMem)), lp_X12_begin_131 M x0 x2 x3 x4 x5 x6 = some z → (Sum.elim (fun (q : gMem × Int32) => gGo p l e rX12_begin s m args below meth c D cy B H0 7 1 9 Q 116 [(0, vR (some x0)), (2, vR x2), (3, vI x3), (4, vI q.2)] [] q.1) (fun (r : Unit × gMem) => Q = gMQ below D cy B H0 args s 1 9 none r.2)) z → gGo p l e rX12_begin s m args below meth c D cy B H0 7 1 9 Q 131 [(0, vR (some x0)), (2, vR x2), (3, vI x3), (4, vI x4), (5, vR x5), (6, vI x6)] [] M := by
  intro M x0 x2 x3 x4 x5 x6 z hf hK
  refine lp_ind (P := (fun (q : gMem × Int32) (z : (gMem × Int32) ⊕ (Unit × gMem)) => (Sum.elim (fun (q : gMem × Int32) => gGo p l e rX12_begin s m args below meth c D cy B H0 7 1 9 Q 116 [(0, vR (some x0)), (2, vR x2), (3, vI x3), (4, vI q.2)] [] q.1) (fun (r : Unit × gMem) => Q = gMQ below D cy B H0 args s 1 9 none r.2)) z → gGo p l e rX12_begin s m args below meth c D cy B H0 7 1 9 Q 131 [(0, vR (some x0)), (2, vR x2), (3, vI x3), (4, vI x4), (5, vR x5), (6, vI q.2)] [] q.1)) (fun q z hq => ?_) _ _ hf hK
  intro hK
  obtain ⟨w, hw, hm⟩ := hq
  refine tb_X12_begin_131 X2 hr _ _ _ _ _ _ _ w hw ?_
  cases w with
  | inl a => exact hm hK
  | inr b => cases hm; exact hK
set_option maxHeartbeats 4000000 in
set_option maxRecDepth 100000 in
theorem tb_X12_begin_116 (X2 : gX p s m args meth c D cy B (gSt2 Z B H0) RX12 cX12_begin wsX12_begin 7) (hr : meth.sig.returnType = none) {Q : State → Prop} : ∀ (M : gMem) (x0 : Nat) (x2 : Option Nat) (x3 : Int32) (x4 : Int32) (z : (gMem × Int32) ⊕ (Unit × gMem)), bb_X12_begin_116 M x0 x2 x3 x4 = some z → (Sum.elim (fun (q : gMem × Int32) => gGo p l e rX12_begin s m args below meth c D cy B H0 7 1 9 Q 116 [(0, vR (some x0)), (2, vR x2), (3, vI x3), (4, vI q.2)] [] q.1) (fun (r : Unit × gMem) => Q = gMQ below D cy B H0 args s 1 9 none r.2)) z → gGo p l e rX12_begin s m args below meth c D cy B H0 7 1 9 Q 116 [(0, vR (some x0)), (2, vR x2), (3, vI x3), (4, vI x4)] [] M := by
  intro M x0 x2 x3 x4 z hf hK
  unfold bb_X12_begin_116 at hf
  have X := gX_w X2
  refine g_iload X dX12_begin_116 rfl ?_
  refine g_iload_n X dX12_begin_118 rfl rfl ?_
  refine g_icmp_ge (tgt := 157) X dX12_begin_119 (by decide) (fun hc => ?_) (fun hc => ?_)
  · have hf := ife_t hc hf
    refine g_iconst (v := (0 : Int32)) X dX12_begin_157 (by decide) ?_
    refine g_istore_n (lv' := [(2, vI (0 : Int32)), (0, vR (some x0)), (3, vI x3), (4, vI x4)]) X dX12_begin_158 rfl (by decide) rfl ?_
    obtain ⟨w15, hw15, hz15⟩ := oI_e hf
    subst hz15
    have hf := hw15
    refine g_sub (lvsub_of _ _ [1, 0] rfl) ?_
    exact tl_X12_begin_159 X2 hr _ _ _ _ hf hK
  · have hf := ife_f hc hf
    refine g_aload_n X dX12_begin_122 rfl rfl ?_
    refine g_iload X dX12_begin_123 rfl ?_
    obtain ⟨a16, ha16, hf⟩ := dr_e hf
    obtain ⟨hT17, hf⟩ := ck_e hf
    obtain ⟨hg18, hf⟩ := ck_e hf
    refine g_aaldA X dX12_begin_125 ha16 hT17 hg18 ?_
    refine g_astore (lv' := [(5, vR (mR M a16 x4.toNatClampNeg)), (0, vR (some x0)), (2, vR x2), (3, vI x3), (4, vI x4)]) X dX12_begin_126 (by decide) rfl ?_
    refine g_iconst (v := (0 : Int32)) X dX12_begin_128 (by decide) ?_
    refine g_istore (lv' := [(6, vI (0 : Int32)), (5, vR (mR M a16 x4.toNatClampNeg)), (0, vR (some x0)), (2, vR x2), (3, vI x3), (4, vI x4)]) X dX12_begin_129 (by decide) rfl ?_
    refine g_sub (lvsub_of _ _ [2, 3, 4, 5, 1, 0] rfl) ?_
    exact tl_X12_begin_131 X2 hr _ _ _ _ _ _ _ _ hf hK
set_option maxHeartbeats 4000000 in
set_option maxRecDepth 100000 in
theorem tl_X12_begin_116 (X2 : gX p s m args meth c D cy B (gSt2 Z B H0) RX12 cX12_begin wsX12_begin 7) (hr : meth.sig.returnType = none) {Q : State → Prop} : ∀ (M : gMem) (x0 : Nat) (x2 : Option Nat) (x3 : Int32) (x4 : Int32) (z : Unit × gMem), lp_X12_begin_116 M x0 x2 x3 x4 = some z → (fun (r : Unit × gMem) => Q = gMQ below D cy B H0 args s 1 9 none r.2) z → gGo p l e rX12_begin s m args below meth c D cy B H0 7 1 9 Q 116 [(0, vR (some x0)), (2, vR x2), (3, vI x3), (4, vI x4)] [] M := by
  intro M x0 x2 x3 x4 z hf hK
  refine lp_ind (P := (fun (q : gMem × Int32) (z : Unit × gMem) => (fun (r : Unit × gMem) => Q = gMQ below D cy B H0 args s 1 9 none r.2) z → gGo p l e rX12_begin s m args below meth c D cy B H0 7 1 9 Q 116 [(0, vR (some x0)), (2, vR x2), (3, vI x3), (4, vI q.2)] [] q.1)) (fun q z hq => ?_) _ _ hf hK
  intro hK
  obtain ⟨w, hw, hm⟩ := hq
  refine tb_X12_begin_116 X2 hr _ _ _ _ _ w hw ?_
  cases w with
  | inl a => exact hm hK
  | inr b => cases hm; exact hK
set_option maxHeartbeats 4000000 in
set_option maxRecDepth 100000 in
theorem t_X12_begin_0 (X2 : gX p s m args meth c D cy B (gSt2 Z B H0) RX12 cX12_begin wsX12_begin 7) (hr : meth.sig.returnType = none) {Q : State → Prop} : ∀ (M : gMem) (x0 : Nat) (z : Unit × gMem), b_X12_begin_0 M x0 = some z → (fun (r : Unit × gMem) => Q = gMQ below D cy B H0 args s 1 9 none r.2) z → gGo p l e rX12_begin s m args below meth c D cy B H0 7 0 0 Q 0 [(0, vR (some x0))] [] M := by
  intro M x0 z hf hK
  unfold b_X12_begin_0 at hf
  have X := gX_w X2
  refine g_aload_n X dX12_begin_0 rfl rfl ?_
  refine g_aload_n X dX12_begin_1 rfl rfl ?_
  obtain ⟨hT19, hf⟩ := ck_e hf
  refine g_get (ci := 10) (v := vR (mR M x0 18)) 18 X cdX12 i_X12_begin_X12 (by decide) k_X12_begin_f3 rfl dX12_begin_2 rfl hT19 rfl ?_
  obtain ⟨a20, ha20, hf⟩ := dr_e hf
  obtain ⟨hT21, hf⟩ := ck_e hf
  refine g_getN (ci := 12) (w := vR (mR M a20 11)) 11 X cdX14 i_X12_begin_X14 (by decide) (gNw X _ kn_X12_81) rfl dX12_begin_5 ha20 hT21 rfl ?_
  obtain ⟨a22, ha22, hf⟩ := dr_e hf
  obtain ⟨hT23, hf⟩ := ck_e hf
  refine g_getN (ci := 11) (w := vR (mR M a22 2)) 2 X cdX13 i_X12_begin_X13 (by decide) (gNw X _ kn_X12_85) rfl dX12_begin_8 ha22 hT23 rfl ?_
  refine g_aload_n X dX12_begin_11 rfl rfl ?_
  refine g_get (ci := 10) (v := vR (mR M x0 2)) 2 X cdX12 i_X12_begin_X12 (by decide) k_X12_begin_f19 rfl dX12_begin_12 rfl hT19 rfl ?_
  obtain ⟨r24, M24, hq24, hf⟩ := bd_e hf
  refine g_callV (ci := 10) (b := x0) (As := [vR (mR M a22 2), vR (mR M x0 2)]) (st := []) (v := none) (M1 := M24) X (m_X12_copy l hq24) (cwV 2 X.2.2.1 gX12_begin_X12_copy rfl rfl rfl (by decide +kernel) ⟨Nat.le_of_ble_eq_true rfl, Nat.le_of_ble_eq_true rfl⟩) rfl rfl rfl hT19 (by decide) rfl (Nat.le_of_ble_eq_true rfl) dX12_begin_15 ⟨by decide, by decide⟩ ?_
  refine g_aload_n X dX12_begin_18 rfl rfl ?_
  refine g_aload_n X dX12_begin_19 rfl rfl ?_
  obtain ⟨hT25, hf⟩ := ck_e hf
  refine g_get (ci := 10) (v := vR (mR M24 x0 18)) 18 X cdX12 i_X12_begin_X12 (by decide) k_X12_begin_f3 rfl dX12_begin_20 rfl hT25 rfl ?_
  obtain ⟨a26, ha26, hf⟩ := dr_e hf
  obtain ⟨hT27, hf⟩ := ck_e hf
  refine g_getN (ci := 12) (w := vR (mR M24 a26 11)) 11 X cdX14 i_X12_begin_X14 (by decide) (gNw X _ kn_X12_81) rfl dX12_begin_23 ha26 hT27 rfl ?_
  obtain ⟨a28, ha28, hf⟩ := dr_e hf
  obtain ⟨hT29, hf⟩ := ck_e hf
  refine g_getN (ci := 11) (w := vR (mR M24 a28 5)) 5 X cdX13 i_X12_begin_X13 (by decide) (gNw X _ kn_X12_88) rfl dX12_begin_26 ha28 hT29 rfl ?_
  refine g_aload_n X dX12_begin_29 rfl rfl ?_
  refine g_get (ci := 10) (v := vR (mR M24 x0 5)) 5 X cdX12 i_X12_begin_X12 (by decide) k_X12_begin_f29 rfl dX12_begin_30 rfl hT25 rfl ?_
  obtain ⟨r30, M30, hq30, hf⟩ := bd_e hf
  refine g_callV (ci := 10) (b := x0) (As := [vR (mR M24 a28 5), vR (mR M24 x0 5)]) (st := []) (v := none) (M1 := M30) X (m_X12_copy l hq30) (cwV 2 X.2.2.1 gX12_begin_X12_copy rfl rfl rfl (by decide +kernel) ⟨Nat.le_of_ble_eq_true rfl, Nat.le_of_ble_eq_true rfl⟩) rfl rfl rfl hT25 (by decide) rfl (Nat.le_of_ble_eq_true rfl) dX12_begin_33 ⟨by decide, by decide⟩ ?_
  refine g_bipush (v := (9 : Int32)) X dX12_begin_36 (by decide) ?_
  refine g_anewA X (gN2w X2 _ (by decide +kernel)) k_X12_begin_cl89 (by decide) (by decide) ⟨by decide, by decide⟩ dX12_begin_38 ?_
  obtain ⟨M31, hM31, hf⟩ := lw_e hf
  rw [← hM31]
  refine g_dup X dX12_begin_41 rfl ?_
  refine g_iconst (v := (0 : Int32)) X dX12_begin_42 (by decide) ?_
  refine g_aload_n X dX12_begin_43 rfl rfl ?_
  obtain ⟨hT32, hf⟩ := ck_e hf
  refine g_get (ci := 10) (v := vR (mR M31 x0 3)) 3 X cdX12 i_X12_begin_X12 (by decide) k_X12_begin_f23 rfl dX12_begin_44 rfl hT32 rfl ?_
  obtain ⟨hT33, hf⟩ := ck_e hf
  obtain ⟨hg34, hf⟩ := ck_e hf
  obtain ⟨a35, ha35, hf⟩ := dr_e hf
  obtain ⟨hT36, hf⟩ := ck_e hf
  refine g_aastA X (gN2w X2 _ (by decide +kernel)) dX12_begin_47 rfl hT33 hg34 ha35 hT36 ?_
  obtain ⟨M37, hM37, hf⟩ := lw_e hf
  rw [← hM37]
  have hT38 : mT M37 x0 = 11 := by rw [hM37]; exact hT32
  have hT39 : mT M37 (mN M30) = 28 := by rw [hM37]; exact hT33
  have hT40 : mT M37 a35 = 20 := by rw [hM37]; exact hT36
  refine g_dup X dX12_begin_48 rfl ?_
  refine g_iconst (v := (1 : Int32)) X dX12_begin_49 (by decide) ?_
  refine g_aload_n X dX12_begin_50 rfl rfl ?_
  refine g_get (ci := 10) (v := vR (mR M37 x0 4)) 4 X cdX12 i_X12_begin_X12 (by decide) k_X12_begin_f26 rfl dX12_begin_51 rfl hT38 rfl ?_
  obtain ⟨hg41, hf⟩ := ck_e hf
  obtain ⟨a42, ha42, hf⟩ := dr_e hf
  obtain ⟨hT43, hf⟩ := ck_e hf
  refine g_aastA X (gN2w X2 _ (by decide +kernel)) dX12_begin_54 rfl hT39 hg41 ha42 hT43 ?_
  obtain ⟨M44, hM44, hf⟩ := lw_e hf
  rw [← hM44]
  have hT45 : mT M44 x0 = 11 := by rw [hM44]; exact hT38
  have hT46 : mT M44 (mN M30) = 28 := by rw [hM44]; exact hT39
  have hT47 : mT M44 a35 = 20 := by rw [hM44]; exact hT40
  have hT48 : mT M44 a42 = 20 := by rw [hM44]; exact hT43
  refine g_dup X dX12_begin_55 rfl ?_
  refine g_iconst (v := (2 : Int32)) X dX12_begin_56 (by decide) ?_
  refine g_aload_n X dX12_begin_57 rfl rfl ?_
  refine g_get (ci := 10) (v := vR (mR M44 x0 6)) 6 X cdX12 i_X12_begin_X12 (by decide) k_X12_begin_f32 rfl dX12_begin_58 rfl hT45 rfl ?_
  obtain ⟨hg49, hf⟩ := ck_e hf
  obtain ⟨a50, ha50, hf⟩ := dr_e hf
  obtain ⟨hT51, hf⟩ := ck_e hf
  refine g_aastA X (gN2w X2 _ (by decide +kernel)) dX12_begin_61 rfl hT46 hg49 ha50 hT51 ?_
  obtain ⟨M52, hM52, hf⟩ := lw_e hf
  rw [← hM52]
  have hT53 : mT M52 x0 = 11 := by rw [hM52]; exact hT45
  have hT54 : mT M52 (mN M30) = 28 := by rw [hM52]; exact hT46
  have hT55 : mT M52 a35 = 20 := by rw [hM52]; exact hT47
  have hT56 : mT M52 a42 = 20 := by rw [hM52]; exact hT48
  have hT57 : mT M52 a50 = 20 := by rw [hM52]; exact hT51
  refine g_dup X dX12_begin_62 rfl ?_
  refine g_iconst (v := (3 : Int32)) X dX12_begin_63 (by decide) ?_
  refine g_aload_n X dX12_begin_64 rfl rfl ?_
  refine g_get (ci := 10) (v := vR (mR M52 x0 7)) 7 X cdX12 i_X12_begin_X12 (by decide) k_X12_begin_f35 rfl dX12_begin_65 rfl hT53 rfl ?_
  obtain ⟨hg58, hf⟩ := ck_e hf
  obtain ⟨a59, ha59, hf⟩ := dr_e hf
  obtain ⟨hT60, hf⟩ := ck_e hf
  refine g_aastA X (gN2w X2 _ (by decide +kernel)) dX12_begin_68 rfl hT54 hg58 ha59 hT60 ?_
  obtain ⟨M61, hM61, hf⟩ := lw_e hf
  rw [← hM61]
  have hT62 : mT M61 x0 = 11 := by rw [hM61]; exact hT53
  have hT63 : mT M61 (mN M30) = 28 := by rw [hM61]; exact hT54
  have hT64 : mT M61 a35 = 20 := by rw [hM61]; exact hT55
  have hT65 : mT M61 a42 = 20 := by rw [hM61]; exact hT56
  have hT66 : mT M61 a50 = 20 := by rw [hM61]; exact hT57
  have hT67 : mT M61 a59 = 20 := by rw [hM61]; exact hT60
  refine g_dup X dX12_begin_69 rfl ?_
  refine g_iconst (v := (4 : Int32)) X dX12_begin_70 (by decide) ?_
  refine g_aload_n X dX12_begin_71 rfl rfl ?_
  refine g_get (ci := 10) (v := vR (mR M61 x0 9)) 9 X cdX12 i_X12_begin_X12 (by decide) k_X12_begin_f41 rfl dX12_begin_72 rfl hT62 rfl ?_
  obtain ⟨hg68, hf⟩ := ck_e hf
  obtain ⟨a69, ha69, hf⟩ := dr_e hf
  obtain ⟨hT70, hf⟩ := ck_e hf
  refine g_aastA X (gN2w X2 _ (by decide +kernel)) dX12_begin_75 rfl hT63 hg68 ha69 hT70 ?_
  obtain ⟨M71, hM71, hf⟩ := lw_e hf
  rw [← hM71]
  have hT72 : mT M71 x0 = 11 := by rw [hM71]; exact hT62
  have hT73 : mT M71 (mN M30) = 28 := by rw [hM71]; exact hT63
  have hT74 : mT M71 a35 = 20 := by rw [hM71]; exact hT64
  have hT75 : mT M71 a42 = 20 := by rw [hM71]; exact hT65
  have hT76 : mT M71 a50 = 20 := by rw [hM71]; exact hT66
  have hT77 : mT M71 a59 = 20 := by rw [hM71]; exact hT67
  have hT78 : mT M71 a69 = 20 := by rw [hM71]; exact hT70
  refine g_dup X dX12_begin_76 rfl ?_
  refine g_iconst (v := (5 : Int32)) X dX12_begin_77 (by decide) ?_
  refine g_aload_n X dX12_begin_78 rfl rfl ?_
  refine g_get (ci := 10) (v := vR (mR M71 x0 10)) 10 X cdX12 i_X12_begin_X12 (by decide) k_X12_begin_f44 rfl dX12_begin_79 rfl hT72 rfl ?_
  obtain ⟨hg79, hf⟩ := ck_e hf
  obtain ⟨a80, ha80, hf⟩ := dr_e hf
  obtain ⟨hT81, hf⟩ := ck_e hf
  refine g_aastA X (gN2w X2 _ (by decide +kernel)) dX12_begin_82 rfl hT73 hg79 ha80 hT81 ?_
  obtain ⟨M82, hM82, hf⟩ := lw_e hf
  rw [← hM82]
  have hT83 : mT M82 x0 = 11 := by rw [hM82]; exact hT72
  have hT84 : mT M82 (mN M30) = 28 := by rw [hM82]; exact hT73
  have hT85 : mT M82 a35 = 20 := by rw [hM82]; exact hT74
  have hT86 : mT M82 a42 = 20 := by rw [hM82]; exact hT75
  have hT87 : mT M82 a50 = 20 := by rw [hM82]; exact hT76
  have hT88 : mT M82 a59 = 20 := by rw [hM82]; exact hT77
  have hT89 : mT M82 a69 = 20 := by rw [hM82]; exact hT78
  have hT90 : mT M82 a80 = 20 := by rw [hM82]; exact hT81
  refine g_dup X dX12_begin_83 rfl ?_
  refine g_bipush (v := (6 : Int32)) X dX12_begin_84 (by decide) ?_
  refine g_aload_n X dX12_begin_86 rfl rfl ?_
  refine g_get (ci := 10) (v := vR (mR M82 x0 11)) 11 X cdX12 i_X12_begin_X12 (by decide) k_X12_begin_f47 rfl dX12_begin_87 rfl hT83 rfl ?_
  obtain ⟨hg91, hf⟩ := ck_e hf
  obtain ⟨a92, ha92, hf⟩ := dr_e hf
  obtain ⟨hT93, hf⟩ := ck_e hf
  refine g_aastA X (gN2w X2 _ (by decide +kernel)) dX12_begin_90 rfl hT84 hg91 ha92 hT93 ?_
  obtain ⟨M94, hM94, hf⟩ := lw_e hf
  rw [← hM94]
  have hT95 : mT M94 x0 = 11 := by rw [hM94]; exact hT83
  have hT96 : mT M94 (mN M30) = 28 := by rw [hM94]; exact hT84
  have hT97 : mT M94 a35 = 20 := by rw [hM94]; exact hT85
  have hT98 : mT M94 a42 = 20 := by rw [hM94]; exact hT86
  have hT99 : mT M94 a50 = 20 := by rw [hM94]; exact hT87
  have hT100 : mT M94 a59 = 20 := by rw [hM94]; exact hT88
  have hT101 : mT M94 a69 = 20 := by rw [hM94]; exact hT89
  have hT102 : mT M94 a80 = 20 := by rw [hM94]; exact hT90
  have hT103 : mT M94 a92 = 20 := by rw [hM94]; exact hT93
  refine g_dup X dX12_begin_91 rfl ?_
  refine g_bipush (v := (7 : Int32)) X dX12_begin_92 (by decide) ?_
  refine g_aload_n X dX12_begin_94 rfl rfl ?_
  refine g_get (ci := 10) (v := vR (mR M94 x0 12)) 12 X cdX12 i_X12_begin_X12 (by decide) k_X12_begin_f50 rfl dX12_begin_95 rfl hT95 rfl ?_
  obtain ⟨hg104, hf⟩ := ck_e hf
  obtain ⟨a105, ha105, hf⟩ := dr_e hf
  obtain ⟨hT106, hf⟩ := ck_e hf
  refine g_aastA X (gN2w X2 _ (by decide +kernel)) dX12_begin_98 rfl hT96 hg104 ha105 hT106 ?_
  obtain ⟨M107, hM107, hf⟩ := lw_e hf
  rw [← hM107]
  have hT108 : mT M107 x0 = 11 := by rw [hM107]; exact hT95
  have hT109 : mT M107 (mN M30) = 28 := by rw [hM107]; exact hT96
  have hT110 : mT M107 a35 = 20 := by rw [hM107]; exact hT97
  have hT111 : mT M107 a42 = 20 := by rw [hM107]; exact hT98
  have hT112 : mT M107 a50 = 20 := by rw [hM107]; exact hT99
  have hT113 : mT M107 a59 = 20 := by rw [hM107]; exact hT100
  have hT114 : mT M107 a69 = 20 := by rw [hM107]; exact hT101
  have hT115 : mT M107 a80 = 20 := by rw [hM107]; exact hT102
  have hT116 : mT M107 a92 = 20 := by rw [hM107]; exact hT103
  have hT117 : mT M107 a105 = 20 := by rw [hM107]; exact hT106
  refine g_dup X dX12_begin_99 rfl ?_
  refine g_bipush (v := (8 : Int32)) X dX12_begin_100 (by decide) ?_
  refine g_aload_n X dX12_begin_102 rfl rfl ?_
  refine g_get (ci := 10) (v := vR (mR M107 x0 13)) 13 X cdX12 i_X12_begin_X12 (by decide) k_X12_begin_f53 rfl dX12_begin_103 rfl hT108 rfl ?_
  obtain ⟨hg118, hf⟩ := ck_e hf
  obtain ⟨a119, ha119, hf⟩ := dr_e hf
  obtain ⟨hT120, hf⟩ := ck_e hf
  refine g_aastA X (gN2w X2 _ (by decide +kernel)) dX12_begin_106 rfl hT109 hg118 ha119 hT120 ?_
  obtain ⟨M121, hM121, hf⟩ := lw_e hf
  rw [← hM121]
  have hT122 : mT M121 x0 = 11 := by rw [hM121]; exact hT108
  have hT123 : mT M121 (mN M30) = 28 := by rw [hM121]; exact hT109
  have hT124 : mT M121 a35 = 20 := by rw [hM121]; exact hT110
  have hT125 : mT M121 a42 = 20 := by rw [hM121]; exact hT111
  have hT126 : mT M121 a50 = 20 := by rw [hM121]; exact hT112
  have hT127 : mT M121 a59 = 20 := by rw [hM121]; exact hT113
  have hT128 : mT M121 a69 = 20 := by rw [hM121]; exact hT114
  have hT129 : mT M121 a80 = 20 := by rw [hM121]; exact hT115
  have hT130 : mT M121 a92 = 20 := by rw [hM121]; exact hT116
  have hT131 : mT M121 a105 = 20 := by rw [hM121]; exact hT117
  have hT132 : mT M121 a119 = 20 := by rw [hM121]; exact hT120
  refine g_astore_n (lv' := [(1, vR (some (mN M30))), (0, vR (some x0))]) X dX12_begin_107 rfl (by decide) rfl ?_
  refine g_aload_n X dX12_begin_108 rfl rfl ?_
  refine g_astore_n (lv' := [(2, vR (some (mN M30))), (1, vR (some (mN M30))), (0, vR (some x0))]) X dX12_begin_109 rfl (by decide) rfl ?_
  refine g_aload_n X dX12_begin_110 rfl rfl ?_
  refine g_alen (t0 := 8) X dX12_begin_111 rfl hT123 (by decide) rfl ?_
  refine g_istore_n (lv' := [(3, vI (Int32.ofNat (mL M121 (mN M30)))), (2, vR (some (mN M30))), (1, vR (some (mN M30))), (0, vR (some x0))]) X dX12_begin_112 rfl (by decide) rfl ?_
  refine g_iconst (v := (0 : Int32)) X dX12_begin_113 (by decide) ?_
  refine g_istore (lv' := [(4, vI (0 : Int32)), (3, vI (Int32.ofNat (mL M121 (mN M30)))), (2, vR (some (mN M30))), (1, vR (some (mN M30))), (0, vR (some x0))]) X dX12_begin_114 (by decide) rfl ?_
  refine g_sub (lvsub_of _ _ [4, 2, 1, 0] rfl) ?_
  exact tl_X12_begin_116 X2 hr _ _ _ _ _ _ hf hK
set_option maxHeartbeats 4000000 in
set_option maxRecDepth 100000 in
theorem m_X12_begin (l : Launch) {D : va_G} {cy : Nat → ClassId} {B : Nat} {H0 : Heap} {Z : Nat → Nat} {M M1 : gMem} {x0 : Nat} {r : Unit} (hf : f_X12_begin M x0 = some (r, M1)) : Met l yX12_begin wsX12_begin rX12_begin (va_Pc (Value.ref x0 :: List.map gv []) (gPre D cy B H0 (gSt2 Z B H0) M)) (gQ D cy B H0 none M1) 1 9 (gA B) := by
  refine Met.ofW (cc := cX12_begin) (maxL := 7) (ret := none) (by decide) rfl ?_
  intro p e s m args below meth c s₁ Bd hml hv
  obtain ⟨rfl, hW, hKK, hFs⟩ := hv
  have X2 : gX p s m _ meth c D cy B (gSt2 Z B H0) RX12 cX12_begin wsX12_begin 7 := ⟨Bd.exec, Bd.bytes, atoms_spec (ws := wsX12_begin) Bd.pre, findClass_of_methodNamed Bd.named, hml, hKK, by rw [hW.1]; exact hW.2.1, Bd.notSynchronized, hFs⟩
  have hr := Bd.returns
  have hl := lv_entry ([.ref x0]) (n := 7) (Nat.le_of_ble_eq_true rfl)
  show W p l e rX12_begin s m _ below meth c s.heap [] 0 0 _ (entryFrame m ([.ref x0] : List Value).toArray 7)
  rw [lg_entry_eq]
  generalize (lg_sl ([.ref x0]) ++ List.replicate (7 - (lg_sl ([.ref x0])).length) Slot.unset).toArray = ls at hl ⊢
  have hl : lv_has ls 7 (List.map gq [(0, vR (some x0))]) := hl
  exact t_X12_begin_0 X2 hr _ _ _ hf rfl s.heap [] ls hW va_S.rf (lv_has_sub hl (lvsub_of _ _ [0] rfl))
/-! ## TideLotsModel$Told.<init>()V -/
theorem dX13_init_0 : decode cX13_init 0 = .ok (.aload_n 0, 1) := by decide +kernel
theorem dX13_init_1 : decode cX13_init 1 = .ok (.invokespecial 3, 3) := by decide +kernel
theorem dX13_init_4 : decode cX13_init 4 = .ok (.aload_n 0, 1) := by decide +kernel
theorem dX13_init_5 : decode cX13_init 5 = .ok (.bipush 8, 2) := by decide +kernel
theorem dX13_init_7 : decode cX13_init 7 = .ok (.newarray .int, 2) := by decide +kernel
theorem dX13_init_9 : decode cX13_init 9 = .ok (.putfield 9, 3) := by decide +kernel
theorem dX13_init_12 : decode cX13_init 12 = .ok (.aload_n 0, 1) := by decide +kernel
theorem dX13_init_13 : decode cX13_init 13 = .ok (.bipush 40, 2) := by decide +kernel
theorem dX13_init_15 : decode cX13_init 15 = .ok (.newarray .int, 2) := by decide +kernel
theorem dX13_init_17 : decode cX13_init 17 = .ok (.putfield 15, 3) := by decide +kernel
theorem dX13_init_20 : decode cX13_init 20 = .ok (.aload_n 0, 1) := by decide +kernel
theorem dX13_init_21 : decode cX13_init 21 = .ok (.bipush 8, 2) := by decide +kernel
theorem dX13_init_23 : decode cX13_init 23 = .ok (.newarray .int, 2) := by decide +kernel
theorem dX13_init_25 : decode cX13_init 25 = .ok (.putfield 18, 3) := by decide +kernel
theorem dX13_init_28 : decode cX13_init 28 = .ok (.aload_n 0, 1) := by decide +kernel
theorem dX13_init_29 : decode cX13_init 29 = .ok (.bipush 8, 2) := by decide +kernel
theorem dX13_init_31 : decode cX13_init 31 = .ok (.newarray .int, 2) := by decide +kernel
theorem dX13_init_33 : decode cX13_init 33 = .ok (.putfield 21, 3) := by decide +kernel
theorem dX13_init_36 : decode cX13_init 36 = .ok (.aload_n 0, 1) := by decide +kernel
theorem dX13_init_37 : decode cX13_init 37 = .ok (.bipush 8, 2) := by decide +kernel
theorem dX13_init_39 : decode cX13_init 39 = .ok (.newarray .int, 2) := by decide +kernel
theorem dX13_init_41 : decode cX13_init 41 = .ok (.putfield 24, 3) := by decide +kernel
theorem dX13_init_44 : decode cX13_init 44 = .ok (.aload_n 0, 1) := by decide +kernel
theorem dX13_init_45 : decode cX13_init 45 = .ok (.bipush 24, 2) := by decide +kernel
theorem dX13_init_47 : decode cX13_init 47 = .ok (.newarray .int, 2) := by decide +kernel
theorem dX13_init_49 : decode cX13_init 49 = .ok (.putfield 27, 3) := by decide +kernel
theorem dX13_init_52 : decode cX13_init 52 = .ok (.aload_n 0, 1) := by decide +kernel
theorem dX13_init_53 : decode cX13_init 53 = .ok (.bipush 24, 2) := by decide +kernel
theorem dX13_init_55 : decode cX13_init 55 = .ok (.newarray .int, 2) := by decide +kernel
theorem dX13_init_57 : decode cX13_init 57 = .ok (.putfield 30, 3) := by decide +kernel
theorem dX13_init_60 : decode cX13_init 60 = .ok (.aload_n 0, 1) := by decide +kernel
theorem dX13_init_61 : decode cX13_init 61 = .ok (.bipush 6, 2) := by decide +kernel
theorem dX13_init_63 : decode cX13_init 63 = .ok (.newarray .int, 2) := by decide +kernel
theorem dX13_init_65 : decode cX13_init 65 = .ok (.putfield 33, 3) := by decide +kernel
theorem dX13_init_68 : decode cX13_init 68 = .ok (.aload_n 0, 1) := by decide +kernel
theorem dX13_init_69 : decode cX13_init 69 = .ok (.bipush 6, 2) := by decide +kernel
theorem dX13_init_71 : decode cX13_init 71 = .ok (.newarray .int, 2) := by decide +kernel
theorem dX13_init_73 : decode cX13_init 73 = .ok (.putfield 36, 3) := by decide +kernel
theorem dX13_init_76 : decode cX13_init 76 = .ok (.aload_n 0, 1) := by decide +kernel
theorem dX13_init_77 : decode cX13_init 77 = .ok (.bipush 48, 2) := by decide +kernel
theorem dX13_init_79 : decode cX13_init 79 = .ok (.newarray .int, 2) := by decide +kernel
theorem dX13_init_81 : decode cX13_init 81 = .ok (.putfield 39, 3) := by decide +kernel
theorem dX13_init_84 : decode cX13_init 84 = .ok (.aload_n 0, 1) := by decide +kernel
theorem dX13_init_85 : decode cX13_init 85 = .ok (.bipush 25, 2) := by decide +kernel
theorem dX13_init_87 : decode cX13_init 87 = .ok (.newarray .int, 2) := by decide +kernel
theorem dX13_init_89 : decode cX13_init 89 = .ok (.putfield 42, 3) := by decide +kernel
theorem dX13_init_92 : decode cX13_init 92 = .ok (.aload_n 0, 1) := by decide +kernel
theorem dX13_init_93 : decode cX13_init 93 = .ok (.bipush 25, 2) := by decide +kernel
theorem dX13_init_95 : decode cX13_init 95 = .ok (.newarray .int, 2) := by decide +kernel
theorem dX13_init_97 : decode cX13_init 97 = .ok (.putfield 45, 3) := by decide +kernel
theorem dX13_init_100 : decode cX13_init 100 = .ok (.aload_n 0, 1) := by decide +kernel
theorem dX13_init_101 : decode cX13_init 101 = .ok (.bipush 7, 2) := by decide +kernel
theorem dX13_init_103 : decode cX13_init 103 = .ok (.newarray .int, 2) := by decide +kernel
theorem dX13_init_105 : decode cX13_init 105 = .ok (.putfield 48, 3) := by decide +kernel
theorem dX13_init_108 : decode cX13_init 108 = .ok (.aload_n 0, 1) := by decide +kernel
theorem dX13_init_109 : decode cX13_init 109 = .ok (.bipush 7, 2) := by decide +kernel
theorem dX13_init_111 : decode cX13_init 111 = .ok (.newarray .int, 2) := by decide +kernel
theorem dX13_init_113 : decode cX13_init 113 = .ok (.putfield 51, 3) := by decide +kernel
theorem dX13_init_116 : decode cX13_init 116 = .ok (.aload_n 0, 1) := by decide +kernel
theorem dX13_init_117 : decode cX13_init 117 = .ok (.sipush 800, 3) := by decide +kernel
theorem dX13_init_120 : decode cX13_init 120 = .ok (.newarray .int, 2) := by decide +kernel
theorem dX13_init_122 : decode cX13_init 122 = .ok (.putfield 54, 3) := by decide +kernel
theorem dX13_init_125 : decode cX13_init 125 = .ok (.aload_n 0, 1) := by decide +kernel
theorem dX13_init_126 : decode cX13_init 126 = .ok (.sipush 400, 3) := by decide +kernel
theorem dX13_init_129 : decode cX13_init 129 = .ok (.newarray .int, 2) := by decide +kernel
theorem dX13_init_131 : decode cX13_init 131 = .ok (.putfield 57, 3) := by decide +kernel
theorem dX13_init_134 : decode cX13_init 134 = .ok (.return_, 1) := by decide +kernel
theorem k_X13_init_oi1 : Cond.methodLink RX13 3 objectInit ∈ wsX13_init := by decide +kernel
theorem k_X13_init_oi2 : Cond.instanceMethod objectInit ∈ wsX13_init := by decide +kernel
theorem k_X13_init_oi3 : Cond.code objectInit ⟨#[0xb1]⟩ 1 none ∈ wsX13_init := by decide +kernel
theorem k_X13_init_acint : Cond.arrayClass .int ∈ wsX13_init := by decide +kernel
theorem k_X13_init_f9 : Cond.fieldLink RX13 9 "TideLotsModel$Told" "room" "[I" ∈ wsX13_init := by decide +kernel
theorem i_X13_init_X13 : ∀ w ∈ u_ws RX13 TX13 25, w ∈ wsX13_init := by decide +kernel
theorem k_X13_init_f15 : Cond.fieldLink RX13 15 "TideLotsModel$Told" "fish" "[I" ∈ wsX13_init := by decide +kernel
theorem k_X13_init_f18 : Cond.fieldLink RX13 18 "TideLotsModel$Told" "mesh" "[I" ∈ wsX13_init := by decide +kernel
theorem k_X13_init_f21 : Cond.fieldLink RX13 21 "TideLotsModel$Told" "net" "[I" ∈ wsX13_init := by decide +kernel
theorem k_X13_init_f24 : Cond.fieldLink RX13 24 "TideLotsModel$Told" "hold" "[I" ∈ wsX13_init := by decide +kernel
theorem k_X13_init_f27 : Cond.fieldLink RX13 27 "TideLotsModel$Told" "goer" "[I" ∈ wsX13_init := by decide +kernel
theorem k_X13_init_f30 : Cond.fieldLink RX13 30 "TideLotsModel$Told" "goal" "[I" ∈ wsX13_init := by decide +kernel
theorem k_X13_init_f33 : Cond.fieldLink RX13 33 "TideLotsModel$Told" "spared" "[I" ∈ wsX13_init := by decide +kernel
theorem k_X13_init_f36 : Cond.fieldLink RX13 36 "TideLotsModel$Told" "members" "[I" ∈ wsX13_init := by decide +kernel
theorem k_X13_init_f39 : Cond.fieldLink RX13 39 "TideLotsModel$Told" "member" "[I" ∈ wsX13_init := by decide +kernel
theorem k_X13_init_f42 : Cond.fieldLink RX13 42 "TideLotsModel$Told" "test" "[I" ∈ wsX13_init := by decide +kernel
theorem k_X13_init_f45 : Cond.fieldLink RX13 45 "TideLotsModel$Told" "tested" "[I" ∈ wsX13_init := by decide +kernel
theorem k_X13_init_f48 : Cond.fieldLink RX13 48 "TideLotsModel$Told" "sum" "[I" ∈ wsX13_init := by decide +kernel
theorem k_X13_init_f51 : Cond.fieldLink RX13 51 "TideLotsModel$Told" "summed" "[I" ∈ wsX13_init := by decide +kernel
theorem k_X13_init_f54 : Cond.fieldLink RX13 54 "TideLotsModel$Told" "code" "[I" ∈ wsX13_init := by decide +kernel
theorem k_X13_init_f57 : Cond.fieldLink RX13 57 "TideLotsModel$Told" "open" "[I" ∈ wsX13_init := by decide +kernel
abbrev rX13_init : Room := { frames := 1, cells := 16, slots := 1444, locals := 12 }
noncomputable def b_X13_init_0 (M : gMem) (x0 : Nat) : Option (Unit × gMem) :=
  lw (nW M 20 ((8 : Int32)).toNatClampNeg) fun M1 => ck (mT M1 x0 = 12) <| lw (wR M1 x0 1 ((some (mN M)))) fun M3 => lw (nW M3 20 ((40 : Int32)).toNatClampNeg) fun M5 => ck (mT M5 x0 = 12) <| lw (wR M5 x0 2 ((some (mN M3)))) fun M7 => lw (nW M7 20 ((8 : Int32)).toNatClampNeg) fun M9 => ck (mT M9 x0 = 12) <| lw (wR M9 x0 5 ((some (mN M7)))) fun M11 => lw (nW M11 20 ((8 : Int32)).toNatClampNeg) fun M13 => ck (mT M13 x0 = 12) <| lw (wR M13 x0 6 ((some (mN M11)))) fun M15 => lw (nW M15 20 ((8 : Int32)).toNatClampNeg) fun M17 => ck (mT M17 x0 = 12) <| lw (wR M17 x0 7 ((some (mN M15)))) fun M19 => lw (nW M19 20 ((24 : Int32)).toNatClampNeg) fun M21 => ck (mT M21 x0 = 12) <| lw (wR M21 x0 9 ((some (mN M19)))) fun M23 => lw (nW M23 20 ((24 : Int32)).toNatClampNeg) fun M25 => ck (mT M25 x0 = 12) <| lw (wR M25 x0 10 ((some (mN M23)))) fun M27 => lw (nW M27 20 ((6 : Int32)).toNatClampNeg) fun M29 => ck (mT M29 x0 = 12) <| lw (wR M29 x0 12 ((some (mN M27)))) fun M31 => lw (nW M31 20 ((6 : Int32)).toNatClampNeg) fun M33 => ck (mT M33 x0 = 12) <| lw (wR M33 x0 13 ((some (mN M31)))) fun M35 => lw (nW M35 20 ((48 : Int32)).toNatClampNeg) fun M37 => ck (mT M37 x0 = 12) <| lw (wR M37 x0 14 ((some (mN M35)))) fun M39 => lw (nW M39 20 ((25 : Int32)).toNatClampNeg) fun M41 => ck (mT M41 x0 = 12) <| lw (wR M41 x0 17 ((some (mN M39)))) fun M43 => lw (nW M43 20 ((25 : Int32)).toNatClampNeg) fun M45 => ck (mT M45 x0 = 12) <| lw (wR M45 x0 18 ((some (mN M43)))) fun M47 => lw (nW M47 20 ((7 : Int32)).toNatClampNeg) fun M49 => ck (mT M49 x0 = 12) <| lw (wR M49 x0 19 ((some (mN M47)))) fun M51 => lw (nW M51 20 ((7 : Int32)).toNatClampNeg) fun M53 => ck (mT M53 x0 = 12) <| lw (wR M53 x0 20 ((some (mN M51)))) fun M55 => lw (nW M55 20 ((800 : Int32)).toNatClampNeg) fun M57 => ck (mT M57 x0 = 12) <| lw (wR M57 x0 21 ((some (mN M55)))) fun M59 => lw (nW M59 20 ((400 : Int32)).toNatClampNeg) fun M61 => ck (mT M61 x0 = 12) <| lw (wR M61 x0 23 ((some (mN M59)))) fun M63 => some ((), M63)
noncomputable def f_X13_init (M : gMem) (x0 : Nat) : Option (Unit × gMem) :=
  b_X13_init_0 M x0
set_option maxHeartbeats 4000000 in
set_option maxRecDepth 100000 in
theorem t_X13_init_0 (X : gX p s m args meth c D cy B (gSt Z B H0) RX13 cX13_init wsX13_init 1) (hr : meth.sig.returnType = none) (hin : meth.name = "<init>") {Q : State → Prop} : ∀ (M : gMem) (x0 : Nat) (z : Unit × gMem), b_X13_init_0 M x0 = some z → (fun (r : Unit × gMem) => Q = gMQ below D cy B H0 args s 16 1444 none r.2) z → gGo p l e rX13_init s m args below meth c D cy B H0 1 0 0 Q 0 [(0, vR (some x0))] [] M := by
  intro M x0 z hf hK
  unfold b_X13_init_0 at hf
  refine g_aload_n X dX13_init_0 rfl rfl ?_
  refine g_objInit (i9 := 0) (b := x0) X k_X13_init_oi1 k_X13_init_oi2 k_X13_init_oi3 rfl dX13_init_1 (Nat.le_of_ble_eq_true rfl) (Nat.le_of_ble_eq_true rfl) ?_
  refine g_aload_n X dX13_init_4 rfl rfl ?_
  refine g_bipush (v := (8 : Int32)) X dX13_init_5 (by decide) ?_
  refine g_newa (at' := .int) (t0 := 0) X k_X13_init_acint (by exact Or.inl ⟨rfl, rfl⟩) (by decide) (by decide) ⟨by decide, by decide⟩ dX13_init_7 ?_
  obtain ⟨M1, hM1, hf⟩ := lw_e hf
  rw [← hM1]
  obtain ⟨hT2, hf⟩ := ck_e hf
  refine g_putR (ci := 11) 1 X cdX13 i_X13_init_X13 (by decide) k_X13_init_f9 rfl dX13_init_9 rfl hT2 (Or.inr ⟨rfl, hin, rfl⟩) (gnA _ _) (gfA _ _) rfl ?_
  obtain ⟨M3, hM3, hf⟩ := lw_e hf
  rw [← hM3]
  have hT4 : mT M3 x0 = 12 := by rw [hM3]; exact hT2
  refine g_aload_n X dX13_init_12 rfl rfl ?_
  refine g_bipush (v := (40 : Int32)) X dX13_init_13 (by decide) ?_
  refine g_newa (at' := .int) (t0 := 0) X k_X13_init_acint (by exact Or.inl ⟨rfl, rfl⟩) (by decide) (by decide) ⟨by decide, by decide⟩ dX13_init_15 ?_
  obtain ⟨M5, hM5, hf⟩ := lw_e hf
  rw [← hM5]
  obtain ⟨hT6, hf⟩ := ck_e hf
  refine g_putR (ci := 11) 2 X cdX13 i_X13_init_X13 (by decide) k_X13_init_f15 rfl dX13_init_17 rfl hT6 (Or.inr ⟨rfl, hin, rfl⟩) (gnA _ _) (gfA _ _) rfl ?_
  obtain ⟨M7, hM7, hf⟩ := lw_e hf
  rw [← hM7]
  have hT8 : mT M7 x0 = 12 := by rw [hM7]; exact hT6
  refine g_aload_n X dX13_init_20 rfl rfl ?_
  refine g_bipush (v := (8 : Int32)) X dX13_init_21 (by decide) ?_
  refine g_newa (at' := .int) (t0 := 0) X k_X13_init_acint (by exact Or.inl ⟨rfl, rfl⟩) (by decide) (by decide) ⟨by decide, by decide⟩ dX13_init_23 ?_
  obtain ⟨M9, hM9, hf⟩ := lw_e hf
  rw [← hM9]
  obtain ⟨hT10, hf⟩ := ck_e hf
  refine g_putR (ci := 11) 5 X cdX13 i_X13_init_X13 (by decide) k_X13_init_f18 rfl dX13_init_25 rfl hT10 (Or.inr ⟨rfl, hin, rfl⟩) (gnA _ _) (gfA _ _) rfl ?_
  obtain ⟨M11, hM11, hf⟩ := lw_e hf
  rw [← hM11]
  have hT12 : mT M11 x0 = 12 := by rw [hM11]; exact hT10
  refine g_aload_n X dX13_init_28 rfl rfl ?_
  refine g_bipush (v := (8 : Int32)) X dX13_init_29 (by decide) ?_
  refine g_newa (at' := .int) (t0 := 0) X k_X13_init_acint (by exact Or.inl ⟨rfl, rfl⟩) (by decide) (by decide) ⟨by decide, by decide⟩ dX13_init_31 ?_
  obtain ⟨M13, hM13, hf⟩ := lw_e hf
  rw [← hM13]
  obtain ⟨hT14, hf⟩ := ck_e hf
  refine g_putR (ci := 11) 6 X cdX13 i_X13_init_X13 (by decide) k_X13_init_f21 rfl dX13_init_33 rfl hT14 (Or.inr ⟨rfl, hin, rfl⟩) (gnA _ _) (gfA _ _) rfl ?_
  obtain ⟨M15, hM15, hf⟩ := lw_e hf
  rw [← hM15]
  have hT16 : mT M15 x0 = 12 := by rw [hM15]; exact hT14
  refine g_aload_n X dX13_init_36 rfl rfl ?_
  refine g_bipush (v := (8 : Int32)) X dX13_init_37 (by decide) ?_
  refine g_newa (at' := .int) (t0 := 0) X k_X13_init_acint (by exact Or.inl ⟨rfl, rfl⟩) (by decide) (by decide) ⟨by decide, by decide⟩ dX13_init_39 ?_
  obtain ⟨M17, hM17, hf⟩ := lw_e hf
  rw [← hM17]
  obtain ⟨hT18, hf⟩ := ck_e hf
  refine g_putR (ci := 11) 7 X cdX13 i_X13_init_X13 (by decide) k_X13_init_f24 rfl dX13_init_41 rfl hT18 (Or.inr ⟨rfl, hin, rfl⟩) (gnA _ _) (gfA _ _) rfl ?_
  obtain ⟨M19, hM19, hf⟩ := lw_e hf
  rw [← hM19]
  have hT20 : mT M19 x0 = 12 := by rw [hM19]; exact hT18
  refine g_aload_n X dX13_init_44 rfl rfl ?_
  refine g_bipush (v := (24 : Int32)) X dX13_init_45 (by decide) ?_
  refine g_newa (at' := .int) (t0 := 0) X k_X13_init_acint (by exact Or.inl ⟨rfl, rfl⟩) (by decide) (by decide) ⟨by decide, by decide⟩ dX13_init_47 ?_
  obtain ⟨M21, hM21, hf⟩ := lw_e hf
  rw [← hM21]
  obtain ⟨hT22, hf⟩ := ck_e hf
  refine g_putR (ci := 11) 9 X cdX13 i_X13_init_X13 (by decide) k_X13_init_f27 rfl dX13_init_49 rfl hT22 (Or.inr ⟨rfl, hin, rfl⟩) (gnA _ _) (gfA _ _) rfl ?_
  obtain ⟨M23, hM23, hf⟩ := lw_e hf
  rw [← hM23]
  have hT24 : mT M23 x0 = 12 := by rw [hM23]; exact hT22
  refine g_aload_n X dX13_init_52 rfl rfl ?_
  refine g_bipush (v := (24 : Int32)) X dX13_init_53 (by decide) ?_
  refine g_newa (at' := .int) (t0 := 0) X k_X13_init_acint (by exact Or.inl ⟨rfl, rfl⟩) (by decide) (by decide) ⟨by decide, by decide⟩ dX13_init_55 ?_
  obtain ⟨M25, hM25, hf⟩ := lw_e hf
  rw [← hM25]
  obtain ⟨hT26, hf⟩ := ck_e hf
  refine g_putR (ci := 11) 10 X cdX13 i_X13_init_X13 (by decide) k_X13_init_f30 rfl dX13_init_57 rfl hT26 (Or.inr ⟨rfl, hin, rfl⟩) (gnA _ _) (gfA _ _) rfl ?_
  obtain ⟨M27, hM27, hf⟩ := lw_e hf
  rw [← hM27]
  have hT28 : mT M27 x0 = 12 := by rw [hM27]; exact hT26
  refine g_aload_n X dX13_init_60 rfl rfl ?_
  refine g_bipush (v := (6 : Int32)) X dX13_init_61 (by decide) ?_
  refine g_newa (at' := .int) (t0 := 0) X k_X13_init_acint (by exact Or.inl ⟨rfl, rfl⟩) (by decide) (by decide) ⟨by decide, by decide⟩ dX13_init_63 ?_
  obtain ⟨M29, hM29, hf⟩ := lw_e hf
  rw [← hM29]
  obtain ⟨hT30, hf⟩ := ck_e hf
  refine g_putR (ci := 11) 12 X cdX13 i_X13_init_X13 (by decide) k_X13_init_f33 rfl dX13_init_65 rfl hT30 (Or.inr ⟨rfl, hin, rfl⟩) (gnA _ _) (gfA _ _) rfl ?_
  obtain ⟨M31, hM31, hf⟩ := lw_e hf
  rw [← hM31]
  have hT32 : mT M31 x0 = 12 := by rw [hM31]; exact hT30
  refine g_aload_n X dX13_init_68 rfl rfl ?_
  refine g_bipush (v := (6 : Int32)) X dX13_init_69 (by decide) ?_
  refine g_newa (at' := .int) (t0 := 0) X k_X13_init_acint (by exact Or.inl ⟨rfl, rfl⟩) (by decide) (by decide) ⟨by decide, by decide⟩ dX13_init_71 ?_
  obtain ⟨M33, hM33, hf⟩ := lw_e hf
  rw [← hM33]
  obtain ⟨hT34, hf⟩ := ck_e hf
  refine g_putR (ci := 11) 13 X cdX13 i_X13_init_X13 (by decide) k_X13_init_f36 rfl dX13_init_73 rfl hT34 (Or.inr ⟨rfl, hin, rfl⟩) (gnA _ _) (gfA _ _) rfl ?_
  obtain ⟨M35, hM35, hf⟩ := lw_e hf
  rw [← hM35]
  have hT36 : mT M35 x0 = 12 := by rw [hM35]; exact hT34
  refine g_aload_n X dX13_init_76 rfl rfl ?_
  refine g_bipush (v := (48 : Int32)) X dX13_init_77 (by decide) ?_
  refine g_newa (at' := .int) (t0 := 0) X k_X13_init_acint (by exact Or.inl ⟨rfl, rfl⟩) (by decide) (by decide) ⟨by decide, by decide⟩ dX13_init_79 ?_
  obtain ⟨M37, hM37, hf⟩ := lw_e hf
  rw [← hM37]
  obtain ⟨hT38, hf⟩ := ck_e hf
  refine g_putR (ci := 11) 14 X cdX13 i_X13_init_X13 (by decide) k_X13_init_f39 rfl dX13_init_81 rfl hT38 (Or.inr ⟨rfl, hin, rfl⟩) (gnA _ _) (gfA _ _) rfl ?_
  obtain ⟨M39, hM39, hf⟩ := lw_e hf
  rw [← hM39]
  have hT40 : mT M39 x0 = 12 := by rw [hM39]; exact hT38
  refine g_aload_n X dX13_init_84 rfl rfl ?_
  refine g_bipush (v := (25 : Int32)) X dX13_init_85 (by decide) ?_
  refine g_newa (at' := .int) (t0 := 0) X k_X13_init_acint (by exact Or.inl ⟨rfl, rfl⟩) (by decide) (by decide) ⟨by decide, by decide⟩ dX13_init_87 ?_
  obtain ⟨M41, hM41, hf⟩ := lw_e hf
  rw [← hM41]
  obtain ⟨hT42, hf⟩ := ck_e hf
  refine g_putR (ci := 11) 17 X cdX13 i_X13_init_X13 (by decide) k_X13_init_f42 rfl dX13_init_89 rfl hT42 (Or.inr ⟨rfl, hin, rfl⟩) (gnA _ _) (gfA _ _) rfl ?_
  obtain ⟨M43, hM43, hf⟩ := lw_e hf
  rw [← hM43]
  have hT44 : mT M43 x0 = 12 := by rw [hM43]; exact hT42
  refine g_aload_n X dX13_init_92 rfl rfl ?_
  refine g_bipush (v := (25 : Int32)) X dX13_init_93 (by decide) ?_
  refine g_newa (at' := .int) (t0 := 0) X k_X13_init_acint (by exact Or.inl ⟨rfl, rfl⟩) (by decide) (by decide) ⟨by decide, by decide⟩ dX13_init_95 ?_
  obtain ⟨M45, hM45, hf⟩ := lw_e hf
  rw [← hM45]
  obtain ⟨hT46, hf⟩ := ck_e hf
  refine g_putR (ci := 11) 18 X cdX13 i_X13_init_X13 (by decide) k_X13_init_f45 rfl dX13_init_97 rfl hT46 (Or.inr ⟨rfl, hin, rfl⟩) (gnA _ _) (gfA _ _) rfl ?_
  obtain ⟨M47, hM47, hf⟩ := lw_e hf
  rw [← hM47]
  have hT48 : mT M47 x0 = 12 := by rw [hM47]; exact hT46
  refine g_aload_n X dX13_init_100 rfl rfl ?_
  refine g_bipush (v := (7 : Int32)) X dX13_init_101 (by decide) ?_
  refine g_newa (at' := .int) (t0 := 0) X k_X13_init_acint (by exact Or.inl ⟨rfl, rfl⟩) (by decide) (by decide) ⟨by decide, by decide⟩ dX13_init_103 ?_
  obtain ⟨M49, hM49, hf⟩ := lw_e hf
  rw [← hM49]
  obtain ⟨hT50, hf⟩ := ck_e hf
  refine g_putR (ci := 11) 19 X cdX13 i_X13_init_X13 (by decide) k_X13_init_f48 rfl dX13_init_105 rfl hT50 (Or.inr ⟨rfl, hin, rfl⟩) (gnA _ _) (gfA _ _) rfl ?_
  obtain ⟨M51, hM51, hf⟩ := lw_e hf
  rw [← hM51]
  have hT52 : mT M51 x0 = 12 := by rw [hM51]; exact hT50
  refine g_aload_n X dX13_init_108 rfl rfl ?_
  refine g_bipush (v := (7 : Int32)) X dX13_init_109 (by decide) ?_
  refine g_newa (at' := .int) (t0 := 0) X k_X13_init_acint (by exact Or.inl ⟨rfl, rfl⟩) (by decide) (by decide) ⟨by decide, by decide⟩ dX13_init_111 ?_
  obtain ⟨M53, hM53, hf⟩ := lw_e hf
  rw [← hM53]
  obtain ⟨hT54, hf⟩ := ck_e hf
  refine g_putR (ci := 11) 20 X cdX13 i_X13_init_X13 (by decide) k_X13_init_f51 rfl dX13_init_113 rfl hT54 (Or.inr ⟨rfl, hin, rfl⟩) (gnA _ _) (gfA _ _) rfl ?_
  obtain ⟨M55, hM55, hf⟩ := lw_e hf
  rw [← hM55]
  have hT56 : mT M55 x0 = 12 := by rw [hM55]; exact hT54
  refine g_aload_n X dX13_init_116 rfl rfl ?_
  refine g_sipush (v := (800 : Int32)) X dX13_init_117 (by decide) ?_
  refine g_newa (at' := .int) (t0 := 0) X k_X13_init_acint (by exact Or.inl ⟨rfl, rfl⟩) (by decide) (by decide) ⟨by decide, by decide⟩ dX13_init_120 ?_
  obtain ⟨M57, hM57, hf⟩ := lw_e hf
  rw [← hM57]
  obtain ⟨hT58, hf⟩ := ck_e hf
  refine g_putR (ci := 11) 21 X cdX13 i_X13_init_X13 (by decide) k_X13_init_f54 rfl dX13_init_122 rfl hT58 (Or.inr ⟨rfl, hin, rfl⟩) (gnA _ _) (gfA _ _) rfl ?_
  obtain ⟨M59, hM59, hf⟩ := lw_e hf
  rw [← hM59]
  have hT60 : mT M59 x0 = 12 := by rw [hM59]; exact hT58
  refine g_aload_n X dX13_init_125 rfl rfl ?_
  refine g_sipush (v := (400 : Int32)) X dX13_init_126 (by decide) ?_
  refine g_newa (at' := .int) (t0 := 0) X k_X13_init_acint (by exact Or.inl ⟨rfl, rfl⟩) (by decide) (by decide) ⟨by decide, by decide⟩ dX13_init_129 ?_
  obtain ⟨M61, hM61, hf⟩ := lw_e hf
  rw [← hM61]
  obtain ⟨hT62, hf⟩ := ck_e hf
  refine g_putR (ci := 11) 23 X cdX13 i_X13_init_X13 (by decide) k_X13_init_f57 rfl dX13_init_131 rfl hT62 (Or.inr ⟨rfl, hin, rfl⟩) (gnA _ _) (gfA _ _) rfl ?_
  obtain ⟨M63, hM63, hf⟩ := lw_e hf
  rw [← hM63]
  have hT64 : mT M63 x0 = 12 := by rw [hM63]; exact hT62
  cases hf
  refine g_eqQ hK ?_
  exact g_vret X hr dX13_init_134
set_option maxHeartbeats 4000000 in
set_option maxRecDepth 100000 in
theorem m_X13_init (l : Launch) {D : va_G} {cy : Nat → ClassId} {B : Nat} {H0 : Heap} {Z : Nat → Nat} {M M1 : gMem} {x0 : Nat} {r : Unit} (hf : f_X13_init M x0 = some (r, M1)) : Met l yX13_init wsX13_init rX13_init (va_Pc (Value.ref x0 :: List.map gv []) (gPre D cy B H0 (gSt Z B H0) M)) (gQ D cy B H0 none M1) 16 1444 (gA B) := by
  refine Met.ofW (cc := cX13_init) (maxL := 1) (ret := none) (by decide) rfl ?_
  intro p e s m args below meth c s₁ Bd hml hv
  obtain ⟨rfl, hW, hKK, hFs⟩ := hv
  have X : gX p s m _ meth c D cy B (gSt Z B H0) RX13 cX13_init wsX13_init 1 := ⟨Bd.exec, Bd.bytes, atoms_spec (ws := wsX13_init) Bd.pre, findClass_of_methodNamed Bd.named, hml, hKK, by rw [hW.1]; exact hW.2.1, Bd.notSynchronized, hFs⟩
  have hr := Bd.returns
  have hin : meth.name = "<init>" := (name_of_methodNamed Bd.named Bd.method).1
  have hl := lv_entry ([.ref x0]) (n := 1) (Nat.le_of_ble_eq_true rfl)
  show W p l e rX13_init s m _ below meth c s.heap [] 0 0 _ (entryFrame m ([.ref x0] : List Value).toArray 1)
  rw [lg_entry_eq]
  generalize (lg_sl ([.ref x0]) ++ List.replicate (1 - (lg_sl ([.ref x0])).length) Slot.unset).toArray = ls at hl ⊢
  have hl : lv_has ls 1 (List.map gq [(0, vR (some x0))]) := hl
  exact t_X13_init_0 X hr hin _ _ _ hf rfl s.heap [] ls hW va_S.rf (lv_has_sub hl (lvsub_of _ _ [0] rfl))
end
