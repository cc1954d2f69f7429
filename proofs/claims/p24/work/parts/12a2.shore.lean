section
variable {p : Program} {l : Launch} {e : Env} {s : State} {m : MethodId} {args : Array Value} {below : List Frame} {meth : Method} {c : Code} {D : va_G} {cy : Nat → ClassId} {B : Nat} {H0 : Heap} {Z : Nat → Nat}
/-! ## TideLots$Shore.copyFrom(LTideLots$Shore;)V -/
theorem dX7_copyFrom_0 : decode cX7_copyFrom 0 = .ok (.aload_n 0, 1) := by decide +kernel
theorem dX7_copyFrom_1 : decode cX7_copyFrom 1 = .ok (.aload_n 1, 1) := by decide +kernel
theorem dX7_copyFrom_2 : decode cX7_copyFrom 2 = .ok (.getfield 103, 3) := by decide +kernel
theorem dX7_copyFrom_5 : decode cX7_copyFrom 5 = .ok (.putfield 103, 3) := by decide +kernel
theorem dX7_copyFrom_8 : decode cX7_copyFrom 8 = .ok (.aload_n 0, 1) := by decide +kernel
theorem dX7_copyFrom_9 : decode cX7_copyFrom 9 = .ok (.aload_n 1, 1) := by decide +kernel
theorem dX7_copyFrom_10 : decode cX7_copyFrom 10 = .ok (.getfield 9, 3) := by decide +kernel
theorem dX7_copyFrom_13 : decode cX7_copyFrom 13 = .ok (.putfield 9, 3) := by decide +kernel
theorem dX7_copyFrom_16 : decode cX7_copyFrom 16 = .ok (.aload_n 0, 1) := by decide +kernel
theorem dX7_copyFrom_17 : decode cX7_copyFrom 17 = .ok (.aload_n 1, 1) := by decide +kernel
theorem dX7_copyFrom_18 : decode cX7_copyFrom 18 = .ok (.getfield 72, 3) := by decide +kernel
theorem dX7_copyFrom_21 : decode cX7_copyFrom 21 = .ok (.putfield 72, 3) := by decide +kernel
theorem dX7_copyFrom_24 : decode cX7_copyFrom 24 = .ok (.aload_n 0, 1) := by decide +kernel
theorem dX7_copyFrom_25 : decode cX7_copyFrom 25 = .ok (.aload_n 1, 1) := by decide +kernel
theorem dX7_copyFrom_26 : decode cX7_copyFrom 26 = .ok (.getfield 75, 3) := by decide +kernel
theorem dX7_copyFrom_29 : decode cX7_copyFrom 29 = .ok (.putfield 75, 3) := by decide +kernel
theorem dX7_copyFrom_32 : decode cX7_copyFrom 32 = .ok (.aload_n 0, 1) := by decide +kernel
theorem dX7_copyFrom_33 : decode cX7_copyFrom 33 = .ok (.aload_n 1, 1) := by decide +kernel
theorem dX7_copyFrom_34 : decode cX7_copyFrom 34 = .ok (.getfield 78, 3) := by decide +kernel
theorem dX7_copyFrom_37 : decode cX7_copyFrom 37 = .ok (.putfield 78, 3) := by decide +kernel
theorem dX7_copyFrom_40 : decode cX7_copyFrom 40 = .ok (.aload_n 0, 1) := by decide +kernel
theorem dX7_copyFrom_41 : decode cX7_copyFrom 41 = .ok (.aload_n 1, 1) := by decide +kernel
theorem dX7_copyFrom_42 : decode cX7_copyFrom 42 = .ok (.getfield 81, 3) := by decide +kernel
theorem dX7_copyFrom_45 : decode cX7_copyFrom 45 = .ok (.putfield 81, 3) := by decide +kernel
theorem dX7_copyFrom_48 : decode cX7_copyFrom 48 = .ok (.iconst 0, 1) := by decide +kernel
theorem dX7_copyFrom_49 : decode cX7_copyFrom 49 = .ok (.istore_n 2, 1) := by decide +kernel
theorem dX7_copyFrom_50 : decode cX7_copyFrom 50 = .ok (.iload_n 2, 1) := by decide +kernel
theorem dX7_copyFrom_51 : decode cX7_copyFrom 51 = .ok (.aload_n 0, 1) := by decide +kernel
theorem dX7_copyFrom_52 : decode cX7_copyFrom 52 = .ok (.getfield 72, 3) := by decide +kernel
theorem dX7_copyFrom_55 : decode cX7_copyFrom 55 = .ok (.if_icmp .ge 24, 3) := by decide +kernel
theorem dX7_copyFrom_58 : decode cX7_copyFrom 58 = .ok (.aload_n 0, 1) := by decide +kernel
theorem dX7_copyFrom_59 : decode cX7_copyFrom 59 = .ok (.getfield 17, 3) := by decide +kernel
theorem dX7_copyFrom_62 : decode cX7_copyFrom 62 = .ok (.iload_n 2, 1) := by decide +kernel
theorem dX7_copyFrom_63 : decode cX7_copyFrom 63 = .ok (.aaload, 1) := by decide +kernel
theorem dX7_copyFrom_64 : decode cX7_copyFrom 64 = .ok (.aload_n 1, 1) := by decide +kernel
theorem dX7_copyFrom_65 : decode cX7_copyFrom 65 = .ok (.getfield 17, 3) := by decide +kernel
theorem dX7_copyFrom_68 : decode cX7_copyFrom 68 = .ok (.iload_n 2, 1) := by decide +kernel
theorem dX7_copyFrom_69 : decode cX7_copyFrom 69 = .ok (.aaload, 1) := by decide +kernel
theorem dX7_copyFrom_70 : decode cX7_copyFrom 70 = .ok (.invokevirtual 93, 3) := by decide +kernel
theorem dX7_copyFrom_73 : decode cX7_copyFrom 73 = .ok (.iinc 2 1, 3) := by decide +kernel
theorem dX7_copyFrom_76 : decode cX7_copyFrom 76 = .ok (.goto (-26), 3) := by decide +kernel
theorem dX7_copyFrom_79 : decode cX7_copyFrom 79 = .ok (.iconst 0, 1) := by decide +kernel
theorem dX7_copyFrom_80 : decode cX7_copyFrom 80 = .ok (.istore_n 2, 1) := by decide +kernel
theorem dX7_copyFrom_81 : decode cX7_copyFrom 81 = .ok (.iload_n 2, 1) := by decide +kernel
theorem dX7_copyFrom_82 : decode cX7_copyFrom 82 = .ok (.aload_n 0, 1) := by decide +kernel
theorem dX7_copyFrom_83 : decode cX7_copyFrom 83 = .ok (.getfield 75, 3) := by decide +kernel
theorem dX7_copyFrom_86 : decode cX7_copyFrom 86 = .ok (.if_icmp .ge 24, 3) := by decide +kernel
theorem dX7_copyFrom_89 : decode cX7_copyFrom 89 = .ok (.aload_n 0, 1) := by decide +kernel
theorem dX7_copyFrom_90 : decode cX7_copyFrom 90 = .ok (.getfield 23, 3) := by decide +kernel
theorem dX7_copyFrom_93 : decode cX7_copyFrom 93 = .ok (.iload_n 2, 1) := by decide +kernel
theorem dX7_copyFrom_94 : decode cX7_copyFrom 94 = .ok (.aaload, 1) := by decide +kernel
theorem dX7_copyFrom_95 : decode cX7_copyFrom 95 = .ok (.aload_n 1, 1) := by decide +kernel
theorem dX7_copyFrom_96 : decode cX7_copyFrom 96 = .ok (.getfield 23, 3) := by decide +kernel
theorem dX7_copyFrom_99 : decode cX7_copyFrom 99 = .ok (.iload_n 2, 1) := by decide +kernel
theorem dX7_copyFrom_100 : decode cX7_copyFrom 100 = .ok (.aaload, 1) := by decide +kernel
theorem dX7_copyFrom_101 : decode cX7_copyFrom 101 = .ok (.invokevirtual 97, 3) := by decide +kernel
theorem dX7_copyFrom_104 : decode cX7_copyFrom 104 = .ok (.iinc 2 1, 3) := by decide +kernel
theorem dX7_copyFrom_107 : decode cX7_copyFrom 107 = .ok (.goto (-26), 3) := by decide +kernel
theorem dX7_copyFrom_110 : decode cX7_copyFrom 110 = .ok (.iconst 0, 1) := by decide +kernel
theorem dX7_copyFrom_111 : decode cX7_copyFrom 111 = .ok (.istore_n 2, 1) := by decide +kernel
theorem dX7_copyFrom_112 : decode cX7_copyFrom 112 = .ok (.iload_n 2, 1) := by decide +kernel
theorem dX7_copyFrom_113 : decode cX7_copyFrom 113 = .ok (.aload_n 0, 1) := by decide +kernel
theorem dX7_copyFrom_114 : decode cX7_copyFrom 114 = .ok (.getfield 78, 3) := by decide +kernel
theorem dX7_copyFrom_117 : decode cX7_copyFrom 117 = .ok (.if_icmp .ge 24, 3) := by decide +kernel
theorem dX7_copyFrom_120 : decode cX7_copyFrom 120 = .ok (.aload_n 0, 1) := by decide +kernel
theorem dX7_copyFrom_121 : decode cX7_copyFrom 121 = .ok (.getfield 29, 3) := by decide +kernel
theorem dX7_copyFrom_124 : decode cX7_copyFrom 124 = .ok (.iload_n 2, 1) := by decide +kernel
theorem dX7_copyFrom_125 : decode cX7_copyFrom 125 = .ok (.aaload, 1) := by decide +kernel
theorem dX7_copyFrom_126 : decode cX7_copyFrom 126 = .ok (.aload_n 1, 1) := by decide +kernel
theorem dX7_copyFrom_127 : decode cX7_copyFrom 127 = .ok (.getfield 29, 3) := by decide +kernel
theorem dX7_copyFrom_130 : decode cX7_copyFrom 130 = .ok (.iload_n 2, 1) := by decide +kernel
theorem dX7_copyFrom_131 : decode cX7_copyFrom 131 = .ok (.aaload, 1) := by decide +kernel
theorem dX7_copyFrom_132 : decode cX7_copyFrom 132 = .ok (.invokevirtual 106, 3) := by decide +kernel
theorem dX7_copyFrom_135 : decode cX7_copyFrom 135 = .ok (.iinc 2 1, 3) := by decide +kernel
theorem dX7_copyFrom_138 : decode cX7_copyFrom 138 = .ok (.goto (-26), 3) := by decide +kernel
theorem dX7_copyFrom_141 : decode cX7_copyFrom 141 = .ok (.iconst 0, 1) := by decide +kernel
theorem dX7_copyFrom_142 : decode cX7_copyFrom 142 = .ok (.istore_n 2, 1) := by decide +kernel
theorem dX7_copyFrom_143 : decode cX7_copyFrom 143 = .ok (.iload_n 2, 1) := by decide +kernel
theorem dX7_copyFrom_144 : decode cX7_copyFrom 144 = .ok (.aload_n 0, 1) := by decide +kernel
theorem dX7_copyFrom_145 : decode cX7_copyFrom 145 = .ok (.getfield 81, 3) := by decide +kernel
theorem dX7_copyFrom_148 : decode cX7_copyFrom 148 = .ok (.if_icmp .ge 24, 3) := by decide +kernel
theorem dX7_copyFrom_151 : decode cX7_copyFrom 151 = .ok (.aload_n 0, 1) := by decide +kernel
theorem dX7_copyFrom_152 : decode cX7_copyFrom 152 = .ok (.getfield 35, 3) := by decide +kernel
theorem dX7_copyFrom_155 : decode cX7_copyFrom 155 = .ok (.iload_n 2, 1) := by decide +kernel
theorem dX7_copyFrom_156 : decode cX7_copyFrom 156 = .ok (.aaload, 1) := by decide +kernel
theorem dX7_copyFrom_157 : decode cX7_copyFrom 157 = .ok (.aload_n 1, 1) := by decide +kernel
theorem dX7_copyFrom_158 : decode cX7_copyFrom 158 = .ok (.getfield 35, 3) := by decide +kernel
theorem dX7_copyFrom_161 : decode cX7_copyFrom 161 = .ok (.iload_n 2, 1) := by decide +kernel
theorem dX7_copyFrom_162 : decode cX7_copyFrom 162 = .ok (.aaload, 1) := by decide +kernel
theorem dX7_copyFrom_163 : decode cX7_copyFrom 163 = .ok (.invokevirtual 100, 3) := by decide +kernel
theorem dX7_copyFrom_166 : decode cX7_copyFrom 166 = .ok (.iinc 2 1, 3) := by decide +kernel
theorem dX7_copyFrom_169 : decode cX7_copyFrom 169 = .ok (.goto (-26), 3) := by decide +kernel
theorem dX7_copyFrom_172 : decode cX7_copyFrom 172 = .ok (.aload_n 0, 1) := by decide +kernel
theorem dX7_copyFrom_173 : decode cX7_copyFrom 173 = .ok (.getfield 42, 3) := by decide +kernel
theorem dX7_copyFrom_176 : decode cX7_copyFrom 176 = .ok (.aload_n 1, 1) := by decide +kernel
theorem dX7_copyFrom_177 : decode cX7_copyFrom 177 = .ok (.getfield 42, 3) := by decide +kernel
theorem dX7_copyFrom_180 : decode cX7_copyFrom 180 = .ok (.invokevirtual 109, 3) := by decide +kernel
theorem dX7_copyFrom_183 : decode cX7_copyFrom 183 = .ok (.return_, 1) := by decide +kernel
set_option maxRecDepth 20000 in
theorem ggX7_copyFrom_X9_copyFrom : GoodIn wsX7_copyFrom wsX9_copyFrom := goodIn_r _ [63, 64, 65, 66, 111, 112, 113, 114] (by decide +kernel) (by decide +kernel)
set_option maxRecDepth 20000 in
theorem gX7_copyFrom_X9_copyFrom : GoodIn wsX7_copyFrom (wsV RX7 109 RX9 yX9_copyFrom wsX9_copyFrom) := goodIn_app (goodIn_of _ (by decide +kernel)) ggX7_copyFrom_X9_copyFrom
set_option maxRecDepth 20000 in
theorem ggX7_copyFrom_X5_copyFrom : GoodIn wsX7_copyFrom wsX5_copyFrom := goodIn_r _ [50, 51, 52, 53, 54, 55, 56, 57, 58, 103, 104, 105, 106, 107, 108, 109, 110] (by decide +kernel) (by decide +kernel)
set_option maxRecDepth 20000 in
theorem gX7_copyFrom_X5_copyFrom : GoodIn wsX7_copyFrom (wsV RX7 100 RX5 yX5_copyFrom wsX5_copyFrom) := goodIn_app (goodIn_of _ (by decide +kernel)) ggX7_copyFrom_X5_copyFrom
set_option maxRecDepth 20000 in
theorem ggX7_copyFrom_X2_copyFrom : GoodIn wsX7_copyFrom wsX2_copyFrom := goodIn_r _ [41, 42, 43, 44, 45, 99, 100, 101, 102] (by decide +kernel) (by decide +kernel)
set_option maxRecDepth 20000 in
theorem gX7_copyFrom_X2_copyFrom : GoodIn wsX7_copyFrom (wsV RX7 106 RX2 yX2_copyFrom wsX2_copyFrom) := goodIn_app (goodIn_of _ (by decide +kernel)) ggX7_copyFrom_X2_copyFrom
set_option maxRecDepth 20000 in
theorem ggX7_copyFrom_X1_copyFrom : GoodIn wsX7_copyFrom wsX1_copyFrom := goodIn_r _ [25, 26, 27, 28, 29, 30, 31, 32, 33, 34, 35, 36, 88, 89, 90, 91, 92, 93, 94, 95, 96, 97, 98] (by decide +kernel) (by decide +kernel)
set_option maxRecDepth 20000 in
theorem gX7_copyFrom_X1_copyFrom : GoodIn wsX7_copyFrom (wsV RX7 97 RX1 yX1_copyFrom wsX1_copyFrom) := goodIn_app (goodIn_of _ (by decide +kernel)) ggX7_copyFrom_X1_copyFrom
set_option maxRecDepth 20000 in
theorem ggX7_copyFrom_X3_copyFrom : GoodIn wsX7_copyFrom wsX3_copyFrom := goodIn_r _ [16, 17, 18, 19, 20, 84, 85, 86, 87] (by decide +kernel) (by decide +kernel)
set_option maxRecDepth 20000 in
theorem gX7_copyFrom_X3_copyFrom : GoodIn wsX7_copyFrom (wsV RX7 93 RX3 yX3_copyFrom wsX3_copyFrom) := goodIn_app (goodIn_of _ (by decide +kernel)) ggX7_copyFrom_X3_copyFrom
theorem k_X7_copyFrom_f81 : Cond.fieldLink RX7 81 "TideLots$Shore" "pactCount" "I" ∈ wsX7_copyFrom := by decide +kernel
theorem i_X7_copyFrom_X7 : ∀ w ∈ u_ws RX7 TX7 17, w ∈ wsX7_copyFrom := by decide +kernel
theorem k_X7_copyFrom_f42 : Cond.fieldLink RX7 42 "TideLots$Shore" "sums" "LTideLots$Sums;" ∈ wsX7_copyFrom := by decide +kernel
theorem k_X7_copyFrom_f35 : Cond.fieldLink RX7 35 "TideLots$Shore" "pacts" "[LTideLots$Pact;" ∈ wsX7_copyFrom := by decide +kernel
theorem k_X7_copyFrom_f78 : Cond.fieldLink RX7 78 "TideLots$Shore" "goCount" "I" ∈ wsX7_copyFrom := by decide +kernel
theorem k_X7_copyFrom_f29 : Cond.fieldLink RX7 29 "TideLots$Shore" "goes" "[LTideLots$Go;" ∈ wsX7_copyFrom := by decide +kernel
theorem k_X7_copyFrom_f75 : Cond.fieldLink RX7 75 "TideLots$Shore" "fisherCount" "I" ∈ wsX7_copyFrom := by decide +kernel
theorem k_X7_copyFrom_f23 : Cond.fieldLink RX7 23 "TideLots$Shore" "fishers" "[LTideLots$Fisher;" ∈ wsX7_copyFrom := by decide +kernel
theorem k_X7_copyFrom_f72 : Cond.fieldLink RX7 72 "TideLots$Shore" "groundCount" "I" ∈ wsX7_copyFrom := by decide +kernel
theorem k_X7_copyFrom_f17 : Cond.fieldLink RX7 17 "TideLots$Shore" "grounds" "[LTideLots$Ground;" ∈ wsX7_copyFrom := by decide +kernel
theorem k_X7_copyFrom_f103 : Cond.fieldLink RX7 103 "TideLots$Shore" "tide" "I" ∈ wsX7_copyFrom := by decide +kernel
theorem k_X7_copyFrom_f9 : Cond.fieldLink RX7 9 "TideLots$Shore" "luck" "I" ∈ wsX7_copyFrom := by decide +kernel
abbrev rX7_copyFrom : Room := { frames := 1, cells := 0, slots := 0, locals := 22 }
noncomputable def bb_X7_copyFrom_143 (Z : Nat → Nat) (M : gMem) (x0 : Nat) (x1 : Option Nat) (x2 : Int32) : Option ((gMem × Int32) ⊕ (Unit × gMem)) :=
  ck (mT M x0 = 7) <| (if (mI M x0 5) ≤ x2 then dr x1 fun a2 => ck (mT M a2 = 7) <| dr ((mR M x0 10)) fun a5 => ck (mT M a5 = 8) <| bd (f_X9_copyFrom Z M a5 ((mR M a2 10))) fun _ M4 => oI (some ((), M4)) else dr ((mR M x0 9)) fun a8 => ck (mT M a8 = 26) <| ck (inb x2 (mL M a8)) <| dr x1 fun a11 => ck (mT M a11 = 7) <| dr ((mR M a11 9)) fun a13 => ck (mT M a13 = 26) <| ck (inb x2 (mL M a13)) <| dr ((mR M a8 x2.toNatClampNeg)) fun a17 => ck (mT M a17 = 5) <| bd (f_X5_copyFrom M a17 ((mR M a13 x2.toNatClampNeg))) fun _ M16 => some (.inl (M16, (x2 + (1 : Int32)))))
noncomputable def lp_X7_copyFrom_143 (Z : Nat → Nat) (M : gMem) (x0 : Nat) (x1 : Option Nat) (x2 : Int32) : Option (Unit × gMem) :=
  lp (fun (q : gMem × Int32) => bb_X7_copyFrom_143 Z q.1 x0 x1 q.2) (M, x2)
noncomputable def bb_X7_copyFrom_112 (Z : Nat → Nat) (M : gMem) (x0 : Nat) (x1 : Option Nat) (x2 : Int32) : Option ((gMem × Int32) ⊕ (Unit × gMem)) :=
  ck (mT M x0 = 7) <| (if (mI M x0 4) ≤ x2 then oI (lp_X7_copyFrom_143 Z M x0 x1 ((0 : Int32))) else dr ((mR M x0 8)) fun a21 => ck (mT M a21 = 25) <| ck (inb x2 (mL M a21)) <| dr x1 fun a24 => ck (mT M a24 = 7) <| dr ((mR M a24 8)) fun a26 => ck (mT M a26 = 25) <| ck (inb x2 (mL M a26)) <| dr ((mR M a21 x2.toNatClampNeg)) fun a30 => ck (mT M a30 = 2) <| bd (f_X2_copyFrom M a30 ((mR M a26 x2.toNatClampNeg))) fun _ M29 => some (.inl (M29, (x2 + (1 : Int32)))))
noncomputable def lp_X7_copyFrom_112 (Z : Nat → Nat) (M : gMem) (x0 : Nat) (x1 : Option Nat) (x2 : Int32) : Option (Unit × gMem) :=
  lp (fun (q : gMem × Int32) => bb_X7_copyFrom_112 Z q.1 x0 x1 q.2) (M, x2)
noncomputable def bb_X7_copyFrom_81 (Z : Nat → Nat) (M : gMem) (x0 : Nat) (x1 : Option Nat) (x2 : Int32) : Option ((gMem × Int32) ⊕ (Unit × gMem)) :=
  ck (mT M x0 = 7) <| (if (mI M x0 3) ≤ x2 then oI (lp_X7_copyFrom_112 Z M x0 x1 ((0 : Int32))) else dr ((mR M x0 7)) fun a34 => ck (mT M a34 = 24) <| ck (inb x2 (mL M a34)) <| dr x1 fun a37 => ck (mT M a37 = 7) <| dr ((mR M a37 7)) fun a39 => ck (mT M a39 = 24) <| ck (inb x2 (mL M a39)) <| dr ((mR M a34 x2.toNatClampNeg)) fun a43 => ck (mT M a43 = 1) <| bd (f_X1_copyFrom M a43 ((mR M a39 x2.toNatClampNeg))) fun _ M42 => some (.inl (M42, (x2 + (1 : Int32)))))
noncomputable def lp_X7_copyFrom_81 (Z : Nat → Nat) (M : gMem) (x0 : Nat) (x1 : Option Nat) (x2 : Int32) : Option (Unit × gMem) :=
  lp (fun (q : gMem × Int32) => bb_X7_copyFrom_81 Z q.1 x0 x1 q.2) (M, x2)
noncomputable def bb_X7_copyFrom_50 (Z : Nat → Nat) (M : gMem) (x0 : Nat) (x1 : Option Nat) (x2 : Int32) : Option ((gMem × Int32) ⊕ (Unit × gMem)) :=
  ck (mT M x0 = 7) <| (if (mI M x0 2) ≤ x2 then oI (lp_X7_copyFrom_81 Z M x0 x1 ((0 : Int32))) else dr ((mR M x0 6)) fun a47 => ck (mT M a47 = 23) <| ck (inb x2 (mL M a47)) <| dr x1 fun a50 => ck (mT M a50 = 7) <| dr ((mR M a50 6)) fun a52 => ck (mT M a52 = 23) <| ck (inb x2 (mL M a52)) <| dr ((mR M a47 x2.toNatClampNeg)) fun a56 => ck (mT M a56 = 3) <| bd (f_X3_copyFrom M a56 ((mR M a52 x2.toNatClampNeg))) fun _ M55 => some (.inl (M55, (x2 + (1 : Int32)))))
noncomputable def lp_X7_copyFrom_50 (Z : Nat → Nat) (M : gMem) (x0 : Nat) (x1 : Option Nat) (x2 : Int32) : Option (Unit × gMem) :=
  lp (fun (q : gMem × Int32) => bb_X7_copyFrom_50 Z q.1 x0 x1 q.2) (M, x2)
noncomputable def b_X7_copyFrom_0 (Z : Nat → Nat) (M : gMem) (x0 : Nat) (x1 : Option Nat) : Option (Unit × gMem) :=
  dr x1 fun a58 => ck (mT M a58 = 7) <| ck (mT M x0 = 7) <| lw (wI M x0 0 ((mI M a58 0))) fun M61 => lw (wI M61 x0 1 ((mI M61 a58 1))) fun M64 => lw (wI M64 x0 2 ((mI M64 a58 2))) fun M67 => lw (wI M67 x0 3 ((mI M67 a58 3))) fun M70 => lw (wI M70 x0 4 ((mI M70 a58 4))) fun M73 => lw (wI M73 x0 5 ((mI M73 a58 5))) fun M76 => lp_X7_copyFrom_50 Z M76 x0 x1 ((0 : Int32))
noncomputable def f_X7_copyFrom (Z : Nat → Nat) (M : gMem) (x0 : Nat) (x1 : Option Nat) : Option (Unit × gMem) :=
  b_X7_copyFrom_0 Z M x0 x1
set_option maxHeartbeats 4000000 in
set_option maxRecDepth 100000 in
theorem tb_X7_copyFrom_143 (X : gX p s m args meth c D cy B (gSt Z B H0) RX7 cX7_copyFrom wsX7_copyFrom 3) (hr : meth.sig.returnType = none) {Q : State → Prop} : ∀ (M : gMem) (x0 : Nat) (x1 : Option Nat) (x2 : Int32) (z : (gMem × Int32) ⊕ (Unit × gMem)), bb_X7_copyFrom_143 Z M x0 x1 x2 = some z → (Sum.elim (fun (q : gMem × Int32) => gGo p l e rX7_copyFrom s m args below meth c D cy B H0 3 0 0 Q 143 [(0, vR (some x0)), (1, vR x1), (2, vI q.2)] [] q.1) (fun (r : Unit × gMem) => Q = gMQ below D cy B H0 args s 0 0 none r.2)) z → gGo p l e rX7_copyFrom s m args below meth c D cy B H0 3 0 0 Q 143 [(0, vR (some x0)), (1, vR x1), (2, vI x2)] [] M := by
  intro M x0 x1 x2 z hf hK
  unfold bb_X7_copyFrom_143 at hf
  refine g_iload_n X dX7_copyFrom_143 rfl rfl ?_
  refine g_aload_n X dX7_copyFrom_144 rfl rfl ?_
  obtain ⟨hT1, hf⟩ := ck_e hf
  refine g_get (ci := 6) (v := vI (mI M x0 5)) 5 X cdX7 i_X7_copyFrom_X7 (by decide) k_X7_copyFrom_f81 rfl dX7_copyFrom_145 rfl hT1 rfl ?_
  refine g_icmp_ge (tgt := 172) X dX7_copyFrom_148 (by decide) (fun hc => ?_) (fun hc => ?_)
  · have hf := ife_t hc hf
    refine g_aload_n X dX7_copyFrom_172 rfl rfl ?_
    refine g_get (ci := 6) (v := vR (mR M x0 10)) 10 X cdX7 i_X7_copyFrom_X7 (by decide) k_X7_copyFrom_f42 rfl dX7_copyFrom_173 rfl hT1 rfl ?_
    refine g_aload_n X dX7_copyFrom_176 rfl rfl ?_
    obtain ⟨a2, ha2, hf⟩ := dr_e hf
    obtain ⟨hT3, hf⟩ := ck_e hf
    refine g_get (ci := 6) (v := vR (mR M a2 10)) 10 X cdX7 i_X7_copyFrom_X7 (by decide) k_X7_copyFrom_f42 rfl dX7_copyFrom_177 ha2 hT3 rfl ?_
    obtain ⟨a5, ha5, hf⟩ := dr_e hf
    obtain ⟨hT6, hf⟩ := ck_e hf
    obtain ⟨r4, M4, hq4, hf⟩ := bd_e hf
    refine g_callV (ci := 7) (b := a5) (As := [vR (mR M a2 10)]) (st := []) (v := none) (M1 := M4) X (m_X9_copyFrom l hq4) (cwV 1 X.2.2.1 gX7_copyFrom_X9_copyFrom rfl rfl rfl (by decide +kernel) ⟨Nat.le_of_ble_eq_true rfl, Nat.le_of_ble_eq_true rfl⟩) rfl rfl ha5 hT6 (by decide) rfl (Nat.le_of_ble_eq_true rfl) dX7_copyFrom_180 ⟨by decide, by decide⟩ ?_
    obtain ⟨w7, hw7, hz7⟩ := oI_e hf
    subst hz7
    have hf := hw7
    cases hf
    refine g_eqQ hK ?_
    exact g_vret X hr dX7_copyFrom_183
  · have hf := ife_f hc hf
    refine g_aload_n X dX7_copyFrom_151 rfl rfl ?_
    refine g_get (ci := 6) (v := vR (mR M x0 9)) 9 X cdX7 i_X7_copyFrom_X7 (by decide) k_X7_copyFrom_f35 rfl dX7_copyFrom_152 rfl hT1 rfl ?_
    refine g_iload_n X dX7_copyFrom_155 rfl rfl ?_
    obtain ⟨a8, ha8, hf⟩ := dr_e hf
    obtain ⟨hT9, hf⟩ := ck_e hf
    obtain ⟨hg10, hf⟩ := ck_e hf
    refine g_aald (t0 := 6) X dX7_copyFrom_156 ha8 hT9 (by decide) rfl hg10 ?_
    refine g_aload_n X dX7_copyFrom_157 rfl rfl ?_
    obtain ⟨a11, ha11, hf⟩ := dr_e hf
    obtain ⟨hT12, hf⟩ := ck_e hf
    refine g_get (ci := 6) (v := vR (mR M a11 9)) 9 X cdX7 i_X7_copyFrom_X7 (by decide) k_X7_copyFrom_f35 rfl dX7_copyFrom_158 ha11 hT12 rfl ?_
    refine g_iload_n X dX7_copyFrom_161 rfl rfl ?_
    obtain ⟨a13, ha13, hf⟩ := dr_e hf
    obtain ⟨hT14, hf⟩ := ck_e hf
    obtain ⟨hg15, hf⟩ := ck_e hf
    refine g_aald (t0 := 6) X dX7_copyFrom_162 ha13 hT14 (by decide) rfl hg15 ?_
    obtain ⟨a17, ha17, hf⟩ := dr_e hf
    obtain ⟨hT18, hf⟩ := ck_e hf
    obtain ⟨r16, M16, hq16, hf⟩ := bd_e hf
    refine g_callV (ci := 4) (b := a17) (As := [vR (mR M a13 x2.toNatClampNeg)]) (st := []) (v := none) (M1 := M16) X (m_X5_copyFrom l hq16) (cwV 1 X.2.2.1 gX7_copyFrom_X5_copyFrom rfl rfl rfl (by decide +kernel) ⟨Nat.le_of_ble_eq_true rfl, Nat.le_of_ble_eq_true rfl⟩) rfl rfl ha17 hT18 (by decide) rfl (Nat.le_of_ble_eq_true rfl) dX7_copyFrom_163 ⟨by decide, by decide⟩ ?_
    refine g_iinc (v := (1 : Int32)) (lv' := [(2, vI (x2 + (1 : Int32))), (0, vR (some x0)), (1, vR x1)]) X dX7_copyFrom_166 rfl (by decide) (by decide) rfl ?_
    refine g_goto (tgt := 143) X dX7_copyFrom_169 (by decide) ?_
    cases hf
    refine g_sub (lvsub_of _ _ [1, 2, 0] rfl) ?_
    exact hK
set_option maxHeartbeats 4000000 in
set_option maxRecDepth 100000 in
theorem tl_X7_copyFrom_143 (X : gX p s m args meth c D cy B (gSt Z B H0) RX7 cX7_copyFrom wsX7_copyFrom 3) (hr : meth.sig.returnType = none) {Q : State → Prop} : ∀ (M : gMem) (x0 : Nat) (x1 : Option Nat) (x2 : Int32) (z : Unit × gMem), lp_X7_copyFrom_143 Z M x0 x1 x2 = some z → (fun (r : Unit × gMem) => Q = gMQ below D cy B H0 args s 0 0 none r.2) z → gGo p l e rX7_copyFrom s m args below meth c D cy B H0 3 0 0 Q 143 [(0, vR (some x0)), (1, vR x1), (2, vI x2)] [] M := by
  intro M x0 x1 x2 z hf hK
  refine lp_ind (P := (fun (q : gMem × Int32) (z : Unit × gMem) => (fun (r : Unit × gMem) => Q = gMQ below D cy B H0 args s 0 0 none r.2) z → gGo p l e rX7_copyFrom s m args below meth c D cy B H0 3 0 0 Q 143 [(0, vR (some x0)), (1, vR x1), (2, vI q.2)] [] q.1)) (fun q z hq => ?_) _ _ hf hK
  intro hK
  obtain ⟨w, hw, hm⟩ := hq
  refine tb_X7_copyFrom_143 X hr _ _ _ _ w hw ?_
  cases w with
  | inl a => exact hm hK
  | inr b => cases hm; exact hK
set_option maxHeartbeats 4000000 in
set_option maxRecDepth 100000 in
theorem tb_X7_copyFrom_112 (X : gX p s m args meth c D cy B (gSt Z B H0) RX7 cX7_copyFrom wsX7_copyFrom 3) (hr : meth.sig.returnType = none) {Q : State → Prop} : ∀ (M : gMem) (x0 : Nat) (x1 : Option Nat) (x2 : Int32) (z : (gMem × Int32) ⊕ (Unit × gMem)), bb_X7_copyFrom_112 Z M x0 x1 x2 = some z → (Sum.elim (fun (q : gMem × Int32) => gGo p l e rX7_copyFrom s m args below meth c D cy B H0 3 0 0 Q 112 [(0, vR (some x0)), (1, vR x1), (2, vI q.2)] [] q.1) (fun (r : Unit × gMem) => Q = gMQ below D cy B H0 args s 0 0 none r.2)) z → gGo p l e rX7_copyFrom s m args below meth c D cy B H0 3 0 0 Q 112 [(0, vR (some x0)), (1, vR x1), (2, vI x2)] [] M := by
  intro M x0 x1 x2 z hf hK
  unfold bb_X7_copyFrom_112 at hf
  refine g_iload_n X dX7_copyFrom_112 rfl rfl ?_
  refine g_aload_n X dX7_copyFrom_113 rfl rfl ?_
  obtain ⟨hT19, hf⟩ := ck_e hf
  refine g_get (ci := 6) (v := vI (mI M x0 4)) 4 X cdX7 i_X7_copyFrom_X7 (by decide) k_X7_copyFrom_f78 rfl dX7_copyFrom_114 rfl hT19 rfl ?_
  refine g_icmp_ge (tgt := 141) X dX7_copyFrom_117 (by decide) (fun hc => ?_) (fun hc => ?_)
  · have hf := ife_t hc hf
    refine g_iconst (v := (0 : Int32)) X dX7_copyFrom_141 (by decide) ?_
    refine g_istore_n (lv' := [(2, vI (0 : Int32)), (0, vR (some x0)), (1, vR x1)]) X dX7_copyFrom_142 rfl (by decide) rfl ?_
    obtain ⟨w20, hw20, hz20⟩ := oI_e hf
    subst hz20
    have hf := hw20
    refine g_sub (lvsub_of _ _ [1, 2, 0] rfl) ?_
    exact tl_X7_copyFrom_143 X hr _ _ _ _ _ hf hK
  · have hf := ife_f hc hf
    refine g_aload_n X dX7_copyFrom_120 rfl rfl ?_
    refine g_get (ci := 6) (v := vR (mR M x0 8)) 8 X cdX7 i_X7_copyFrom_X7 (by decide) k_X7_copyFrom_f29 rfl dX7_copyFrom_121 rfl hT19 rfl ?_
    refine g_iload_n X dX7_copyFrom_124 rfl rfl ?_
    obtain ⟨a21, ha21, hf⟩ := dr_e hf
    obtain ⟨hT22, hf⟩ := ck_e hf
    obtain ⟨hg23, hf⟩ := ck_e hf
    refine g_aald (t0 := 5) X dX7_copyFrom_125 ha21 hT22 (by decide) rfl hg23 ?_
    refine g_aload_n X dX7_copyFrom_126 rfl rfl ?_
    obtain ⟨a24, ha24, hf⟩ := dr_e hf
    obtain ⟨hT25, hf⟩ := ck_e hf
    refine g_get (ci := 6) (v := vR (mR M a24 8)) 8 X cdX7 i_X7_copyFrom_X7 (by decide) k_X7_copyFrom_f29 rfl dX7_copyFrom_127 ha24 hT25 rfl ?_
    refine g_iload_n X dX7_copyFrom_130 rfl rfl ?_
    obtain ⟨a26, ha26, hf⟩ := dr_e hf
    obtain ⟨hT27, hf⟩ := ck_e hf
    obtain ⟨hg28, hf⟩ := ck_e hf
    refine g_aald (t0 := 5) X dX7_copyFrom_131 ha26 hT27 (by decide) rfl hg28 ?_
    obtain ⟨a30, ha30, hf⟩ := dr_e hf
    obtain ⟨hT31, hf⟩ := ck_e hf
    obtain ⟨r29, M29, hq29, hf⟩ := bd_e hf
    refine g_callV (ci := 1) (b := a30) (As := [vR (mR M a26 x2.toNatClampNeg)]) (st := []) (v := none) (M1 := M29) X (m_X2_copyFrom l hq29) (cwV 1 X.2.2.1 gX7_copyFrom_X2_copyFrom rfl rfl rfl (by decide +kernel) ⟨Nat.le_of_ble_eq_true rfl, Nat.le_of_ble_eq_true rfl⟩) rfl rfl ha30 hT31 (by decide) rfl (Nat.le_of_ble_eq_true rfl) dX7_copyFrom_132 ⟨by decide, by decide⟩ ?_
    refine g_iinc (v := (1 : Int32)) (lv' := [(2, vI (x2 + (1 : Int32))), (0, vR (some x0)), (1, vR x1)]) X dX7_copyFrom_135 rfl (by decide) (by decide) rfl ?_
    refine g_goto (tgt := 112) X dX7_copyFrom_138 (by decide) ?_
    cases hf
    refine g_sub (lvsub_of _ _ [1, 2, 0] rfl) ?_
    exact hK
set_option maxHeartbeats 4000000 in
set_option maxRecDepth 100000 in
theorem tl_X7_copyFrom_112 (X : gX p s m args meth c D cy B (gSt Z B H0) RX7 cX7_copyFrom wsX7_copyFrom 3) (hr : meth.sig.returnType = none) {Q : State → Prop} : ∀ (M : gMem) (x0 : Nat) (x1 : Option Nat) (x2 : Int32) (z : Unit × gMem), lp_X7_copyFrom_112 Z M x0 x1 x2 = some z → (fun (r : Unit × gMem) => Q = gMQ below D cy B H0 args s 0 0 none r.2) z → gGo p l e rX7_copyFrom s m args below meth c D cy B H0 3 0 0 Q 112 [(0, vR (some x0)), (1, vR x1), (2, vI x2)] [] M := by
  intro M x0 x1 x2 z hf hK
  refine lp_ind (P := (fun (q : gMem × Int32) (z : Unit × gMem) => (fun (r : Unit × gMem) => Q = gMQ below D cy B H0 args s 0 0 none r.2) z → gGo p l e rX7_copyFrom s m args below meth c D cy B H0 3 0 0 Q 112 [(0, vR (some x0)), (1, vR x1), (2, vI q.2)] [] q.1)) (fun q z hq => ?_) _ _ hf hK
  intro hK
  obtain ⟨w, hw, hm⟩ := hq
  refine tb_X7_copyFrom_112 X hr _ _ _ _ w hw ?_
  cases w with
  | inl a => exact hm hK
  | inr b => cases hm; exact hK
set_option maxHeartbeats 4000000 in
set_option maxRecDepth 100000 in
theorem tb_X7_copyFrom_81 (X : gX p s m args meth c D cy B (gSt Z B H0) RX7 cX7_copyFrom wsX7_copyFrom 3) (hr : meth.sig.returnType = none) {Q : State → Prop} : ∀ (M : gMem) (x0 : Nat) (x1 : Option Nat) (x2 : Int32) (z : (gMem × Int32) ⊕ (Unit × gMem)), bb_X7_copyFrom_81 Z M x0 x1 x2 = some z → (Sum.elim (fun (q : gMem × Int32) => gGo p l e rX7_copyFrom s m args below meth c D cy B H0 3 0 0 Q 81 [(0, vR (some x0)), (1, vR x1), (2, vI q.2)] [] q.1) (fun (r : Unit × gMem) => Q = gMQ below D cy B H0 args s 0 0 none r.2)) z → gGo p l e rX7_copyFrom s m args below meth c D cy B H0 3 0 0 Q 81 [(0, vR (some x0)), (1, vR x1), (2, vI x2)] [] M := by
  intro M x0 x1 x2 z hf hK
  unfold bb_X7_copyFrom_81 at hf
  refine g_iload_n X dX7_copyFrom_81 rfl rfl ?_
  refine g_aload_n X dX7_copyFrom_82 rfl rfl ?_
  obtain ⟨hT32, hf⟩ := ck_e hf
  refine g_get (ci := 6) (v := vI (mI M x0 3)) 3 X cdX7 i_X7_copyFrom_X7 (by decide) k_X7_copyFrom_f75 rfl dX7_copyFrom_83 rfl hT32 rfl ?_
  refine g_icmp_ge (tgt := 110) X dX7_copyFrom_86 (by decide) (fun hc => ?_) (fun hc => ?_)
  · have hf := ife_t hc hf
    refine g_iconst (v := (0 : Int32)) X dX7_copyFrom_110 (by decide) ?_
    refine g_istore_n (lv' := [(2, vI (0 : Int32)), (0, vR (some x0)), (1, vR x1)]) X dX7_copyFrom_111 rfl (by decide) rfl ?_
    obtain ⟨w33, hw33, hz33⟩ := oI_e hf
    subst hz33
    have hf := hw33
    refine g_sub (lvsub_of _ _ [1, 2, 0] rfl) ?_
    exact tl_X7_copyFrom_112 X hr _ _ _ _ _ hf hK
  · have hf := ife_f hc hf
    refine g_aload_n X dX7_copyFrom_89 rfl rfl ?_
    refine g_get (ci := 6) (v := vR (mR M x0 7)) 7 X cdX7 i_X7_copyFrom_X7 (by decide) k_X7_copyFrom_f23 rfl dX7_copyFrom_90 rfl hT32 rfl ?_
    refine g_iload_n X dX7_copyFrom_93 rfl rfl ?_
    obtain ⟨a34, ha34, hf⟩ := dr_e hf
    obtain ⟨hT35, hf⟩ := ck_e hf
    obtain ⟨hg36, hf⟩ := ck_e hf
    refine g_aald (t0 := 4) X dX7_copyFrom_94 ha34 hT35 (by decide) rfl hg36 ?_
    refine g_aload_n X dX7_copyFrom_95 rfl rfl ?_
    obtain ⟨a37, ha37, hf⟩ := dr_e hf
    obtain ⟨hT38, hf⟩ := ck_e hf
    refine g_get (ci := 6) (v := vR (mR M a37 7)) 7 X cdX7 i_X7_copyFrom_X7 (by decide) k_X7_copyFrom_f23 rfl dX7_copyFrom_96 ha37 hT38 rfl ?_
    refine g_iload_n X dX7_copyFrom_99 rfl rfl ?_
    obtain ⟨a39, ha39, hf⟩ := dr_e hf
    obtain ⟨hT40, hf⟩ := ck_e hf
    obtain ⟨hg41, hf⟩ := ck_e hf
    refine g_aald (t0 := 4) X dX7_copyFrom_100 ha39 hT40 (by decide) rfl hg41 ?_
    obtain ⟨a43, ha43, hf⟩ := dr_e hf
    obtain ⟨hT44, hf⟩ := ck_e hf
    obtain ⟨r42, M42, hq42, hf⟩ := bd_e hf
    refine g_callV (ci := 0) (b := a43) (As := [vR (mR M a39 x2.toNatClampNeg)]) (st := []) (v := none) (M1 := M42) X (m_X1_copyFrom l hq42) (cwV 1 X.2.2.1 gX7_copyFrom_X1_copyFrom rfl rfl rfl (by decide +kernel) ⟨Nat.le_of_ble_eq_true rfl, Nat.le_of_ble_eq_true rfl⟩) rfl rfl ha43 hT44 (by decide) rfl (Nat.le_of_ble_eq_true rfl) dX7_copyFrom_101 ⟨by decide, by decide⟩ ?_
    refine g_iinc (v := (1 : Int32)) (lv' := [(2, vI (x2 + (1 : Int32))), (0, vR (some x0)), (1, vR x1)]) X dX7_copyFrom_104 rfl (by decide) (by decide) rfl ?_
    refine g_goto (tgt := 81) X dX7_copyFrom_107 (by decide) ?_
    cases hf
    refine g_sub (lvsub_of _ _ [1, 2, 0] rfl) ?_
    exact hK
set_option maxHeartbeats 4000000 in
set_option maxRecDepth 100000 in
theorem tl_X7_copyFrom_81 (X : gX p s m args meth c D cy B (gSt Z B H0) RX7 cX7_copyFrom wsX7_copyFrom 3) (hr : meth.sig.returnType = none) {Q : State → Prop} : ∀ (M : gMem) (x0 : Nat) (x1 : Option Nat) (x2 : Int32) (z : Unit × gMem), lp_X7_copyFrom_81 Z M x0 x1 x2 = some z → (fun (r : Unit × gMem) => Q = gMQ below D cy B H0 args s 0 0 none r.2) z → gGo p l e rX7_copyFrom s m args below meth c D cy B H0 3 0 0 Q 81 [(0, vR (some x0)), (1, vR x1), (2, vI x2)] [] M := by
  intro M x0 x1 x2 z hf hK
  refine lp_ind (P := (fun (q : gMem × Int32) (z : Unit × gMem) => (fun (r : Unit × gMem) => Q = gMQ below D cy B H0 args s 0 0 none r.2) z → gGo p l e rX7_copyFrom s m args below meth c D cy B H0 3 0 0 Q 81 [(0, vR (some x0)), (1, vR x1), (2, vI q.2)] [] q.1)) (fun q z hq => ?_) _ _ hf hK
  intro hK
  obtain ⟨w, hw, hm⟩ := hq
  refine tb_X7_copyFrom_81 X hr _ _ _ _ w hw ?_
  cases w with
  | inl a => exact hm hK
  | inr b => cases hm; exact hK
set_option maxHeartbeats 4000000 in
set_option maxRecDepth 100000 in
theorem tb_X7_copyFrom_50 (X : gX p s m args meth c D cy B (gSt Z B H0) RX7 cX7_copyFrom wsX7_copyFrom 3) (hr : meth.sig.returnType = none) {Q : State → Prop} : ∀ (M : gMem) (x0 : Nat) (x1 : Option Nat) (x2 : Int32) (z : (gMem × Int32) ⊕ (Unit × gMem)), bb_X7_copyFrom_50 Z M x0 x1 x2 = some z → (Sum.elim (fun (q : gMem × Int32) => gGo p l e rX7_copyFrom s m args below meth c D cy B H0 3 0 0 Q 50 [(0, vR (some x0)), (1, vR x1), (2, vI q.2)] [] q.1) (fun (r : Unit × gMem) => Q = gMQ below D cy B H0 args s 0 0 none r.2)) z → gGo p l e rX7_copyFrom s m args below meth c D cy B H0 3 0 0 Q 50 [(0, vR (some x0)), (1, vR x1), (2, vI x2)] [] M := by
  intro M x0 x1 x2 z hf hK
  unfold bb_X7_copyFrom_50 at hf
  refine g_iload_n X dX7_copyFrom_50 rfl rfl ?_
  refine g_aload_n X dX7_copyFrom_51 rfl rfl ?_
  obtain ⟨hT45, hf⟩ := ck_e hf
  refine g_get (ci := 6) (v := vI (mI M x0 2)) 2 X cdX7 i_X7_copyFrom_X7 (by decide) k_X7_copyFrom_f72 rfl dX7_copyFrom_52 rfl hT45 rfl ?_
  refine g_icmp_ge (tgt := 79) X dX7_copyFrom_55 (by decide) (fun hc => ?_) (fun hc => ?_)
  · have hf := ife_t hc hf
    refine g_iconst (v := (0 : Int32)) X dX7_copyFrom_79 (by decide) ?_
    refine g_istore_n (lv' := [(2, vI (0 : Int32)), (0, vR (some x0)), (1, vR x1)]) X dX7_copyFrom_80 rfl (by decide) rfl ?_
    obtain ⟨w46, hw46, hz46⟩ := oI_e hf
    subst hz46
    have hf := hw46
    refine g_sub (lvsub_of _ _ [1, 2, 0] rfl) ?_
    exact tl_X7_copyFrom_81 X hr _ _ _ _ _ hf hK
  · have hf := ife_f hc hf
    refine g_aload_n X dX7_copyFrom_58 rfl rfl ?_
    refine g_get (ci := 6) (v := vR (mR M x0 6)) 6 X cdX7 i_X7_copyFrom_X7 (by decide) k_X7_copyFrom_f17 rfl dX7_copyFrom_59 rfl hT45 rfl ?_
    refine g_iload_n X dX7_copyFrom_62 rfl rfl ?_
    obtain ⟨a47, ha47, hf⟩ := dr_e hf
    obtain ⟨hT48, hf⟩ := ck_e hf
    obtain ⟨hg49, hf⟩ := ck_e hf
    refine g_aald (t0 := 3) X dX7_copyFrom_63 ha47 hT48 (by decide) rfl hg49 ?_
    refine g_aload_n X dX7_copyFrom_64 rfl rfl ?_
    obtain ⟨a50, ha50, hf⟩ := dr_e hf
    obtain ⟨hT51, hf⟩ := ck_e hf
    refine g_get (ci := 6) (v := vR (mR M a50 6)) 6 X cdX7 i_X7_copyFrom_X7 (by decide) k_X7_copyFrom_f17 rfl dX7_copyFrom_65 ha50 hT51 rfl ?_
    refine g_iload_n X dX7_copyFrom_68 rfl rfl ?_
    obtain ⟨a52, ha52, hf⟩ := dr_e hf
    obtain ⟨hT53, hf⟩ := ck_e hf
    obtain ⟨hg54, hf⟩ := ck_e hf
    refine g_aald (t0 := 3) X dX7_copyFrom_69 ha52 hT53 (by decide) rfl hg54 ?_
    obtain ⟨a56, ha56, hf⟩ := dr_e hf
    obtain ⟨hT57, hf⟩ := ck_e hf
    obtain ⟨r55, M55, hq55, hf⟩ := bd_e hf
    refine g_callV (ci := 2) (b := a56) (As := [vR (mR M a52 x2.toNatClampNeg)]) (st := []) (v := none) (M1 := M55) X (m_X3_copyFrom l hq55) (cwV 1 X.2.2.1 gX7_copyFrom_X3_copyFrom rfl rfl rfl (by decide +kernel) ⟨Nat.le_of_ble_eq_true rfl, Nat.le_of_ble_eq_true rfl⟩) rfl rfl ha56 hT57 (by decide) rfl (Nat.le_of_ble_eq_true rfl) dX7_copyFrom_70 ⟨by decide, by decide⟩ ?_
    refine g_iinc (v := (1 : Int32)) (lv' := [(2, vI (x2 + (1 : Int32))), (0, vR (some x0)), (1, vR x1)]) X dX7_copyFrom_73 rfl (by decide) (by decide) rfl ?_
    refine g_goto (tgt := 50) X dX7_copyFrom_76 (by decide) ?_
    cases hf
    refine g_sub (lvsub_of _ _ [1, 2, 0] rfl) ?_
    exact hK
set_option maxHeartbeats 4000000 in
set_option maxRecDepth 100000 in
theorem tl_X7_copyFrom_50 (X : gX p s m args meth c D cy B (gSt Z B H0) RX7 cX7_copyFrom wsX7_copyFrom 3) (hr : meth.sig.returnType = none) {Q : State → Prop} : ∀ (M : gMem) (x0 : Nat) (x1 : Option Nat) (x2 : Int32) (z : Unit × gMem), lp_X7_copyFrom_50 Z M x0 x1 x2 = some z → (fun (r : Unit × gMem) => Q = gMQ below D cy B H0 args s 0 0 none r.2) z → gGo p l e rX7_copyFrom s m args below meth c D cy B H0 3 0 0 Q 50 [(0, vR (some x0)), (1, vR x1), (2, vI x2)] [] M := by
  intro M x0 x1 x2 z hf hK
  refine lp_ind (P := (fun (q : gMem × Int32) (z : Unit × gMem) => (fun (r : Unit × gMem) => Q = gMQ below D cy B H0 args s 0 0 none r.2) z → gGo p l e rX7_copyFrom s m args below meth c D cy B H0 3 0 0 Q 50 [(0, vR (some x0)), (1, vR x1), (2, vI q.2)] [] q.1)) (fun q z hq => ?_) _ _ hf hK
  intro hK
  obtain ⟨w, hw, hm⟩ := hq
  refine tb_X7_copyFrom_50 X hr _ _ _ _ w hw ?_
  cases w with
  | inl a => exact hm hK
  | inr b => cases hm; exact hK
set_option maxHeartbeats 4000000 in
set_option maxRecDepth 100000 in
theorem t_X7_copyFrom_0 (X : gX p s m args meth c D cy B (gSt Z B H0) RX7 cX7_copyFrom wsX7_copyFrom 3) (hr : meth.sig.returnType = none) {Q : State → Prop} : ∀ (M : gMem) (x0 : Nat) (x1 : Option Nat) (z : Unit × gMem), b_X7_copyFrom_0 Z M x0 x1 = some z → (fun (r : Unit × gMem) => Q = gMQ below D cy B H0 args s 0 0 none r.2) z → gGo p l e rX7_copyFrom s m args below meth c D cy B H0 3 0 0 Q 0 [(0, vR (some x0)), (1, vR x1)] [] M := by
  intro M x0 x1 z hf hK
  unfold b_X7_copyFrom_0 at hf
  refine g_aload_n X dX7_copyFrom_0 rfl rfl ?_
  refine g_aload_n X dX7_copyFrom_1 rfl rfl ?_
  obtain ⟨a58, ha58, hf⟩ := dr_e hf
  obtain ⟨hT59, hf⟩ := ck_e hf
  refine g_get (ci := 6) (v := vI (mI M a58 0)) 0 X cdX7 i_X7_copyFrom_X7 (by decide) k_X7_copyFrom_f103 rfl dX7_copyFrom_2 ha58 hT59 rfl ?_
  obtain ⟨hT60, hf⟩ := ck_e hf
  refine g_putI (ci := 6) 0 X cdX7 i_X7_copyFrom_X7 (by decide) k_X7_copyFrom_f103 rfl dX7_copyFrom_5 rfl hT60 (Or.inl rfl) rfl rfl rfl ?_
  obtain ⟨M61, hM61, hf⟩ := lw_e hf
  rw [← hM61]
  have hT62 : mT M61 a58 = 7 := by rw [hM61]; exact hT59
  have hT63 : mT M61 x0 = 7 := by rw [hM61]; exact hT60
  refine g_aload_n X dX7_copyFrom_8 rfl rfl ?_
  refine g_aload_n X dX7_copyFrom_9 rfl rfl ?_
  refine g_get (ci := 6) (v := vI (mI M61 a58 1)) 1 X cdX7 i_X7_copyFrom_X7 (by decide) k_X7_copyFrom_f9 rfl dX7_copyFrom_10 ha58 hT62 rfl ?_
  refine g_putI (ci := 6) 1 X cdX7 i_X7_copyFrom_X7 (by decide) k_X7_copyFrom_f9 rfl dX7_copyFrom_13 rfl hT63 (Or.inl rfl) rfl rfl rfl ?_
  obtain ⟨M64, hM64, hf⟩ := lw_e hf
  rw [← hM64]
  have hT65 : mT M64 a58 = 7 := by rw [hM64]; exact hT62
  have hT66 : mT M64 x0 = 7 := by rw [hM64]; exact hT63
  refine g_aload_n X dX7_copyFrom_16 rfl rfl ?_
  refine g_aload_n X dX7_copyFrom_17 rfl rfl ?_
  refine g_get (ci := 6) (v := vI (mI M64 a58 2)) 2 X cdX7 i_X7_copyFrom_X7 (by decide) k_X7_copyFrom_f72 rfl dX7_copyFrom_18 ha58 hT65 rfl ?_
  refine g_putI (ci := 6) 2 X cdX7 i_X7_copyFrom_X7 (by decide) k_X7_copyFrom_f72 rfl dX7_copyFrom_21 rfl hT66 (Or.inl rfl) rfl rfl rfl ?_
  obtain ⟨M67, hM67, hf⟩ := lw_e hf
  rw [← hM67]
  have hT68 : mT M67 a58 = 7 := by rw [hM67]; exact hT65
  have hT69 : mT M67 x0 = 7 := by rw [hM67]; exact hT66
  refine g_aload_n X dX7_copyFrom_24 rfl rfl ?_
  refine g_aload_n X dX7_copyFrom_25 rfl rfl ?_
  refine g_get (ci := 6) (v := vI (mI M67 a58 3)) 3 X cdX7 i_X7_copyFrom_X7 (by decide) k_X7_copyFrom_f75 rfl dX7_copyFrom_26 ha58 hT68 rfl ?_
  refine g_putI (ci := 6) 3 X cdX7 i_X7_copyFrom_X7 (by decide) k_X7_copyFrom_f75 rfl dX7_copyFrom_29 rfl hT69 (Or.inl rfl) rfl rfl rfl ?_
  obtain ⟨M70, hM70, hf⟩ := lw_e hf
  rw [← hM70]
  have hT71 : mT M70 a58 = 7 := by rw [hM70]; exact hT68
  have hT72 : mT M70 x0 = 7 := by rw [hM70]; exact hT69
  refine g_aload_n X dX7_copyFrom_32 rfl rfl ?_
  refine g_aload_n X dX7_copyFrom_33 rfl rfl ?_
  refine g_get (ci := 6) (v := vI (mI M70 a58 4)) 4 X cdX7 i_X7_copyFrom_X7 (by decide) k_X7_copyFrom_f78 rfl dX7_copyFrom_34 ha58 hT71 rfl ?_
  refine g_putI (ci := 6) 4 X cdX7 i_X7_copyFrom_X7 (by decide) k_X7_copyFrom_f78 rfl dX7_copyFrom_37 rfl hT72 (Or.inl rfl) rfl rfl rfl ?_
  obtain ⟨M73, hM73, hf⟩ := lw_e hf
  rw [← hM73]
  have hT74 : mT M73 a58 = 7 := by rw [hM73]; exact hT71
  have hT75 : mT M73 x0 = 7 := by rw [hM73]; exact hT72
  refine g_aload_n X dX7_copyFrom_40 rfl rfl ?_
  refine g_aload_n X dX7_copyFrom_41 rfl rfl ?_
  refine g_get (ci := 6) (v := vI (mI M73 a58 5)) 5 X cdX7 i_X7_copyFrom_X7 (by decide) k_X7_copyFrom_f81 rfl dX7_copyFrom_42 ha58 hT74 rfl ?_
  refine g_putI (ci := 6) 5 X cdX7 i_X7_copyFrom_X7 (by decide) k_X7_copyFrom_f81 rfl dX7_copyFrom_45 rfl hT75 (Or.inl rfl) rfl rfl rfl ?_
  obtain ⟨M76, hM76, hf⟩ := lw_e hf
  rw [← hM76]
  have hT77 : mT M76 a58 = 7 := by rw [hM76]; exact hT74
  have hT78 : mT M76 x0 = 7 := by rw [hM76]; exact hT75
  refine g_iconst (v := (0 : Int32)) X dX7_copyFrom_48 (by decide) ?_
  refine g_istore_n (lv' := [(2, vI (0 : Int32)), (0, vR (some x0)), (1, vR x1)]) X dX7_copyFrom_49 rfl (by decide) rfl ?_
  refine g_sub (lvsub_of _ _ [1, 2, 0] rfl) ?_
  exact tl_X7_copyFrom_50 X hr _ _ _ _ _ hf hK
set_option maxHeartbeats 4000000 in
set_option maxRecDepth 100000 in
theorem m_X7_copyFrom (l : Launch) {D : va_G} {cy : Nat → ClassId} {B : Nat} {H0 : Heap} {Z : Nat → Nat} {M M1 : gMem} {x0 : Nat} {x1 : Option Nat} {r : Unit} (hf : f_X7_copyFrom Z M x0 x1 = some (r, M1)) : Met l yX7_copyFrom wsX7_copyFrom rX7_copyFrom (va_Pc (Value.ref x0 :: List.map gv [vR x1]) (gPre D cy B H0 (gSt Z B H0) M)) (gQ D cy B H0 none M1) 0 0 (gA B) := by
  refine Met.ofW (cc := cX7_copyFrom) (maxL := 3) (ret := none) (by decide) rfl ?_
  intro p e s m args below meth c s₁ Bd hml hv
  obtain ⟨rfl, hW, hKK, hFs⟩ := hv
  have X : gX p s m _ meth c D cy B (gSt Z B H0) RX7 cX7_copyFrom wsX7_copyFrom 3 := ⟨Bd.exec, Bd.bytes, atoms_spec (ws := wsX7_copyFrom) Bd.pre, findClass_of_methodNamed Bd.named, hml, hKK, by rw [hW.1]; exact hW.2.1, Bd.notSynchronized, hFs⟩
  have hr := Bd.returns
  rcases x1 with _ | x1
  · have hl := lv_entry ([.ref x0, .null]) (n := 3) (Nat.le_of_ble_eq_true rfl)
    show W p l e rX7_copyFrom s m _ below meth c s.heap [] 0 0 _ (entryFrame m ([.ref x0, .null] : List Value).toArray 3)
    rw [lg_entry_eq]
    generalize (lg_sl ([.ref x0, .null]) ++ List.replicate (3 - (lg_sl ([.ref x0, .null])).length) Slot.unset).toArray = ls at hl ⊢
    have hl : lv_has ls 3 (List.map gq [(0, vR (some x0)), (1, vR none)]) := hl
    exact t_X7_copyFrom_0 X hr _ _ _ _ hf rfl s.heap [] ls hW va_S.rf (lv_has_sub hl (lvsub_of _ _ [0, 1] rfl))
  · have hl := lv_entry ([.ref x0, .ref x1]) (n := 3) (Nat.le_of_ble_eq_true rfl)
    show W p l e rX7_copyFrom s m _ below meth c s.heap [] 0 0 _ (entryFrame m ([.ref x0, .ref x1] : List Value).toArray 3)
    rw [lg_entry_eq]
    generalize (lg_sl ([.ref x0, .ref x1]) ++ List.replicate (3 - (lg_sl ([.ref x0, .ref x1])).length) Slot.unset).toArray = ls at hl ⊢
    have hl : lv_has ls 3 (List.map gq [(0, vR (some x0)), (1, vR (some x1))]) := hl
    exact t_X7_copyFrom_0 X hr _ _ _ _ hf rfl s.heap [] ls hW va_S.rf (lv_has_sub hl (lvsub_of _ _ [0, 1] rfl))
/-! ## TideLots$Shore.allFish()I -/
theorem dX7_allFish_0 : decode cX7_allFish 0 = .ok (.iconst 0, 1) := by decide +kernel
theorem dX7_allFish_1 : decode cX7_allFish 1 = .ok (.istore_n 1, 1) := by decide +kernel
theorem dX7_allFish_2 : decode cX7_allFish 2 = .ok (.iconst 0, 1) := by decide +kernel
theorem dX7_allFish_3 : decode cX7_allFish 3 = .ok (.istore_n 2, 1) := by decide +kernel
theorem dX7_allFish_4 : decode cX7_allFish 4 = .ok (.iload_n 2, 1) := by decide +kernel
theorem dX7_allFish_5 : decode cX7_allFish 5 = .ok (.aload_n 0, 1) := by decide +kernel
theorem dX7_allFish_6 : decode cX7_allFish 6 = .ok (.getfield 72, 3) := by decide +kernel
theorem dX7_allFish_9 : decode cX7_allFish 9 = .ok (.if_icmp .ge 21, 3) := by decide +kernel
theorem dX7_allFish_12 : decode cX7_allFish 12 = .ok (.iload_n 1, 1) := by decide +kernel
theorem dX7_allFish_13 : decode cX7_allFish 13 = .ok (.aload_n 0, 1) := by decide +kernel
theorem dX7_allFish_14 : decode cX7_allFish 14 = .ok (.getfield 17, 3) := by decide +kernel
theorem dX7_allFish_17 : decode cX7_allFish 17 = .ok (.iload_n 2, 1) := by decide +kernel
theorem dX7_allFish_18 : decode cX7_allFish 18 = .ok (.aaload, 1) := by decide +kernel
theorem dX7_allFish_19 : decode cX7_allFish 19 = .ok (.invokevirtual 112, 3) := by decide +kernel
theorem dX7_allFish_22 : decode cX7_allFish 22 = .ok (.iadd, 1) := by decide +kernel
theorem dX7_allFish_23 : decode cX7_allFish 23 = .ok (.istore_n 1, 1) := by decide +kernel
theorem dX7_allFish_24 : decode cX7_allFish 24 = .ok (.iinc 2 1, 3) := by decide +kernel
theorem dX7_allFish_27 : decode cX7_allFish 27 = .ok (.goto (-23), 3) := by decide +kernel
theorem dX7_allFish_30 : decode cX7_allFish 30 = .ok (.iload_n 1, 1) := by decide +kernel
theorem dX7_allFish_31 : decode cX7_allFish 31 = .ok (.ireturn, 1) := by decide +kernel
set_option maxRecDepth 20000 in
theorem ggX7_allFish_X3_allFish : GoodIn wsX7_allFish wsX3_allFish := goodIn_r _ [7, 8, 26, 27, 28, 29] (by decide +kernel) (by decide +kernel)
set_option maxRecDepth 20000 in
theorem gX7_allFish_X3_allFish : GoodIn wsX7_allFish (wsV RX7 112 RX3 yX3_allFish wsX3_allFish) := goodIn_app (goodIn_of _ (by decide +kernel)) ggX7_allFish_X3_allFish
theorem k_X7_allFish_f72 : Cond.fieldLink RX7 72 "TideLots$Shore" "groundCount" "I" ∈ wsX7_allFish := by decide +kernel
theorem i_X7_allFish_X7 : ∀ w ∈ u_ws RX7 TX7 17, w ∈ wsX7_allFish := by decide +kernel
theorem k_X7_allFish_f17 : Cond.fieldLink RX7 17 "TideLots$Shore" "grounds" "[LTideLots$Ground;" ∈ wsX7_allFish := by decide +kernel
abbrev rX7_allFish : Room := { frames := 1, cells := 0, slots := 0, locals := 22 }
noncomputable def bb_X7_allFish_4 (M : gMem) (x0 : Nat) (x1 : Int32) (x2 : Int32) : Option ((gMem × Int32 × Int32) ⊕ (Int32 × gMem)) :=
  ck (mT M x0 = 7) <| (if (mI M x0 2) ≤ x2 then oI (some (x1, M)) else dr ((mR M x0 6)) fun a3 => ck (mT M a3 = 23) <| ck (inb x2 (mL M a3)) <| dr ((mR M a3 x2.toNatClampNeg)) fun a7 => ck (mT M a7 = 3) <| bd (f_X3_allFish M a7) fun r6 M6 => some (.inl (M6, (x1 + r6), (x2 + (1 : Int32)))))
noncomputable def lp_X7_allFish_4 (M : gMem) (x0 : Nat) (x1 : Int32) (x2 : Int32) : Option (Int32 × gMem) :=
  lp (fun (q : gMem × Int32 × Int32) => bb_X7_allFish_4 q.1 x0 q.2.1 q.2.2) (M, x1, x2)
noncomputable def b_X7_allFish_0 (M : gMem) (x0 : Nat) : Option (Int32 × gMem) :=
  lp_X7_allFish_4 M x0 ((0 : Int32)) ((0 : Int32))
noncomputable def f_X7_allFish (M : gMem) (x0 : Nat) : Option (Int32 × gMem) :=
  b_X7_allFish_0 M x0
set_option maxHeartbeats 4000000 in
set_option maxRecDepth 100000 in
theorem tb_X7_allFish_4 (X : gX p s m args meth c D cy B (gSt Z B H0) RX7 cX7_allFish wsX7_allFish 3) (hr : meth.sig.returnType = (some .int)) {Q : State → Prop} : ∀ (M : gMem) (x0 : Nat) (x1 : Int32) (x2 : Int32) (z : (gMem × Int32 × Int32) ⊕ (Int32 × gMem)), bb_X7_allFish_4 M x0 x1 x2 = some z → (Sum.elim (fun (q : gMem × Int32 × Int32) => gGo p l e rX7_allFish s m args below meth c D cy B H0 3 0 0 Q 4 [(0, vR (some x0)), (1, vI q.2.1), (2, vI q.2.2)] [] q.1) (fun (r : Int32 × gMem) => Q = gMQ below D cy B H0 args s 0 0 (some (vI r.1)) r.2)) z → gGo p l e rX7_allFish s m args below meth c D cy B H0 3 0 0 Q 4 [(0, vR (some x0)), (1, vI x1), (2, vI x2)] [] M := by
  intro M x0 x1 x2 z hf hK
  unfold bb_X7_allFish_4 at hf
  refine g_iload_n X dX7_allFish_4 rfl rfl ?_
  refine g_aload_n X dX7_allFish_5 rfl rfl ?_
  obtain ⟨hT1, hf⟩ := ck_e hf
  refine g_get (ci := 6) (v := vI (mI M x0 2)) 2 X cdX7 i_X7_allFish_X7 (by decide) k_X7_allFish_f72 rfl dX7_allFish_6 rfl hT1 rfl ?_
  refine g_icmp_ge (tgt := 30) X dX7_allFish_9 (by decide) (fun hc => ?_) (fun hc => ?_)
  · have hf := ife_t hc hf
    refine g_iload_n X dX7_allFish_30 rfl rfl ?_
    obtain ⟨w2, hw2, hz2⟩ := oI_e hf
    subst hz2
    have hf := hw2
    cases hf
    refine g_eqQ hK ?_
    exact g_iret X hr dX7_allFish_31
  · have hf := ife_f hc hf
    refine g_iload_n X dX7_allFish_12 rfl rfl ?_
    refine g_aload_n X dX7_allFish_13 rfl rfl ?_
    refine g_get (ci := 6) (v := vR (mR M x0 6)) 6 X cdX7 i_X7_allFish_X7 (by decide) k_X7_allFish_f17 rfl dX7_allFish_14 rfl hT1 rfl ?_
    refine g_iload_n X dX7_allFish_17 rfl rfl ?_
    obtain ⟨a3, ha3, hf⟩ := dr_e hf
    obtain ⟨hT4, hf⟩ := ck_e hf
    obtain ⟨hg5, hf⟩ := ck_e hf
    refine g_aald (t0 := 3) X dX7_allFish_18 ha3 hT4 (by decide) rfl hg5 ?_
    obtain ⟨a7, ha7, hf⟩ := dr_e hf
    obtain ⟨hT8, hf⟩ := ck_e hf
    obtain ⟨r6, M6, hq6, hf⟩ := bd_e hf
    refine g_callV (ci := 2) (b := a7) (As := []) (st := [vI x1]) (v := some (vI r6)) (M1 := M6) X (m_X3_allFish l hq6) (cwV 0 X.2.2.1 gX7_allFish_X3_allFish rfl rfl rfl (by decide +kernel) ⟨Nat.le_of_ble_eq_true rfl, Nat.le_of_ble_eq_true rfl⟩) rfl rfl ha7 hT8 (by decide) rfl (Nat.le_of_ble_eq_true rfl) dX7_allFish_19 ⟨by decide, by decide⟩ ?_
    refine g_iadd X dX7_allFish_22 ?_
    refine g_istore_n (lv' := [(1, vI (x1 + r6)), (0, vR (some x0)), (2, vI x2)]) X dX7_allFish_23 rfl (by decide) rfl ?_
    refine g_iinc (v := (1 : Int32)) (lv' := [(2, vI (x2 + (1 : Int32))), (1, vI (x1 + r6)), (0, vR (some x0))]) X dX7_allFish_24 rfl (by decide) (by decide) rfl ?_
    refine g_goto (tgt := 4) X dX7_allFish_27 (by decide) ?_
    cases hf
    refine g_sub (lvsub_of _ _ [2, 1, 0] rfl) ?_
    exact hK
set_option maxHeartbeats 4000000 in
set_option maxRecDepth 100000 in
theorem tl_X7_allFish_4 (X : gX p s m args meth c D cy B (gSt Z B H0) RX7 cX7_allFish wsX7_allFish 3) (hr : meth.sig.returnType = (some .int)) {Q : State → Prop} : ∀ (M : gMem) (x0 : Nat) (x1 : Int32) (x2 : Int32) (z : Int32 × gMem), lp_X7_allFish_4 M x0 x1 x2 = some z → (fun (r : Int32 × gMem) => Q = gMQ below D cy B H0 args s 0 0 (some (vI r.1)) r.2) z → gGo p l e rX7_allFish s m args below meth c D cy B H0 3 0 0 Q 4 [(0, vR (some x0)), (1, vI x1), (2, vI x2)] [] M := by
  intro M x0 x1 x2 z hf hK
  refine lp_ind (P := (fun (q : gMem × Int32 × Int32) (z : Int32 × gMem) => (fun (r : Int32 × gMem) => Q = gMQ below D cy B H0 args s 0 0 (some (vI r.1)) r.2) z → gGo p l e rX7_allFish s m args below meth c D cy B H0 3 0 0 Q 4 [(0, vR (some x0)), (1, vI q.2.1), (2, vI q.2.2)] [] q.1)) (fun q z hq => ?_) _ _ hf hK
  intro hK
  obtain ⟨w, hw, hm⟩ := hq
  refine tb_X7_allFish_4 X hr _ _ _ _ w hw ?_
  cases w with
  | inl a => exact hm hK
  | inr b => cases hm; exact hK
set_option maxHeartbeats 4000000 in
set_option maxRecDepth 100000 in
theorem t_X7_allFish_0 (X : gX p s m args meth c D cy B (gSt Z B H0) RX7 cX7_allFish wsX7_allFish 3) (hr : meth.sig.returnType = (some .int)) {Q : State → Prop} : ∀ (M : gMem) (x0 : Nat) (z : Int32 × gMem), b_X7_allFish_0 M x0 = some z → (fun (r : Int32 × gMem) => Q = gMQ below D cy B H0 args s 0 0 (some (vI r.1)) r.2) z → gGo p l e rX7_allFish s m args below meth c D cy B H0 3 0 0 Q 0 [(0, vR (some x0))] [] M := by
  intro M x0 z hf hK
  unfold b_X7_allFish_0 at hf
  refine g_iconst (v := (0 : Int32)) X dX7_allFish_0 (by decide) ?_
  refine g_istore_n (lv' := [(1, vI (0 : Int32)), (0, vR (some x0))]) X dX7_allFish_1 rfl (by decide) rfl ?_
  refine g_iconst (v := (0 : Int32)) X dX7_allFish_2 (by decide) ?_
  refine g_istore_n (lv' := [(2, vI (0 : Int32)), (1, vI (0 : Int32)), (0, vR (some x0))]) X dX7_allFish_3 rfl (by decide) rfl ?_
  refine g_sub (lvsub_of _ _ [2, 1, 0] rfl) ?_
  exact tl_X7_allFish_4 X hr _ _ _ _ _ hf hK
set_option maxHeartbeats 4000000 in
set_option maxRecDepth 100000 in
theorem m_X7_allFish (l : Launch) {D : va_G} {cy : Nat → ClassId} {B : Nat} {H0 : Heap} {Z : Nat → Nat} {M M1 : gMem} {x0 : Nat} {r : Int32} (hf : f_X7_allFish M x0 = some (r, M1)) : Met l yX7_allFish wsX7_allFish rX7_allFish (va_Pc (Value.ref x0 :: List.map gv []) (gPre D cy B H0 (gSt Z B H0) M)) (gQ D cy B H0 (some (vI r)) M1) 0 0 (gA B) := by
  refine Met.ofW (cc := cX7_allFish) (maxL := 3) (ret := (some .int)) (by decide) rfl ?_
  intro p e s m args below meth c s₁ Bd hml hv
  obtain ⟨rfl, hW, hKK, hFs⟩ := hv
  have X : gX p s m _ meth c D cy B (gSt Z B H0) RX7 cX7_allFish wsX7_allFish 3 := ⟨Bd.exec, Bd.bytes, atoms_spec (ws := wsX7_allFish) Bd.pre, findClass_of_methodNamed Bd.named, hml, hKK, by rw [hW.1]; exact hW.2.1, Bd.notSynchronized, hFs⟩
  have hr := Bd.returns
  have hl := lv_entry ([.ref x0]) (n := 3) (Nat.le_of_ble_eq_true rfl)
  show W p l e rX7_allFish s m _ below meth c s.heap [] 0 0 _ (entryFrame m ([.ref x0] : List Value).toArray 3)
  rw [lg_entry_eq]
  generalize (lg_sl ([.ref x0]) ++ List.replicate (3 - (lg_sl ([.ref x0])).length) Slot.unset).toArray = ls at hl ⊢
  have hl : lv_has ls 3 (List.map gq [(0, vR (some x0))]) := hl
  exact t_X7_allFish_0 X hr _ _ _ hf rfl s.heap [] ls hW va_S.rf (lv_has_sub hl (lvsub_of _ _ [0] rfl))
/-! ## TideLots$Shore.allStores()I -/
theorem dX7_allStores_0 : decode cX7_allStores 0 = .ok (.iconst 0, 1) := by decide +kernel
theorem dX7_allStores_1 : decode cX7_allStores 1 = .ok (.istore_n 1, 1) := by decide +kernel
theorem dX7_allStores_2 : decode cX7_allStores 2 = .ok (.iconst 0, 1) := by decide +kernel
theorem dX7_allStores_3 : decode cX7_allStores 3 = .ok (.istore_n 2, 1) := by decide +kernel
theorem dX7_allStores_4 : decode cX7_allStores 4 = .ok (.iload_n 2, 1) := by decide +kernel
theorem dX7_allStores_5 : decode cX7_allStores 5 = .ok (.aload_n 0, 1) := by decide +kernel
theorem dX7_allStores_6 : decode cX7_allStores 6 = .ok (.getfield 75, 3) := by decide +kernel
theorem dX7_allStores_9 : decode cX7_allStores 9 = .ok (.if_icmp .ge 21, 3) := by decide +kernel
theorem dX7_allStores_12 : decode cX7_allStores 12 = .ok (.iload_n 1, 1) := by decide +kernel
theorem dX7_allStores_13 : decode cX7_allStores 13 = .ok (.aload_n 0, 1) := by decide +kernel
theorem dX7_allStores_14 : decode cX7_allStores 14 = .ok (.getfield 23, 3) := by decide +kernel
theorem dX7_allStores_17 : decode cX7_allStores 17 = .ok (.iload_n 2, 1) := by decide +kernel
theorem dX7_allStores_18 : decode cX7_allStores 18 = .ok (.aaload, 1) := by decide +kernel
theorem dX7_allStores_19 : decode cX7_allStores 19 = .ok (.getfield 116, 3) := by decide +kernel
theorem dX7_allStores_22 : decode cX7_allStores 22 = .ok (.iadd, 1) := by decide +kernel
theorem dX7_allStores_23 : decode cX7_allStores 23 = .ok (.istore_n 1, 1) := by decide +kernel
theorem dX7_allStores_24 : decode cX7_allStores 24 = .ok (.iinc 2 1, 3) := by decide +kernel
theorem dX7_allStores_27 : decode cX7_allStores 27 = .ok (.goto (-23), 3) := by decide +kernel
theorem dX7_allStores_30 : decode cX7_allStores 30 = .ok (.iload_n 1, 1) := by decide +kernel
theorem dX7_allStores_31 : decode cX7_allStores 31 = .ok (.ireturn, 1) := by decide +kernel
theorem k_X7_allStores_f75 : Cond.fieldLink RX7 75 "TideLots$Shore" "fisherCount" "I" ∈ wsX7_allStores := by decide +kernel
theorem i_X7_allStores_X7 : ∀ w ∈ u_ws RX7 TX7 17, w ∈ wsX7_allStores := by decide +kernel
theorem k_X7_allStores_f23 : Cond.fieldLink RX7 23 "TideLots$Shore" "fishers" "[LTideLots$Fisher;" ∈ wsX7_allStores := by decide +kernel
theorem k_X7_allStores_f116 : Cond.fieldLink RX7 116 "TideLots$Fisher" "store" "I" ∈ wsX7_allStores := by decide +kernel
theorem i_X7_allStores_X1 : ∀ w ∈ u_ws RX1 TX1 11, w ∈ wsX7_allStores := by decide +kernel
abbrev rX7_allStores : Room := { frames := 0, cells := 0, slots := 0, locals := 0 }
noncomputable def bb_X7_allStores_4 (M : gMem) (x0 : Nat) (x1 : Int32) (x2 : Int32) : Option ((gMem × Int32 × Int32) ⊕ (Int32 × gMem)) :=
  ck (mT M x0 = 7) <| (if (mI M x0 3) ≤ x2 then oI (some (x1, M)) else dr ((mR M x0 7)) fun a3 => ck (mT M a3 = 24) <| ck (inb x2 (mL M a3)) <| dr ((mR M a3 x2.toNatClampNeg)) fun a6 => ck (mT M a6 = 1) <| some (.inl (M, (x1 + (mI M a6 4)), (x2 + (1 : Int32)))))
noncomputable def lp_X7_allStores_4 (M : gMem) (x0 : Nat) (x1 : Int32) (x2 : Int32) : Option (Int32 × gMem) :=
  lp (fun (q : gMem × Int32 × Int32) => bb_X7_allStores_4 q.1 x0 q.2.1 q.2.2) (M, x1, x2)
noncomputable def b_X7_allStores_0 (M : gMem) (x0 : Nat) : Option (Int32 × gMem) :=
  lp_X7_allStores_4 M x0 ((0 : Int32)) ((0 : Int32))
noncomputable def f_X7_allStores (M : gMem) (x0 : Nat) : Option (Int32 × gMem) :=
  b_X7_allStores_0 M x0
set_option maxHeartbeats 4000000 in
set_option maxRecDepth 100000 in
theorem tb_X7_allStores_4 (X : gX p s m args meth c D cy B (gSt Z B H0) RX7 cX7_allStores wsX7_allStores 3) (hr : meth.sig.returnType = (some .int)) {Q : State → Prop} : ∀ (M : gMem) (x0 : Nat) (x1 : Int32) (x2 : Int32) (z : (gMem × Int32 × Int32) ⊕ (Int32 × gMem)), bb_X7_allStores_4 M x0 x1 x2 = some z → (Sum.elim (fun (q : gMem × Int32 × Int32) => gGo p l e rX7_allStores s m args below meth c D cy B H0 3 0 0 Q 4 [(0, vR (some x0)), (1, vI q.2.1), (2, vI q.2.2)] [] q.1) (fun (r : Int32 × gMem) => Q = gMQ below D cy B H0 args s 0 0 (some (vI r.1)) r.2)) z → gGo p l e rX7_allStores s m args below meth c D cy B H0 3 0 0 Q 4 [(0, vR (some x0)), (1, vI x1), (2, vI x2)] [] M := by
  intro M x0 x1 x2 z hf hK
  unfold bb_X7_allStores_4 at hf
  refine g_iload_n X dX7_allStores_4 rfl rfl ?_
  refine g_aload_n X dX7_allStores_5 rfl rfl ?_
  obtain ⟨hT1, hf⟩ := ck_e hf
  refine g_get (ci := 6) (v := vI (mI M x0 3)) 3 X cdX7 i_X7_allStores_X7 (by decide) k_X7_allStores_f75 rfl dX7_allStores_6 rfl hT1 rfl ?_
  refine g_icmp_ge (tgt := 30) X dX7_allStores_9 (by decide) (fun hc => ?_) (fun hc => ?_)
  · have hf := ife_t hc hf
    refine g_iload_n X dX7_allStores_30 rfl rfl ?_
    obtain ⟨w2, hw2, hz2⟩ := oI_e hf
    subst hz2
    have hf := hw2
    cases hf
    refine g_eqQ hK ?_
    exact g_iret X hr dX7_allStores_31
  · have hf := ife_f hc hf
    refine g_iload_n X dX7_allStores_12 rfl rfl ?_
    refine g_aload_n X dX7_allStores_13 rfl rfl ?_
    refine g_get (ci := 6) (v := vR (mR M x0 7)) 7 X cdX7 i_X7_allStores_X7 (by decide) k_X7_allStores_f23 rfl dX7_allStores_14 rfl hT1 rfl ?_
    refine g_iload_n X dX7_allStores_17 rfl rfl ?_
    obtain ⟨a3, ha3, hf⟩ := dr_e hf
    obtain ⟨hT4, hf⟩ := ck_e hf
    obtain ⟨hg5, hf⟩ := ck_e hf
    refine g_aald (t0 := 4) X dX7_allStores_18 ha3 hT4 (by decide) rfl hg5 ?_
    obtain ⟨a6, ha6, hf⟩ := dr_e hf
    obtain ⟨hT7, hf⟩ := ck_e hf
    refine g_get (ci := 0) (v := vI (mI M a6 4)) 4 X cdX1 i_X7_allStores_X1 (by decide) k_X7_allStores_f116 rfl dX7_allStores_19 ha6 hT7 rfl ?_
    refine g_iadd X dX7_allStores_22 ?_
    refine g_istore_n (lv' := [(1, vI (x1 + (mI M a6 4))), (0, vR (some x0)), (2, vI x2)]) X dX7_allStores_23 rfl (by decide) rfl ?_
    refine g_iinc (v := (1 : Int32)) (lv' := [(2, vI (x2 + (1 : Int32))), (1, vI (x1 + (mI M a6 4))), (0, vR (some x0))]) X dX7_allStores_24 rfl (by decide) (by decide) rfl ?_
    refine g_goto (tgt := 4) X dX7_allStores_27 (by decide) ?_
    cases hf
    refine g_sub (lvsub_of _ _ [2, 1, 0] rfl) ?_
    exact hK
set_option maxHeartbeats 4000000 in
set_option maxRecDepth 100000 in
theorem tl_X7_allStores_4 (X : gX p s m args meth c D cy B (gSt Z B H0) RX7 cX7_allStores wsX7_allStores 3) (hr : meth.sig.returnType = (some .int)) {Q : State → Prop} : ∀ (M : gMem) (x0 : Nat) (x1 : Int32) (x2 : Int32) (z : Int32 × gMem), lp_X7_allStores_4 M x0 x1 x2 = some z → (fun (r : Int32 × gMem) => Q = gMQ below D cy B H0 args s 0 0 (some (vI r.1)) r.2) z → gGo p l e rX7_allStores s m args below meth c D cy B H0 3 0 0 Q 4 [(0, vR (some x0)), (1, vI x1), (2, vI x2)] [] M := by
  intro M x0 x1 x2 z hf hK
  refine lp_ind (P := (fun (q : gMem × Int32 × Int32) (z : Int32 × gMem) => (fun (r : Int32 × gMem) => Q = gMQ below D cy B H0 args s 0 0 (some (vI r.1)) r.2) z → gGo p l e rX7_allStores s m args below meth c D cy B H0 3 0 0 Q 4 [(0, vR (some x0)), (1, vI q.2.1), (2, vI q.2.2)] [] q.1)) (fun q z hq => ?_) _ _ hf hK
  intro hK
  obtain ⟨w, hw, hm⟩ := hq
  refine tb_X7_allStores_4 X hr _ _ _ _ w hw ?_
  cases w with
  | inl a => exact hm hK
  | inr b => cases hm; exact hK
set_option maxHeartbeats 4000000 in
set_option maxRecDepth 100000 in
theorem t_X7_allStores_0 (X : gX p s m args meth c D cy B (gSt Z B H0) RX7 cX7_allStores wsX7_allStores 3) (hr : meth.sig.returnType = (some .int)) {Q : State → Prop} : ∀ (M : gMem) (x0 : Nat) (z : Int32 × gMem), b_X7_allStores_0 M x0 = some z → (fun (r : Int32 × gMem) => Q = gMQ below D cy B H0 args s 0 0 (some (vI r.1)) r.2) z → gGo p l e rX7_allStores s m args below meth c D cy B H0 3 0 0 Q 0 [(0, vR (some x0))] [] M := by
  intro M x0 z hf hK
  unfold b_X7_allStores_0 at hf
  refine g_iconst (v := (0 : Int32)) X dX7_allStores_0 (by decide) ?_
  refine g_istore_n (lv' := [(1, vI (0 : Int32)), (0, vR (some x0))]) X dX7_allStores_1 rfl (by decide) rfl ?_
  refine g_iconst (v := (0 : Int32)) X dX7_allStores_2 (by decide) ?_
  refine g_istore_n (lv' := [(2, vI (0 : Int32)), (1, vI (0 : Int32)), (0, vR (some x0))]) X dX7_allStores_3 rfl (by decide) rfl ?_
  refine g_sub (lvsub_of _ _ [2, 1, 0] rfl) ?_
  exact tl_X7_allStores_4 X hr _ _ _ _ _ hf hK
set_option maxHeartbeats 4000000 in
set_option maxRecDepth 100000 in
theorem m_X7_allStores (l : Launch) {D : va_G} {cy : Nat → ClassId} {B : Nat} {H0 : Heap} {Z : Nat → Nat} {M M1 : gMem} {x0 : Nat} {r : Int32} (hf : f_X7_allStores M x0 = some (r, M1)) : Met l yX7_allStores wsX7_allStores rX7_allStores (va_Pc (Value.ref x0 :: List.map gv []) (gPre D cy B H0 (gSt Z B H0) M)) (gQ D cy B H0 (some (vI r)) M1) 0 0 (gA B) := by
  refine Met.ofW (cc := cX7_allStores) (maxL := 3) (ret := (some .int)) (by decide) rfl ?_
  intro p e s m args below meth c s₁ Bd hml hv
  obtain ⟨rfl, hW, hKK, hFs⟩ := hv
  have X : gX p s m _ meth c D cy B (gSt Z B H0) RX7 cX7_allStores wsX7_allStores 3 := ⟨Bd.exec, Bd.bytes, atoms_spec (ws := wsX7_allStores) Bd.pre, findClass_of_methodNamed Bd.named, hml, hKK, by rw [hW.1]; exact hW.2.1, Bd.notSynchronized, hFs⟩
  have hr := Bd.returns
  have hl := lv_entry ([.ref x0]) (n := 3) (Nat.le_of_ble_eq_true rfl)
  show W p l e rX7_allStores s m _ below meth c s.heap [] 0 0 _ (entryFrame m ([.ref x0] : List Value).toArray 3)
  rw [lg_entry_eq]
  generalize (lg_sl ([.ref x0]) ++ List.replicate (3 - (lg_sl ([.ref x0])).length) Slot.unset).toArray = ls at hl ⊢
  have hl : lv_has ls 3 (List.map gq [(0, vR (some x0))]) := hl
  exact t_X7_allStores_0 X hr _ _ _ hf rfl s.heap [] ls hW va_S.rf (lv_has_sub hl (lvsub_of _ _ [0] rfl))
/-! ## TideLots$Shore.widenedNets()I -/
theorem dX7_widenedNets_0 : decode cX7_widenedNets 0 = .ok (.iconst 0, 1) := by decide +kernel
theorem dX7_widenedNets_1 : decode cX7_widenedNets 1 = .ok (.istore_n 1, 1) := by decide +kernel
theorem dX7_widenedNets_2 : decode cX7_widenedNets 2 = .ok (.iconst 0, 1) := by decide +kernel
theorem dX7_widenedNets_3 : decode cX7_widenedNets 3 = .ok (.istore_n 2, 1) := by decide +kernel
theorem dX7_widenedNets_4 : decode cX7_widenedNets 4 = .ok (.iload_n 2, 1) := by decide +kernel
theorem dX7_widenedNets_5 : decode cX7_widenedNets 5 = .ok (.aload_n 0, 1) := by decide +kernel
theorem dX7_widenedNets_6 : decode cX7_widenedNets 6 = .ok (.getfield 75, 3) := by decide +kernel
theorem dX7_widenedNets_9 : decode cX7_widenedNets 9 = .ok (.if_icmp .ge 38, 3) := by decide +kernel
theorem dX7_widenedNets_12 : decode cX7_widenedNets 12 = .ok (.iload_n 1, 1) := by decide +kernel
theorem dX7_widenedNets_13 : decode cX7_widenedNets 13 = .ok (.aload_n 0, 1) := by decide +kernel
theorem dX7_widenedNets_14 : decode cX7_widenedNets 14 = .ok (.getfield 23, 3) := by decide +kernel
theorem dX7_widenedNets_17 : decode cX7_widenedNets 17 = .ok (.iload_n 2, 1) := by decide +kernel
theorem dX7_widenedNets_18 : decode cX7_widenedNets 18 = .ok (.aaload, 1) := by decide +kernel
theorem dX7_widenedNets_19 : decode cX7_widenedNets 19 = .ok (.getfield 119, 3) := by decide +kernel
theorem dX7_widenedNets_22 : decode cX7_widenedNets 22 = .ok (.aload_n 0, 1) := by decide +kernel
theorem dX7_widenedNets_23 : decode cX7_widenedNets 23 = .ok (.getfield 23, 3) := by decide +kernel
theorem dX7_widenedNets_26 : decode cX7_widenedNets 26 = .ok (.iload_n 2, 1) := by decide +kernel
theorem dX7_widenedNets_27 : decode cX7_widenedNets 27 = .ok (.aaload, 1) := by decide +kernel
theorem dX7_widenedNets_28 : decode cX7_widenedNets 28 = .ok (.getfield 122, 3) := by decide +kernel
theorem dX7_widenedNets_31 : decode cX7_widenedNets 31 = .ok (.if_icmp .le 7, 3) := by decide +kernel
theorem dX7_widenedNets_34 : decode cX7_widenedNets 34 = .ok (.iconst 1, 1) := by decide +kernel
theorem dX7_widenedNets_35 : decode cX7_widenedNets 35 = .ok (.goto 4, 3) := by decide +kernel
theorem dX7_widenedNets_38 : decode cX7_widenedNets 38 = .ok (.iconst 0, 1) := by decide +kernel
theorem dX7_widenedNets_39 : decode cX7_widenedNets 39 = .ok (.iadd, 1) := by decide +kernel
theorem dX7_widenedNets_40 : decode cX7_widenedNets 40 = .ok (.istore_n 1, 1) := by decide +kernel
theorem dX7_widenedNets_41 : decode cX7_widenedNets 41 = .ok (.iinc 2 1, 3) := by decide +kernel
theorem dX7_widenedNets_44 : decode cX7_widenedNets 44 = .ok (.goto (-40), 3) := by decide +kernel
theorem dX7_widenedNets_47 : decode cX7_widenedNets 47 = .ok (.iload_n 1, 1) := by decide +kernel
theorem dX7_widenedNets_48 : decode cX7_widenedNets 48 = .ok (.ireturn, 1) := by decide +kernel
theorem k_X7_widenedNets_f75 : Cond.fieldLink RX7 75 "TideLots$Shore" "fisherCount" "I" ∈ wsX7_widenedNets := by decide +kernel
theorem i_X7_widenedNets_X7 : ∀ w ∈ u_ws RX7 TX7 17, w ∈ wsX7_widenedNets := by decide +kernel
theorem k_X7_widenedNets_f23 : Cond.fieldLink RX7 23 "TideLots$Shore" "fishers" "[LTideLots$Fisher;" ∈ wsX7_widenedNets := by decide +kernel
theorem k_X7_widenedNets_f119 : Cond.fieldLink RX7 119 "TideLots$Fisher" "mesh" "I" ∈ wsX7_widenedNets := by decide +kernel
theorem i_X7_widenedNets_X1 : ∀ w ∈ u_ws RX1 TX1 11, w ∈ wsX7_widenedNets := by decide +kernel
theorem k_X7_widenedNets_f122 : Cond.fieldLink RX7 122 "TideLots$Fisher" "toldMesh" "I" ∈ wsX7_widenedNets := by decide +kernel
abbrev rX7_widenedNets : Room := { frames := 0, cells := 0, slots := 0, locals := 0 }
noncomputable def b_X7_widenedNets_39 (M : gMem) (x0 : Nat) (x2 : Int32) (s0 : Int32) (s1 : Int32) : Option ((gMem × Int32 × Int32) ⊕ (Int32 × gMem)) :=
  some (.inl (M, (s0 + s1), (x2 + (1 : Int32))))
noncomputable def bb_X7_widenedNets_4 (M : gMem) (x0 : Nat) (x1 : Int32) (x2 : Int32) : Option ((gMem × Int32 × Int32) ⊕ (Int32 × gMem)) :=
  ck (mT M x0 = 7) <| (if (mI M x0 3) ≤ x2 then oI (some (x1, M)) else dr ((mR M x0 7)) fun a3 => ck (mT M a3 = 24) <| ck (inb x2 (mL M a3)) <| dr ((mR M a3 x2.toNatClampNeg)) fun a6 => ck (mT M a6 = 1) <| ck (inb x2 (mL M a3)) <| (if (mI M a6 1) ≤ (mI M a6 0) then b_X7_widenedNets_39 M x0 x2 x1 ((0 : Int32)) else b_X7_widenedNets_39 M x0 x2 x1 ((1 : Int32))))
noncomputable def lp_X7_widenedNets_4 (M : gMem) (x0 : Nat) (x1 : Int32) (x2 : Int32) : Option (Int32 × gMem) :=
  lp (fun (q : gMem × Int32 × Int32) => bb_X7_widenedNets_4 q.1 x0 q.2.1 q.2.2) (M, x1, x2)
noncomputable def b_X7_widenedNets_0 (M : gMem) (x0 : Nat) : Option (Int32 × gMem) :=
  lp_X7_widenedNets_4 M x0 ((0 : Int32)) ((0 : Int32))
noncomputable def f_X7_widenedNets (M : gMem) (x0 : Nat) : Option (Int32 × gMem) :=
  b_X7_widenedNets_0 M x0
set_option maxHeartbeats 4000000 in
set_option maxRecDepth 100000 in
theorem t_X7_widenedNets_39 (X : gX p s m args meth c D cy B (gSt Z B H0) RX7 cX7_widenedNets wsX7_widenedNets 3) (hr : meth.sig.returnType = (some .int)) {Q : State → Prop} : ∀ (M : gMem) (x0 : Nat) (x2 : Int32) (s0 : Int32) (s1 : Int32) (z : (gMem × Int32 × Int32) ⊕ (Int32 × gMem)), b_X7_widenedNets_39 M x0 x2 s0 s1 = some z → (Sum.elim (fun (q : gMem × Int32 × Int32) => gGo p l e rX7_widenedNets s m args below meth c D cy B H0 3 0 0 Q 4 [(0, vR (some x0)), (1, vI q.2.1), (2, vI q.2.2)] [] q.1) (fun (r : Int32 × gMem) => Q = gMQ below D cy B H0 args s 0 0 (some (vI r.1)) r.2)) z → gGo p l e rX7_widenedNets s m args below meth c D cy B H0 3 0 0 Q 39 [(0, vR (some x0)), (2, vI x2)] [vI s1, vI s0] M := by
  intro M x0 x2 s0 s1 z hf hK
  unfold b_X7_widenedNets_39 at hf
  refine g_iadd X dX7_widenedNets_39 ?_
  refine g_istore_n (lv' := [(1, vI (s0 + s1)), (0, vR (some x0)), (2, vI x2)]) X dX7_widenedNets_40 rfl (by decide) rfl ?_
  refine g_iinc (v := (1 : Int32)) (lv' := [(2, vI (x2 + (1 : Int32))), (1, vI (s0 + s1)), (0, vR (some x0))]) X dX7_widenedNets_41 rfl (by decide) (by decide) rfl ?_
  refine g_goto (tgt := 4) X dX7_widenedNets_44 (by decide) ?_
  cases hf
  refine g_sub (lvsub_of _ _ [2, 1, 0] rfl) ?_
  exact hK
set_option maxHeartbeats 4000000 in
set_option maxRecDepth 100000 in
theorem tb_X7_widenedNets_4 (X : gX p s m args meth c D cy B (gSt Z B H0) RX7 cX7_widenedNets wsX7_widenedNets 3) (hr : meth.sig.returnType = (some .int)) {Q : State → Prop} : ∀ (M : gMem) (x0 : Nat) (x1 : Int32) (x2 : Int32) (z : (gMem × Int32 × Int32) ⊕ (Int32 × gMem)), bb_X7_widenedNets_4 M x0 x1 x2 = some z → (Sum.elim (fun (q : gMem × Int32 × Int32) => gGo p l e rX7_widenedNets s m args below meth c D cy B H0 3 0 0 Q 4 [(0, vR (some x0)), (1, vI q.2.1), (2, vI q.2.2)] [] q.1) (fun (r : Int32 × gMem) => Q = gMQ below D cy B H0 args s 0 0 (some (vI r.1)) r.2)) z → gGo p l e rX7_widenedNets s m args below meth c D cy B H0 3 0 0 Q 4 [(0, vR (some x0)), (1, vI x1), (2, vI x2)] [] M := by
  intro M x0 x1 x2 z hf hK
  unfold bb_X7_widenedNets_4 at hf
  refine g_iload_n X dX7_widenedNets_4 rfl rfl ?_
  refine g_aload_n X dX7_widenedNets_5 rfl rfl ?_
  obtain ⟨hT1, hf⟩ := ck_e hf
  refine g_get (ci := 6) (v := vI (mI M x0 3)) 3 X cdX7 i_X7_widenedNets_X7 (by decide) k_X7_widenedNets_f75 rfl dX7_widenedNets_6 rfl hT1 rfl ?_
  refine g_icmp_ge (tgt := 47) X dX7_widenedNets_9 (by decide) (fun hc => ?_) (fun hc => ?_)
  · have hf := ife_t hc hf
    refine g_iload_n X dX7_widenedNets_47 rfl rfl ?_
    obtain ⟨w2, hw2, hz2⟩ := oI_e hf
    subst hz2
    have hf := hw2
    cases hf
    refine g_eqQ hK ?_
    exact g_iret X hr dX7_widenedNets_48
  · have hf := ife_f hc hf
    refine g_iload_n X dX7_widenedNets_12 rfl rfl ?_
    refine g_aload_n X dX7_widenedNets_13 rfl rfl ?_
    refine g_get (ci := 6) (v := vR (mR M x0 7)) 7 X cdX7 i_X7_widenedNets_X7 (by decide) k_X7_widenedNets_f23 rfl dX7_widenedNets_14 rfl hT1 rfl ?_
    refine g_iload_n X dX7_widenedNets_17 rfl rfl ?_
    obtain ⟨a3, ha3, hf⟩ := dr_e hf
    obtain ⟨hT4, hf⟩ := ck_e hf
    obtain ⟨hg5, hf⟩ := ck_e hf
    refine g_aald (t0 := 4) X dX7_widenedNets_18 ha3 hT4 (by decide) rfl hg5 ?_
    obtain ⟨a6, ha6, hf⟩ := dr_e hf
    obtain ⟨hT7, hf⟩ := ck_e hf
    refine g_get (ci := 0) (v := vI (mI M a6 1)) 1 X cdX1 i_X7_widenedNets_X1 (by decide) k_X7_widenedNets_f119 rfl dX7_widenedNets_19 ha6 hT7 rfl ?_
    refine g_aload_n X dX7_widenedNets_22 rfl rfl ?_
    refine g_get (ci := 6) (v := vR (mR M x0 7)) 7 X cdX7 i_X7_widenedNets_X7 (by decide) k_X7_widenedNets_f23 rfl dX7_widenedNets_23 rfl hT1 rfl ?_
    refine g_iload_n X dX7_widenedNets_26 rfl rfl ?_
    obtain ⟨hg8, hf⟩ := ck_e hf
    refine g_aald (t0 := 4) X dX7_widenedNets_27 ha3 hT4 (by decide) rfl hg8 ?_
    refine g_get (ci := 0) (v := vI (mI M a6 0)) 0 X cdX1 i_X7_widenedNets_X1 (by decide) k_X7_widenedNets_f122 rfl dX7_widenedNets_28 ha6 hT7 rfl ?_
    refine g_icmp_le (tgt := 38) X dX7_widenedNets_31 (by decide) (fun hc => ?_) (fun hc => ?_)
    · have hf := ife_t hc hf
      refine g_iconst (v := (0 : Int32)) X dX7_widenedNets_38 (by decide) ?_
      refine g_sub (lvsub_of _ _ [0, 2] rfl) ?_
      exact t_X7_widenedNets_39 X hr _ _ _ _ _ _ hf hK
    · have hf := ife_f hc hf
      refine g_iconst (v := (1 : Int32)) X dX7_widenedNets_34 (by decide) ?_
      refine g_goto (tgt := 39) X dX7_widenedNets_35 (by decide) ?_
      refine g_sub (lvsub_of _ _ [0, 2] rfl) ?_
      exact t_X7_widenedNets_39 X hr _ _ _ _ _ _ hf hK
set_option maxHeartbeats 4000000 in
set_option maxRecDepth 100000 in
theorem tl_X7_widenedNets_4 (X : gX p s m args meth c D cy B (gSt Z B H0) RX7 cX7_widenedNets wsX7_widenedNets 3) (hr : meth.sig.returnType = (some .int)) {Q : State → Prop} : ∀ (M : gMem) (x0 : Nat) (x1 : Int32) (x2 : Int32) (z : Int32 × gMem), lp_X7_widenedNets_4 M x0 x1 x2 = some z → (fun (r : Int32 × gMem) => Q = gMQ below D cy B H0 args s 0 0 (some (vI r.1)) r.2) z → gGo p l e rX7_widenedNets s m args below meth c D cy B H0 3 0 0 Q 4 [(0, vR (some x0)), (1, vI x1), (2, vI x2)] [] M := by
  intro M x0 x1 x2 z hf hK
  refine lp_ind (P := (fun (q : gMem × Int32 × Int32) (z : Int32 × gMem) => (fun (r : Int32 × gMem) => Q = gMQ below D cy B H0 args s 0 0 (some (vI r.1)) r.2) z → gGo p l e rX7_widenedNets s m args below meth c D cy B H0 3 0 0 Q 4 [(0, vR (some x0)), (1, vI q.2.1), (2, vI q.2.2)] [] q.1)) (fun q z hq => ?_) _ _ hf hK
  intro hK
  obtain ⟨w, hw, hm⟩ := hq
  refine tb_X7_widenedNets_4 X hr _ _ _ _ w hw ?_
  cases w with
  | inl a => exact hm hK
  | inr b => cases hm; exact hK
set_option maxHeartbeats 4000000 in
set_option maxRecDepth 100000 in
theorem t_X7_widenedNets_0 (X : gX p s m args meth c D cy B (gSt Z B H0) RX7 cX7_widenedNets wsX7_widenedNets 3) (hr : meth.sig.returnType = (some .int)) {Q : State → Prop} : ∀ (M : gMem) (x0 : Nat) (z : Int32 × gMem), b_X7_widenedNets_0 M x0 = some z → (fun (r : Int32 × gMem) => Q = gMQ below D cy B H0 args s 0 0 (some (vI r.1)) r.2) z → gGo p l e rX7_widenedNets s m args below meth c D cy B H0 3 0 0 Q 0 [(0, vR (some x0))] [] M := by
  intro M x0 z hf hK
  unfold b_X7_widenedNets_0 at hf
  refine g_iconst (v := (0 : Int32)) X dX7_widenedNets_0 (by decide) ?_
  refine g_istore_n (lv' := [(1, vI (0 : Int32)), (0, vR (some x0))]) X dX7_widenedNets_1 rfl (by decide) rfl ?_
  refine g_iconst (v := (0 : Int32)) X dX7_widenedNets_2 (by decide) ?_
  refine g_istore_n (lv' := [(2, vI (0 : Int32)), (1, vI (0 : Int32)), (0, vR (some x0))]) X dX7_widenedNets_3 rfl (by decide) rfl ?_
  refine g_sub (lvsub_of _ _ [2, 1, 0] rfl) ?_
  exact tl_X7_widenedNets_4 X hr _ _ _ _ _ hf hK
set_option maxHeartbeats 4000000 in
set_option maxRecDepth 100000 in
theorem m_X7_widenedNets (l : Launch) {D : va_G} {cy : Nat → ClassId} {B : Nat} {H0 : Heap} {Z : Nat → Nat} {M M1 : gMem} {x0 : Nat} {r : Int32} (hf : f_X7_widenedNets M x0 = some (r, M1)) : Met l yX7_widenedNets wsX7_widenedNets rX7_widenedNets (va_Pc (Value.ref x0 :: List.map gv []) (gPre D cy B H0 (gSt Z B H0) M)) (gQ D cy B H0 (some (vI r)) M1) 0 0 (gA B) := by
  refine Met.ofW (cc := cX7_widenedNets) (maxL := 3) (ret := (some .int)) (by decide) rfl ?_
  intro p e s m args below meth c s₁ Bd hml hv
  obtain ⟨rfl, hW, hKK, hFs⟩ := hv
  have X : gX p s m _ meth c D cy B (gSt Z B H0) RX7 cX7_widenedNets wsX7_widenedNets 3 := ⟨Bd.exec, Bd.bytes, atoms_spec (ws := wsX7_widenedNets) Bd.pre, findClass_of_methodNamed Bd.named, hml, hKK, by rw [hW.1]; exact hW.2.1, Bd.notSynchronized, hFs⟩
  have hr := Bd.returns
  have hl := lv_entry ([.ref x0]) (n := 3) (Nat.le_of_ble_eq_true rfl)
  show W p l e rX7_widenedNets s m _ below meth c s.heap [] 0 0 _ (entryFrame m ([.ref x0] : List Value).toArray 3)
  rw [lg_entry_eq]
  generalize (lg_sl ([.ref x0]) ++ List.replicate (3 - (lg_sl ([.ref x0])).length) Slot.unset).toArray = ls at hl ⊢
  have hl : lv_has ls 3 (List.map gq [(0, vR (some x0))]) := hl
  exact t_X7_widenedNets_0 X hr _ _ _ hf rfl s.heap [] ls hW va_S.rf (lv_has_sub hl (lvsub_of _ _ [0] rfl))
end
