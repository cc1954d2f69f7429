section
variable {p : Program} {l : Launch} {e : Env} {s : State} {m : MethodId} {args : Array Value} {below : List Frame} {meth : Method} {c : Code} {D : va_G} {cy : Nat → ClassId} {B : Nat} {H0 : Heap} {Z : Nat → Nat}
/-! ## TideLots$Shore.haulFrom(LTideLots$Ground;LTideLots$Fisher;)V -/
theorem dX7_haulFrom_0 : decode cX7_haulFrom 0 = .ok (.aload_n 2, 1) := by decide +kernel
theorem dX7_haulFrom_1 : decode cX7_haulFrom 1 = .ok (.getfield 119, 3) := by decide +kernel
theorem dX7_haulFrom_4 : decode cX7_haulFrom 4 = .ok (.istore_n 3, 1) := by decide +kernel
theorem dX7_haulFrom_5 : decode cX7_haulFrom 5 = .ok (.iconst 0, 1) := by decide +kernel
theorem dX7_haulFrom_6 : decode cX7_haulFrom 6 = .ok (.istore 4, 2) := by decide +kernel
theorem dX7_haulFrom_8 : decode cX7_haulFrom 8 = .ok (.iconst 0, 1) := by decide +kernel
theorem dX7_haulFrom_9 : decode cX7_haulFrom 9 = .ok (.istore 5, 2) := by decide +kernel
theorem dX7_haulFrom_11 : decode cX7_haulFrom 11 = .ok (.iconst 0, 1) := by decide +kernel
theorem dX7_haulFrom_12 : decode cX7_haulFrom 12 = .ok (.istore 6, 2) := by decide +kernel
theorem dX7_haulFrom_14 : decode cX7_haulFrom 14 = .ok (.iconst 5, 1) := by decide +kernel
theorem dX7_haulFrom_15 : decode cX7_haulFrom 15 = .ok (.istore 7, 2) := by decide +kernel
theorem dX7_haulFrom_17 : decode cX7_haulFrom 17 = .ok (.iload 7, 2) := by decide +kernel
theorem dX7_haulFrom_19 : decode cX7_haulFrom 19 = .ok (.iconst 1, 1) := by decide +kernel
theorem dX7_haulFrom_20 : decode cX7_haulFrom 20 = .ok (.if_icmp .lt 119, 3) := by decide +kernel
theorem dX7_haulFrom_23 : decode cX7_haulFrom 23 = .ok (.aload_n 0, 1) := by decide +kernel
theorem dX7_haulFrom_24 : decode cX7_haulFrom 24 = .ok (.getfield 53, 3) := by decide +kernel
theorem dX7_haulFrom_27 : decode cX7_haulFrom 27 = .ok (.iload 7, 2) := by decide +kernel
theorem dX7_haulFrom_29 : decode cX7_haulFrom 29 = .ok (.iconst 0, 1) := by decide +kernel
theorem dX7_haulFrom_30 : decode cX7_haulFrom 30 = .ok (.iastore, 1) := by decide +kernel
theorem dX7_haulFrom_31 : decode cX7_haulFrom 31 = .ok (.iload 7, 2) := by decide +kernel
theorem dX7_haulFrom_33 : decode cX7_haulFrom 33 = .ok (.iload_n 3, 1) := by decide +kernel
theorem dX7_haulFrom_34 : decode cX7_haulFrom 34 = .ok (.if_icmp .lt 99, 3) := by decide +kernel
theorem dX7_haulFrom_37 : decode cX7_haulFrom 37 = .ok (.iload 6, 2) := by decide +kernel
theorem dX7_haulFrom_39 : decode cX7_haulFrom 39 = .ok (.ifCond .ne 94, 3) := by decide +kernel
theorem dX7_haulFrom_42 : decode cX7_haulFrom 42 = .ok (.aload_n 1, 1) := by decide +kernel
theorem dX7_haulFrom_43 : decode cX7_haulFrom 43 = .ok (.getfield 210, 3) := by decide +kernel
theorem dX7_haulFrom_46 : decode cX7_haulFrom 46 = .ok (.iload 7, 2) := by decide +kernel
theorem dX7_haulFrom_48 : decode cX7_haulFrom 48 = .ok (.iaload, 1) := by decide +kernel
theorem dX7_haulFrom_49 : decode cX7_haulFrom 49 = .ok (.aload_n 2, 1) := by decide +kernel
theorem dX7_haulFrom_50 : decode cX7_haulFrom 50 = .ok (.getfield 213, 3) := by decide +kernel
theorem dX7_haulFrom_53 : decode cX7_haulFrom 53 = .ok (.iload 4, 2) := by decide +kernel
theorem dX7_haulFrom_55 : decode cX7_haulFrom 55 = .ok (.isub, 1) := by decide +kernel
theorem dX7_haulFrom_56 : decode cX7_haulFrom 56 = .ok (.invokestatic 87, 3) := by decide +kernel
theorem dX7_haulFrom_59 : decode cX7_haulFrom 59 = .ok (.istore 8, 2) := by decide +kernel
theorem dX7_haulFrom_61 : decode cX7_haulFrom 61 = .ok (.aload_n 2, 1) := by decide +kernel
theorem dX7_haulFrom_62 : decode cX7_haulFrom 62 = .ok (.getfield 216, 3) := by decide +kernel
theorem dX7_haulFrom_65 : decode cX7_haulFrom 65 = .ok (.iload 5, 2) := by decide +kernel
theorem dX7_haulFrom_67 : decode cX7_haulFrom 67 = .ok (.isub, 1) := by decide +kernel
theorem dX7_haulFrom_68 : decode cX7_haulFrom 68 = .ok (.iload 7, 2) := by decide +kernel
theorem dX7_haulFrom_70 : decode cX7_haulFrom 70 = .ok (.idiv, 1) := by decide +kernel
theorem dX7_haulFrom_71 : decode cX7_haulFrom 71 = .ok (.istore 9, 2) := by decide +kernel
theorem dX7_haulFrom_73 : decode cX7_haulFrom 73 = .ok (.iload 8, 2) := by decide +kernel
theorem dX7_haulFrom_75 : decode cX7_haulFrom 75 = .ok (.iload 9, 2) := by decide +kernel
theorem dX7_haulFrom_77 : decode cX7_haulFrom 77 = .ok (.if_icmp .le 7, 3) := by decide +kernel
theorem dX7_haulFrom_80 : decode cX7_haulFrom 80 = .ok (.iconst 1, 1) := by decide +kernel
theorem dX7_haulFrom_81 : decode cX7_haulFrom 81 = .ok (.goto 4, 3) := by decide +kernel
theorem dX7_haulFrom_84 : decode cX7_haulFrom 84 = .ok (.iconst 0, 1) := by decide +kernel
theorem dX7_haulFrom_85 : decode cX7_haulFrom 85 = .ok (.istore 6, 2) := by decide +kernel
theorem dX7_haulFrom_87 : decode cX7_haulFrom 87 = .ok (.aload_n 0, 1) := by decide +kernel
theorem dX7_haulFrom_88 : decode cX7_haulFrom 88 = .ok (.getfield 53, 3) := by decide +kernel
theorem dX7_haulFrom_91 : decode cX7_haulFrom 91 = .ok (.iload 7, 2) := by decide +kernel
theorem dX7_haulFrom_93 : decode cX7_haulFrom 93 = .ok (.iload 6, 2) := by decide +kernel
theorem dX7_haulFrom_95 : decode cX7_haulFrom 95 = .ok (.ifCond .eq 8, 3) := by decide +kernel
theorem dX7_haulFrom_98 : decode cX7_haulFrom 98 = .ok (.iload 9, 2) := by decide +kernel
theorem dX7_haulFrom_100 : decode cX7_haulFrom 100 = .ok (.goto 5, 3) := by decide +kernel
theorem dX7_haulFrom_103 : decode cX7_haulFrom 103 = .ok (.iload 8, 2) := by decide +kernel
theorem dX7_haulFrom_105 : decode cX7_haulFrom 105 = .ok (.iastore, 1) := by decide +kernel
theorem dX7_haulFrom_106 : decode cX7_haulFrom 106 = .ok (.iload 4, 2) := by decide +kernel
theorem dX7_haulFrom_108 : decode cX7_haulFrom 108 = .ok (.aload_n 0, 1) := by decide +kernel
theorem dX7_haulFrom_109 : decode cX7_haulFrom 109 = .ok (.getfield 53, 3) := by decide +kernel
theorem dX7_haulFrom_112 : decode cX7_haulFrom 112 = .ok (.iload 7, 2) := by decide +kernel
theorem dX7_haulFrom_114 : decode cX7_haulFrom 114 = .ok (.iaload, 1) := by decide +kernel
theorem dX7_haulFrom_115 : decode cX7_haulFrom 115 = .ok (.iadd, 1) := by decide +kernel
theorem dX7_haulFrom_116 : decode cX7_haulFrom 116 = .ok (.istore 4, 2) := by decide +kernel
theorem dX7_haulFrom_118 : decode cX7_haulFrom 118 = .ok (.iload 5, 2) := by decide +kernel
theorem dX7_haulFrom_120 : decode cX7_haulFrom 120 = .ok (.aload_n 0, 1) := by decide +kernel
theorem dX7_haulFrom_121 : decode cX7_haulFrom 121 = .ok (.getfield 53, 3) := by decide +kernel
theorem dX7_haulFrom_124 : decode cX7_haulFrom 124 = .ok (.iload 7, 2) := by decide +kernel
theorem dX7_haulFrom_126 : decode cX7_haulFrom 126 = .ok (.iaload, 1) := by decide +kernel
theorem dX7_haulFrom_127 : decode cX7_haulFrom 127 = .ok (.iload 7, 2) := by decide +kernel
theorem dX7_haulFrom_129 : decode cX7_haulFrom 129 = .ok (.imul, 1) := by decide +kernel
theorem dX7_haulFrom_130 : decode cX7_haulFrom 130 = .ok (.iadd, 1) := by decide +kernel
theorem dX7_haulFrom_131 : decode cX7_haulFrom 131 = .ok (.istore 5, 2) := by decide +kernel
theorem dX7_haulFrom_133 : decode cX7_haulFrom 133 = .ok (.iinc 7 (-1), 3) := by decide +kernel
theorem dX7_haulFrom_136 : decode cX7_haulFrom 136 = .ok (.goto (-119), 3) := by decide +kernel
theorem dX7_haulFrom_139 : decode cX7_haulFrom 139 = .ok (.iload 6, 2) := by decide +kernel
theorem dX7_haulFrom_141 : decode cX7_haulFrom 141 = .ok (.ifCond .eq 7, 3) := by decide +kernel
theorem dX7_haulFrom_144 : decode cX7_haulFrom 144 = .ok (.aload_n 2, 1) := by decide +kernel
theorem dX7_haulFrom_145 : decode cX7_haulFrom 145 = .ok (.invokevirtual 219, 3) := by decide +kernel
theorem dX7_haulFrom_148 : decode cX7_haulFrom 148 = .ok (.return_, 1) := by decide +kernel
set_option maxRecDepth 20000 in
theorem ggX7_haulFrom_X1_tear : GoodIn wsX7_haulFrom wsX1_tear := goodIn_r _ [14, 15, 16, 6, 7, 8, 17, 18, 19, 20, 21, 22, 23, 24, 25, 26, 27, 28] (by decide +kernel) (by decide +kernel)
set_option maxRecDepth 20000 in
theorem gX7_haulFrom_X1_tear : GoodIn wsX7_haulFrom (wsV RX7 219 RX1 yX1_tear wsX1_tear) := goodIn_app (goodIn_of _ (by decide +kernel)) ggX7_haulFrom_X1_tear
theorem k_X7_haulFrom_f53 : Cond.fieldLink RX7 53 "TideLots$Shore" "haul" "[I" ∈ wsX7_haulFrom := by decide +kernel
theorem i_X7_haulFrom_X7 : ∀ w ∈ u_ws RX7 TX7 17, w ∈ wsX7_haulFrom := by decide +kernel
theorem k_X7_haulFrom_f210 : Cond.fieldLink RX7 210 "TideLots$Ground" "fish" "[I" ∈ wsX7_haulFrom := by decide +kernel
theorem i_X7_haulFrom_X3 : ∀ w ∈ u_ws RX3 TX3 4, w ∈ wsX7_haulFrom := by decide +kernel
theorem k_X7_haulFrom_f213 : Cond.fieldLink RX7 213 "TideLots$Fisher" "hold" "I" ∈ wsX7_haulFrom := by decide +kernel
theorem i_X7_haulFrom_X1 : ∀ w ∈ u_ws RX1 TX1 11, w ∈ wsX7_haulFrom := by decide +kernel
theorem k_X7_haulFrom_m87 : Cond.methodLink RX7 87 Lib.Math.min.name ∈ wsX7_haulFrom := by decide +kernel
theorem k_X7_haulFrom_mmins : Cond.static Lib.Math.min.name ∈ wsX7_haulFrom := by decide +kernel
theorem k_X7_haulFrom_mi : Cond.initialized "java/lang/Math" ∈ wsX7_haulFrom := by decide +kernel
theorem k_X7_haulFrom_mminc : Cond.code Lib.Math.min.name Lib.Math.min.code 2 (some .int) ∈ wsX7_haulFrom := by decide +kernel
theorem k_X7_haulFrom_f216 : Cond.fieldLink RX7 216 "TideLots$Fisher" "net" "I" ∈ wsX7_haulFrom := by decide +kernel
theorem k_X7_haulFrom_f119 : Cond.fieldLink RX7 119 "TideLots$Fisher" "mesh" "I" ∈ wsX7_haulFrom := by decide +kernel
abbrev rX7_haulFrom : Room := { frames := 2, cells := 0, slots := 0, locals := 34 }
noncomputable def b_X7_haulFrom_148 (M : gMem)  : Option (Unit × gMem) :=
  some ((), M)
noncomputable def b_X7_haulFrom_133 (M : gMem) (x0 : Nat) (x1 : Option Nat) (x2 : Option Nat) (x3 : Int32) (x4 : Int32) (x5 : Int32) (x6 : Int32) (x7 : Int32) : Option ((gMem × Int32 × Int32 × Int32 × Int32) ⊕ (Unit × gMem)) :=
  some (.inl (M, x4, x5, x6, (x7 + (-1 : Int32))))
noncomputable def b_X7_haulFrom_105 (M : gMem) (x0 : Nat) (x1 : Option Nat) (x2 : Option Nat) (x3 : Int32) (x4 : Int32) (x5 : Int32) (x6 : Int32) (x7 : Int32) (s0 : Option Nat) (s1 : Int32) (s2 : Int32) : Option ((gMem × Int32 × Int32 × Int32 × Int32) ⊕ (Unit × gMem)) :=
  dr s0 fun a1 => ck (mT M a1 = 20) <| ck (inb s1 (mL M a1)) <| lw (wI M a1 s1.toNatClampNeg s2) fun M4 => ck (mT M4 x0 = 7) <| dr ((mR M4 x0 13)) fun a7 => ck (mT M4 a7 = 20) <| ck (inb x7 (mL M4 a7)) <| ck (inb x7 (mL M4 a7)) <| b_X7_haulFrom_133 M4 x0 x1 x2 x3 ((x4 + (mI M4 a7 x7.toNatClampNeg))) ((x5 + ((mI M4 a7 x7.toNatClampNeg) * x7))) x6 x7
noncomputable def b_X7_haulFrom_85 (M : gMem) (x0 : Nat) (x1 : Option Nat) (x2 : Option Nat) (x3 : Int32) (x4 : Int32) (x5 : Int32) (x7 : Int32) (x8 : Int32) (x9 : Int32) (s0 : Int32) : Option ((gMem × Int32 × Int32 × Int32 × Int32) ⊕ (Unit × gMem)) :=
  ck (mT M x0 = 7) <| (if s0 = 0 then b_X7_haulFrom_105 M x0 x1 x2 x3 x4 x5 s0 x7 ((mR M x0 13)) x7 x8 else b_X7_haulFrom_105 M x0 x1 x2 x3 x4 x5 s0 x7 ((mR M x0 13)) x7 x9)
noncomputable def bb_X7_haulFrom_17 (M : gMem) (x0 : Nat) (x1 : Option Nat) (x2 : Option Nat) (x3 : Int32) (x4 : Int32) (x5 : Int32) (x6 : Int32) (x7 : Int32) : Option ((gMem × Int32 × Int32 × Int32 × Int32) ⊕ (Unit × gMem)) :=
  (if x7 < (1 : Int32) then (if x6 = 0 then oI (b_X7_haulFrom_148 M ) else dr x2 fun a14 => ck (mT M a14 = 1) <| bd (f_X1_tear M a14) fun _ M13 => oI (b_X7_haulFrom_148 M13 )) else ck (mT M x0 = 7) <| dr ((mR M x0 13)) fun a18 => ck (mT M a18 = 20) <| ck (inb x7 (mL M a18)) <| lw (wI M a18 x7.toNatClampNeg ((0 : Int32))) fun M21 => (if x7 < x3 then b_X7_haulFrom_133 M21 x0 x1 x2 x3 x4 x5 x6 x7 else (if x6 = 0 then dr x1 fun a24 => ck (mT M21 a24 = 3) <| dr ((mR M21 a24 3)) fun a26 => ck (mT M21 a26 = 20) <| ck (inb x7 (mL M21 a26)) <| dr x2 fun a29 => ck (mT M21 a29 = 1) <| ck (¬ x7 = 0) <| (if (imin ((mI M21 a26 x7.toNatClampNeg)) (((mI M21 a29 3) - x4))) ≤ (((mI M21 a29 2) - x5) / x7) then b_X7_haulFrom_85 M21 x0 x1 x2 x3 x4 x5 x7 ((imin ((mI M21 a26 x7.toNatClampNeg)) (((mI M21 a29 3) - x4)))) ((((mI M21 a29 2) - x5) / x7)) ((0 : Int32)) else b_X7_haulFrom_85 M21 x0 x1 x2 x3 x4 x5 x7 ((imin ((mI M21 a26 x7.toNatClampNeg)) (((mI M21 a29 3) - x4)))) ((((mI M21 a29 2) - x5) / x7)) ((1 : Int32))) else b_X7_haulFrom_133 M21 x0 x1 x2 x3 x4 x5 x6 x7)))
noncomputable def lp_X7_haulFrom_17 (M : gMem) (x0 : Nat) (x1 : Option Nat) (x2 : Option Nat) (x3 : Int32) (x4 : Int32) (x5 : Int32) (x6 : Int32) (x7 : Int32) : Option (Unit × gMem) :=
  lp (fun (q : gMem × Int32 × Int32 × Int32 × Int32) => bb_X7_haulFrom_17 q.1 x0 x1 x2 x3 q.2.1 q.2.2.1 q.2.2.2.1 q.2.2.2.2) (M, x4, x5, x6, x7)
noncomputable def b_X7_haulFrom_0 (M : gMem) (x0 : Nat) (x1 : Option Nat) (x2 : Option Nat) : Option (Unit × gMem) :=
  dr x2 fun a32 => ck (mT M a32 = 1) <| lp_X7_haulFrom_17 M x0 x1 x2 ((mI M a32 1)) ((0 : Int32)) ((0 : Int32)) ((0 : Int32)) ((5 : Int32))
noncomputable def f_X7_haulFrom (M : gMem) (x0 : Nat) (x1 : Option Nat) (x2 : Option Nat) : Option (Unit × gMem) :=
  b_X7_haulFrom_0 M x0 x1 x2
set_option maxHeartbeats 4000000 in
set_option maxRecDepth 100000 in
theorem t_X7_haulFrom_148 (X : gX p s m args meth c D cy B (gSt Z B H0) RX7 cX7_haulFrom wsX7_haulFrom 10) (hr : meth.sig.returnType = none) {Q : State → Prop} : ∀ (M : gMem)  (z : Unit × gMem), b_X7_haulFrom_148 M  = some z → (fun (r : Unit × gMem) => Q = gMQ below D cy B H0 args s 0 0 none r.2) z → gGo p l e rX7_haulFrom s m args below meth c D cy B H0 10 0 0 Q 148 [] [] M := by
  intro M  z hf hK
  unfold b_X7_haulFrom_148 at hf
  cases hf
  refine g_eqQ hK ?_
  exact g_vret X hr dX7_haulFrom_148
set_option maxHeartbeats 4000000 in
set_option maxRecDepth 100000 in
theorem t_X7_haulFrom_133 (X : gX p s m args meth c D cy B (gSt Z B H0) RX7 cX7_haulFrom wsX7_haulFrom 10) (hr : meth.sig.returnType = none) {Q : State → Prop} : ∀ (M : gMem) (x0 : Nat) (x1 : Option Nat) (x2 : Option Nat) (x3 : Int32) (x4 : Int32) (x5 : Int32) (x6 : Int32) (x7 : Int32) (z : (gMem × Int32 × Int32 × Int32 × Int32) ⊕ (Unit × gMem)), b_X7_haulFrom_133 M x0 x1 x2 x3 x4 x5 x6 x7 = some z → (Sum.elim (fun (q : gMem × Int32 × Int32 × Int32 × Int32) => gGo p l e rX7_haulFrom s m args below meth c D cy B H0 10 0 0 Q 17 [(0, vR (some x0)), (1, vR x1), (2, vR x2), (3, vI x3), (4, vI q.2.1), (5, vI q.2.2.1), (6, vI q.2.2.2.1), (7, vI q.2.2.2.2)] [] q.1) (fun (r : Unit × gMem) => Q = gMQ below D cy B H0 args s 0 0 none r.2)) z → gGo p l e rX7_haulFrom s m args below meth c D cy B H0 10 0 0 Q 133 [(0, vR (some x0)), (1, vR x1), (2, vR x2), (3, vI x3), (4, vI x4), (5, vI x5), (6, vI x6), (7, vI x7)] [] M := by
  intro M x0 x1 x2 x3 x4 x5 x6 x7 z hf hK
  unfold b_X7_haulFrom_133 at hf
  refine g_iinc (v := (-1 : Int32)) (lv' := [(7, vI (x7 + (-1 : Int32))), (0, vR (some x0)), (1, vR x1), (2, vR x2), (3, vI x3), (4, vI x4), (5, vI x5), (6, vI x6)]) X dX7_haulFrom_133 rfl (by decide) (by decide) rfl ?_
  refine g_goto (tgt := 17) X dX7_haulFrom_136 (by decide) ?_
  cases hf
  refine g_sub (lvsub_of _ _ [1, 2, 3, 4, 5, 6, 7, 0] rfl) ?_
  exact hK
set_option maxHeartbeats 4000000 in
set_option maxRecDepth 100000 in
theorem t_X7_haulFrom_105 (X : gX p s m args meth c D cy B (gSt Z B H0) RX7 cX7_haulFrom wsX7_haulFrom 10) (hr : meth.sig.returnType = none) {Q : State → Prop} : ∀ (M : gMem) (x0 : Nat) (x1 : Option Nat) (x2 : Option Nat) (x3 : Int32) (x4 : Int32) (x5 : Int32) (x6 : Int32) (x7 : Int32) (s0 : Option Nat) (s1 : Int32) (s2 : Int32) (z : (gMem × Int32 × Int32 × Int32 × Int32) ⊕ (Unit × gMem)), b_X7_haulFrom_105 M x0 x1 x2 x3 x4 x5 x6 x7 s0 s1 s2 = some z → (Sum.elim (fun (q : gMem × Int32 × Int32 × Int32 × Int32) => gGo p l e rX7_haulFrom s m args below meth c D cy B H0 10 0 0 Q 17 [(0, vR (some x0)), (1, vR x1), (2, vR x2), (3, vI x3), (4, vI q.2.1), (5, vI q.2.2.1), (6, vI q.2.2.2.1), (7, vI q.2.2.2.2)] [] q.1) (fun (r : Unit × gMem) => Q = gMQ below D cy B H0 args s 0 0 none r.2)) z → gGo p l e rX7_haulFrom s m args below meth c D cy B H0 10 0 0 Q 105 [(0, vR (some x0)), (1, vR x1), (2, vR x2), (3, vI x3), (4, vI x4), (5, vI x5), (6, vI x6), (7, vI x7)] [vI s2, vI s1, vR s0] M := by
  intro M x0 x1 x2 x3 x4 x5 x6 x7 s0 s1 s2 z hf hK
  unfold b_X7_haulFrom_105 at hf
  obtain ⟨a1, ha1, hf⟩ := dr_e hf
  obtain ⟨hT2, hf⟩ := ck_e hf
  obtain ⟨hg3, hf⟩ := ck_e hf
  refine g_iast X dX7_haulFrom_105 ha1 hT2 hg3 ?_
  obtain ⟨M4, hM4, hf⟩ := lw_e hf
  rw [← hM4]
  have hT5 : mT M4 a1 = 20 := by rw [hM4]; exact hT2
  refine g_iload X dX7_haulFrom_106 rfl ?_
  refine g_aload_n X dX7_haulFrom_108 rfl rfl ?_
  obtain ⟨hT6, hf⟩ := ck_e hf
  refine g_get (ci := 6) (v := vR (mR M4 x0 13)) 13 X cdX7 i_X7_haulFrom_X7 (by decide) k_X7_haulFrom_f53 rfl dX7_haulFrom_109 rfl hT6 rfl ?_
  refine g_iload X dX7_haulFrom_112 rfl ?_
  obtain ⟨a7, ha7, hf⟩ := dr_e hf
  obtain ⟨hT8, hf⟩ := ck_e hf
  obtain ⟨hg9, hf⟩ := ck_e hf
  refine g_iald X dX7_haulFrom_114 ha7 hT8 hg9 ?_
  refine g_iadd X dX7_haulFrom_115 ?_
  refine g_istore (lv' := [(4, vI (x4 + (mI M4 a7 x7.toNatClampNeg))), (0, vR (some x0)), (1, vR x1), (2, vR x2), (3, vI x3), (5, vI x5), (6, vI x6), (7, vI x7)]) X dX7_haulFrom_116 (by decide) rfl ?_
  refine g_iload X dX7_haulFrom_118 rfl ?_
  refine g_aload_n X dX7_haulFrom_120 rfl rfl ?_
  refine g_get (ci := 6) (v := vR (mR M4 x0 13)) 13 X cdX7 i_X7_haulFrom_X7 (by decide) k_X7_haulFrom_f53 rfl dX7_haulFrom_121 rfl hT6 rfl ?_
  refine g_iload X dX7_haulFrom_124 rfl ?_
  obtain ⟨hg10, hf⟩ := ck_e hf
  refine g_iald X dX7_haulFrom_126 ha7 hT8 hg10 ?_
  refine g_iload X dX7_haulFrom_127 rfl ?_
  refine g_imul X dX7_haulFrom_129 ?_
  refine g_iadd X dX7_haulFrom_130 ?_
  refine g_istore (lv' := [(5, vI (x5 + ((mI M4 a7 x7.toNatClampNeg) * x7))), (4, vI (x4 + (mI M4 a7 x7.toNatClampNeg))), (0, vR (some x0)), (1, vR x1), (2, vR x2), (3, vI x3), (6, vI x6), (7, vI x7)]) X dX7_haulFrom_131 (by decide) rfl ?_
  refine g_sub (lvsub_of _ _ [2, 3, 4, 5, 1, 0, 6, 7] rfl) ?_
  exact t_X7_haulFrom_133 X hr _ _ _ _ _ _ _ _ _ _ hf hK
set_option maxHeartbeats 4000000 in
set_option maxRecDepth 100000 in
theorem t_X7_haulFrom_85 (X : gX p s m args meth c D cy B (gSt Z B H0) RX7 cX7_haulFrom wsX7_haulFrom 10) (hr : meth.sig.returnType = none) {Q : State → Prop} : ∀ (M : gMem) (x0 : Nat) (x1 : Option Nat) (x2 : Option Nat) (x3 : Int32) (x4 : Int32) (x5 : Int32) (x7 : Int32) (x8 : Int32) (x9 : Int32) (s0 : Int32) (z : (gMem × Int32 × Int32 × Int32 × Int32) ⊕ (Unit × gMem)), b_X7_haulFrom_85 M x0 x1 x2 x3 x4 x5 x7 x8 x9 s0 = some z → (Sum.elim (fun (q : gMem × Int32 × Int32 × Int32 × Int32) => gGo p l e rX7_haulFrom s m args below meth c D cy B H0 10 0 0 Q 17 [(0, vR (some x0)), (1, vR x1), (2, vR x2), (3, vI x3), (4, vI q.2.1), (5, vI q.2.2.1), (6, vI q.2.2.2.1), (7, vI q.2.2.2.2)] [] q.1) (fun (r : Unit × gMem) => Q = gMQ below D cy B H0 args s 0 0 none r.2)) z → gGo p l e rX7_haulFrom s m args below meth c D cy B H0 10 0 0 Q 85 [(0, vR (some x0)), (1, vR x1), (2, vR x2), (3, vI x3), (4, vI x4), (5, vI x5), (7, vI x7), (8, vI x8), (9, vI x9)] [vI s0] M := by
  intro M x0 x1 x2 x3 x4 x5 x7 x8 x9 s0 z hf hK
  unfold b_X7_haulFrom_85 at hf
  refine g_istore (lv' := [(6, vI s0), (0, vR (some x0)), (1, vR x1), (2, vR x2), (3, vI x3), (4, vI x4), (5, vI x5), (7, vI x7), (8, vI x8), (9, vI x9)]) X dX7_haulFrom_85 (by decide) rfl ?_
  refine g_aload_n X dX7_haulFrom_87 rfl rfl ?_
  obtain ⟨hT11, hf⟩ := ck_e hf
  refine g_get (ci := 6) (v := vR (mR M x0 13)) 13 X cdX7 i_X7_haulFrom_X7 (by decide) k_X7_haulFrom_f53 rfl dX7_haulFrom_88 rfl hT11 rfl ?_
  refine g_iload X dX7_haulFrom_91 rfl ?_
  refine g_iload X dX7_haulFrom_93 rfl ?_
  refine g_if_eq (tgt := 103) X dX7_haulFrom_95 (by decide) (fun hc => ?_) (fun hc => ?_)
  · have hf := ife_t hc hf
    refine g_iload X dX7_haulFrom_103 rfl ?_
    refine g_sub (lvsub_of _ _ [1, 2, 3, 4, 5, 6, 0, 7] rfl) ?_
    exact t_X7_haulFrom_105 X hr _ _ _ _ _ _ _ _ _ _ _ _ _ hf hK
  · have hf := ife_f hc hf
    refine g_iload X dX7_haulFrom_98 rfl ?_
    refine g_goto (tgt := 105) X dX7_haulFrom_100 (by decide) ?_
    refine g_sub (lvsub_of _ _ [1, 2, 3, 4, 5, 6, 0, 7] rfl) ?_
    exact t_X7_haulFrom_105 X hr _ _ _ _ _ _ _ _ _ _ _ _ _ hf hK
set_option maxHeartbeats 4000000 in
set_option maxRecDepth 100000 in
theorem tb_X7_haulFrom_17 (X : gX p s m args meth c D cy B (gSt Z B H0) RX7 cX7_haulFrom wsX7_haulFrom 10) (hr : meth.sig.returnType = none) {Q : State → Prop} : ∀ (M : gMem) (x0 : Nat) (x1 : Option Nat) (x2 : Option Nat) (x3 : Int32) (x4 : Int32) (x5 : Int32) (x6 : Int32) (x7 : Int32) (z : (gMem × Int32 × Int32 × Int32 × Int32) ⊕ (Unit × gMem)), bb_X7_haulFrom_17 M x0 x1 x2 x3 x4 x5 x6 x7 = some z → (Sum.elim (fun (q : gMem × Int32 × Int32 × Int32 × Int32) => gGo p l e rX7_haulFrom s m args below meth c D cy B H0 10 0 0 Q 17 [(0, vR (some x0)), (1, vR x1), (2, vR x2), (3, vI x3), (4, vI q.2.1), (5, vI q.2.2.1), (6, vI q.2.2.2.1), (7, vI q.2.2.2.2)] [] q.1) (fun (r : Unit × gMem) => Q = gMQ below D cy B H0 args s 0 0 none r.2)) z → gGo p l e rX7_haulFrom s m args below meth c D cy B H0 10 0 0 Q 17 [(0, vR (some x0)), (1, vR x1), (2, vR x2), (3, vI x3), (4, vI x4), (5, vI x5), (6, vI x6), (7, vI x7)] [] M := by
  intro M x0 x1 x2 x3 x4 x5 x6 x7 z hf hK
  unfold bb_X7_haulFrom_17 at hf
  refine g_iload X dX7_haulFrom_17 rfl ?_
  refine g_iconst (v := (1 : Int32)) X dX7_haulFrom_19 (by decide) ?_
  refine g_icmp_lt (tgt := 139) X dX7_haulFrom_20 (by decide) (fun hc => ?_) (fun hc => ?_)
  · have hf := ife_t hc hf
    refine g_iload X dX7_haulFrom_139 rfl ?_
    refine g_if_eq (tgt := 148) X dX7_haulFrom_141 (by decide) (fun hc => ?_) (fun hc => ?_)
    · have hf := ife_t hc hf
      obtain ⟨w12, hw12, hz12⟩ := oI_e hf
      subst hz12
      have hf := hw12
      refine g_sub (lvsub_of _ _ [] rfl) ?_
      exact t_X7_haulFrom_148 X hr _  _ hf hK
    · have hf := ife_f hc hf
      refine g_aload_n X dX7_haulFrom_144 rfl rfl ?_
      obtain ⟨a14, ha14, hf⟩ := dr_e hf
      obtain ⟨hT15, hf⟩ := ck_e hf
      obtain ⟨r13, M13, hq13, hf⟩ := bd_e hf
      refine g_callV (ci := 0) (b := a14) (As := []) (st := []) (v := none) (M1 := M13) X (m_X1_tear l hq13) (cwV 0 X.2.2.1 gX7_haulFrom_X1_tear rfl rfl rfl (by decide +kernel) ⟨Nat.le_of_ble_eq_true rfl, Nat.le_of_ble_eq_true rfl⟩) rfl rfl ha14 hT15 (by decide) rfl (Nat.le_of_ble_eq_true rfl) dX7_haulFrom_145 ⟨by decide, by decide⟩ ?_
      obtain ⟨w16, hw16, hz16⟩ := oI_e hf
      subst hz16
      have hf := hw16
      refine g_sub (lvsub_of _ _ [] rfl) ?_
      exact t_X7_haulFrom_148 X hr _  _ hf hK
  · have hf := ife_f hc hf
    refine g_aload_n X dX7_haulFrom_23 rfl rfl ?_
    obtain ⟨hT17, hf⟩ := ck_e hf
    refine g_get (ci := 6) (v := vR (mR M x0 13)) 13 X cdX7 i_X7_haulFrom_X7 (by decide) k_X7_haulFrom_f53 rfl dX7_haulFrom_24 rfl hT17 rfl ?_
    refine g_iload X dX7_haulFrom_27 rfl ?_
    refine g_iconst (v := (0 : Int32)) X dX7_haulFrom_29 (by decide) ?_
    obtain ⟨a18, ha18, hf⟩ := dr_e hf
    obtain ⟨hT19, hf⟩ := ck_e hf
    obtain ⟨hg20, hf⟩ := ck_e hf
    refine g_iast X dX7_haulFrom_30 ha18 hT19 hg20 ?_
    obtain ⟨M21, hM21, hf⟩ := lw_e hf
    rw [← hM21]
    have hT22 : mT M21 x0 = 7 := by rw [hM21]; exact hT17
    have hT23 : mT M21 a18 = 20 := by rw [hM21]; exact hT19
    refine g_iload X dX7_haulFrom_31 rfl ?_
    refine g_iload_n X dX7_haulFrom_33 rfl rfl ?_
    refine g_icmp_lt (tgt := 133) X dX7_haulFrom_34 (by decide) (fun hc => ?_) (fun hc => ?_)
    · have hf := ife_t hc hf
      refine g_sub (lvsub_of _ _ [0, 1, 2, 3, 4, 5, 6, 7] rfl) ?_
      exact t_X7_haulFrom_133 X hr _ _ _ _ _ _ _ _ _ _ hf hK
    · have hf := ife_f hc hf
      refine g_iload X dX7_haulFrom_37 rfl ?_
      refine g_if_ne (tgt := 133) X dX7_haulFrom_39 (by decide) (fun hc => ?_) (fun hc => ?_)
      · have hf := ife_f hc hf
        refine g_sub (lvsub_of _ _ [0, 1, 2, 3, 4, 5, 6, 7] rfl) ?_
        exact t_X7_haulFrom_133 X hr _ _ _ _ _ _ _ _ _ _ hf hK
      · have hf := ife_t hc hf
        refine g_aload_n X dX7_haulFrom_42 rfl rfl ?_
        obtain ⟨a24, ha24, hf⟩ := dr_e hf
        obtain ⟨hT25, hf⟩ := ck_e hf
        refine g_get (ci := 2) (v := vR (mR M21 a24 3)) 3 X cdX3 i_X7_haulFrom_X3 (by decide) k_X7_haulFrom_f210 rfl dX7_haulFrom_43 ha24 hT25 rfl ?_
        refine g_iload X dX7_haulFrom_46 rfl ?_
        obtain ⟨a26, ha26, hf⟩ := dr_e hf
        obtain ⟨hT27, hf⟩ := ck_e hf
        obtain ⟨hg28, hf⟩ := ck_e hf
        refine g_iald X dX7_haulFrom_48 ha26 hT27 hg28 ?_
        refine g_aload_n X dX7_haulFrom_49 rfl rfl ?_
        obtain ⟨a29, ha29, hf⟩ := dr_e hf
        obtain ⟨hT30, hf⟩ := ck_e hf
        refine g_get (ci := 0) (v := vI (mI M21 a29 3)) 3 X cdX1 i_X7_haulFrom_X1 (by decide) k_X7_haulFrom_f213 rfl dX7_haulFrom_50 ha29 hT30 rfl ?_
        refine g_iload X dX7_haulFrom_53 rfl ?_
        refine g_isub X dX7_haulFrom_55 ?_
        refine g_min X k_X7_haulFrom_m87 k_X7_haulFrom_mmins k_X7_haulFrom_mi k_X7_haulFrom_mminc (Nat.le_of_ble_eq_true rfl) (Nat.le_of_ble_eq_true rfl) ⟨by decide, by decide⟩ dX7_haulFrom_56 ?_
        refine g_istore (lv' := [(8, vI (imin ((mI M21 a26 x7.toNatClampNeg)) (((mI M21 a29 3) - x4)))), (0, vR (some x0)), (1, vR x1), (2, vR x2), (3, vI x3), (4, vI x4), (5, vI x5), (6, vI x6), (7, vI x7)]) X dX7_haulFrom_59 (by decide) rfl ?_
        refine g_aload_n X dX7_haulFrom_61 rfl rfl ?_
        refine g_get (ci := 0) (v := vI (mI M21 a29 2)) 2 X cdX1 i_X7_haulFrom_X1 (by decide) k_X7_haulFrom_f216 rfl dX7_haulFrom_62 ha29 hT30 rfl ?_
        refine g_iload X dX7_haulFrom_65 rfl ?_
        refine g_isub X dX7_haulFrom_67 ?_
        refine g_iload X dX7_haulFrom_68 rfl ?_
        obtain ⟨hg31, hf⟩ := ck_e hf
        refine g_idiv X dX7_haulFrom_70 hg31 ?_
        refine g_istore (lv' := [(9, vI (((mI M21 a29 2) - x5) / x7)), (8, vI (imin ((mI M21 a26 x7.toNatClampNeg)) (((mI M21 a29 3) - x4)))), (0, vR (some x0)), (1, vR x1), (2, vR x2), (3, vI x3), (4, vI x4), (5, vI x5), (6, vI x6), (7, vI x7)]) X dX7_haulFrom_71 (by decide) rfl ?_
        refine g_iload X dX7_haulFrom_73 rfl ?_
        refine g_iload X dX7_haulFrom_75 rfl ?_
        refine g_icmp_le (tgt := 84) X dX7_haulFrom_77 (by decide) (fun hc => ?_) (fun hc => ?_)
        · have hf := ife_t hc hf
          refine g_iconst (v := (0 : Int32)) X dX7_haulFrom_84 (by decide) ?_
          refine g_sub (lvsub_of _ _ [2, 3, 4, 5, 6, 7, 9, 1, 0] rfl) ?_
          exact t_X7_haulFrom_85 X hr _ _ _ _ _ _ _ _ _ _ _ _ hf hK
        · have hf := ife_f hc hf
          refine g_iconst (v := (1 : Int32)) X dX7_haulFrom_80 (by decide) ?_
          refine g_goto (tgt := 85) X dX7_haulFrom_81 (by decide) ?_
          refine g_sub (lvsub_of _ _ [2, 3, 4, 5, 6, 7, 9, 1, 0] rfl) ?_
          exact t_X7_haulFrom_85 X hr _ _ _ _ _ _ _ _ _ _ _ _ hf hK
set_option maxHeartbeats 4000000 in
set_option maxRecDepth 100000 in
theorem tl_X7_haulFrom_17 (X : gX p s m args meth c D cy B (gSt Z B H0) RX7 cX7_haulFrom wsX7_haulFrom 10) (hr : meth.sig.returnType = none) {Q : State → Prop} : ∀ (M : gMem) (x0 : Nat) (x1 : Option Nat) (x2 : Option Nat) (x3 : Int32) (x4 : Int32) (x5 : Int32) (x6 : Int32) (x7 : Int32) (z : Unit × gMem), lp_X7_haulFrom_17 M x0 x1 x2 x3 x4 x5 x6 x7 = some z → (fun (r : Unit × gMem) => Q = gMQ below D cy B H0 args s 0 0 none r.2) z → gGo p l e rX7_haulFrom s m args below meth c D cy B H0 10 0 0 Q 17 [(0, vR (some x0)), (1, vR x1), (2, vR x2), (3, vI x3), (4, vI x4), (5, vI x5), (6, vI x6), (7, vI x7)] [] M := by
  intro M x0 x1 x2 x3 x4 x5 x6 x7 z hf hK
  refine lp_ind (P := (fun (q : gMem × Int32 × Int32 × Int32 × Int32) (z : Unit × gMem) => (fun (r : Unit × gMem) => Q = gMQ below D cy B H0 args s 0 0 none r.2) z → gGo p l e rX7_haulFrom s m args below meth c D cy B H0 10 0 0 Q 17 [(0, vR (some x0)), (1, vR x1), (2, vR x2), (3, vI x3), (4, vI q.2.1), (5, vI q.2.2.1), (6, vI q.2.2.2.1), (7, vI q.2.2.2.2)] [] q.1)) (fun q z hq => ?_) _ _ hf hK
  intro hK
  obtain ⟨w, hw, hm⟩ := hq
  refine tb_X7_haulFrom_17 X hr _ _ _ _ _ _ _ _ _ w hw ?_
  cases w with
  | inl a => exact hm hK
  | inr b => cases hm; exact hK
set_option maxHeartbeats 4000000 in
set_option maxRecDepth 100000 in
theorem t_X7_haulFrom_0 (X : gX p s m args meth c D cy B (gSt Z B H0) RX7 cX7_haulFrom wsX7_haulFrom 10) (hr : meth.sig.returnType = none) {Q : State → Prop} : ∀ (M : gMem) (x0 : Nat) (x1 : Option Nat) (x2 : Option Nat) (z : Unit × gMem), b_X7_haulFrom_0 M x0 x1 x2 = some z → (fun (r : Unit × gMem) => Q = gMQ below D cy B H0 args s 0 0 none r.2) z → gGo p l e rX7_haulFrom s m args below meth c D cy B H0 10 0 0 Q 0 [(0, vR (some x0)), (1, vR x1), (2, vR x2)] [] M := by
  intro M x0 x1 x2 z hf hK
  unfold b_X7_haulFrom_0 at hf
  refine g_aload_n X dX7_haulFrom_0 rfl rfl ?_
  obtain ⟨a32, ha32, hf⟩ := dr_e hf
  obtain ⟨hT33, hf⟩ := ck_e hf
  refine g_get (ci := 0) (v := vI (mI M a32 1)) 1 X cdX1 i_X7_haulFrom_X1 (by decide) k_X7_haulFrom_f119 rfl dX7_haulFrom_1 ha32 hT33 rfl ?_
  refine g_istore_n (lv' := [(3, vI (mI M a32 1)), (0, vR (some x0)), (1, vR x1), (2, vR x2)]) X dX7_haulFrom_4 rfl (by decide) rfl ?_
  refine g_iconst (v := (0 : Int32)) X dX7_haulFrom_5 (by decide) ?_
  refine g_istore (lv' := [(4, vI (0 : Int32)), (3, vI (mI M a32 1)), (0, vR (some x0)), (1, vR x1), (2, vR x2)]) X dX7_haulFrom_6 (by decide) rfl ?_
  refine g_iconst (v := (0 : Int32)) X dX7_haulFrom_8 (by decide) ?_
  refine g_istore (lv' := [(5, vI (0 : Int32)), (4, vI (0 : Int32)), (3, vI (mI M a32 1)), (0, vR (some x0)), (1, vR x1), (2, vR x2)]) X dX7_haulFrom_9 (by decide) rfl ?_
  refine g_iconst (v := (0 : Int32)) X dX7_haulFrom_11 (by decide) ?_
  refine g_istore (lv' := [(6, vI (0 : Int32)), (5, vI (0 : Int32)), (4, vI (0 : Int32)), (3, vI (mI M a32 1)), (0, vR (some x0)), (1, vR x1), (2, vR x2)]) X dX7_haulFrom_12 (by decide) rfl ?_
  refine g_iconst (v := (5 : Int32)) X dX7_haulFrom_14 (by decide) ?_
  refine g_istore (lv' := [(7, vI (5 : Int32)), (6, vI (0 : Int32)), (5, vI (0 : Int32)), (4, vI (0 : Int32)), (3, vI (mI M a32 1)), (0, vR (some x0)), (1, vR x1), (2, vR x2)]) X dX7_haulFrom_15 (by decide) rfl ?_
  refine g_sub (lvsub_of _ _ [5, 6, 7, 4, 3, 2, 1, 0] rfl) ?_
  exact tl_X7_haulFrom_17 X hr _ _ _ _ _ _ _ _ _ _ hf hK
set_option maxHeartbeats 4000000 in
set_option maxRecDepth 100000 in
theorem m_X7_haulFrom (l : Launch) {D : va_G} {cy : Nat → ClassId} {B : Nat} {H0 : Heap} {Z : Nat → Nat} {M M1 : gMem} {x0 : Nat} {x1 : Option Nat} {x2 : Option Nat} {r : Unit} (hf : f_X7_haulFrom M x0 x1 x2 = some (r, M1)) : Met l yX7_haulFrom wsX7_haulFrom rX7_haulFrom (va_Pc (Value.ref x0 :: List.map gv [vR x1, vR x2]) (gPre D cy B H0 (gSt Z B H0) M)) (gQ D cy B H0 none M1) 0 0 (gA B) := by
  refine Met.ofW (cc := cX7_haulFrom) (maxL := 10) (ret := none) (by decide) rfl ?_
  intro p e s m args below meth c s₁ Bd hml hv
  obtain ⟨rfl, hW, hKK, hFs⟩ := hv
  have X : gX p s m _ meth c D cy B (gSt Z B H0) RX7 cX7_haulFrom wsX7_haulFrom 10 := ⟨Bd.exec, Bd.bytes, atoms_spec (ws := wsX7_haulFrom) Bd.pre, findClass_of_methodNamed Bd.named, hml, hKK, by rw [hW.1]; exact hW.2.1, Bd.notSynchronized, hFs⟩
  have hr := Bd.returns
  rcases x1 with _ | x1
  · rcases x2 with _ | x2
    · have hl := lv_entry ([.ref x0, .null, .null]) (n := 10) (Nat.le_of_ble_eq_true rfl)
      show W p l e rX7_haulFrom s m _ below meth c s.heap [] 0 0 _ (entryFrame m ([.ref x0, .null, .null] : List Value).toArray 10)
      rw [lg_entry_eq]
      generalize (lg_sl ([.ref x0, .null, .null]) ++ List.replicate (10 - (lg_sl ([.ref x0, .null, .null])).length) Slot.unset).toArray = ls at hl ⊢
      have hl : lv_has ls 10 (List.map gq [(0, vR (some x0)), (1, vR none), (2, vR none)]) := hl
      exact t_X7_haulFrom_0 X hr _ _ _ _ _ hf rfl s.heap [] ls hW va_S.rf (lv_has_sub hl (lvsub_of _ _ [0, 1, 2] rfl))
    · have hl := lv_entry ([.ref x0, .null, .ref x2]) (n := 10) (Nat.le_of_ble_eq_true rfl)
      show W p l e rX7_haulFrom s m _ below meth c s.heap [] 0 0 _ (entryFrame m ([.ref x0, .null, .ref x2] : List Value).toArray 10)
      rw [lg_entry_eq]
      generalize (lg_sl ([.ref x0, .null, .ref x2]) ++ List.replicate (10 - (lg_sl ([.ref x0, .null, .ref x2])).length) Slot.unset).toArray = ls at hl ⊢
      have hl : lv_has ls 10 (List.map gq [(0, vR (some x0)), (1, vR none), (2, vR (some x2))]) := hl
      exact t_X7_haulFrom_0 X hr _ _ _ _ _ hf rfl s.heap [] ls hW va_S.rf (lv_has_sub hl (lvsub_of _ _ [0, 1, 2] rfl))
  · rcases x2 with _ | x2
    · have hl := lv_entry ([.ref x0, .ref x1, .null]) (n := 10) (Nat.le_of_ble_eq_true rfl)
      show W p l e rX7_haulFrom s m _ below meth c s.heap [] 0 0 _ (entryFrame m ([.ref x0, .ref x1, .null] : List Value).toArray 10)
      rw [lg_entry_eq]
      generalize (lg_sl ([.ref x0, .ref x1, .null]) ++ List.replicate (10 - (lg_sl ([.ref x0, .ref x1, .null])).length) Slot.unset).toArray = ls at hl ⊢
      have hl : lv_has ls 10 (List.map gq [(0, vR (some x0)), (1, vR (some x1)), (2, vR none)]) := hl
      exact t_X7_haulFrom_0 X hr _ _ _ _ _ hf rfl s.heap [] ls hW va_S.rf (lv_has_sub hl (lvsub_of _ _ [0, 1, 2] rfl))
    · have hl := lv_entry ([.ref x0, .ref x1, .ref x2]) (n := 10) (Nat.le_of_ble_eq_true rfl)
      show W p l e rX7_haulFrom s m _ below meth c s.heap [] 0 0 _ (entryFrame m ([.ref x0, .ref x1, .ref x2] : List Value).toArray 10)
      rw [lg_entry_eq]
      generalize (lg_sl ([.ref x0, .ref x1, .ref x2]) ++ List.replicate (10 - (lg_sl ([.ref x0, .ref x1, .ref x2])).length) Slot.unset).toArray = ls at hl ⊢
      have hl : lv_has ls 10 (List.map gq [(0, vR (some x0)), (1, vR (some x1)), (2, vR (some x2))]) := hl
      exact t_X7_haulFrom_0 X hr _ _ _ _ _ hf rfl s.heap [] ls hW va_S.rf (lv_has_sub hl (lvsub_of _ _ [0, 1, 2] rfl))
/-! ## TideLots$Shore.landHaul(LTideLots$Ground;LTideLots$Fisher;)I -/
theorem dX7_landHaul_0 : decode cX7_landHaul 0 = .ok (.iconst 0, 1) := by decide +kernel
theorem dX7_landHaul_1 : decode cX7_landHaul 1 = .ok (.istore_n 3, 1) := by decide +kernel
theorem dX7_landHaul_2 : decode cX7_landHaul 2 = .ok (.iconst 1, 1) := by decide +kernel
theorem dX7_landHaul_3 : decode cX7_landHaul 3 = .ok (.istore 4, 2) := by decide +kernel
theorem dX7_landHaul_5 : decode cX7_landHaul 5 = .ok (.iload 4, 2) := by decide +kernel
theorem dX7_landHaul_7 : decode cX7_landHaul 7 = .ok (.iconst 5, 1) := by decide +kernel
theorem dX7_landHaul_8 : decode cX7_landHaul 8 = .ok (.if_icmp .gt 64, 3) := by decide +kernel
theorem dX7_landHaul_11 : decode cX7_landHaul 11 = .ok (.iload 4, 2) := by decide +kernel
theorem dX7_landHaul_13 : decode cX7_landHaul 13 = .ok (.aload_n 2, 1) := by decide +kernel
theorem dX7_landHaul_14 : decode cX7_landHaul 14 = .ok (.getfield 119, 3) := by decide +kernel
theorem dX7_landHaul_17 : decode cX7_landHaul 17 = .ok (.if_icmp .lt 49, 3) := by decide +kernel
theorem dX7_landHaul_20 : decode cX7_landHaul 20 = .ok (.iload_n 3, 1) := by decide +kernel
theorem dX7_landHaul_21 : decode cX7_landHaul 21 = .ok (.aload_n 0, 1) := by decide +kernel
theorem dX7_landHaul_22 : decode cX7_landHaul 22 = .ok (.getfield 53, 3) := by decide +kernel
theorem dX7_landHaul_25 : decode cX7_landHaul 25 = .ok (.iload 4, 2) := by decide +kernel
theorem dX7_landHaul_27 : decode cX7_landHaul 27 = .ok (.iaload, 1) := by decide +kernel
theorem dX7_landHaul_28 : decode cX7_landHaul 28 = .ok (.iadd, 1) := by decide +kernel
theorem dX7_landHaul_29 : decode cX7_landHaul 29 = .ok (.istore_n 3, 1) := by decide +kernel
theorem dX7_landHaul_30 : decode cX7_landHaul 30 = .ok (.aload_n 2, 1) := by decide +kernel
theorem dX7_landHaul_31 : decode cX7_landHaul 31 = .ok (.dup, 1) := by decide +kernel
theorem dX7_landHaul_32 : decode cX7_landHaul 32 = .ok (.getfield 196, 3) := by decide +kernel
theorem dX7_landHaul_35 : decode cX7_landHaul 35 = .ok (.aload_n 0, 1) := by decide +kernel
theorem dX7_landHaul_36 : decode cX7_landHaul 36 = .ok (.getfield 53, 3) := by decide +kernel
theorem dX7_landHaul_39 : decode cX7_landHaul 39 = .ok (.iload 4, 2) := by decide +kernel
theorem dX7_landHaul_41 : decode cX7_landHaul 41 = .ok (.iaload, 1) := by decide +kernel
theorem dX7_landHaul_42 : decode cX7_landHaul 42 = .ok (.iload 4, 2) := by decide +kernel
theorem dX7_landHaul_44 : decode cX7_landHaul 44 = .ok (.imul, 1) := by decide +kernel
theorem dX7_landHaul_45 : decode cX7_landHaul 45 = .ok (.iadd, 1) := by decide +kernel
theorem dX7_landHaul_46 : decode cX7_landHaul 46 = .ok (.putfield 196, 3) := by decide +kernel
theorem dX7_landHaul_49 : decode cX7_landHaul 49 = .ok (.aload_n 1, 1) := by decide +kernel
theorem dX7_landHaul_50 : decode cX7_landHaul 50 = .ok (.getfield 210, 3) := by decide +kernel
theorem dX7_landHaul_53 : decode cX7_landHaul 53 = .ok (.iload 4, 2) := by decide +kernel
theorem dX7_landHaul_55 : decode cX7_landHaul 55 = .ok (.dup2, 1) := by decide +kernel
theorem dX7_landHaul_56 : decode cX7_landHaul 56 = .ok (.iaload, 1) := by decide +kernel
theorem dX7_landHaul_57 : decode cX7_landHaul 57 = .ok (.aload_n 0, 1) := by decide +kernel
theorem dX7_landHaul_58 : decode cX7_landHaul 58 = .ok (.getfield 53, 3) := by decide +kernel
theorem dX7_landHaul_61 : decode cX7_landHaul 61 = .ok (.iload 4, 2) := by decide +kernel
theorem dX7_landHaul_63 : decode cX7_landHaul 63 = .ok (.iaload, 1) := by decide +kernel
theorem dX7_landHaul_64 : decode cX7_landHaul 64 = .ok (.isub, 1) := by decide +kernel
theorem dX7_landHaul_65 : decode cX7_landHaul 65 = .ok (.iastore, 1) := by decide +kernel
theorem dX7_landHaul_66 : decode cX7_landHaul 66 = .ok (.iinc 4 1, 3) := by decide +kernel
theorem dX7_landHaul_69 : decode cX7_landHaul 69 = .ok (.goto (-64), 3) := by decide +kernel
theorem dX7_landHaul_72 : decode cX7_landHaul 72 = .ok (.aload_n 2, 1) := by decide +kernel
theorem dX7_landHaul_73 : decode cX7_landHaul 73 = .ok (.dup, 1) := by decide +kernel
theorem dX7_landHaul_74 : decode cX7_landHaul 74 = .ok (.getfield 222, 3) := by decide +kernel
theorem dX7_landHaul_77 : decode cX7_landHaul 77 = .ok (.iload_n 3, 1) := by decide +kernel
theorem dX7_landHaul_78 : decode cX7_landHaul 78 = .ok (.iadd, 1) := by decide +kernel
theorem dX7_landHaul_79 : decode cX7_landHaul 79 = .ok (.putfield 222, 3) := by decide +kernel
theorem dX7_landHaul_82 : decode cX7_landHaul 82 = .ok (.aload_n 1, 1) := by decide +kernel
theorem dX7_landHaul_83 : decode cX7_landHaul 83 = .ok (.dup, 1) := by decide +kernel
theorem dX7_landHaul_84 : decode cX7_landHaul 84 = .ok (.getfield 225, 3) := by decide +kernel
theorem dX7_landHaul_87 : decode cX7_landHaul 87 = .ok (.iload_n 3, 1) := by decide +kernel
theorem dX7_landHaul_88 : decode cX7_landHaul 88 = .ok (.iadd, 1) := by decide +kernel
theorem dX7_landHaul_89 : decode cX7_landHaul 89 = .ok (.putfield 225, 3) := by decide +kernel
theorem dX7_landHaul_92 : decode cX7_landHaul 92 = .ok (.iload_n 3, 1) := by decide +kernel
theorem dX7_landHaul_93 : decode cX7_landHaul 93 = .ok (.ireturn, 1) := by decide +kernel
theorem k_X7_landHaul_f222 : Cond.fieldLink RX7 222 "TideLots$Fisher" "caught" "I" ∈ wsX7_landHaul := by decide +kernel
theorem i_X7_landHaul_X1 : ∀ w ∈ u_ws RX1 TX1 11, w ∈ wsX7_landHaul := by decide +kernel
theorem k_X7_landHaul_f225 : Cond.fieldLink RX7 225 "TideLots$Ground" "caught" "I" ∈ wsX7_landHaul := by decide +kernel
theorem i_X7_landHaul_X3 : ∀ w ∈ u_ws RX3 TX3 4, w ∈ wsX7_landHaul := by decide +kernel
theorem k_X7_landHaul_f119 : Cond.fieldLink RX7 119 "TideLots$Fisher" "mesh" "I" ∈ wsX7_landHaul := by decide +kernel
theorem k_X7_landHaul_f53 : Cond.fieldLink RX7 53 "TideLots$Shore" "haul" "[I" ∈ wsX7_landHaul := by decide +kernel
theorem i_X7_landHaul_X7 : ∀ w ∈ u_ws RX7 TX7 17, w ∈ wsX7_landHaul := by decide +kernel
theorem k_X7_landHaul_f196 : Cond.fieldLink RX7 196 "TideLots$Fisher" "latest" "I" ∈ wsX7_landHaul := by decide +kernel
theorem k_X7_landHaul_f210 : Cond.fieldLink RX7 210 "TideLots$Ground" "fish" "[I" ∈ wsX7_landHaul := by decide +kernel
abbrev rX7_landHaul : Room := { frames := 0, cells := 0, slots := 0, locals := 0 }
noncomputable def b_X7_landHaul_66 (M : gMem) (x0 : Nat) (x1 : Option Nat) (x2 : Option Nat) (x3 : Int32) (x4 : Int32) : Option ((gMem × Int32 × Int32) ⊕ (Int32 × gMem)) :=
  some (.inl (M, x3, (x4 + (1 : Int32))))
noncomputable def bb_X7_landHaul_5 (M : gMem) (x0 : Nat) (x1 : Option Nat) (x2 : Option Nat) (x3 : Int32) (x4 : Int32) : Option ((gMem × Int32 × Int32) ⊕ (Int32 × gMem)) :=
  (if (5 : Int32) < x4 then dr x2 fun a1 => ck (mT M a1 = 1) <| lw (wI M a1 8 (((mI M a1 8) + x3))) fun M3 => dr x1 fun a5 => ck (mT M3 a5 = 3) <| lw (wI M3 a5 2 (((mI M3 a5 2) + x3))) fun M7 => oI (some (x3, M7)) else dr x2 fun a11 => ck (mT M a11 = 1) <| (if x4 < (mI M a11 1) then b_X7_landHaul_66 M x0 x1 x2 x3 x4 else ck (mT M x0 = 7) <| dr ((mR M x0 13)) fun a14 => ck (mT M a14 = 20) <| ck (inb x4 (mL M a14)) <| ck (inb x4 (mL M a14)) <| lw (wI M a11 5 (((mI M a11 5) + ((mI M a14 x4.toNatClampNeg) * x4)))) fun M18 => dr x1 fun a22 => ck (mT M18 a22 = 3) <| dr ((mR M18 a22 3)) fun a24 => ck (mT M18 a24 = 20) <| ck (inb x4 (mL M18 a24)) <| dr ((mR M18 x0 13)) fun a27 => ck (mT M18 a27 = 20) <| ck (inb x4 (mL M18 a27)) <| ck (inb x4 (mL M18 a24)) <| lw (wI M18 a24 x4.toNatClampNeg (((mI M18 a24 x4.toNatClampNeg) - (mI M18 a27 x4.toNatClampNeg)))) fun M31 => b_X7_landHaul_66 M31 x0 x1 x2 ((x3 + (mI M a14 x4.toNatClampNeg))) x4))
noncomputable def lp_X7_landHaul_5 (M : gMem) (x0 : Nat) (x1 : Option Nat) (x2 : Option Nat) (x3 : Int32) (x4 : Int32) : Option (Int32 × gMem) :=
  lp (fun (q : gMem × Int32 × Int32) => bb_X7_landHaul_5 q.1 x0 x1 x2 q.2.1 q.2.2) (M, x3, x4)
noncomputable def b_X7_landHaul_0 (M : gMem) (x0 : Nat) (x1 : Option Nat) (x2 : Option Nat) : Option (Int32 × gMem) :=
  lp_X7_landHaul_5 M x0 x1 x2 ((0 : Int32)) ((1 : Int32))
noncomputable def f_X7_landHaul (M : gMem) (x0 : Nat) (x1 : Option Nat) (x2 : Option Nat) : Option (Int32 × gMem) :=
  b_X7_landHaul_0 M x0 x1 x2
set_option maxHeartbeats 4000000 in
set_option maxRecDepth 100000 in
theorem t_X7_landHaul_66 (X : gX p s m args meth c D cy B (gSt Z B H0) RX7 cX7_landHaul wsX7_landHaul 5) (hr : meth.sig.returnType = (some .int)) {Q : State → Prop} : ∀ (M : gMem) (x0 : Nat) (x1 : Option Nat) (x2 : Option Nat) (x3 : Int32) (x4 : Int32) (z : (gMem × Int32 × Int32) ⊕ (Int32 × gMem)), b_X7_landHaul_66 M x0 x1 x2 x3 x4 = some z → (Sum.elim (fun (q : gMem × Int32 × Int32) => gGo p l e rX7_landHaul s m args below meth c D cy B H0 5 0 0 Q 5 [(0, vR (some x0)), (1, vR x1), (2, vR x2), (3, vI q.2.1), (4, vI q.2.2)] [] q.1) (fun (r : Int32 × gMem) => Q = gMQ below D cy B H0 args s 0 0 (some (vI r.1)) r.2)) z → gGo p l e rX7_landHaul s m args below meth c D cy B H0 5 0 0 Q 66 [(0, vR (some x0)), (1, vR x1), (2, vR x2), (3, vI x3), (4, vI x4)] [] M := by
  intro M x0 x1 x2 x3 x4 z hf hK
  unfold b_X7_landHaul_66 at hf
  refine g_iinc (v := (1 : Int32)) (lv' := [(4, vI (x4 + (1 : Int32))), (0, vR (some x0)), (1, vR x1), (2, vR x2), (3, vI x3)]) X dX7_landHaul_66 rfl (by decide) (by decide) rfl ?_
  refine g_goto (tgt := 5) X dX7_landHaul_69 (by decide) ?_
  cases hf
  refine g_sub (lvsub_of _ _ [1, 2, 3, 4, 0] rfl) ?_
  exact hK
set_option maxHeartbeats 4000000 in
set_option maxRecDepth 100000 in
theorem tb_X7_landHaul_5 (X : gX p s m args meth c D cy B (gSt Z B H0) RX7 cX7_landHaul wsX7_landHaul 5) (hr : meth.sig.returnType = (some .int)) {Q : State → Prop} : ∀ (M : gMem) (x0 : Nat) (x1 : Option Nat) (x2 : Option Nat) (x3 : Int32) (x4 : Int32) (z : (gMem × Int32 × Int32) ⊕ (Int32 × gMem)), bb_X7_landHaul_5 M x0 x1 x2 x3 x4 = some z → (Sum.elim (fun (q : gMem × Int32 × Int32) => gGo p l e rX7_landHaul s m args below meth c D cy B H0 5 0 0 Q 5 [(0, vR (some x0)), (1, vR x1), (2, vR x2), (3, vI q.2.1), (4, vI q.2.2)] [] q.1) (fun (r : Int32 × gMem) => Q = gMQ below D cy B H0 args s 0 0 (some (vI r.1)) r.2)) z → gGo p l e rX7_landHaul s m args below meth c D cy B H0 5 0 0 Q 5 [(0, vR (some x0)), (1, vR x1), (2, vR x2), (3, vI x3), (4, vI x4)] [] M := by
  intro M x0 x1 x2 x3 x4 z hf hK
  unfold bb_X7_landHaul_5 at hf
  refine g_iload X dX7_landHaul_5 rfl ?_
  refine g_iconst (v := (5 : Int32)) X dX7_landHaul_7 (by decide) ?_
  refine g_icmp_gt (tgt := 72) X dX7_landHaul_8 (by decide) (fun hc => ?_) (fun hc => ?_)
  · have hf := ife_t hc hf
    refine g_aload_n X dX7_landHaul_72 rfl rfl ?_
    refine g_dup X dX7_landHaul_73 rfl ?_
    obtain ⟨a1, ha1, hf⟩ := dr_e hf
    obtain ⟨hT2, hf⟩ := ck_e hf
    refine g_get (ci := 0) (v := vI (mI M a1 8)) 8 X cdX1 i_X7_landHaul_X1 (by decide) k_X7_landHaul_f222 rfl dX7_landHaul_74 ha1 hT2 rfl ?_
    refine g_iload_n X dX7_landHaul_77 rfl rfl ?_
    refine g_iadd X dX7_landHaul_78 ?_
    refine g_putI (ci := 0) 8 X cdX1 i_X7_landHaul_X1 (by decide) k_X7_landHaul_f222 rfl dX7_landHaul_79 ha1 hT2 (Or.inl rfl) rfl rfl rfl ?_
    obtain ⟨M3, hM3, hf⟩ := lw_e hf
    rw [← hM3]
    have hT4 : mT M3 a1 = 1 := by rw [hM3]; exact hT2
    refine g_aload_n X dX7_landHaul_82 rfl rfl ?_
    refine g_dup X dX7_landHaul_83 rfl ?_
    obtain ⟨a5, ha5, hf⟩ := dr_e hf
    obtain ⟨hT6, hf⟩ := ck_e hf
    refine g_get (ci := 2) (v := vI (mI M3 a5 2)) 2 X cdX3 i_X7_landHaul_X3 (by decide) k_X7_landHaul_f225 rfl dX7_landHaul_84 ha5 hT6 rfl ?_
    refine g_iload_n X dX7_landHaul_87 rfl rfl ?_
    refine g_iadd X dX7_landHaul_88 ?_
    refine g_putI (ci := 2) 2 X cdX3 i_X7_landHaul_X3 (by decide) k_X7_landHaul_f225 rfl dX7_landHaul_89 ha5 hT6 (Or.inl rfl) rfl rfl rfl ?_
    obtain ⟨M7, hM7, hf⟩ := lw_e hf
    rw [← hM7]
    have hT8 : mT M7 a1 = 1 := by rw [hM7]; exact hT4
    have hT9 : mT M7 a5 = 3 := by rw [hM7]; exact hT6
    refine g_iload_n X dX7_landHaul_92 rfl rfl ?_
    obtain ⟨w10, hw10, hz10⟩ := oI_e hf
    subst hz10
    have hf := hw10
    cases hf
    refine g_eqQ hK ?_
    exact g_iret X hr dX7_landHaul_93
  · have hf := ife_f hc hf
    refine g_iload X dX7_landHaul_11 rfl ?_
    refine g_aload_n X dX7_landHaul_13 rfl rfl ?_
    obtain ⟨a11, ha11, hf⟩ := dr_e hf
    obtain ⟨hT12, hf⟩ := ck_e hf
    refine g_get (ci := 0) (v := vI (mI M a11 1)) 1 X cdX1 i_X7_landHaul_X1 (by decide) k_X7_landHaul_f119 rfl dX7_landHaul_14 ha11 hT12 rfl ?_
    refine g_icmp_lt (tgt := 66) X dX7_landHaul_17 (by decide) (fun hc => ?_) (fun hc => ?_)
    · have hf := ife_t hc hf
      refine g_sub (lvsub_of _ _ [0, 1, 2, 3, 4] rfl) ?_
      exact t_X7_landHaul_66 X hr _ _ _ _ _ _ _ hf hK
    · have hf := ife_f hc hf
      refine g_iload_n X dX7_landHaul_20 rfl rfl ?_
      refine g_aload_n X dX7_landHaul_21 rfl rfl ?_
      obtain ⟨hT13, hf⟩ := ck_e hf
      refine g_get (ci := 6) (v := vR (mR M x0 13)) 13 X cdX7 i_X7_landHaul_X7 (by decide) k_X7_landHaul_f53 rfl dX7_landHaul_22 rfl hT13 rfl ?_
      refine g_iload X dX7_landHaul_25 rfl ?_
      obtain ⟨a14, ha14, hf⟩ := dr_e hf
      obtain ⟨hT15, hf⟩ := ck_e hf
      obtain ⟨hg16, hf⟩ := ck_e hf
      refine g_iald X dX7_landHaul_27 ha14 hT15 hg16 ?_
      refine g_iadd X dX7_landHaul_28 ?_
      refine g_istore_n (lv' := [(3, vI (x3 + (mI M a14 x4.toNatClampNeg))), (0, vR (some x0)), (1, vR x1), (2, vR x2), (4, vI x4)]) X dX7_landHaul_29 rfl (by decide) rfl ?_
      refine g_aload_n X dX7_landHaul_30 rfl rfl ?_
      refine g_dup X dX7_landHaul_31 rfl ?_
      refine g_get (ci := 0) (v := vI (mI M a11 5)) 5 X cdX1 i_X7_landHaul_X1 (by decide) k_X7_landHaul_f196 rfl dX7_landHaul_32 ha11 hT12 rfl ?_
      refine g_aload_n X dX7_landHaul_35 rfl rfl ?_
      refine g_get (ci := 6) (v := vR (mR M x0 13)) 13 X cdX7 i_X7_landHaul_X7 (by decide) k_X7_landHaul_f53 rfl dX7_landHaul_36 rfl hT13 rfl ?_
      refine g_iload X dX7_landHaul_39 rfl ?_
      obtain ⟨hg17, hf⟩ := ck_e hf
      refine g_iald X dX7_landHaul_41 ha14 hT15 hg17 ?_
      refine g_iload X dX7_landHaul_42 rfl ?_
      refine g_imul X dX7_landHaul_44 ?_
      refine g_iadd X dX7_landHaul_45 ?_
      refine g_putI (ci := 0) 5 X cdX1 i_X7_landHaul_X1 (by decide) k_X7_landHaul_f196 rfl dX7_landHaul_46 ha11 hT12 (Or.inl rfl) rfl rfl rfl ?_
      obtain ⟨M18, hM18, hf⟩ := lw_e hf
      rw [← hM18]
      have hT19 : mT M18 a11 = 1 := by rw [hM18]; exact hT12
      have hT20 : mT M18 x0 = 7 := by rw [hM18]; exact hT13
      have hT21 : mT M18 a14 = 20 := by rw [hM18]; exact hT15
      refine g_aload_n X dX7_landHaul_49 rfl rfl ?_
      obtain ⟨a22, ha22, hf⟩ := dr_e hf
      obtain ⟨hT23, hf⟩ := ck_e hf
      refine g_get (ci := 2) (v := vR (mR M18 a22 3)) 3 X cdX3 i_X7_landHaul_X3 (by decide) k_X7_landHaul_f210 rfl dX7_landHaul_50 ha22 hT23 rfl ?_
      refine g_iload X dX7_landHaul_53 rfl ?_
      refine g_dup2 X dX7_landHaul_55 rfl rfl ?_
      obtain ⟨a24, ha24, hf⟩ := dr_e hf
      obtain ⟨hT25, hf⟩ := ck_e hf
      obtain ⟨hg26, hf⟩ := ck_e hf
      refine g_iald X dX7_landHaul_56 ha24 hT25 hg26 ?_
      refine g_aload_n X dX7_landHaul_57 rfl rfl ?_
      refine g_get (ci := 6) (v := vR (mR M18 x0 13)) 13 X cdX7 i_X7_landHaul_X7 (by decide) k_X7_landHaul_f53 rfl dX7_landHaul_58 rfl hT20 rfl ?_
      refine g_iload X dX7_landHaul_61 rfl ?_
      obtain ⟨a27, ha27, hf⟩ := dr_e hf
      obtain ⟨hT28, hf⟩ := ck_e hf
      obtain ⟨hg29, hf⟩ := ck_e hf
      refine g_iald X dX7_landHaul_63 ha27 hT28 hg29 ?_
      refine g_isub X dX7_landHaul_64 ?_
      obtain ⟨hg30, hf⟩ := ck_e hf
      refine g_iast X dX7_landHaul_65 ha24 hT25 hg30 ?_
      obtain ⟨M31, hM31, hf⟩ := lw_e hf
      rw [← hM31]
      have hT32 : mT M31 a11 = 1 := by rw [hM31]; exact hT19
      have hT33 : mT M31 x0 = 7 := by rw [hM31]; exact hT20
      have hT34 : mT M31 a14 = 20 := by rw [hM31]; exact hT21
      have hT35 : mT M31 a22 = 3 := by rw [hM31]; exact hT23
      have hT36 : mT M31 a24 = 20 := by rw [hM31]; exact hT25
      have hT37 : mT M31 a27 = 20 := by rw [hM31]; exact hT28
      refine g_sub (lvsub_of _ _ [1, 2, 3, 0, 4] rfl) ?_
      exact t_X7_landHaul_66 X hr _ _ _ _ _ _ _ hf hK
set_option maxHeartbeats 4000000 in
set_option maxRecDepth 100000 in
theorem tl_X7_landHaul_5 (X : gX p s m args meth c D cy B (gSt Z B H0) RX7 cX7_landHaul wsX7_landHaul 5) (hr : meth.sig.returnType = (some .int)) {Q : State → Prop} : ∀ (M : gMem) (x0 : Nat) (x1 : Option Nat) (x2 : Option Nat) (x3 : Int32) (x4 : Int32) (z : Int32 × gMem), lp_X7_landHaul_5 M x0 x1 x2 x3 x4 = some z → (fun (r : Int32 × gMem) => Q = gMQ below D cy B H0 args s 0 0 (some (vI r.1)) r.2) z → gGo p l e rX7_landHaul s m args below meth c D cy B H0 5 0 0 Q 5 [(0, vR (some x0)), (1, vR x1), (2, vR x2), (3, vI x3), (4, vI x4)] [] M := by
  intro M x0 x1 x2 x3 x4 z hf hK
  refine lp_ind (P := (fun (q : gMem × Int32 × Int32) (z : Int32 × gMem) => (fun (r : Int32 × gMem) => Q = gMQ below D cy B H0 args s 0 0 (some (vI r.1)) r.2) z → gGo p l e rX7_landHaul s m args below meth c D cy B H0 5 0 0 Q 5 [(0, vR (some x0)), (1, vR x1), (2, vR x2), (3, vI q.2.1), (4, vI q.2.2)] [] q.1)) (fun q z hq => ?_) _ _ hf hK
  intro hK
  obtain ⟨w, hw, hm⟩ := hq
  refine tb_X7_landHaul_5 X hr _ _ _ _ _ _ w hw ?_
  cases w with
  | inl a => exact hm hK
  | inr b => cases hm; exact hK
set_option maxHeartbeats 4000000 in
set_option maxRecDepth 100000 in
theorem t_X7_landHaul_0 (X : gX p s m args meth c D cy B (gSt Z B H0) RX7 cX7_landHaul wsX7_landHaul 5) (hr : meth.sig.returnType = (some .int)) {Q : State → Prop} : ∀ (M : gMem) (x0 : Nat) (x1 : Option Nat) (x2 : Option Nat) (z : Int32 × gMem), b_X7_landHaul_0 M x0 x1 x2 = some z → (fun (r : Int32 × gMem) => Q = gMQ below D cy B H0 args s 0 0 (some (vI r.1)) r.2) z → gGo p l e rX7_landHaul s m args below meth c D cy B H0 5 0 0 Q 0 [(0, vR (some x0)), (1, vR x1), (2, vR x2)] [] M := by
  intro M x0 x1 x2 z hf hK
  unfold b_X7_landHaul_0 at hf
  refine g_iconst (v := (0 : Int32)) X dX7_landHaul_0 (by decide) ?_
  refine g_istore_n (lv' := [(3, vI (0 : Int32)), (0, vR (some x0)), (1, vR x1), (2, vR x2)]) X dX7_landHaul_1 rfl (by decide) rfl ?_
  refine g_iconst (v := (1 : Int32)) X dX7_landHaul_2 (by decide) ?_
  refine g_istore (lv' := [(4, vI (1 : Int32)), (3, vI (0 : Int32)), (0, vR (some x0)), (1, vR x1), (2, vR x2)]) X dX7_landHaul_3 (by decide) rfl ?_
  refine g_sub (lvsub_of _ _ [2, 3, 4, 1, 0] rfl) ?_
  exact tl_X7_landHaul_5 X hr _ _ _ _ _ _ _ hf hK
set_option maxHeartbeats 4000000 in
set_option maxRecDepth 100000 in
theorem m_X7_landHaul (l : Launch) {D : va_G} {cy : Nat → ClassId} {B : Nat} {H0 : Heap} {Z : Nat → Nat} {M M1 : gMem} {x0 : Nat} {x1 : Option Nat} {x2 : Option Nat} {r : Int32} (hf : f_X7_landHaul M x0 x1 x2 = some (r, M1)) : Met l yX7_landHaul wsX7_landHaul rX7_landHaul (va_Pc (Value.ref x0 :: List.map gv [vR x1, vR x2]) (gPre D cy B H0 (gSt Z B H0) M)) (gQ D cy B H0 (some (vI r)) M1) 0 0 (gA B) := by
  refine Met.ofW (cc := cX7_landHaul) (maxL := 5) (ret := (some .int)) (by decide) rfl ?_
  intro p e s m args below meth c s₁ Bd hml hv
  obtain ⟨rfl, hW, hKK, hFs⟩ := hv
  have X : gX p s m _ meth c D cy B (gSt Z B H0) RX7 cX7_landHaul wsX7_landHaul 5 := ⟨Bd.exec, Bd.bytes, atoms_spec (ws := wsX7_landHaul) Bd.pre, findClass_of_methodNamed Bd.named, hml, hKK, by rw [hW.1]; exact hW.2.1, Bd.notSynchronized, hFs⟩
  have hr := Bd.returns
  rcases x1 with _ | x1
  · rcases x2 with _ | x2
    · have hl := lv_entry ([.ref x0, .null, .null]) (n := 5) (Nat.le_of_ble_eq_true rfl)
      show W p l e rX7_landHaul s m _ below meth c s.heap [] 0 0 _ (entryFrame m ([.ref x0, .null, .null] : List Value).toArray 5)
      rw [lg_entry_eq]
      generalize (lg_sl ([.ref x0, .null, .null]) ++ List.replicate (5 - (lg_sl ([.ref x0, .null, .null])).length) Slot.unset).toArray = ls at hl ⊢
      have hl : lv_has ls 5 (List.map gq [(0, vR (some x0)), (1, vR none), (2, vR none)]) := hl
      exact t_X7_landHaul_0 X hr _ _ _ _ _ hf rfl s.heap [] ls hW va_S.rf (lv_has_sub hl (lvsub_of _ _ [0, 1, 2] rfl))
    · have hl := lv_entry ([.ref x0, .null, .ref x2]) (n := 5) (Nat.le_of_ble_eq_true rfl)
      show W p l e rX7_landHaul s m _ below meth c s.heap [] 0 0 _ (entryFrame m ([.ref x0, .null, .ref x2] : List Value).toArray 5)
      rw [lg_entry_eq]
      generalize (lg_sl ([.ref x0, .null, .ref x2]) ++ List.replicate (5 - (lg_sl ([.ref x0, .null, .ref x2])).length) Slot.unset).toArray = ls at hl ⊢
      have hl : lv_has ls 5 (List.map gq [(0, vR (some x0)), (1, vR none), (2, vR (some x2))]) := hl
      exact t_X7_landHaul_0 X hr _ _ _ _ _ hf rfl s.heap [] ls hW va_S.rf (lv_has_sub hl (lvsub_of _ _ [0, 1, 2] rfl))
  · rcases x2 with _ | x2
    · have hl := lv_entry ([.ref x0, .ref x1, .null]) (n := 5) (Nat.le_of_ble_eq_true rfl)
      show W p l e rX7_landHaul s m _ below meth c s.heap [] 0 0 _ (entryFrame m ([.ref x0, .ref x1, .null] : List Value).toArray 5)
      rw [lg_entry_eq]
      generalize (lg_sl ([.ref x0, .ref x1, .null]) ++ List.replicate (5 - (lg_sl ([.ref x0, .ref x1, .null])).length) Slot.unset).toArray = ls at hl ⊢
      have hl : lv_has ls 5 (List.map gq [(0, vR (some x0)), (1, vR (some x1)), (2, vR none)]) := hl
      exact t_X7_landHaul_0 X hr _ _ _ _ _ hf rfl s.heap [] ls hW va_S.rf (lv_has_sub hl (lvsub_of _ _ [0, 1, 2] rfl))
    · have hl := lv_entry ([.ref x0, .ref x1, .ref x2]) (n := 5) (Nat.le_of_ble_eq_true rfl)
      show W p l e rX7_landHaul s m _ below meth c s.heap [] 0 0 _ (entryFrame m ([.ref x0, .ref x1, .ref x2] : List Value).toArray 5)
      rw [lg_entry_eq]
      generalize (lg_sl ([.ref x0, .ref x1, .ref x2]) ++ List.replicate (5 - (lg_sl ([.ref x0, .ref x1, .ref x2])).length) Slot.unset).toArray = ls at hl ⊢
      have hl : lv_has ls 5 (List.map gq [(0, vR (some x0)), (1, vR (some x1)), (2, vR (some x2))]) := hl
      exact t_X7_landHaul_0 X hr _ _ _ _ _ hf rfl s.heap [] ls hW va_S.rf (lv_has_sub hl (lvsub_of _ _ [0, 1, 2] rfl))
/-! ## TideLots$Shore.sail(II)V -/
theorem dX7_sail_0 : decode cX7_sail 0 = .ok (.aload_n 0, 1) := by decide +kernel
theorem dX7_sail_1 : decode cX7_sail 1 = .ok (.getfield 23, 3) := by decide +kernel
theorem dX7_sail_4 : decode cX7_sail 4 = .ok (.iload_n 1, 1) := by decide +kernel
theorem dX7_sail_5 : decode cX7_sail 5 = .ok (.aaload, 1) := by decide +kernel
theorem dX7_sail_6 : decode cX7_sail 6 = .ok (.astore_n 3, 1) := by decide +kernel
theorem dX7_sail_7 : decode cX7_sail 7 = .ok (.aload_n 3, 1) := by decide +kernel
theorem dX7_sail_8 : decode cX7_sail 8 = .ok (.iload_n 2, 1) := by decide +kernel
theorem dX7_sail_9 : decode cX7_sail 9 = .ok (.putfield 193, 3) := by decide +kernel
theorem dX7_sail_12 : decode cX7_sail 12 = .ok (.aload_n 3, 1) := by decide +kernel
theorem dX7_sail_13 : decode cX7_sail 13 = .ok (.iconst 0, 1) := by decide +kernel
theorem dX7_sail_14 : decode cX7_sail 14 = .ok (.putfield 196, 3) := by decide +kernel
theorem dX7_sail_17 : decode cX7_sail 17 = .ok (.iload_n 2, 1) := by decide +kernel
theorem dX7_sail_18 : decode cX7_sail 18 = .ok (.ifCond .lt 49, 3) := by decide +kernel
theorem dX7_sail_21 : decode cX7_sail 21 = .ok (.aload_n 0, 1) := by decide +kernel
theorem dX7_sail_22 : decode cX7_sail 22 = .ok (.getfield 17, 3) := by decide +kernel
theorem dX7_sail_25 : decode cX7_sail 25 = .ok (.iload_n 2, 1) := by decide +kernel
theorem dX7_sail_26 : decode cX7_sail 26 = .ok (.aaload, 1) := by decide +kernel
theorem dX7_sail_27 : decode cX7_sail 27 = .ok (.astore 4, 2) := by decide +kernel
theorem dX7_sail_29 : decode cX7_sail 29 = .ok (.aload 4, 2) := by decide +kernel
theorem dX7_sail_31 : decode cX7_sail 31 = .ok (.dup, 1) := by decide +kernel
theorem dX7_sail_32 : decode cX7_sail 32 = .ok (.getfield 156, 3) := by decide +kernel
theorem dX7_sail_35 : decode cX7_sail 35 = .ok (.iconst 1, 1) := by decide +kernel
theorem dX7_sail_36 : decode cX7_sail 36 = .ok (.iadd, 1) := by decide +kernel
theorem dX7_sail_37 : decode cX7_sail 37 = .ok (.putfield 156, 3) := by decide +kernel
theorem dX7_sail_40 : decode cX7_sail 40 = .ok (.aload_n 0, 1) := by decide +kernel
theorem dX7_sail_41 : decode cX7_sail 41 = .ok (.aload 4, 2) := by decide +kernel
theorem dX7_sail_43 : decode cX7_sail 43 = .ok (.aload_n 3, 1) := by decide +kernel
theorem dX7_sail_44 : decode cX7_sail 44 = .ok (.invokevirtual 199, 3) := by decide +kernel
theorem dX7_sail_47 : decode cX7_sail 47 = .ok (.aload_n 0, 1) := by decide +kernel
theorem dX7_sail_48 : decode cX7_sail 48 = .ok (.aload 4, 2) := by decide +kernel
theorem dX7_sail_50 : decode cX7_sail 50 = .ok (.aload_n 3, 1) := by decide +kernel
theorem dX7_sail_51 : decode cX7_sail 51 = .ok (.invokevirtual 203, 3) := by decide +kernel
theorem dX7_sail_54 : decode cX7_sail 54 = .ok (.istore 5, 2) := by decide +kernel
theorem dX7_sail_56 : decode cX7_sail 56 = .ok (.aload_n 3, 1) := by decide +kernel
theorem dX7_sail_57 : decode cX7_sail 57 = .ok (.getfield 207, 3) := by decide +kernel
theorem dX7_sail_60 : decode cX7_sail 60 = .ok (.iload_n 2, 1) := by decide +kernel
theorem dX7_sail_61 : decode cX7_sail 61 = .ok (.dup2, 1) := by decide +kernel
theorem dX7_sail_62 : decode cX7_sail 62 = .ok (.iaload, 1) := by decide +kernel
theorem dX7_sail_63 : decode cX7_sail 63 = .ok (.iload 5, 2) := by decide +kernel
theorem dX7_sail_65 : decode cX7_sail 65 = .ok (.iadd, 1) := by decide +kernel
theorem dX7_sail_66 : decode cX7_sail 66 = .ok (.iastore, 1) := by decide +kernel
theorem dX7_sail_67 : decode cX7_sail 67 = .ok (.return_, 1) := by decide +kernel
set_option maxRecDepth 20000 in
theorem ggX7_sail_X7_haulFrom : GoodIn wsX7_sail wsX7_haulFrom := goodIn_2 24 (goodIn_r _ [11, 12, 13, 14, 15, 16, 17, 18, 19, 20, 21, 22, 23, 24, 25, 26, 27, 28, 52, 53, 54, 55, 56, 57] (by decide +kernel) (by decide +kernel)) (goodIn_2 24 (goodIn_r _ [58, 59, 60, 61, 62, 35, 36, 37, 38, 39, 40, 41, 42, 43, 44, 45, 46, 47, 48, 49, 50, 51, 63, 64] (by decide +kernel) (by decide +kernel)) (goodIn_r _ [65, 66] (by decide +kernel) (by decide +kernel)))
set_option maxRecDepth 20000 in
theorem gX7_sail_X7_haulFrom : GoodIn wsX7_sail (wsV RX7 199 RX7 yX7_haulFrom wsX7_haulFrom) := goodIn_app (goodIn_of _ (by decide +kernel)) ggX7_sail_X7_haulFrom
set_option maxRecDepth 20000 in
theorem ggX7_sail_X7_landHaul : GoodIn wsX7_sail wsX7_landHaul := goodIn_r _ [32, 12, 13, 3, 14, 33, 34, 52, 53, 54, 55, 56, 57, 58, 59, 60, 61, 62, 35, 36, 37, 38, 39, 40, 41, 42, 43, 44, 45, 46, 47, 48, 49, 50, 51, 63, 64, 65, 66] (by decide +kernel) (by decide +kernel)
set_option maxRecDepth 20000 in
theorem gX7_sail_X7_landHaul : GoodIn wsX7_sail (wsV RX7 203 RX7 yX7_landHaul wsX7_landHaul) := goodIn_app (goodIn_of _ (by decide +kernel)) ggX7_sail_X7_landHaul
theorem k_X7_sail_f23 : Cond.fieldLink RX7 23 "TideLots$Shore" "fishers" "[LTideLots$Fisher;" ∈ wsX7_sail := by decide +kernel
theorem i_X7_sail_X7 : ∀ w ∈ u_ws RX7 TX7 17, w ∈ wsX7_sail := by decide +kernel
theorem k_X7_sail_f193 : Cond.fieldLink RX7 193 "TideLots$Fisher" "place" "I" ∈ wsX7_sail := by decide +kernel
theorem i_X7_sail_X1 : ∀ w ∈ u_ws RX1 TX1 11, w ∈ wsX7_sail := by decide +kernel
theorem k_X7_sail_f196 : Cond.fieldLink RX7 196 "TideLots$Fisher" "latest" "I" ∈ wsX7_sail := by decide +kernel
theorem k_X7_sail_f17 : Cond.fieldLink RX7 17 "TideLots$Shore" "grounds" "[LTideLots$Ground;" ∈ wsX7_sail := by decide +kernel
theorem k_X7_sail_f156 : Cond.fieldLink RX7 156 "TideLots$Ground" "boats" "I" ∈ wsX7_sail := by decide +kernel
theorem i_X7_sail_X3 : ∀ w ∈ u_ws RX3 TX3 4, w ∈ wsX7_sail := by decide +kernel
theorem k_X7_sail_f207 : Cond.fieldLink RX7 207 "TideLots$Fisher" "took" "[I" ∈ wsX7_sail := by decide +kernel
abbrev rX7_sail : Room := { frames := 3, cells := 0, slots := 0, locals := 63 }
noncomputable def b_X7_sail_67 (M : gMem)  : Option (Unit × gMem) :=
  some ((), M)
noncomputable def b_X7_sail_0 (M : gMem) (x0 : Nat) (x1 : Int32) (x2 : Int32) : Option (Unit × gMem) :=
  ck (mT M x0 = 7) <| dr ((mR M x0 7)) fun a2 => ck (mT M a2 = 24) <| ck (inb x1 (mL M a2)) <| dr ((mR M a2 x1.toNatClampNeg)) fun a5 => ck (mT M a5 = 1) <| lw (wI M a5 6 x2) fun M7 => lw (wI M7 a5 5 ((0 : Int32))) fun M11 => (if x2 < 0 then b_X7_sail_67 M11  else dr ((mR M11 x0 6)) fun a15 => ck (mT M11 a15 = 23) <| ck (inb x2 (mL M11 a15)) <| dr ((mR M11 a15 x2.toNatClampNeg)) fun a18 => ck (mT M11 a18 = 3) <| lw (wI M11 a18 1 (((mI M11 a18 1) + (1 : Int32)))) fun M20 => bd (f_X7_haulFrom M20 x0 ((mR M11 a15 x2.toNatClampNeg)) ((mR M a2 x1.toNatClampNeg))) fun _ M26 => ck (mT M26 x0 = 7) <| bd (f_X7_landHaul M26 x0 ((mR M11 a15 x2.toNatClampNeg)) ((mR M a2 x1.toNatClampNeg))) fun r27 M27 => ck (mT M27 a5 = 1) <| dr ((mR M27 a5 10)) fun a30 => ck (mT M27 a30 = 20) <| ck (inb x2 (mL M27 a30)) <| ck (inb x2 (mL M27 a30)) <| lw (wI M27 a30 x2.toNatClampNeg (((mI M27 a30 x2.toNatClampNeg) + r27))) fun M34 => b_X7_sail_67 M34 )
noncomputable def f_X7_sail (M : gMem) (x0 : Nat) (x1 : Int32) (x2 : Int32) : Option (Unit × gMem) :=
  b_X7_sail_0 M x0 x1 x2
set_option maxHeartbeats 4000000 in
set_option maxRecDepth 100000 in
theorem t_X7_sail_67 (X : gX p s m args meth c D cy B (gSt Z B H0) RX7 cX7_sail wsX7_sail 6) (hr : meth.sig.returnType = none) {Q : State → Prop} : ∀ (M : gMem)  (z : Unit × gMem), b_X7_sail_67 M  = some z → (fun (r : Unit × gMem) => Q = gMQ below D cy B H0 args s 0 0 none r.2) z → gGo p l e rX7_sail s m args below meth c D cy B H0 6 0 0 Q 67 [] [] M := by
  intro M  z hf hK
  unfold b_X7_sail_67 at hf
  cases hf
  refine g_eqQ hK ?_
  exact g_vret X hr dX7_sail_67
set_option maxHeartbeats 4000000 in
set_option maxRecDepth 100000 in
theorem t_X7_sail_0 (X : gX p s m args meth c D cy B (gSt Z B H0) RX7 cX7_sail wsX7_sail 6) (hr : meth.sig.returnType = none) {Q : State → Prop} : ∀ (M : gMem) (x0 : Nat) (x1 : Int32) (x2 : Int32) (z : Unit × gMem), b_X7_sail_0 M x0 x1 x2 = some z → (fun (r : Unit × gMem) => Q = gMQ below D cy B H0 args s 0 0 none r.2) z → gGo p l e rX7_sail s m args below meth c D cy B H0 6 0 0 Q 0 [(0, vR (some x0)), (1, vI x1), (2, vI x2)] [] M := by
  intro M x0 x1 x2 z hf hK
  unfold b_X7_sail_0 at hf
  refine g_aload_n X dX7_sail_0 rfl rfl ?_
  obtain ⟨hT1, hf⟩ := ck_e hf
  refine g_get (ci := 6) (v := vR (mR M x0 7)) 7 X cdX7 i_X7_sail_X7 (by decide) k_X7_sail_f23 rfl dX7_sail_1 rfl hT1 rfl ?_
  refine g_iload_n X dX7_sail_4 rfl rfl ?_
  obtain ⟨a2, ha2, hf⟩ := dr_e hf
  obtain ⟨hT3, hf⟩ := ck_e hf
  obtain ⟨hg4, hf⟩ := ck_e hf
  refine g_aald (t0 := 4) X dX7_sail_5 ha2 hT3 (by decide) rfl hg4 ?_
  refine g_astore_n (lv' := [(3, vR (mR M a2 x1.toNatClampNeg)), (0, vR (some x0)), (1, vI x1), (2, vI x2)]) X dX7_sail_6 rfl (by decide) rfl ?_
  refine g_aload_n X dX7_sail_7 rfl rfl ?_
  refine g_iload_n X dX7_sail_8 rfl rfl ?_
  obtain ⟨a5, ha5, hf⟩ := dr_e hf
  obtain ⟨hT6, hf⟩ := ck_e hf
  refine g_putI (ci := 0) 6 X cdX1 i_X7_sail_X1 (by decide) k_X7_sail_f193 rfl dX7_sail_9 ha5 hT6 (Or.inl rfl) rfl rfl rfl ?_
  obtain ⟨M7, hM7, hf⟩ := lw_e hf
  rw [← hM7]
  have hT8 : mT M7 x0 = 7 := by rw [hM7]; exact hT1
  have hT9 : mT M7 a2 = 24 := by rw [hM7]; exact hT3
  have hT10 : mT M7 a5 = 1 := by rw [hM7]; exact hT6
  refine g_aload_n X dX7_sail_12 rfl rfl ?_
  refine g_iconst (v := (0 : Int32)) X dX7_sail_13 (by decide) ?_
  refine g_putI (ci := 0) 5 X cdX1 i_X7_sail_X1 (by decide) k_X7_sail_f196 rfl dX7_sail_14 ha5 hT10 (Or.inl rfl) rfl rfl rfl ?_
  obtain ⟨M11, hM11, hf⟩ := lw_e hf
  rw [← hM11]
  have hT12 : mT M11 x0 = 7 := by rw [hM11]; exact hT8
  have hT13 : mT M11 a2 = 24 := by rw [hM11]; exact hT9
  have hT14 : mT M11 a5 = 1 := by rw [hM11]; exact hT10
  refine g_iload_n X dX7_sail_17 rfl rfl ?_
  refine g_if_lt (tgt := 67) X dX7_sail_18 (by decide) (fun hc => ?_) (fun hc => ?_)
  · have hf := ife_t hc hf
    refine g_sub (lvsub_of _ _ [] rfl) ?_
    exact t_X7_sail_67 X hr _  _ hf hK
  · have hf := ife_f hc hf
    refine g_aload_n X dX7_sail_21 rfl rfl ?_
    refine g_get (ci := 6) (v := vR (mR M11 x0 6)) 6 X cdX7 i_X7_sail_X7 (by decide) k_X7_sail_f17 rfl dX7_sail_22 rfl hT12 rfl ?_
    refine g_iload_n X dX7_sail_25 rfl rfl ?_
    obtain ⟨a15, ha15, hf⟩ := dr_e hf
    obtain ⟨hT16, hf⟩ := ck_e hf
    obtain ⟨hg17, hf⟩ := ck_e hf
    refine g_aald (t0 := 3) X dX7_sail_26 ha15 hT16 (by decide) rfl hg17 ?_
    refine g_astore (lv' := [(4, vR (mR M11 a15 x2.toNatClampNeg)), (3, vR (mR M a2 x1.toNatClampNeg)), (0, vR (some x0)), (1, vI x1), (2, vI x2)]) X dX7_sail_27 (by decide) rfl ?_
    refine g_aload X dX7_sail_29 rfl ?_
    refine g_dup X dX7_sail_31 rfl ?_
    obtain ⟨a18, ha18, hf⟩ := dr_e hf
    obtain ⟨hT19, hf⟩ := ck_e hf
    refine g_get (ci := 2) (v := vI (mI M11 a18 1)) 1 X cdX3 i_X7_sail_X3 (by decide) k_X7_sail_f156 rfl dX7_sail_32 ha18 hT19 rfl ?_
    refine g_iconst (v := (1 : Int32)) X dX7_sail_35 (by decide) ?_
    refine g_iadd X dX7_sail_36 ?_
    refine g_putI (ci := 2) 1 X cdX3 i_X7_sail_X3 (by decide) k_X7_sail_f156 rfl dX7_sail_37 ha18 hT19 (Or.inl rfl) rfl rfl rfl ?_
    obtain ⟨M20, hM20, hf⟩ := lw_e hf
    rw [← hM20]
    have hT21 : mT M20 x0 = 7 := by rw [hM20]; exact hT12
    have hT22 : mT M20 a2 = 24 := by rw [hM20]; exact hT13
    have hT23 : mT M20 a5 = 1 := by rw [hM20]; exact hT14
    have hT24 : mT M20 a15 = 23 := by rw [hM20]; exact hT16
    have hT25 : mT M20 a18 = 3 := by rw [hM20]; exact hT19
    refine g_aload_n X dX7_sail_40 rfl rfl ?_
    refine g_aload X dX7_sail_41 rfl ?_
    refine g_aload_n X dX7_sail_43 rfl rfl ?_
    obtain ⟨r26, M26, hq26, hf⟩ := bd_e hf
    refine g_callV (ci := 6) (b := x0) (As := [vR (mR M11 a15 x2.toNatClampNeg), vR (mR M a2 x1.toNatClampNeg)]) (st := []) (v := none) (M1 := M26) X (m_X7_haulFrom l hq26) (cwV 2 X.2.2.1 gX7_sail_X7_haulFrom rfl rfl rfl (by decide +kernel) ⟨Nat.le_of_ble_eq_true rfl, Nat.le_of_ble_eq_true rfl⟩) rfl rfl rfl hT21 (by decide) rfl (Nat.le_of_ble_eq_true rfl) dX7_sail_44 ⟨by decide, by decide⟩ ?_
    refine g_aload_n X dX7_sail_47 rfl rfl ?_
    refine g_aload X dX7_sail_48 rfl ?_
    refine g_aload_n X dX7_sail_50 rfl rfl ?_
    obtain ⟨hT28, hf⟩ := ck_e hf
    obtain ⟨r27, M27, hq27, hf⟩ := bd_e hf
    refine g_callV (ci := 6) (b := x0) (As := [vR (mR M11 a15 x2.toNatClampNeg), vR (mR M a2 x1.toNatClampNeg)]) (st := []) (v := some (vI r27)) (M1 := M27) X (m_X7_landHaul l hq27) (cwV 2 X.2.2.1 gX7_sail_X7_landHaul rfl rfl rfl (by decide +kernel) ⟨Nat.le_of_ble_eq_true rfl, Nat.le_of_ble_eq_true rfl⟩) rfl rfl rfl hT28 (by decide) rfl (Nat.le_of_ble_eq_true rfl) dX7_sail_51 ⟨by decide, by decide⟩ ?_
    refine g_istore (lv' := [(5, vI r27), (4, vR (mR M11 a15 x2.toNatClampNeg)), (3, vR (mR M a2 x1.toNatClampNeg)), (0, vR (some x0)), (1, vI x1), (2, vI x2)]) X dX7_sail_54 (by decide) rfl ?_
    refine g_aload_n X dX7_sail_56 rfl rfl ?_
    obtain ⟨hT29, hf⟩ := ck_e hf
    refine g_get (ci := 0) (v := vR (mR M27 a5 10)) 10 X cdX1 i_X7_sail_X1 (by decide) k_X7_sail_f207 rfl dX7_sail_57 ha5 hT29 rfl ?_
    refine g_iload_n X dX7_sail_60 rfl rfl ?_
    refine g_dup2 X dX7_sail_61 rfl rfl ?_
    obtain ⟨a30, ha30, hf⟩ := dr_e hf
    obtain ⟨hT31, hf⟩ := ck_e hf
    obtain ⟨hg32, hf⟩ := ck_e hf
    refine g_iald X dX7_sail_62 ha30 hT31 hg32 ?_
    refine g_iload X dX7_sail_63 rfl ?_
    refine g_iadd X dX7_sail_65 ?_
    obtain ⟨hg33, hf⟩ := ck_e hf
    refine g_iast X dX7_sail_66 ha30 hT31 hg33 ?_
    obtain ⟨M34, hM34, hf⟩ := lw_e hf
    rw [← hM34]
    have hT35 : mT M34 a5 = 1 := by rw [hM34]; exact hT29
    have hT36 : mT M34 a30 = 20 := by rw [hM34]; exact hT31
    refine g_sub (lvsub_of _ _ [] rfl) ?_
    exact t_X7_sail_67 X hr _  _ hf hK
set_option maxHeartbeats 4000000 in
set_option maxRecDepth 100000 in
theorem m_X7_sail (l : Launch) {D : va_G} {cy : Nat → ClassId} {B : Nat} {H0 : Heap} {Z : Nat → Nat} {M M1 : gMem} {x0 : Nat} {x1 : Int32} {x2 : Int32} {r : Unit} (hf : f_X7_sail M x0 x1 x2 = some (r, M1)) : Met l yX7_sail wsX7_sail rX7_sail (va_Pc (Value.ref x0 :: List.map gv [vI x1, vI x2]) (gPre D cy B H0 (gSt Z B H0) M)) (gQ D cy B H0 none M1) 0 0 (gA B) := by
  refine Met.ofW (cc := cX7_sail) (maxL := 6) (ret := none) (by decide) rfl ?_
  intro p e s m args below meth c s₁ Bd hml hv
  obtain ⟨rfl, hW, hKK, hFs⟩ := hv
  have X : gX p s m _ meth c D cy B (gSt Z B H0) RX7 cX7_sail wsX7_sail 6 := ⟨Bd.exec, Bd.bytes, atoms_spec (ws := wsX7_sail) Bd.pre, findClass_of_methodNamed Bd.named, hml, hKK, by rw [hW.1]; exact hW.2.1, Bd.notSynchronized, hFs⟩
  have hr := Bd.returns
  have hl := lv_entry ([.ref x0, .int x1, .int x2]) (n := 6) (Nat.le_of_ble_eq_true rfl)
  show W p l e rX7_sail s m _ below meth c s.heap [] 0 0 _ (entryFrame m ([.ref x0, .int x1, .int x2] : List Value).toArray 6)
  rw [lg_entry_eq]
  generalize (lg_sl ([.ref x0, .int x1, .int x2]) ++ List.replicate (6 - (lg_sl ([.ref x0, .int x1, .int x2])).length) Slot.unset).toArray = ls at hl ⊢
  have hl : lv_has ls 6 (List.map gq [(0, vR (some x0)), (1, vI x1), (2, vI x2)]) := hl
  exact t_X7_sail_0 X hr _ _ _ _ _ hf rfl s.heap [] ls hW va_S.rf (lv_has_sub hl (lvsub_of _ _ [0, 1, 2] rfl))
end
