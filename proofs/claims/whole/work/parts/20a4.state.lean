section
variable {p : Program} {l : Launch} {e : Env} {s : State} {m : MethodId} {args : Array Value} {below : List Frame} {meth : Method} {c : Code} {D : va_G} {cy : Nat → ClassId} {B : Nat} {H0 : Heap} {Z : Nat → Nat}
/-! ## TideLotsModel$State.carryOut(II)I -/
theorem dX12_carryOut_0 : decode cX12_carryOut 0 = .ok (.iconst (-1), 1) := by decide +kernel
theorem dX12_carryOut_1 : decode cX12_carryOut 1 = .ok (.istore_n 3, 1) := by decide +kernel
theorem dX12_carryOut_2 : decode cX12_carryOut 2 = .ok (.iload_n 1, 1) := by decide +kernel
theorem dX12_carryOut_3 : decode cX12_carryOut 3 = .ok (.istore 4, 2) := by decide +kernel
theorem dX12_carryOut_5 : decode cX12_carryOut 5 = .ok (.iload 4, 2) := by decide +kernel
theorem dX12_carryOut_7 : decode cX12_carryOut 7 = .ok (.iload_n 2, 1) := by decide +kernel
theorem dX12_carryOut_8 : decode cX12_carryOut 8 = .ok (.if_icmp .ge 163, 3) := by decide +kernel
theorem dX12_carryOut_11 : decode cX12_carryOut 11 = .ok (.aload_n 0, 1) := by decide +kernel
theorem dX12_carryOut_12 : decode cX12_carryOut 12 = .ok (.getfield 3, 3) := by decide +kernel
theorem dX12_carryOut_15 : decode cX12_carryOut 15 = .ok (.getfield 81, 3) := by decide +kernel
theorem dX12_carryOut_18 : decode cX12_carryOut 18 = .ok (.getfield 180, 3) := by decide +kernel
theorem dX12_carryOut_21 : decode cX12_carryOut 21 = .ok (.iload 4, 2) := by decide +kernel
theorem dX12_carryOut_23 : decode cX12_carryOut 23 = .ok (.iaload, 1) := by decide +kernel
theorem dX12_carryOut_24 : decode cX12_carryOut 24 = .ok (.istore 5, 2) := by decide +kernel
theorem dX12_carryOut_26 : decode cX12_carryOut 26 = .ok (.iinc 4 1, 3) := by decide +kernel
theorem dX12_carryOut_29 : decode cX12_carryOut 29 = .ok (.iload 5, 2) := by decide +kernel
theorem dX12_carryOut_31 : decode cX12_carryOut 31 = .ok (.invokestatic 183, 3) := by decide +kernel
theorem dX12_carryOut_34 : decode cX12_carryOut 34 = .ok (.ifCond .eq 58, 3) := by decide +kernel
theorem dX12_carryOut_37 : decode cX12_carryOut 37 = .ok (.iinc 3 1, 3) := by decide +kernel
theorem dX12_carryOut_40 : decode cX12_carryOut 40 = .ok (.aload_n 0, 1) := by decide +kernel
theorem dX12_carryOut_41 : decode cX12_carryOut 41 = .ok (.getfield 65, 3) := by decide +kernel
theorem dX12_carryOut_44 : decode cX12_carryOut 44 = .ok (.iload_n 3, 1) := by decide +kernel
theorem dX12_carryOut_45 : decode cX12_carryOut 45 = .ok (.iload 5, 2) := by decide +kernel
theorem dX12_carryOut_47 : decode cX12_carryOut 47 = .ok (.bipush 15, 2) := by decide +kernel
theorem dX12_carryOut_49 : decode cX12_carryOut 49 = .ok (.if_icmp .ne 10, 3) := by decide +kernel
theorem dX12_carryOut_52 : decode cX12_carryOut 52 = .ok (.aload_n 0, 1) := by decide +kernel
theorem dX12_carryOut_53 : decode cX12_carryOut 53 = .ok (.getfield 74, 3) := by decide +kernel
theorem dX12_carryOut_56 : decode cX12_carryOut 56 = .ok (.goto 22, 3) := by decide +kernel
theorem dX12_carryOut_59 : decode cX12_carryOut 59 = .ok (.aload_n 0, 1) := by decide +kernel
theorem dX12_carryOut_60 : decode cX12_carryOut 60 = .ok (.iload 5, 2) := by decide +kernel
theorem dX12_carryOut_62 : decode cX12_carryOut 62 = .ok (.aload_n 0, 1) := by decide +kernel
theorem dX12_carryOut_63 : decode cX12_carryOut 63 = .ok (.getfield 3, 3) := by decide +kernel
theorem dX12_carryOut_66 : decode cX12_carryOut 66 = .ok (.getfield 81, 3) := by decide +kernel
theorem dX12_carryOut_69 : decode cX12_carryOut 69 = .ok (.getfield 180, 3) := by decide +kernel
theorem dX12_carryOut_72 : decode cX12_carryOut 72 = .ok (.iload 4, 2) := by decide +kernel
theorem dX12_carryOut_74 : decode cX12_carryOut 74 = .ok (.iaload, 1) := by decide +kernel
theorem dX12_carryOut_75 : decode cX12_carryOut 75 = .ok (.invokevirtual 187, 3) := by decide +kernel
theorem dX12_carryOut_78 : decode cX12_carryOut 78 = .ok (.iastore, 1) := by decide +kernel
theorem dX12_carryOut_79 : decode cX12_carryOut 79 = .ok (.iload 5, 2) := by decide +kernel
theorem dX12_carryOut_81 : decode cX12_carryOut 81 = .ok (.bipush 15, 2) := by decide +kernel
theorem dX12_carryOut_83 : decode cX12_carryOut 83 = .ok (.if_icmp .eq (-78), 3) := by decide +kernel
theorem dX12_carryOut_86 : decode cX12_carryOut 86 = .ok (.iinc 4 1, 3) := by decide +kernel
theorem dX12_carryOut_89 : decode cX12_carryOut 89 = .ok (.goto (-84), 3) := by decide +kernel
theorem dX12_carryOut_92 : decode cX12_carryOut 92 = .ok (.iload 5, 2) := by decide +kernel
theorem dX12_carryOut_94 : decode cX12_carryOut 94 = .ok (.bipush 31, 2) := by decide +kernel
theorem dX12_carryOut_96 : decode cX12_carryOut 96 = .ok (.if_icmp .eq 10, 3) := by decide +kernel
theorem dX12_carryOut_99 : decode cX12_carryOut 99 = .ok (.iload 5, 2) := by decide +kernel
theorem dX12_carryOut_101 : decode cX12_carryOut 101 = .ok (.bipush 20, 2) := by decide +kernel
theorem dX12_carryOut_103 : decode cX12_carryOut 103 = .ok (.if_icmp .ne 37, 3) := by decide +kernel
theorem dX12_carryOut_106 : decode cX12_carryOut 106 = .ok (.aload_n 0, 1) := by decide +kernel
theorem dX12_carryOut_107 : decode cX12_carryOut 107 = .ok (.getfield 65, 3) := by decide +kernel
theorem dX12_carryOut_110 : decode cX12_carryOut 110 = .ok (.iload_n 3, 1) := by decide +kernel
theorem dX12_carryOut_111 : decode cX12_carryOut 111 = .ok (.iload 5, 2) := by decide +kernel
theorem dX12_carryOut_113 : decode cX12_carryOut 113 = .ok (.bipush 31, 2) := by decide +kernel
theorem dX12_carryOut_115 : decode cX12_carryOut 115 = .ok (.if_icmp .ne 13, 3) := by decide +kernel
theorem dX12_carryOut_118 : decode cX12_carryOut 118 = .ok (.aload_n 0, 1) := by decide +kernel
theorem dX12_carryOut_119 : decode cX12_carryOut 119 = .ok (.getfield 65, 3) := by decide +kernel
theorem dX12_carryOut_122 : decode cX12_carryOut 122 = .ok (.iload_n 3, 1) := by decide +kernel
theorem dX12_carryOut_123 : decode cX12_carryOut 123 = .ok (.iaload, 1) := by decide +kernel
theorem dX12_carryOut_124 : decode cX12_carryOut 124 = .ok (.ineg, 1) := by decide +kernel
theorem dX12_carryOut_125 : decode cX12_carryOut 125 = .ok (.goto 11, 3) := by decide +kernel
theorem dX12_carryOut_128 : decode cX12_carryOut 128 = .ok (.iconst 1, 1) := by decide +kernel
theorem dX12_carryOut_129 : decode cX12_carryOut 129 = .ok (.aload_n 0, 1) := by decide +kernel
theorem dX12_carryOut_130 : decode cX12_carryOut 130 = .ok (.getfield 65, 3) := by decide +kernel
theorem dX12_carryOut_133 : decode cX12_carryOut 133 = .ok (.iload_n 3, 1) := by decide +kernel
theorem dX12_carryOut_134 : decode cX12_carryOut 134 = .ok (.iaload, 1) := by decide +kernel
theorem dX12_carryOut_135 : decode cX12_carryOut 135 = .ok (.isub, 1) := by decide +kernel
theorem dX12_carryOut_136 : decode cX12_carryOut 136 = .ok (.iastore, 1) := by decide +kernel
theorem dX12_carryOut_137 : decode cX12_carryOut 137 = .ok (.goto (-132), 3) := by decide +kernel
theorem dX12_carryOut_140 : decode cX12_carryOut 140 = .ok (.iinc 3 (-1), 3) := by decide +kernel
theorem dX12_carryOut_143 : decode cX12_carryOut 143 = .ok (.aload_n 0, 1) := by decide +kernel
theorem dX12_carryOut_144 : decode cX12_carryOut 144 = .ok (.getfield 65, 3) := by decide +kernel
theorem dX12_carryOut_147 : decode cX12_carryOut 147 = .ok (.iload_n 3, 1) := by decide +kernel
theorem dX12_carryOut_148 : decode cX12_carryOut 148 = .ok (.iload 5, 2) := by decide +kernel
theorem dX12_carryOut_150 : decode cX12_carryOut 150 = .ok (.aload_n 0, 1) := by decide +kernel
theorem dX12_carryOut_151 : decode cX12_carryOut 151 = .ok (.getfield 65, 3) := by decide +kernel
theorem dX12_carryOut_154 : decode cX12_carryOut 154 = .ok (.iload_n 3, 1) := by decide +kernel
theorem dX12_carryOut_155 : decode cX12_carryOut 155 = .ok (.iaload, 1) := by decide +kernel
theorem dX12_carryOut_156 : decode cX12_carryOut 156 = .ok (.aload_n 0, 1) := by decide +kernel
theorem dX12_carryOut_157 : decode cX12_carryOut 157 = .ok (.getfield 65, 3) := by decide +kernel
theorem dX12_carryOut_160 : decode cX12_carryOut 160 = .ok (.iload_n 3, 1) := by decide +kernel
theorem dX12_carryOut_161 : decode cX12_carryOut 161 = .ok (.iconst 1, 1) := by decide +kernel
theorem dX12_carryOut_162 : decode cX12_carryOut 162 = .ok (.iadd, 1) := by decide +kernel
theorem dX12_carryOut_163 : decode cX12_carryOut 163 = .ok (.iaload, 1) := by decide +kernel
theorem dX12_carryOut_164 : decode cX12_carryOut 164 = .ok (.invokestatic 190, 3) := by decide +kernel
theorem dX12_carryOut_167 : decode cX12_carryOut 167 = .ok (.iastore, 1) := by decide +kernel
theorem dX12_carryOut_168 : decode cX12_carryOut 168 = .ok (.goto (-163), 3) := by decide +kernel
theorem dX12_carryOut_171 : decode cX12_carryOut 171 = .ok (.aload_n 0, 1) := by decide +kernel
theorem dX12_carryOut_172 : decode cX12_carryOut 172 = .ok (.getfield 65, 3) := by decide +kernel
theorem dX12_carryOut_175 : decode cX12_carryOut 175 = .ok (.iconst 0, 1) := by decide +kernel
theorem dX12_carryOut_176 : decode cX12_carryOut 176 = .ok (.iaload, 1) := by decide +kernel
theorem dX12_carryOut_177 : decode cX12_carryOut 177 = .ok (.ireturn, 1) := by decide +kernel
set_option maxRecDepth 20000 in
theorem ggX12_carryOut_X14_isPushed : GoodIn wsX12_carryOut wsX14_isPushed := goodIn_rr wsB_X12_carryOut_in _ [(1, 5), (1, 6), (1, 7), (1, 4), (1, 8)] (by decide +kernel) (by decide +kernel)
set_option maxRecDepth 20000 in
theorem gX12_carryOut_X14_isPushed_n183 : GoodIn wsX12_carryOut (wsX14_isPushed) := ggX12_carryOut_X14_isPushed
set_option maxRecDepth 20000 in
theorem ggX12_carryOut_X14_both : GoodIn wsX12_carryOut wsX14_both := goodIn_rr wsB_X12_carryOut_in _ [(2, 1), (2, 2), (2, 3), (2, 4), (2, 5), (2, 6), (2, 7), (2, 8)] (by decide +kernel) (by decide +kernel)
set_option maxRecDepth 20000 in
theorem gX12_carryOut_X14_both_n190 : GoodIn wsX12_carryOut (wsX14_both) := ggX12_carryOut_X14_both
set_option maxRecDepth 20000 in
theorem ggX12_carryOut_X12_pushed : GoodIn wsX12_carryOut wsX12_pushed := goodIn_rr wsB_X12_carryOut_in _ [(1, 13), (1, 14), (1, 15), (1, 16), (1, 17), (1, 18), (1, 19), (1, 20), (1, 21), (1, 12), (1, 22), (1, 23), (3, 0), (3, 1), (3, 2), (3, 3), (3, 4), (3, 5), (3, 6), (3, 7), (3, 8), (3, 9), (3, 10), (3, 11), (3, 12), (3, 13), (3, 14), (3, 15), (3, 16), (3, 17), (3, 18)] (by decide +kernel) (by decide +kernel)
set_option maxRecDepth 20000 in
theorem gX12_carryOut_X12_pushed : GoodIn wsX12_carryOut (wsV RX12 187 RX12 yX12_pushed wsX12_pushed) := goodIn_app (goodIn_rr wsB_X12_carryOut_in _ [(1, 9), (1, 10), (1, 11), (1, 12)] (by decide +kernel) (by decide +kernel)) ggX12_carryOut_X12_pushed
theorem k_X12_carryOut_f65 : Cond.fieldLink RX12 65 "TideLotsModel$State" "stack" "[I" ∈ wsX12_carryOut := by decide +kernel
theorem i_X12_carryOut_X12 : ∀ w ∈ u_ws RX12 TX12 19, w ∈ wsX12_carryOut := by decide +kernel
theorem k_X12_carryOut_f3 : Cond.fieldLink RX12 3 "TideLotsModel$State" "this$0" "LTideLotsModel;" ∈ wsX12_carryOut := by decide +kernel
theorem i_X12_carryOut_X14 : ∀ w ∈ u_ws RX14 TX14 15, w ∈ wsX12_carryOut := by decide +kernel
theorem kn_X12_180 : Cond.fieldLinkNest "TideLotsModel$State" (180 : Nat) "TideLotsModel$Told" "code" "[I" "TideLotsModel" ∈ gNs := by decide +kernel
theorem i_X12_carryOut_X13 : ∀ w ∈ u_ws RX13 TX13 25, w ∈ wsX12_carryOut := by decide +kernel
theorem kn_X12_183 : Cond.methodLinkNest "TideLotsModel$State" (183 : Nat) ({ cls := "TideLotsModel", name := "isPushed", desc := "(I)Z" } : MethodName) "TideLotsModel" ∈ gNs := by decide +kernel
theorem k_X12_carryOut_iiX14 : Cond.initialized RX14 ∈ wsX12_carryOut := by decide +kernel
theorem k_X12_carryOut_smX14_isPushed : Cond.static yX14_isPushed ∈ wsX12_carryOut := by decide +kernel
theorem kn_X12_190 : Cond.methodLinkNest "TideLotsModel$State" (190 : Nat) ({ cls := "TideLotsModel", name := "both", desc := "(III)I" } : MethodName) "TideLotsModel" ∈ gNs := by decide +kernel
theorem k_X12_carryOut_smX14_both : Cond.static yX14_both ∈ wsX12_carryOut := by decide +kernel
theorem k_X12_carryOut_f74 : Cond.fieldLink RX12 74 "TideLotsModel$State" "tide" "I" ∈ wsX12_carryOut := by decide +kernel
abbrev rX12_carryOut : Room := { frames := 2, cells := 0, slots := 0, locals := 45 }
noncomputable def b_X12_carryOut_136 (M : gMem) (x0 : Nat) (x2 : Int32) (x3 : Int32) (x4 : Int32) (s0 : Option Nat) (s1 : Int32) (s2 : Int32) : Option ((gMem × Int32 × Int32) ⊕ (Int32 × gMem)) :=
  dr s0 fun a1 => ck (mT M a1 = 20) <| ck (inb s1 (mL M a1)) <| lw (wI M a1 s1.toNatClampNeg s2) fun M4 => some (.inl (M4, x3, x4))
noncomputable def b_X12_carryOut_106 (M : gMem) (x0 : Nat) (x2 : Int32) (x3 : Int32) (x4 : Int32) (x5 : Int32) : Option ((gMem × Int32 × Int32) ⊕ (Int32 × gMem)) :=
  ck (mT M x0 = 11) <| (if x5 = (31 : Int32) then dr ((mR M x0 17)) fun a10 => ck (mT M a10 = 20) <| ck (inb x3 (mL M a10)) <| b_X12_carryOut_136 M x0 x2 x3 x4 ((mR M x0 17)) x3 ((-(mI M a10 x3.toNatClampNeg))) else dr ((mR M x0 17)) fun a7 => ck (mT M a7 = 20) <| ck (inb x3 (mL M a7)) <| b_X12_carryOut_136 M x0 x2 x3 x4 ((mR M x0 17)) x3 (((1 : Int32) - (mI M a7 x3.toNatClampNeg))))
noncomputable def b_X12_carryOut_78 (M : gMem) (x0 : Nat) (x2 : Int32) (x3 : Int32) (x4 : Int32) (x5 : Int32) (s0 : Option Nat) (s1 : Int32) (s2 : Int32) : Option ((gMem × Int32 × Int32) ⊕ (Int32 × gMem)) :=
  dr s0 fun a13 => ck (mT M a13 = 20) <| ck (inb s1 (mL M a13)) <| lw (wI M a13 s1.toNatClampNeg s2) fun M16 => (if x5 = (15 : Int32) then some (.inl (M16, x3, x4)) else some (.inl (M16, x3, (x4 + (1 : Int32)))))
noncomputable def bb_X12_carryOut_5 (M : gMem) (x0 : Nat) (x2 : Int32) (x3 : Int32) (x4 : Int32) : Option ((gMem × Int32 × Int32) ⊕ (Int32 × gMem)) :=
  (if x2 ≤ x4 then ck (mT M x0 = 11) <| dr ((mR M x0 17)) fun a19 => ck (mT M a19 = 20) <| ck (inb (0 : Int32) (mL M a19)) <| oI (some ((mI M a19 ((0 : Int32)).toNatClampNeg), M)) else ck (mT M x0 = 11) <| dr ((mR M x0 18)) fun a24 => ck (mT M a24 = 13) <| dr ((mR M a24 11)) fun a26 => ck (mT M a26 = 12) <| dr ((mR M a26 21)) fun a28 => ck (mT M a28 = 20) <| ck (inb x4 (mL M a28)) <| bd (f_X14_isPushed M ((mI M a28 x4.toNatClampNeg))) fun r31 M31 => (if r31 = 0 then (if (mI M a28 x4.toNatClampNeg) = (31 : Int32) then b_X12_carryOut_106 M31 x0 x2 x3 ((x4 + (1 : Int32))) ((mI M a28 x4.toNatClampNeg)) else (if (mI M a28 x4.toNatClampNeg) = (20 : Int32) then b_X12_carryOut_106 M31 x0 x2 x3 ((x4 + (1 : Int32))) ((mI M a28 x4.toNatClampNeg)) else ck (mT M31 x0 = 11) <| dr ((mR M31 x0 17)) fun a33 => ck (mT M31 a33 = 20) <| ck (inb (x3 + (-1 : Int32)) (mL M31 a33)) <| ck (inb ((x3 + (-1 : Int32)) + (1 : Int32)) (mL M31 a33)) <| bd (f_X14_both M31 ((mI M a28 x4.toNatClampNeg)) ((mI M31 a33 ((x3 + (-1 : Int32))).toNatClampNeg)) ((mI M31 a33 (((x3 + (-1 : Int32)) + (1 : Int32))).toNatClampNeg))) fun r37 M37 => ck (mT M37 a33 = 20) <| ck (inb (x3 + (-1 : Int32)) (mL M37 a33)) <| lw (wI M37 a33 ((x3 + (-1 : Int32))).toNatClampNeg r37) fun M40 => some (.inl (M40, (x3 + (-1 : Int32)), (x4 + (1 : Int32)))))) else ck (mT M31 x0 = 11) <| (if (mI M a28 x4.toNatClampNeg) = (15 : Int32) then b_X12_carryOut_78 M31 x0 x2 ((x3 + (1 : Int32))) ((x4 + (1 : Int32))) ((mI M a28 x4.toNatClampNeg)) ((mR M31 x0 17)) ((x3 + (1 : Int32))) ((mI M31 x0 0)) else dr ((mR M31 x0 18)) fun a43 => ck (mT M31 a43 = 13) <| dr ((mR M31 a43 11)) fun a45 => ck (mT M31 a45 = 12) <| dr ((mR M31 a45 21)) fun a47 => ck (mT M31 a47 = 20) <| ck (inb (x4 + (1 : Int32)) (mL M31 a47)) <| bd (f_X12_pushed M31 x0 ((mI M a28 x4.toNatClampNeg)) ((mI M31 a47 ((x4 + (1 : Int32))).toNatClampNeg))) fun r50 M50 => b_X12_carryOut_78 M50 x0 x2 ((x3 + (1 : Int32))) ((x4 + (1 : Int32))) ((mI M a28 x4.toNatClampNeg)) ((mR M31 x0 17)) ((x3 + (1 : Int32))) r50)))
noncomputable def lp_X12_carryOut_5 (M : gMem) (x0 : Nat) (x2 : Int32) (x3 : Int32) (x4 : Int32) : Option (Int32 × gMem) :=
  lp (fun (q : gMem × Int32 × Int32) => bb_X12_carryOut_5 q.1 x0 x2 q.2.1 q.2.2) (M, x3, x4)
noncomputable def b_X12_carryOut_0 (M : gMem) (x0 : Nat) (x1 : Int32) (x2 : Int32) : Option (Int32 × gMem) :=
  lp_X12_carryOut_5 M x0 x2 ((-1 : Int32)) x1
noncomputable def f_X12_carryOut (M : gMem) (x0 : Nat) (x1 : Int32) (x2 : Int32) : Option (Int32 × gMem) :=
  b_X12_carryOut_0 M x0 x1 x2
set_option maxHeartbeats 4000000 in
set_option maxRecDepth 100000 in
theorem t_X12_carryOut_136 (X : gX p s m args meth c D cy B (gSt Z B H0) RX12 cX12_carryOut wsX12_carryOut 6) (hr : meth.sig.returnType = (some .int)) {Q : State → Prop} : ∀ (M : gMem) (x0 : Nat) (x2 : Int32) (x3 : Int32) (x4 : Int32) (s0 : Option Nat) (s1 : Int32) (s2 : Int32) (z : (gMem × Int32 × Int32) ⊕ (Int32 × gMem)), b_X12_carryOut_136 M x0 x2 x3 x4 s0 s1 s2 = some z → (Sum.elim (fun (q : gMem × Int32 × Int32) => gGo p l e rX12_carryOut s m args below meth c D cy B H0 6 0 0 Q 5 [(0, vR (some x0)), (2, vI x2), (3, vI q.2.1), (4, vI q.2.2)] [] q.1) (fun (r : Int32 × gMem) => Q = gMQ below D cy B H0 args s 0 0 (some (vI r.1)) r.2)) z → gGo p l e rX12_carryOut s m args below meth c D cy B H0 6 0 0 Q 136 [(0, vR (some x0)), (2, vI x2), (3, vI x3), (4, vI x4)] [vI s2, vI s1, vR s0] M := by
  intro M x0 x2 x3 x4 s0 s1 s2 z hf hK
  unfold b_X12_carryOut_136 at hf
  obtain ⟨a1, ha1, hf⟩ := dr_e hf
  obtain ⟨hT2, hf⟩ := ck_e hf
  obtain ⟨hg3, hf⟩ := ck_e hf
  refine g_iast X dX12_carryOut_136 ha1 hT2 hg3 ?_
  obtain ⟨M4, hM4, hf⟩ := lw_e hf
  rw [← hM4]
  have hT5 : mT M4 a1 = 20 := by rw [hM4]; exact hT2
  refine g_goto (tgt := 5) X dX12_carryOut_137 (by decide) ?_
  cases hf
  refine g_sub (lvsub_of _ _ [0, 1, 2, 3] rfl) ?_
  exact hK
set_option maxHeartbeats 4000000 in
set_option maxRecDepth 100000 in
theorem t_X12_carryOut_106 (X : gX p s m args meth c D cy B (gSt Z B H0) RX12 cX12_carryOut wsX12_carryOut 6) (hr : meth.sig.returnType = (some .int)) {Q : State → Prop} : ∀ (M : gMem) (x0 : Nat) (x2 : Int32) (x3 : Int32) (x4 : Int32) (x5 : Int32) (z : (gMem × Int32 × Int32) ⊕ (Int32 × gMem)), b_X12_carryOut_106 M x0 x2 x3 x4 x5 = some z → (Sum.elim (fun (q : gMem × Int32 × Int32) => gGo p l e rX12_carryOut s m args below meth c D cy B H0 6 0 0 Q 5 [(0, vR (some x0)), (2, vI x2), (3, vI q.2.1), (4, vI q.2.2)] [] q.1) (fun (r : Int32 × gMem) => Q = gMQ below D cy B H0 args s 0 0 (some (vI r.1)) r.2)) z → gGo p l e rX12_carryOut s m args below meth c D cy B H0 6 0 0 Q 106 [(0, vR (some x0)), (2, vI x2), (3, vI x3), (4, vI x4), (5, vI x5)] [] M := by
  intro M x0 x2 x3 x4 x5 z hf hK
  unfold b_X12_carryOut_106 at hf
  refine g_aload_n X dX12_carryOut_106 rfl rfl ?_
  obtain ⟨hT6, hf⟩ := ck_e hf
  refine g_get (ci := 10) (v := vR (mR M x0 17)) 17 X cdX12 i_X12_carryOut_X12 (by decide) k_X12_carryOut_f65 rfl dX12_carryOut_107 rfl hT6 rfl ?_
  refine g_iload_n X dX12_carryOut_110 rfl rfl ?_
  refine g_iload X dX12_carryOut_111 rfl ?_
  refine g_bipush (v := (31 : Int32)) X dX12_carryOut_113 (by decide) ?_
  refine g_icmp_ne (tgt := 128) X dX12_carryOut_115 (by decide) (fun hc => ?_) (fun hc => ?_)
  · have hf := ife_f hc hf
    refine g_iconst (v := (1 : Int32)) X dX12_carryOut_128 (by decide) ?_
    refine g_aload_n X dX12_carryOut_129 rfl rfl ?_
    refine g_get (ci := 10) (v := vR (mR M x0 17)) 17 X cdX12 i_X12_carryOut_X12 (by decide) k_X12_carryOut_f65 rfl dX12_carryOut_130 rfl hT6 rfl ?_
    refine g_iload_n X dX12_carryOut_133 rfl rfl ?_
    obtain ⟨a7, ha7, hf⟩ := dr_e hf
    obtain ⟨hT8, hf⟩ := ck_e hf
    obtain ⟨hg9, hf⟩ := ck_e hf
    refine g_iald X dX12_carryOut_134 ha7 hT8 hg9 ?_
    refine g_isub X dX12_carryOut_135 ?_
    refine g_sub (lvsub_of _ _ [0, 1, 2, 3] rfl) ?_
    exact t_X12_carryOut_136 X hr _ _ _ _ _ _ _ _ _ hf hK
  · have hf := ife_t hc hf
    refine g_aload_n X dX12_carryOut_118 rfl rfl ?_
    refine g_get (ci := 10) (v := vR (mR M x0 17)) 17 X cdX12 i_X12_carryOut_X12 (by decide) k_X12_carryOut_f65 rfl dX12_carryOut_119 rfl hT6 rfl ?_
    refine g_iload_n X dX12_carryOut_122 rfl rfl ?_
    obtain ⟨a10, ha10, hf⟩ := dr_e hf
    obtain ⟨hT11, hf⟩ := ck_e hf
    obtain ⟨hg12, hf⟩ := ck_e hf
    refine g_iald X dX12_carryOut_123 ha10 hT11 hg12 ?_
    refine g_ineg X dX12_carryOut_124 ?_
    refine g_goto (tgt := 136) X dX12_carryOut_125 (by decide) ?_
    refine g_sub (lvsub_of _ _ [0, 1, 2, 3] rfl) ?_
    exact t_X12_carryOut_136 X hr _ _ _ _ _ _ _ _ _ hf hK
set_option maxHeartbeats 4000000 in
set_option maxRecDepth 100000 in
theorem t_X12_carryOut_78 (X : gX p s m args meth c D cy B (gSt Z B H0) RX12 cX12_carryOut wsX12_carryOut 6) (hr : meth.sig.returnType = (some .int)) {Q : State → Prop} : ∀ (M : gMem) (x0 : Nat) (x2 : Int32) (x3 : Int32) (x4 : Int32) (x5 : Int32) (s0 : Option Nat) (s1 : Int32) (s2 : Int32) (z : (gMem × Int32 × Int32) ⊕ (Int32 × gMem)), b_X12_carryOut_78 M x0 x2 x3 x4 x5 s0 s1 s2 = some z → (Sum.elim (fun (q : gMem × Int32 × Int32) => gGo p l e rX12_carryOut s m args below meth c D cy B H0 6 0 0 Q 5 [(0, vR (some x0)), (2, vI x2), (3, vI q.2.1), (4, vI q.2.2)] [] q.1) (fun (r : Int32 × gMem) => Q = gMQ below D cy B H0 args s 0 0 (some (vI r.1)) r.2)) z → gGo p l e rX12_carryOut s m args below meth c D cy B H0 6 0 0 Q 78 [(0, vR (some x0)), (2, vI x2), (3, vI x3), (4, vI x4), (5, vI x5)] [vI s2, vI s1, vR s0] M := by
  intro M x0 x2 x3 x4 x5 s0 s1 s2 z hf hK
  unfold b_X12_carryOut_78 at hf
  obtain ⟨a13, ha13, hf⟩ := dr_e hf
  obtain ⟨hT14, hf⟩ := ck_e hf
  obtain ⟨hg15, hf⟩ := ck_e hf
  refine g_iast X dX12_carryOut_78 ha13 hT14 hg15 ?_
  obtain ⟨M16, hM16, hf⟩ := lw_e hf
  rw [← hM16]
  have hT17 : mT M16 a13 = 20 := by rw [hM16]; exact hT14
  refine g_iload X dX12_carryOut_79 rfl ?_
  refine g_bipush (v := (15 : Int32)) X dX12_carryOut_81 (by decide) ?_
  refine g_icmp_eq (tgt := 5) X dX12_carryOut_83 (by decide) (fun hc => ?_) (fun hc => ?_)
  · have hf := ife_t hc hf
    cases hf
    refine g_sub (lvsub_of _ _ [0, 1, 2, 3] rfl) ?_
    exact hK
  · have hf := ife_f hc hf
    refine g_iinc (v := (1 : Int32)) (lv' := [(4, vI (x4 + (1 : Int32))), (0, vR (some x0)), (2, vI x2), (3, vI x3), (5, vI x5)]) X dX12_carryOut_86 rfl (by decide) (by decide) rfl ?_
    refine g_goto (tgt := 5) X dX12_carryOut_89 (by decide) ?_
    cases hf
    refine g_sub (lvsub_of _ _ [1, 2, 3, 0] rfl) ?_
    exact hK
set_option maxHeartbeats 4000000 in
set_option maxRecDepth 100000 in
theorem tb_X12_carryOut_5 (X : gX p s m args meth c D cy B (gSt Z B H0) RX12 cX12_carryOut wsX12_carryOut 6) (hr : meth.sig.returnType = (some .int)) {Q : State → Prop} : ∀ (M : gMem) (x0 : Nat) (x2 : Int32) (x3 : Int32) (x4 : Int32) (z : (gMem × Int32 × Int32) ⊕ (Int32 × gMem)), bb_X12_carryOut_5 M x0 x2 x3 x4 = some z → (Sum.elim (fun (q : gMem × Int32 × Int32) => gGo p l e rX12_carryOut s m args below meth c D cy B H0 6 0 0 Q 5 [(0, vR (some x0)), (2, vI x2), (3, vI q.2.1), (4, vI q.2.2)] [] q.1) (fun (r : Int32 × gMem) => Q = gMQ below D cy B H0 args s 0 0 (some (vI r.1)) r.2)) z → gGo p l e rX12_carryOut s m args below meth c D cy B H0 6 0 0 Q 5 [(0, vR (some x0)), (2, vI x2), (3, vI x3), (4, vI x4)] [] M := by
  intro M x0 x2 x3 x4 z hf hK
  unfold bb_X12_carryOut_5 at hf
  refine g_iload X dX12_carryOut_5 rfl ?_
  refine g_iload_n X dX12_carryOut_7 rfl rfl ?_
  refine g_icmp_ge (tgt := 171) X dX12_carryOut_8 (by decide) (fun hc => ?_) (fun hc => ?_)
  · have hf := ife_t hc hf
    refine g_aload_n X dX12_carryOut_171 rfl rfl ?_
    obtain ⟨hT18, hf⟩ := ck_e hf
    refine g_get (ci := 10) (v := vR (mR M x0 17)) 17 X cdX12 i_X12_carryOut_X12 (by decide) k_X12_carryOut_f65 rfl dX12_carryOut_172 rfl hT18 rfl ?_
    refine g_iconst (v := (0 : Int32)) X dX12_carryOut_175 (by decide) ?_
    obtain ⟨a19, ha19, hf⟩ := dr_e hf
    obtain ⟨hT20, hf⟩ := ck_e hf
    obtain ⟨hg21, hf⟩ := ck_e hf
    refine g_iald X dX12_carryOut_176 ha19 hT20 hg21 ?_
    obtain ⟨w22, hw22, hz22⟩ := oI_e hf
    subst hz22
    have hf := hw22
    cases hf
    refine g_eqQ hK ?_
    exact g_iret X hr dX12_carryOut_177
  · have hf := ife_f hc hf
    refine g_aload_n X dX12_carryOut_11 rfl rfl ?_
    obtain ⟨hT23, hf⟩ := ck_e hf
    refine g_get (ci := 10) (v := vR (mR M x0 18)) 18 X cdX12 i_X12_carryOut_X12 (by decide) k_X12_carryOut_f3 rfl dX12_carryOut_12 rfl hT23 rfl ?_
    obtain ⟨a24, ha24, hf⟩ := dr_e hf
    obtain ⟨hT25, hf⟩ := ck_e hf
    refine g_getN (ci := 12) (w := vR (mR M a24 11)) 11 X cdX14 i_X12_carryOut_X14 (by decide) (gNw X _ kn_X12_81) rfl dX12_carryOut_15 ha24 hT25 rfl ?_
    obtain ⟨a26, ha26, hf⟩ := dr_e hf
    obtain ⟨hT27, hf⟩ := ck_e hf
    refine g_getN (ci := 11) (w := vR (mR M a26 21)) 21 X cdX13 i_X12_carryOut_X13 (by decide) (gNw X _ kn_X12_180) rfl dX12_carryOut_18 ha26 hT27 rfl ?_
    refine g_iload X dX12_carryOut_21 rfl ?_
    obtain ⟨a28, ha28, hf⟩ := dr_e hf
    obtain ⟨hT29, hf⟩ := ck_e hf
    obtain ⟨hg30, hf⟩ := ck_e hf
    refine g_iald X dX12_carryOut_23 ha28 hT29 hg30 ?_
    refine g_istore (lv' := [(5, vI (mI M a28 x4.toNatClampNeg)), (0, vR (some x0)), (2, vI x2), (3, vI x3), (4, vI x4)]) X dX12_carryOut_24 (by decide) rfl ?_
    refine g_iinc (v := (1 : Int32)) (lv' := [(4, vI (x4 + (1 : Int32))), (5, vI (mI M a28 x4.toNatClampNeg)), (0, vR (some x0)), (2, vI x2), (3, vI x3)]) X dX12_carryOut_26 rfl (by decide) (by decide) rfl ?_
    refine g_iload X dX12_carryOut_29 rfl ?_
    obtain ⟨r31, M31, hq31, hf⟩ := bd_e hf
    refine g_callSN (As := [vI (mI M a28 x4.toNatClampNeg)]) (st := []) (v := some (vI r31)) (M1 := M31) X (m_X14_isPushed l hq31) ⟨va_cnB 1 X.2.2.1 gX12_carryOut_X14_isPushed_n183 rfl rfl rfl (gNw X _ kn_X12_183) (X.2.2.1 _ k_X12_carryOut_iiX14) (by decide +kernel) ⟨Nat.le_of_ble_eq_true rfl, Nat.le_of_ble_eq_true rfl⟩, X.2.2.1 _ k_X12_carryOut_smX14_isPushed, trivial⟩ rfl rfl (Nat.le_of_ble_eq_true rfl) dX12_carryOut_31 ⟨by decide, by decide⟩ ?_
    refine g_if_eq (tgt := 92) X dX12_carryOut_34 (by decide) (fun hc => ?_) (fun hc => ?_)
    · have hf := ife_t hc hf
      refine g_iload X dX12_carryOut_92 rfl ?_
      refine g_bipush (v := (31 : Int32)) X dX12_carryOut_94 (by decide) ?_
      refine g_icmp_eq (tgt := 106) X dX12_carryOut_96 (by decide) (fun hc => ?_) (fun hc => ?_)
      · have hf := ife_t hc hf
        refine g_sub (lvsub_of _ _ [2, 3, 4, 0, 1] rfl) ?_
        exact t_X12_carryOut_106 X hr _ _ _ _ _ _ _ hf hK
      · have hf := ife_f hc hf
        refine g_iload X dX12_carryOut_99 rfl ?_
        refine g_bipush (v := (20 : Int32)) X dX12_carryOut_101 (by decide) ?_
        refine g_icmp_ne (tgt := 140) X dX12_carryOut_103 (by decide) (fun hc => ?_) (fun hc => ?_)
        · have hf := ife_f hc hf
          refine g_iinc (v := (-1 : Int32)) (lv' := [(3, vI (x3 + (-1 : Int32))), (4, vI (x4 + (1 : Int32))), (5, vI (mI M a28 x4.toNatClampNeg)), (0, vR (some x0)), (2, vI x2)]) X dX12_carryOut_140 rfl (by decide) (by decide) rfl ?_
          refine g_aload_n X dX12_carryOut_143 rfl rfl ?_
          obtain ⟨hT32, hf⟩ := ck_e hf
          refine g_get (ci := 10) (v := vR (mR M31 x0 17)) 17 X cdX12 i_X12_carryOut_X12 (by decide) k_X12_carryOut_f65 rfl dX12_carryOut_144 rfl hT32 rfl ?_
          refine g_iload_n X dX12_carryOut_147 rfl rfl ?_
          refine g_iload X dX12_carryOut_148 rfl ?_
          refine g_aload_n X dX12_carryOut_150 rfl rfl ?_
          refine g_get (ci := 10) (v := vR (mR M31 x0 17)) 17 X cdX12 i_X12_carryOut_X12 (by decide) k_X12_carryOut_f65 rfl dX12_carryOut_151 rfl hT32 rfl ?_
          refine g_iload_n X dX12_carryOut_154 rfl rfl ?_
          obtain ⟨a33, ha33, hf⟩ := dr_e hf
          obtain ⟨hT34, hf⟩ := ck_e hf
          obtain ⟨hg35, hf⟩ := ck_e hf
          refine g_iald X dX12_carryOut_155 ha33 hT34 hg35 ?_
          refine g_aload_n X dX12_carryOut_156 rfl rfl ?_
          refine g_get (ci := 10) (v := vR (mR M31 x0 17)) 17 X cdX12 i_X12_carryOut_X12 (by decide) k_X12_carryOut_f65 rfl dX12_carryOut_157 rfl hT32 rfl ?_
          refine g_iload_n X dX12_carryOut_160 rfl rfl ?_
          refine g_iconst (v := (1 : Int32)) X dX12_carryOut_161 (by decide) ?_
          refine g_iadd X dX12_carryOut_162 ?_
          obtain ⟨hg36, hf⟩ := ck_e hf
          refine g_iald X dX12_carryOut_163 ha33 hT34 hg36 ?_
          obtain ⟨r37, M37, hq37, hf⟩ := bd_e hf
          refine g_callSN (As := [vI (mI M a28 x4.toNatClampNeg), vI (mI M31 a33 ((x3 + (-1 : Int32))).toNatClampNeg), vI (mI M31 a33 (((x3 + (-1 : Int32)) + (1 : Int32))).toNatClampNeg)]) (st := [vI (x3 + (-1 : Int32)), vR (mR M31 x0 17)]) (v := some (vI r37)) (M1 := M37) X (m_X14_both l hq37) ⟨va_cnB 3 X.2.2.1 gX12_carryOut_X14_both_n190 rfl rfl rfl (gNw X _ kn_X12_190) (X.2.2.1 _ k_X12_carryOut_iiX14) (by decide +kernel) ⟨Nat.le_of_ble_eq_true rfl, Nat.le_of_ble_eq_true rfl⟩, X.2.2.1 _ k_X12_carryOut_smX14_both, trivial⟩ rfl rfl (Nat.le_of_ble_eq_true rfl) dX12_carryOut_164 ⟨by decide, by decide⟩ ?_
          obtain ⟨hT38, hf⟩ := ck_e hf
          obtain ⟨hg39, hf⟩ := ck_e hf
          refine g_iast X dX12_carryOut_167 ha33 hT38 hg39 ?_
          obtain ⟨M40, hM40, hf⟩ := lw_e hf
          rw [← hM40]
          have hT41 : mT M40 a33 = 20 := by rw [hM40]; exact hT38
          refine g_goto (tgt := 5) X dX12_carryOut_168 (by decide) ?_
          cases hf
          refine g_sub (lvsub_of _ _ [3, 4, 0, 1] rfl) ?_
          exact hK
        · have hf := ife_t hc hf
          refine g_sub (lvsub_of _ _ [2, 3, 4, 0, 1] rfl) ?_
          exact t_X12_carryOut_106 X hr _ _ _ _ _ _ _ hf hK
    · have hf := ife_f hc hf
      refine g_iinc (v := (1 : Int32)) (lv' := [(3, vI (x3 + (1 : Int32))), (4, vI (x4 + (1 : Int32))), (5, vI (mI M a28 x4.toNatClampNeg)), (0, vR (some x0)), (2, vI x2)]) X dX12_carryOut_37 rfl (by decide) (by decide) rfl ?_
      refine g_aload_n X dX12_carryOut_40 rfl rfl ?_
      obtain ⟨hT42, hf⟩ := ck_e hf
      refine g_get (ci := 10) (v := vR (mR M31 x0 17)) 17 X cdX12 i_X12_carryOut_X12 (by decide) k_X12_carryOut_f65 rfl dX12_carryOut_41 rfl hT42 rfl ?_
      refine g_iload_n X dX12_carryOut_44 rfl rfl ?_
      refine g_iload X dX12_carryOut_45 rfl ?_
      refine g_bipush (v := (15 : Int32)) X dX12_carryOut_47 (by decide) ?_
      refine g_icmp_ne (tgt := 59) X dX12_carryOut_49 (by decide) (fun hc => ?_) (fun hc => ?_)
      · have hf := ife_f hc hf
        refine g_aload_n X dX12_carryOut_59 rfl rfl ?_
        refine g_iload X dX12_carryOut_60 rfl ?_
        refine g_aload_n X dX12_carryOut_62 rfl rfl ?_
        refine g_get (ci := 10) (v := vR (mR M31 x0 18)) 18 X cdX12 i_X12_carryOut_X12 (by decide) k_X12_carryOut_f3 rfl dX12_carryOut_63 rfl hT42 rfl ?_
        obtain ⟨a43, ha43, hf⟩ := dr_e hf
        obtain ⟨hT44, hf⟩ := ck_e hf
        refine g_getN (ci := 12) (w := vR (mR M31 a43 11)) 11 X cdX14 i_X12_carryOut_X14 (by decide) (gNw X _ kn_X12_81) rfl dX12_carryOut_66 ha43 hT44 rfl ?_
        obtain ⟨a45, ha45, hf⟩ := dr_e hf
        obtain ⟨hT46, hf⟩ := ck_e hf
        refine g_getN (ci := 11) (w := vR (mR M31 a45 21)) 21 X cdX13 i_X12_carryOut_X13 (by decide) (gNw X _ kn_X12_180) rfl dX12_carryOut_69 ha45 hT46 rfl ?_
        refine g_iload X dX12_carryOut_72 rfl ?_
        obtain ⟨a47, ha47, hf⟩ := dr_e hf
        obtain ⟨hT48, hf⟩ := ck_e hf
        obtain ⟨hg49, hf⟩ := ck_e hf
        refine g_iald X dX12_carryOut_74 ha47 hT48 hg49 ?_
        obtain ⟨r50, M50, hq50, hf⟩ := bd_e hf
        refine g_callV (ci := 10) (b := x0) (As := [vI (mI M a28 x4.toNatClampNeg), vI (mI M31 a47 ((x4 + (1 : Int32))).toNatClampNeg)]) (st := [vI (x3 + (1 : Int32)), vR (mR M31 x0 17)]) (v := some (vI r50)) (M1 := M50) X (m_X12_pushed l hq50) (cwV 2 X.2.2.1 gX12_carryOut_X12_pushed rfl rfl rfl (by decide +kernel) ⟨Nat.le_of_ble_eq_true rfl, Nat.le_of_ble_eq_true rfl⟩) rfl rfl rfl hT42 (by decide) rfl (Nat.le_of_ble_eq_true rfl) dX12_carryOut_75 ⟨by decide, by decide⟩ ?_
        refine g_sub (lvsub_of _ _ [3, 4, 0, 1, 2] rfl) ?_
        exact t_X12_carryOut_78 X hr _ _ _ _ _ _ _ _ _ _ hf hK
      · have hf := ife_t hc hf
        refine g_aload_n X dX12_carryOut_52 rfl rfl ?_
        refine g_get (ci := 10) (v := vI (mI M31 x0 0)) 0 X cdX12 i_X12_carryOut_X12 (by decide) k_X12_carryOut_f74 rfl dX12_carryOut_53 rfl hT42 rfl ?_
        refine g_goto (tgt := 78) X dX12_carryOut_56 (by decide) ?_
        refine g_sub (lvsub_of _ _ [3, 4, 0, 1, 2] rfl) ?_
        exact t_X12_carryOut_78 X hr _ _ _ _ _ _ _ _ _ _ hf hK
set_option maxHeartbeats 4000000 in
set_option maxRecDepth 100000 in
theorem tl_X12_carryOut_5 (X : gX p s m args meth c D cy B (gSt Z B H0) RX12 cX12_carryOut wsX12_carryOut 6) (hr : meth.sig.returnType = (some .int)) {Q : State → Prop} : ∀ (M : gMem) (x0 : Nat) (x2 : Int32) (x3 : Int32) (x4 : Int32) (z : Int32 × gMem), lp_X12_carryOut_5 M x0 x2 x3 x4 = some z → (fun (r : Int32 × gMem) => Q = gMQ below D cy B H0 args s 0 0 (some (vI r.1)) r.2) z → gGo p l e rX12_carryOut s m args below meth c D cy B H0 6 0 0 Q 5 [(0, vR (some x0)), (2, vI x2), (3, vI x3), (4, vI x4)] [] M := by
  intro M x0 x2 x3 x4 z hf hK
  refine lp_ind (P := (fun (q : gMem × Int32 × Int32) (z : Int32 × gMem) => (fun (r : Int32 × gMem) => Q = gMQ below D cy B H0 args s 0 0 (some (vI r.1)) r.2) z → gGo p l e rX12_carryOut s m args below meth c D cy B H0 6 0 0 Q 5 [(0, vR (some x0)), (2, vI x2), (3, vI q.2.1), (4, vI q.2.2)] [] q.1)) (fun q z hq => ?_) _ _ hf hK
  intro hK
  obtain ⟨w, hw, hm⟩ := hq
  refine tb_X12_carryOut_5 X hr _ _ _ _ _ w hw ?_
  cases w with
  | inl a => exact hm hK
  | inr b => cases hm; exact hK
set_option maxHeartbeats 4000000 in
set_option maxRecDepth 100000 in
theorem t_X12_carryOut_0 (X : gX p s m args meth c D cy B (gSt Z B H0) RX12 cX12_carryOut wsX12_carryOut 6) (hr : meth.sig.returnType = (some .int)) {Q : State → Prop} : ∀ (M : gMem) (x0 : Nat) (x1 : Int32) (x2 : Int32) (z : Int32 × gMem), b_X12_carryOut_0 M x0 x1 x2 = some z → (fun (r : Int32 × gMem) => Q = gMQ below D cy B H0 args s 0 0 (some (vI r.1)) r.2) z → gGo p l e rX12_carryOut s m args below meth c D cy B H0 6 0 0 Q 0 [(0, vR (some x0)), (1, vI x1), (2, vI x2)] [] M := by
  intro M x0 x1 x2 z hf hK
  unfold b_X12_carryOut_0 at hf
  refine g_iconst (v := (-1 : Int32)) X dX12_carryOut_0 (by decide) ?_
  refine g_istore_n (lv' := [(3, vI (-1 : Int32)), (0, vR (some x0)), (1, vI x1), (2, vI x2)]) X dX12_carryOut_1 rfl (by decide) rfl ?_
  refine g_iload_n X dX12_carryOut_2 rfl rfl ?_
  refine g_istore (lv' := [(4, vI x1), (3, vI (-1 : Int32)), (0, vR (some x0)), (1, vI x1), (2, vI x2)]) X dX12_carryOut_3 (by decide) rfl ?_
  refine g_sub (lvsub_of _ _ [2, 4, 1, 0] rfl) ?_
  exact tl_X12_carryOut_5 X hr _ _ _ _ _ _ hf hK
set_option maxHeartbeats 4000000 in
set_option maxRecDepth 100000 in
theorem m_X12_carryOut (l : Launch) {D : va_G} {cy : Nat → ClassId} {B : Nat} {H0 : Heap} {Z : Nat → Nat} {M M1 : gMem} {x0 : Nat} {x1 : Int32} {x2 : Int32} {r : Int32} (hf : f_X12_carryOut M x0 x1 x2 = some (r, M1)) : Met l yX12_carryOut wsX12_carryOut rX12_carryOut (va_Pc (Value.ref x0 :: List.map gv [vI x1, vI x2]) (gPre D cy B H0 (gSt Z B H0) M)) (gQ D cy B H0 (some (vI r)) M1) 0 0 (gA B) := by
  refine Met.ofW (cc := cX12_carryOut) (maxL := 6) (ret := (some .int)) (by decide) rfl ?_
  intro p e s m args below meth c s₁ Bd hml hv
  obtain ⟨rfl, hW, hKK, hFs⟩ := hv
  have X : gX p s m _ meth c D cy B (gSt Z B H0) RX12 cX12_carryOut wsX12_carryOut 6 := ⟨Bd.exec, Bd.bytes, atoms_spec (ws := wsX12_carryOut) Bd.pre, findClass_of_methodNamed Bd.named, hml, hKK, by rw [hW.1]; exact hW.2.1, Bd.notSynchronized, hFs⟩
  have hr := Bd.returns
  have hl := lv_entry ([.ref x0, .int x1, .int x2]) (n := 6) (Nat.le_of_ble_eq_true rfl)
  show W p l e rX12_carryOut s m _ below meth c s.heap [] 0 0 _ (entryFrame m ([.ref x0, .int x1, .int x2] : List Value).toArray 6)
  rw [lg_entry_eq]
  generalize (lg_sl ([.ref x0, .int x1, .int x2]) ++ List.replicate (6 - (lg_sl ([.ref x0, .int x1, .int x2])).length) Slot.unset).toArray = ls at hl ⊢
  have hl : lv_has ls 6 (List.map gq [(0, vR (some x0)), (1, vI x1), (2, vI x2)]) := hl
  exact t_X12_carryOut_0 X hr _ _ _ _ _ hf rfl s.heap [] ls hW va_S.rf (lv_has_sub hl (lvsub_of _ _ [0, 1, 2] rfl))
/-! ## TideLotsModel$State.isSpared(II)Z -/
theorem dX12_isSpared_0 : decode cX12_isSpared 0 = .ok (.iconst 0, 1) := by decide +kernel
theorem dX12_isSpared_1 : decode cX12_isSpared 1 = .ok (.istore_n 3, 1) := by decide +kernel
theorem dX12_isSpared_2 : decode cX12_isSpared 2 = .ok (.iload_n 3, 1) := by decide +kernel
theorem dX12_isSpared_3 : decode cX12_isSpared 3 = .ok (.aload_n 0, 1) := by decide +kernel
theorem dX12_isSpared_4 : decode cX12_isSpared 4 = .ok (.getfield 3, 3) := by decide +kernel
theorem dX12_isSpared_7 : decode cX12_isSpared 7 = .ok (.getfield 81, 3) := by decide +kernel
theorem dX12_isSpared_10 : decode cX12_isSpared 10 = .ok (.getfield 113, 3) := by decide +kernel
theorem dX12_isSpared_13 : decode cX12_isSpared 13 = .ok (.if_icmp .ge 129, 3) := by decide +kernel
theorem dX12_isSpared_16 : decode cX12_isSpared 16 = .ok (.iconst 0, 1) := by decide +kernel
theorem dX12_isSpared_17 : decode cX12_isSpared 17 = .ok (.istore 4, 2) := by decide +kernel
theorem dX12_isSpared_19 : decode cX12_isSpared 19 = .ok (.iconst 0, 1) := by decide +kernel
theorem dX12_isSpared_20 : decode cX12_isSpared 20 = .ok (.istore 5, 2) := by decide +kernel
theorem dX12_isSpared_22 : decode cX12_isSpared 22 = .ok (.iload 5, 2) := by decide +kernel
theorem dX12_isSpared_24 : decode cX12_isSpared 24 = .ok (.aload_n 0, 1) := by decide +kernel
theorem dX12_isSpared_25 : decode cX12_isSpared 25 = .ok (.getfield 3, 3) := by decide +kernel
theorem dX12_isSpared_28 : decode cX12_isSpared 28 = .ok (.getfield 81, 3) := by decide +kernel
theorem dX12_isSpared_31 : decode cX12_isSpared 31 = .ok (.getfield 160, 3) := by decide +kernel
theorem dX12_isSpared_34 : decode cX12_isSpared 34 = .ok (.iload_n 3, 1) := by decide +kernel
theorem dX12_isSpared_35 : decode cX12_isSpared 35 = .ok (.iaload, 1) := by decide +kernel
theorem dX12_isSpared_36 : decode cX12_isSpared 36 = .ok (.if_icmp .ge 41, 3) := by decide +kernel
theorem dX12_isSpared_39 : decode cX12_isSpared 39 = .ok (.iload 4, 2) := by decide +kernel
theorem dX12_isSpared_41 : decode cX12_isSpared 41 = .ok (.aload_n 0, 1) := by decide +kernel
theorem dX12_isSpared_42 : decode cX12_isSpared 42 = .ok (.getfield 3, 3) := by decide +kernel
theorem dX12_isSpared_45 : decode cX12_isSpared 45 = .ok (.getfield 81, 3) := by decide +kernel
theorem dX12_isSpared_48 : decode cX12_isSpared 48 = .ok (.getfield 163, 3) := by decide +kernel
theorem dX12_isSpared_51 : decode cX12_isSpared 51 = .ok (.bipush 8, 2) := by decide +kernel
theorem dX12_isSpared_53 : decode cX12_isSpared 53 = .ok (.iload_n 3, 1) := by decide +kernel
theorem dX12_isSpared_54 : decode cX12_isSpared 54 = .ok (.imul, 1) := by decide +kernel
theorem dX12_isSpared_55 : decode cX12_isSpared 55 = .ok (.iload 5, 2) := by decide +kernel
theorem dX12_isSpared_57 : decode cX12_isSpared 57 = .ok (.iadd, 1) := by decide +kernel
theorem dX12_isSpared_58 : decode cX12_isSpared 58 = .ok (.iaload, 1) := by decide +kernel
theorem dX12_isSpared_59 : decode cX12_isSpared 59 = .ok (.iload_n 1, 1) := by decide +kernel
theorem dX12_isSpared_60 : decode cX12_isSpared 60 = .ok (.if_icmp .ne 7, 3) := by decide +kernel
theorem dX12_isSpared_63 : decode cX12_isSpared 63 = .ok (.iconst 1, 1) := by decide +kernel
theorem dX12_isSpared_64 : decode cX12_isSpared 64 = .ok (.goto 4, 3) := by decide +kernel
theorem dX12_isSpared_67 : decode cX12_isSpared 67 = .ok (.iconst 0, 1) := by decide +kernel
theorem dX12_isSpared_68 : decode cX12_isSpared 68 = .ok (.ior, 1) := by decide +kernel
theorem dX12_isSpared_69 : decode cX12_isSpared 69 = .ok (.istore 4, 2) := by decide +kernel
theorem dX12_isSpared_71 : decode cX12_isSpared 71 = .ok (.iinc 5 1, 3) := by decide +kernel
theorem dX12_isSpared_74 : decode cX12_isSpared 74 = .ok (.goto (-52), 3) := by decide +kernel
theorem dX12_isSpared_77 : decode cX12_isSpared 77 = .ok (.iload 4, 2) := by decide +kernel
theorem dX12_isSpared_79 : decode cX12_isSpared 79 = .ok (.ifCond .eq 57, 3) := by decide +kernel
theorem dX12_isSpared_82 : decode cX12_isSpared 82 = .ok (.aload_n 0, 1) := by decide +kernel
theorem dX12_isSpared_83 : decode cX12_isSpared 83 = .ok (.getfield 3, 3) := by decide +kernel
theorem dX12_isSpared_86 : decode cX12_isSpared 86 = .ok (.getfield 81, 3) := by decide +kernel
theorem dX12_isSpared_89 : decode cX12_isSpared 89 = .ok (.getfield 116, 3) := by decide +kernel
theorem dX12_isSpared_92 : decode cX12_isSpared 92 = .ok (.iload_n 3, 1) := by decide +kernel
theorem dX12_isSpared_93 : decode cX12_isSpared 93 = .ok (.iaload, 1) := by decide +kernel
theorem dX12_isSpared_94 : decode cX12_isSpared 94 = .ok (.iload_n 2, 1) := by decide +kernel
theorem dX12_isSpared_95 : decode cX12_isSpared 95 = .ok (.if_icmp .ne 41, 3) := by decide +kernel
theorem dX12_isSpared_98 : decode cX12_isSpared 98 = .ok (.aload_n 0, 1) := by decide +kernel
theorem dX12_isSpared_99 : decode cX12_isSpared 99 = .ok (.iload_n 2, 1) := by decide +kernel
theorem dX12_isSpared_100 : decode cX12_isSpared 100 = .ok (.invokevirtual 166, 3) := by decide +kernel
theorem dX12_isSpared_103 : decode cX12_isSpared 103 = .ok (.aload_n 0, 1) := by decide +kernel
theorem dX12_isSpared_104 : decode cX12_isSpared 104 = .ok (.aload_n 0, 1) := by decide +kernel
theorem dX12_isSpared_105 : decode cX12_isSpared 105 = .ok (.getfield 3, 3) := by decide +kernel
theorem dX12_isSpared_108 : decode cX12_isSpared 108 = .ok (.getfield 81, 3) := by decide +kernel
theorem dX12_isSpared_111 : decode cX12_isSpared 111 = .ok (.getfield 170, 3) := by decide +kernel
theorem dX12_isSpared_114 : decode cX12_isSpared 114 = .ok (.iload_n 3, 1) := by decide +kernel
theorem dX12_isSpared_115 : decode cX12_isSpared 115 = .ok (.iaload, 1) := by decide +kernel
theorem dX12_isSpared_116 : decode cX12_isSpared 116 = .ok (.aload_n 0, 1) := by decide +kernel
theorem dX12_isSpared_117 : decode cX12_isSpared 117 = .ok (.getfield 3, 3) := by decide +kernel
theorem dX12_isSpared_120 : decode cX12_isSpared 120 = .ok (.getfield 81, 3) := by decide +kernel
theorem dX12_isSpared_123 : decode cX12_isSpared 123 = .ok (.getfield 173, 3) := by decide +kernel
theorem dX12_isSpared_126 : decode cX12_isSpared 126 = .ok (.iload_n 3, 1) := by decide +kernel
theorem dX12_isSpared_127 : decode cX12_isSpared 127 = .ok (.iaload, 1) := by decide +kernel
theorem dX12_isSpared_128 : decode cX12_isSpared 128 = .ok (.invokevirtual 154, 3) := by decide +kernel
theorem dX12_isSpared_131 : decode cX12_isSpared 131 = .ok (.if_icmp .ge 5, 3) := by decide +kernel
theorem dX12_isSpared_134 : decode cX12_isSpared 134 = .ok (.iconst 1, 1) := by decide +kernel
theorem dX12_isSpared_135 : decode cX12_isSpared 135 = .ok (.ireturn, 1) := by decide +kernel
theorem dX12_isSpared_136 : decode cX12_isSpared 136 = .ok (.iinc 3 1, 3) := by decide +kernel
theorem dX12_isSpared_139 : decode cX12_isSpared 139 = .ok (.goto (-137), 3) := by decide +kernel
theorem dX12_isSpared_142 : decode cX12_isSpared 142 = .ok (.iconst 0, 1) := by decide +kernel
theorem dX12_isSpared_143 : decode cX12_isSpared 143 = .ok (.ireturn, 1) := by decide +kernel
set_option maxRecDepth 20000 in
theorem ggX12_isSpared_X12_fishAt : GoodIn wsX12_isSpared wsX12_fishAt := goodIn_rr wsB_X12_isSpared_in _ [(1, 5), (1, 6), (3, 0), (3, 1), (3, 2), (3, 3), (3, 4), (3, 5), (3, 6), (3, 7), (3, 8), (3, 9), (3, 10), (3, 11), (3, 12), (3, 13), (3, 14), (3, 15), (3, 16), (3, 17), (3, 18)] (by decide +kernel) (by decide +kernel)
set_option maxRecDepth 20000 in
theorem gX12_isSpared_X12_fishAt : GoodIn wsX12_isSpared (wsV RX12 166 RX12 yX12_fishAt wsX12_fishAt) := goodIn_app (goodIn_rr wsB_X12_isSpared_in _ [(1, 1), (1, 2), (1, 3), (1, 4)] (by decide +kernel) (by decide +kernel)) ggX12_isSpared_X12_fishAt
set_option maxRecDepth 20000 in
theorem ggX12_isSpared_X12_carryOut : GoodIn wsX12_isSpared wsX12_carryOut := goodIn_2 24 (goodIn_rr wsB_X12_isSpared_in _ [(1, 10), (1, 0), (1, 11), (1, 12), (1, 13), (1, 14), (1, 15), (1, 16), (1, 17), (1, 18), (1, 19), (1, 20), (1, 21), (1, 4), (1, 22), (1, 23), (2, 0), (2, 1), (2, 2), (2, 3), (1, 1), (1, 2), (1, 3), (1, 5)] (by decide +kernel) (by decide +kernel)) (goodIn_2 24 (goodIn_rr wsB_X12_isSpared_in _ [(1, 6), (2, 4), (2, 5), (2, 6), (2, 7), (2, 8), (2, 9), (2, 10), (2, 11), (2, 12), (3, 0), (3, 1), (3, 2), (3, 3), (3, 4), (3, 5), (3, 6), (3, 7), (3, 8), (3, 9), (3, 10), (3, 11), (3, 12), (3, 13)] (by decide +kernel) (by decide +kernel)) (goodIn_2 24 (goodIn_rr wsB_X12_isSpared_in _ [(3, 14), (3, 15), (3, 16), (3, 17), (3, 18), (4, 0), (4, 1), (4, 2), (4, 3), (4, 4), (4, 5), (4, 6), (4, 7), (4, 8), (4, 9), (4, 10), (4, 11), (4, 12), (4, 13), (4, 14), (5, 0), (5, 1), (5, 2), (5, 3)] (by decide +kernel) (by decide +kernel)) (goodIn_rr wsB_X12_isSpared_in _ [(5, 4), (5, 5), (5, 6), (5, 7), (5, 8), (5, 9), (5, 10), (5, 11), (5, 12), (5, 13), (5, 14), (5, 15), (5, 16), (5, 17), (5, 18), (5, 19), (5, 20), (5, 21), (5, 22), (5, 23), (5, 24)] (by decide +kernel) (by decide +kernel))))
set_option maxRecDepth 20000 in
theorem gX12_isSpared_X12_carryOut : GoodIn wsX12_isSpared (wsV RX12 154 RX12 yX12_carryOut wsX12_carryOut) := goodIn_app (goodIn_rr wsB_X12_isSpared_in _ [(1, 7), (1, 8), (1, 9), (1, 4)] (by decide +kernel) (by decide +kernel)) ggX12_isSpared_X12_carryOut
theorem k_X12_isSpared_f3 : Cond.fieldLink RX12 3 "TideLotsModel$State" "this$0" "LTideLotsModel;" ∈ wsX12_isSpared := by decide +kernel
theorem i_X12_isSpared_X12 : ∀ w ∈ u_ws RX12 TX12 19, w ∈ wsX12_isSpared := by decide +kernel
theorem i_X12_isSpared_X14 : ∀ w ∈ u_ws RX14 TX14 15, w ∈ wsX12_isSpared := by decide +kernel
theorem i_X12_isSpared_X13 : ∀ w ∈ u_ws RX13 TX13 25, w ∈ wsX12_isSpared := by decide +kernel
theorem kn_X12_116 : Cond.fieldLinkNest "TideLotsModel$State" (116 : Nat) "TideLotsModel$Told" "spared" "[I" "TideLotsModel" ∈ gNs := by decide +kernel
theorem kn_X12_170 : Cond.fieldLinkNest "TideLotsModel$State" (170 : Nat) "TideLotsModel$Told" "sum" "[I" "TideLotsModel" ∈ gNs := by decide +kernel
theorem kn_X12_173 : Cond.fieldLinkNest "TideLotsModel$State" (173 : Nat) "TideLotsModel$Told" "summed" "[I" "TideLotsModel" ∈ gNs := by decide +kernel
theorem kn_X12_113 : Cond.fieldLinkNest "TideLotsModel$State" (113 : Nat) "TideLotsModel$Told" "pacts" "I" "TideLotsModel" ∈ gNs := by decide +kernel
abbrev rX12_isSpared : Room := { frames := 3, cells := 0, slots := 0, locals := 70 }
noncomputable def b_X12_isSpared_136 (M : gMem) (x0 : Nat) (x1 : Int32) (x2 : Int32) (x3 : Int32) : Option ((gMem × Int32) ⊕ (Int32 × gMem)) :=
  some (.inl (M, (x3 + (1 : Int32))))
noncomputable def b_X12_isSpared_68 (M : gMem) (x0 : Nat) (x1 : Int32) (x2 : Int32) (x3 : Int32) (x5 : Int32) (s0 : Int32) (s1 : Int32) : Option ((gMem × Int32 × Int32) ⊕ ((gMem × Int32) ⊕ (Int32 × gMem))) :=
  some (.inl (M, (s0 ||| s1), (x5 + (1 : Int32))))
noncomputable def bb_X12_isSpared_22 (M : gMem) (x0 : Nat) (x1 : Int32) (x2 : Int32) (x3 : Int32) (x4 : Int32) (x5 : Int32) : Option ((gMem × Int32 × Int32) ⊕ ((gMem × Int32) ⊕ (Int32 × gMem))) :=
  ck (mT M x0 = 11) <| dr ((mR M x0 18)) fun a2 => ck (mT M a2 = 13) <| dr ((mR M a2 11)) fun a4 => ck (mT M a4 = 12) <| dr ((mR M a4 13)) fun a6 => ck (mT M a6 = 20) <| ck (inb x3 (mL M a6)) <| (if (mI M a6 x3.toNatClampNeg) ≤ x5 then (if x4 = 0 then oI (b_X12_isSpared_136 M x0 x1 x2 x3) else dr ((mR M a4 12)) fun a10 => ck (mT M a10 = 20) <| ck (inb x3 (mL M a10)) <| (if (mI M a10 x3.toNatClampNeg) = x2 then bd (f_X12_fishAt M x0 x2) fun r14 M14 => ck (mT M14 x0 = 11) <| dr ((mR M14 x0 18)) fun a16 => ck (mT M14 a16 = 13) <| dr ((mR M14 a16 11)) fun a18 => ck (mT M14 a18 = 12) <| dr ((mR M14 a18 19)) fun a20 => ck (mT M14 a20 = 20) <| ck (inb x3 (mL M14 a20)) <| dr ((mR M14 a18 20)) fun a23 => ck (mT M14 a23 = 20) <| ck (inb x3 (mL M14 a23)) <| bd (f_X12_carryOut M14 x0 ((mI M14 a20 x3.toNatClampNeg)) ((mI M14 a23 x3.toNatClampNeg))) fun r26 M26 => (if r26 ≤ r14 then oI (b_X12_isSpared_136 M26 x0 x1 x2 x3) else oI (oI (some ((1 : Int32), M26)))) else oI (b_X12_isSpared_136 M x0 x1 x2 x3))) else dr ((mR M a4 14)) fun a30 => ck (mT M a30 = 20) <| ck (inb (((8 : Int32) * x3) + x5) (mL M a30)) <| (if (mI M a30 ((((8 : Int32) * x3) + x5)).toNatClampNeg) = x1 then b_X12_isSpared_68 M x0 x1 x2 x3 x5 x4 ((1 : Int32)) else b_X12_isSpared_68 M x0 x1 x2 x3 x5 x4 ((0 : Int32))))
noncomputable def lp_X12_isSpared_22 (M : gMem) (x0 : Nat) (x1 : Int32) (x2 : Int32) (x3 : Int32) (x4 : Int32) (x5 : Int32) : Option ((gMem × Int32) ⊕ (Int32 × gMem)) :=
  lp (fun (q : gMem × Int32 × Int32) => bb_X12_isSpared_22 q.1 x0 x1 x2 x3 q.2.1 q.2.2) (M, x4, x5)
noncomputable def bb_X12_isSpared_2 (M : gMem) (x0 : Nat) (x1 : Int32) (x2 : Int32) (x3 : Int32) : Option ((gMem × Int32) ⊕ (Int32 × gMem)) :=
  ck (mT M x0 = 11) <| dr ((mR M x0 18)) fun a34 => ck (mT M a34 = 13) <| dr ((mR M a34 11)) fun a36 => ck (mT M a36 = 12) <| (if (mI M a36 11) ≤ x3 then oI (some ((0 : Int32), M)) else lp_X12_isSpared_22 M x0 x1 x2 x3 ((0 : Int32)) ((0 : Int32)))
noncomputable def lp_X12_isSpared_2 (M : gMem) (x0 : Nat) (x1 : Int32) (x2 : Int32) (x3 : Int32) : Option (Int32 × gMem) :=
  lp (fun (q : gMem × Int32) => bb_X12_isSpared_2 q.1 x0 x1 x2 q.2) (M, x3)
noncomputable def b_X12_isSpared_0 (M : gMem) (x0 : Nat) (x1 : Int32) (x2 : Int32) : Option (Int32 × gMem) :=
  lp_X12_isSpared_2 M x0 x1 x2 ((0 : Int32))
noncomputable def f_X12_isSpared (M : gMem) (x0 : Nat) (x1 : Int32) (x2 : Int32) : Option (Int32 × gMem) :=
  b_X12_isSpared_0 M x0 x1 x2
set_option maxHeartbeats 4000000 in
set_option maxRecDepth 100000 in
theorem t_X12_isSpared_136 (X : gX p s m args meth c D cy B (gSt Z B H0) RX12 cX12_isSpared wsX12_isSpared 6) (hr : meth.sig.returnType = (some .boolean)) {Q : State → Prop} : ∀ (M : gMem) (x0 : Nat) (x1 : Int32) (x2 : Int32) (x3 : Int32) (z : (gMem × Int32) ⊕ (Int32 × gMem)), b_X12_isSpared_136 M x0 x1 x2 x3 = some z → (Sum.elim (fun (q : gMem × Int32) => gGo p l e rX12_isSpared s m args below meth c D cy B H0 6 0 0 Q 2 [(0, vR (some x0)), (1, vI x1), (2, vI x2), (3, vI q.2)] [] q.1) (fun (r : Int32 × gMem) => Q = gMQ below D cy B H0 args s 0 0 (some (vI r.1)) r.2)) z → gGo p l e rX12_isSpared s m args below meth c D cy B H0 6 0 0 Q 136 [(0, vR (some x0)), (1, vI x1), (2, vI x2), (3, vI x3)] [] M := by
  intro M x0 x1 x2 x3 z hf hK
  unfold b_X12_isSpared_136 at hf
  refine g_iinc (v := (1 : Int32)) (lv' := [(3, vI (x3 + (1 : Int32))), (0, vR (some x0)), (1, vI x1), (2, vI x2)]) X dX12_isSpared_136 rfl (by decide) (by decide) rfl ?_
  refine g_goto (tgt := 2) X dX12_isSpared_139 (by decide) ?_
  cases hf
  refine g_sub (lvsub_of _ _ [1, 2, 3, 0] rfl) ?_
  exact hK
set_option maxHeartbeats 4000000 in
set_option maxRecDepth 100000 in
theorem t_X12_isSpared_68 (X : gX p s m args meth c D cy B (gSt Z B H0) RX12 cX12_isSpared wsX12_isSpared 6) (hr : meth.sig.returnType = (some .boolean)) {Q : State → Prop} : ∀ (M : gMem) (x0 : Nat) (x1 : Int32) (x2 : Int32) (x3 : Int32) (x5 : Int32) (s0 : Int32) (s1 : Int32) (z : (gMem × Int32 × Int32) ⊕ ((gMem × Int32) ⊕ (Int32 × gMem))), b_X12_isSpared_68 M x0 x1 x2 x3 x5 s0 s1 = some z → (Sum.elim (fun (q : gMem × Int32 × Int32) => gGo p l e rX12_isSpared s m args below meth c D cy B H0 6 0 0 Q 22 [(0, vR (some x0)), (1, vI x1), (2, vI x2), (3, vI x3), (4, vI q.2.1), (5, vI q.2.2)] [] q.1) (Sum.elim (fun (q : gMem × Int32) => gGo p l e rX12_isSpared s m args below meth c D cy B H0 6 0 0 Q 2 [(0, vR (some x0)), (1, vI x1), (2, vI x2), (3, vI q.2)] [] q.1) (fun (r : Int32 × gMem) => Q = gMQ below D cy B H0 args s 0 0 (some (vI r.1)) r.2))) z → gGo p l e rX12_isSpared s m args below meth c D cy B H0 6 0 0 Q 68 [(0, vR (some x0)), (1, vI x1), (2, vI x2), (3, vI x3), (5, vI x5)] [vI s1, vI s0] M := by
  intro M x0 x1 x2 x3 x5 s0 s1 z hf hK
  unfold b_X12_isSpared_68 at hf
  refine g_ior X dX12_isSpared_68 ?_
  refine g_istore (lv' := [(4, vI (s0 ||| s1)), (0, vR (some x0)), (1, vI x1), (2, vI x2), (3, vI x3), (5, vI x5)]) X dX12_isSpared_69 (by decide) rfl ?_
  refine g_iinc (v := (1 : Int32)) (lv' := [(5, vI (x5 + (1 : Int32))), (4, vI (s0 ||| s1)), (0, vR (some x0)), (1, vI x1), (2, vI x2), (3, vI x3)]) X dX12_isSpared_71 rfl (by decide) (by decide) rfl ?_
  refine g_goto (tgt := 22) X dX12_isSpared_74 (by decide) ?_
  cases hf
  refine g_sub (lvsub_of _ _ [2, 3, 4, 5, 1, 0] rfl) ?_
  exact hK
set_option maxHeartbeats 4000000 in
set_option maxRecDepth 100000 in
theorem tb_X12_isSpared_22 (X : gX p s m args meth c D cy B (gSt Z B H0) RX12 cX12_isSpared wsX12_isSpared 6) (hr : meth.sig.returnType = (some .boolean)) {Q : State → Prop} : ∀ (M : gMem) (x0 : Nat) (x1 : Int32) (x2 : Int32) (x3 : Int32) (x4 : Int32) (x5 : Int32) (z : (gMem × Int32 × Int32) ⊕ ((gMem × Int32) ⊕ (Int32 × gMem))), bb_X12_isSpared_22 M x0 x1 x2 x3 x4 x5 = some z → (Sum.elim (fun (q : gMem × Int32 × Int32) => gGo p l e rX12_isSpared s m args below meth c D cy B H0 6 0 0 Q 22 [(0, vR (some x0)), (1, vI x1), (2, vI x2), (3, vI x3), (4, vI q.2.1), (5, vI q.2.2)] [] q.1) (Sum.elim (fun (q : gMem × Int32) => gGo p l e rX12_isSpared s m args below meth c D cy B H0 6 0 0 Q 2 [(0, vR (some x0)), (1, vI x1), (2, vI x2), (3, vI q.2)] [] q.1) (fun (r : Int32 × gMem) => Q = gMQ below D cy B H0 args s 0 0 (some (vI r.1)) r.2))) z → gGo p l e rX12_isSpared s m args below meth c D cy B H0 6 0 0 Q 22 [(0, vR (some x0)), (1, vI x1), (2, vI x2), (3, vI x3), (4, vI x4), (5, vI x5)] [] M := by
  intro M x0 x1 x2 x3 x4 x5 z hf hK
  unfold bb_X12_isSpared_22 at hf
  refine g_iload X dX12_isSpared_22 rfl ?_
  refine g_aload_n X dX12_isSpared_24 rfl rfl ?_
  obtain ⟨hT1, hf⟩ := ck_e hf
  refine g_get (ci := 10) (v := vR (mR M x0 18)) 18 X cdX12 i_X12_isSpared_X12 (by decide) k_X12_isSpared_f3 rfl dX12_isSpared_25 rfl hT1 rfl ?_
  obtain ⟨a2, ha2, hf⟩ := dr_e hf
  obtain ⟨hT3, hf⟩ := ck_e hf
  refine g_getN (ci := 12) (w := vR (mR M a2 11)) 11 X cdX14 i_X12_isSpared_X14 (by decide) (gNw X _ kn_X12_81) rfl dX12_isSpared_28 ha2 hT3 rfl ?_
  obtain ⟨a4, ha4, hf⟩ := dr_e hf
  obtain ⟨hT5, hf⟩ := ck_e hf
  refine g_getN (ci := 11) (w := vR (mR M a4 13)) 13 X cdX13 i_X12_isSpared_X13 (by decide) (gNw X _ kn_X12_160) rfl dX12_isSpared_31 ha4 hT5 rfl ?_
  refine g_iload_n X dX12_isSpared_34 rfl rfl ?_
  obtain ⟨a6, ha6, hf⟩ := dr_e hf
  obtain ⟨hT7, hf⟩ := ck_e hf
  obtain ⟨hg8, hf⟩ := ck_e hf
  refine g_iald X dX12_isSpared_35 ha6 hT7 hg8 ?_
  refine g_icmp_ge (tgt := 77) X dX12_isSpared_36 (by decide) (fun hc => ?_) (fun hc => ?_)
  · have hf := ife_t hc hf
    refine g_iload X dX12_isSpared_77 rfl ?_
    refine g_if_eq (tgt := 136) X dX12_isSpared_79 (by decide) (fun hc => ?_) (fun hc => ?_)
    · have hf := ife_t hc hf
      obtain ⟨w9, hw9, hz9⟩ := oI_e hf
      subst hz9
      have hf := hw9
      refine g_sub (lvsub_of _ _ [0, 1, 2, 3] rfl) ?_
      exact t_X12_isSpared_136 X hr _ _ _ _ _ _ hf hK
    · have hf := ife_f hc hf
      refine g_aload_n X dX12_isSpared_82 rfl rfl ?_
      refine g_get (ci := 10) (v := vR (mR M x0 18)) 18 X cdX12 i_X12_isSpared_X12 (by decide) k_X12_isSpared_f3 rfl dX12_isSpared_83 rfl hT1 rfl ?_
      refine g_getN (ci := 12) (w := vR (mR M a2 11)) 11 X cdX14 i_X12_isSpared_X14 (by decide) (gNw X _ kn_X12_81) rfl dX12_isSpared_86 ha2 hT3 rfl ?_
      refine g_getN (ci := 11) (w := vR (mR M a4 12)) 12 X cdX13 i_X12_isSpared_X13 (by decide) (gNw X _ kn_X12_116) rfl dX12_isSpared_89 ha4 hT5 rfl ?_
      refine g_iload_n X dX12_isSpared_92 rfl rfl ?_
      obtain ⟨a10, ha10, hf⟩ := dr_e hf
      obtain ⟨hT11, hf⟩ := ck_e hf
      obtain ⟨hg12, hf⟩ := ck_e hf
      refine g_iald X dX12_isSpared_93 ha10 hT11 hg12 ?_
      refine g_iload_n X dX12_isSpared_94 rfl rfl ?_
      refine g_icmp_ne (tgt := 136) X dX12_isSpared_95 (by decide) (fun hc => ?_) (fun hc => ?_)
      · have hf := ife_f hc hf
        obtain ⟨w13, hw13, hz13⟩ := oI_e hf
        subst hz13
        have hf := hw13
        refine g_sub (lvsub_of _ _ [0, 1, 2, 3] rfl) ?_
        exact t_X12_isSpared_136 X hr _ _ _ _ _ _ hf hK
      · have hf := ife_t hc hf
        refine g_aload_n X dX12_isSpared_98 rfl rfl ?_
        refine g_iload_n X dX12_isSpared_99 rfl rfl ?_
        obtain ⟨r14, M14, hq14, hf⟩ := bd_e hf
        refine g_callV (ci := 10) (b := x0) (As := [vI x2]) (st := []) (v := some (vI r14)) (M1 := M14) X (m_X12_fishAt l hq14) (cwV 1 X.2.2.1 gX12_isSpared_X12_fishAt rfl rfl rfl (by decide +kernel) ⟨Nat.le_of_ble_eq_true rfl, Nat.le_of_ble_eq_true rfl⟩) rfl rfl rfl hT1 (by decide) rfl (Nat.le_of_ble_eq_true rfl) dX12_isSpared_100 ⟨by decide, by decide⟩ ?_
        refine g_aload_n X dX12_isSpared_103 rfl rfl ?_
        refine g_aload_n X dX12_isSpared_104 rfl rfl ?_
        obtain ⟨hT15, hf⟩ := ck_e hf
        refine g_get (ci := 10) (v := vR (mR M14 x0 18)) 18 X cdX12 i_X12_isSpared_X12 (by decide) k_X12_isSpared_f3 rfl dX12_isSpared_105 rfl hT15 rfl ?_
        obtain ⟨a16, ha16, hf⟩ := dr_e hf
        obtain ⟨hT17, hf⟩ := ck_e hf
        refine g_getN (ci := 12) (w := vR (mR M14 a16 11)) 11 X cdX14 i_X12_isSpared_X14 (by decide) (gNw X _ kn_X12_81) rfl dX12_isSpared_108 ha16 hT17 rfl ?_
        obtain ⟨a18, ha18, hf⟩ := dr_e hf
        obtain ⟨hT19, hf⟩ := ck_e hf
        refine g_getN (ci := 11) (w := vR (mR M14 a18 19)) 19 X cdX13 i_X12_isSpared_X13 (by decide) (gNw X _ kn_X12_170) rfl dX12_isSpared_111 ha18 hT19 rfl ?_
        refine g_iload_n X dX12_isSpared_114 rfl rfl ?_
        obtain ⟨a20, ha20, hf⟩ := dr_e hf
        obtain ⟨hT21, hf⟩ := ck_e hf
        obtain ⟨hg22, hf⟩ := ck_e hf
        refine g_iald X dX12_isSpared_115 ha20 hT21 hg22 ?_
        refine g_aload_n X dX12_isSpared_116 rfl rfl ?_
        refine g_get (ci := 10) (v := vR (mR M14 x0 18)) 18 X cdX12 i_X12_isSpared_X12 (by decide) k_X12_isSpared_f3 rfl dX12_isSpared_117 rfl hT15 rfl ?_
        refine g_getN (ci := 12) (w := vR (mR M14 a16 11)) 11 X cdX14 i_X12_isSpared_X14 (by decide) (gNw X _ kn_X12_81) rfl dX12_isSpared_120 ha16 hT17 rfl ?_
        refine g_getN (ci := 11) (w := vR (mR M14 a18 20)) 20 X cdX13 i_X12_isSpared_X13 (by decide) (gNw X _ kn_X12_173) rfl dX12_isSpared_123 ha18 hT19 rfl ?_
        refine g_iload_n X dX12_isSpared_126 rfl rfl ?_
        obtain ⟨a23, ha23, hf⟩ := dr_e hf
        obtain ⟨hT24, hf⟩ := ck_e hf
        obtain ⟨hg25, hf⟩ := ck_e hf
        refine g_iald X dX12_isSpared_127 ha23 hT24 hg25 ?_
        obtain ⟨r26, M26, hq26, hf⟩ := bd_e hf
        refine g_callV (ci := 10) (b := x0) (As := [vI (mI M14 a20 x3.toNatClampNeg), vI (mI M14 a23 x3.toNatClampNeg)]) (st := [vI r14]) (v := some (vI r26)) (M1 := M26) X (m_X12_carryOut l hq26) (cwV 2 X.2.2.1 gX12_isSpared_X12_carryOut rfl rfl rfl (by decide +kernel) ⟨Nat.le_of_ble_eq_true rfl, Nat.le_of_ble_eq_true rfl⟩) rfl rfl rfl hT15 (by decide) rfl (Nat.le_of_ble_eq_true rfl) dX12_isSpared_128 ⟨by decide, by decide⟩ ?_
        refine g_icmp_ge (tgt := 136) X dX12_isSpared_131 (by decide) (fun hc => ?_) (fun hc => ?_)
        · have hf := ife_t hc hf
          obtain ⟨w27, hw27, hz27⟩ := oI_e hf
          subst hz27
          have hf := hw27
          refine g_sub (lvsub_of _ _ [0, 1, 2, 3] rfl) ?_
          exact t_X12_isSpared_136 X hr _ _ _ _ _ _ hf hK
        · have hf := ife_f hc hf
          refine g_iconst (v := (1 : Int32)) X dX12_isSpared_134 (by decide) ?_
          obtain ⟨w28, hw28, hz28⟩ := oI_e hf
          subst hz28
          have hf := hw28
          obtain ⟨w29, hw29, hz29⟩ := oI_e hf
          subst hz29
          have hf := hw29
          cases hf
          refine g_eqQ hK ?_
          exact g_zret X hr (gnb (Or.inr rfl)) dX12_isSpared_135
  · have hf := ife_f hc hf
    refine g_iload X dX12_isSpared_39 rfl ?_
    refine g_aload_n X dX12_isSpared_41 rfl rfl ?_
    refine g_get (ci := 10) (v := vR (mR M x0 18)) 18 X cdX12 i_X12_isSpared_X12 (by decide) k_X12_isSpared_f3 rfl dX12_isSpared_42 rfl hT1 rfl ?_
    refine g_getN (ci := 12) (w := vR (mR M a2 11)) 11 X cdX14 i_X12_isSpared_X14 (by decide) (gNw X _ kn_X12_81) rfl dX12_isSpared_45 ha2 hT3 rfl ?_
    refine g_getN (ci := 11) (w := vR (mR M a4 14)) 14 X cdX13 i_X12_isSpared_X13 (by decide) (gNw X _ kn_X12_163) rfl dX12_isSpared_48 ha4 hT5 rfl ?_
    refine g_bipush (v := (8 : Int32)) X dX12_isSpared_51 (by decide) ?_
    refine g_iload_n X dX12_isSpared_53 rfl rfl ?_
    refine g_imul X dX12_isSpared_54 ?_
    refine g_iload X dX12_isSpared_55 rfl ?_
    refine g_iadd X dX12_isSpared_57 ?_
    obtain ⟨a30, ha30, hf⟩ := dr_e hf
    obtain ⟨hT31, hf⟩ := ck_e hf
    obtain ⟨hg32, hf⟩ := ck_e hf
    refine g_iald X dX12_isSpared_58 ha30 hT31 hg32 ?_
    refine g_iload_n X dX12_isSpared_59 rfl rfl ?_
    refine g_icmp_ne (tgt := 67) X dX12_isSpared_60 (by decide) (fun hc => ?_) (fun hc => ?_)
    · have hf := ife_f hc hf
      refine g_iconst (v := (0 : Int32)) X dX12_isSpared_67 (by decide) ?_
      refine g_sub (lvsub_of _ _ [0, 1, 2, 3, 5] rfl) ?_
      exact t_X12_isSpared_68 X hr _ _ _ _ _ _ _ _ _ hf hK
    · have hf := ife_t hc hf
      refine g_iconst (v := (1 : Int32)) X dX12_isSpared_63 (by decide) ?_
      refine g_goto (tgt := 68) X dX12_isSpared_64 (by decide) ?_
      refine g_sub (lvsub_of _ _ [0, 1, 2, 3, 5] rfl) ?_
      exact t_X12_isSpared_68 X hr _ _ _ _ _ _ _ _ _ hf hK
set_option maxHeartbeats 4000000 in
set_option maxRecDepth 100000 in
theorem tl_X12_isSpared_22 (X : gX p s m args meth c D cy B (gSt Z B H0) RX12 cX12_isSpared wsX12_isSpared 6) (hr : meth.sig.returnType = (some .boolean)) {Q : State → Prop} : ∀ (M : gMem) (x0 : Nat) (x1 : Int32) (x2 : Int32) (x3 : Int32) (x4 : Int32) (x5 : Int32) (z : (gMem × Int32) ⊕ (Int32 × gMem)), lp_X12_isSpared_22 M x0 x1 x2 x3 x4 x5 = some z → (Sum.elim (fun (q : gMem × Int32) => gGo p l e rX12_isSpared s m args below meth c D cy B H0 6 0 0 Q 2 [(0, vR (some x0)), (1, vI x1), (2, vI x2), (3, vI q.2)] [] q.1) (fun (r : Int32 × gMem) => Q = gMQ below D cy B H0 args s 0 0 (some (vI r.1)) r.2)) z → gGo p l e rX12_isSpared s m args below meth c D cy B H0 6 0 0 Q 22 [(0, vR (some x0)), (1, vI x1), (2, vI x2), (3, vI x3), (4, vI x4), (5, vI x5)] [] M := by
  intro M x0 x1 x2 x3 x4 x5 z hf hK
  refine lp_ind (P := (fun (q : gMem × Int32 × Int32) (z : (gMem × Int32) ⊕ (Int32 × gMem)) => (Sum.elim (fun (q : gMem × Int32) => gGo p l e rX12_isSpared s m args below meth c D cy B H0 6 0 0 Q 2 [(0, vR (some x0)), (1, vI x1), (2, vI x2), (3, vI q.2)] [] q.1) (fun (r : Int32 × gMem) => Q = gMQ below D cy B H0 args s 0 0 (some (vI r.1)) r.2)) z → gGo p l e rX12_isSpared s m args below meth c D cy B H0 6 0 0 Q 22 [(0, vR (some x0)), (1, vI x1), (2, vI x2), (3, vI x3), (4, vI q.2.1), (5, vI q.2.2)] [] q.1)) (fun q z hq => ?_) _ _ hf hK
  intro hK
  obtain ⟨w, hw, hm⟩ := hq
  refine tb_X12_isSpared_22 X hr _ _ _ _ _ _ _ w hw ?_
  cases w with
  | inl a => exact hm hK
  | inr b => cases hm; exact hK
set_option maxHeartbeats 4000000 in
set_option maxRecDepth 100000 in
theorem tb_X12_isSpared_2 (X : gX p s m args meth c D cy B (gSt Z B H0) RX12 cX12_isSpared wsX12_isSpared 6) (hr : meth.sig.returnType = (some .boolean)) {Q : State → Prop} : ∀ (M : gMem) (x0 : Nat) (x1 : Int32) (x2 : Int32) (x3 : Int32) (z : (gMem × Int32) ⊕ (Int32 × gMem)), bb_X12_isSpared_2 M x0 x1 x2 x3 = some z → (Sum.elim (fun (q : gMem × Int32) => gGo p l e rX12_isSpared s m args below meth c D cy B H0 6 0 0 Q 2 [(0, vR (some x0)), (1, vI x1), (2, vI x2), (3, vI q.2)] [] q.1) (fun (r : Int32 × gMem) => Q = gMQ below D cy B H0 args s 0 0 (some (vI r.1)) r.2)) z → gGo p l e rX12_isSpared s m args below meth c D cy B H0 6 0 0 Q 2 [(0, vR (some x0)), (1, vI x1), (2, vI x2), (3, vI x3)] [] M := by
  intro M x0 x1 x2 x3 z hf hK
  unfold bb_X12_isSpared_2 at hf
  refine g_iload_n X dX12_isSpared_2 rfl rfl ?_
  refine g_aload_n X dX12_isSpared_3 rfl rfl ?_
  obtain ⟨hT33, hf⟩ := ck_e hf
  refine g_get (ci := 10) (v := vR (mR M x0 18)) 18 X cdX12 i_X12_isSpared_X12 (by decide) k_X12_isSpared_f3 rfl dX12_isSpared_4 rfl hT33 rfl ?_
  obtain ⟨a34, ha34, hf⟩ := dr_e hf
  obtain ⟨hT35, hf⟩ := ck_e hf
  refine g_getN (ci := 12) (w := vR (mR M a34 11)) 11 X cdX14 i_X12_isSpared_X14 (by decide) (gNw X _ kn_X12_81) rfl dX12_isSpared_7 ha34 hT35 rfl ?_
  obtain ⟨a36, ha36, hf⟩ := dr_e hf
  obtain ⟨hT37, hf⟩ := ck_e hf
  refine g_getN (ci := 11) (w := vI (mI M a36 11)) 11 X cdX13 i_X12_isSpared_X13 (by decide) (gNw X _ kn_X12_113) rfl dX12_isSpared_10 ha36 hT37 rfl ?_
  refine g_icmp_ge (tgt := 142) X dX12_isSpared_13 (by decide) (fun hc => ?_) (fun hc => ?_)
  · have hf := ife_t hc hf
    refine g_iconst (v := (0 : Int32)) X dX12_isSpared_142 (by decide) ?_
    obtain ⟨w38, hw38, hz38⟩ := oI_e hf
    subst hz38
    have hf := hw38
    cases hf
    refine g_eqQ hK ?_
    exact g_zret X hr (gnb (Or.inl rfl)) dX12_isSpared_143
  · have hf := ife_f hc hf
    refine g_iconst (v := (0 : Int32)) X dX12_isSpared_16 (by decide) ?_
    refine g_istore (lv' := [(4, vI (0 : Int32)), (0, vR (some x0)), (1, vI x1), (2, vI x2), (3, vI x3)]) X dX12_isSpared_17 (by decide) rfl ?_
    refine g_iconst (v := (0 : Int32)) X dX12_isSpared_19 (by decide) ?_
    refine g_istore (lv' := [(5, vI (0 : Int32)), (4, vI (0 : Int32)), (0, vR (some x0)), (1, vI x1), (2, vI x2), (3, vI x3)]) X dX12_isSpared_20 (by decide) rfl ?_
    refine g_sub (lvsub_of _ _ [2, 3, 4, 5, 1, 0] rfl) ?_
    exact tl_X12_isSpared_22 X hr _ _ _ _ _ _ _ _ hf hK
set_option maxHeartbeats 4000000 in
set_option maxRecDepth 100000 in
theorem tl_X12_isSpared_2 (X : gX p s m args meth c D cy B (gSt Z B H0) RX12 cX12_isSpared wsX12_isSpared 6) (hr : meth.sig.returnType = (some .boolean)) {Q : State → Prop} : ∀ (M : gMem) (x0 : Nat) (x1 : Int32) (x2 : Int32) (x3 : Int32) (z : Int32 × gMem), lp_X12_isSpared_2 M x0 x1 x2 x3 = some z → (fun (r : Int32 × gMem) => Q = gMQ below D cy B H0 args s 0 0 (some (vI r.1)) r.2) z → gGo p l e rX12_isSpared s m args below meth c D cy B H0 6 0 0 Q 2 [(0, vR (some x0)), (1, vI x1), (2, vI x2), (3, vI x3)] [] M := by
  intro M x0 x1 x2 x3 z hf hK
  refine lp_ind (P := (fun (q : gMem × Int32) (z : Int32 × gMem) => (fun (r : Int32 × gMem) => Q = gMQ below D cy B H0 args s 0 0 (some (vI r.1)) r.2) z → gGo p l e rX12_isSpared s m args below meth c D cy B H0 6 0 0 Q 2 [(0, vR (some x0)), (1, vI x1), (2, vI x2), (3, vI q.2)] [] q.1)) (fun q z hq => ?_) _ _ hf hK
  intro hK
  obtain ⟨w, hw, hm⟩ := hq
  refine tb_X12_isSpared_2 X hr _ _ _ _ _ w hw ?_
  cases w with
  | inl a => exact hm hK
  | inr b => cases hm; exact hK
set_option maxHeartbeats 4000000 in
set_option maxRecDepth 100000 in
theorem t_X12_isSpared_0 (X : gX p s m args meth c D cy B (gSt Z B H0) RX12 cX12_isSpared wsX12_isSpared 6) (hr : meth.sig.returnType = (some .boolean)) {Q : State → Prop} : ∀ (M : gMem) (x0 : Nat) (x1 : Int32) (x2 : Int32) (z : Int32 × gMem), b_X12_isSpared_0 M x0 x1 x2 = some z → (fun (r : Int32 × gMem) => Q = gMQ below D cy B H0 args s 0 0 (some (vI r.1)) r.2) z → gGo p l e rX12_isSpared s m args below meth c D cy B H0 6 0 0 Q 0 [(0, vR (some x0)), (1, vI x1), (2, vI x2)] [] M := by
  intro M x0 x1 x2 z hf hK
  unfold b_X12_isSpared_0 at hf
  refine g_iconst (v := (0 : Int32)) X dX12_isSpared_0 (by decide) ?_
  refine g_istore_n (lv' := [(3, vI (0 : Int32)), (0, vR (some x0)), (1, vI x1), (2, vI x2)]) X dX12_isSpared_1 rfl (by decide) rfl ?_
  refine g_sub (lvsub_of _ _ [1, 2, 3, 0] rfl) ?_
  exact tl_X12_isSpared_2 X hr _ _ _ _ _ _ hf hK
set_option maxHeartbeats 4000000 in
set_option maxRecDepth 100000 in
theorem m_X12_isSpared (l : Launch) {D : va_G} {cy : Nat → ClassId} {B : Nat} {H0 : Heap} {Z : Nat → Nat} {M M1 : gMem} {x0 : Nat} {x1 : Int32} {x2 : Int32} {r : Int32} (hf : f_X12_isSpared M x0 x1 x2 = some (r, M1)) : Met l yX12_isSpared wsX12_isSpared rX12_isSpared (va_Pc (Value.ref x0 :: List.map gv [vI x1, vI x2]) (gPre D cy B H0 (gSt Z B H0) M)) (gQ D cy B H0 (some (vI r)) M1) 0 0 (gA B) := by
  refine Met.ofW (cc := cX12_isSpared) (maxL := 6) (ret := (some .boolean)) (by decide) rfl ?_
  intro p e s m args below meth c s₁ Bd hml hv
  obtain ⟨rfl, hW, hKK, hFs⟩ := hv
  have X : gX p s m _ meth c D cy B (gSt Z B H0) RX12 cX12_isSpared wsX12_isSpared 6 := ⟨Bd.exec, Bd.bytes, atoms_spec (ws := wsX12_isSpared) Bd.pre, findClass_of_methodNamed Bd.named, hml, hKK, by rw [hW.1]; exact hW.2.1, Bd.notSynchronized, hFs⟩
  have hr := Bd.returns
  have hl := lv_entry ([.ref x0, .int x1, .int x2]) (n := 6) (Nat.le_of_ble_eq_true rfl)
  show W p l e rX12_isSpared s m _ below meth c s.heap [] 0 0 _ (entryFrame m ([.ref x0, .int x1, .int x2] : List Value).toArray 6)
  rw [lg_entry_eq]
  generalize (lg_sl ([.ref x0, .int x1, .int x2]) ++ List.replicate (6 - (lg_sl ([.ref x0, .int x1, .int x2])).length) Slot.unset).toArray = ls at hl ⊢
  have hl : lv_has ls 6 (List.map gq [(0, vR (some x0)), (1, vI x1), (2, vI x2)]) := hl
  exact t_X12_isSpared_0 X hr _ _ _ _ _ hf rfl s.heap [] ls hW va_S.rf (lv_has_sub hl (lvsub_of _ _ [0, 1, 2] rfl))
end
