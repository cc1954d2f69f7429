section
variable {p : Program} {l : Launch} {e : Env} {s : State} {m : MethodId} {args : Array Value} {below : List Frame} {meth : Method} {c : Code} {D : va_G} {cy : Nat → ClassId} {B : Nat} {H0 : Heap} {Z : Nat → Nat}
/-! ## TideLots$Shore.split(LTideLots$Pact;)V -/
theorem dX7_split_0 : decode cX7_split 0 = .ok (.aload_n 1, 1) := by decide +kernel
theorem dX7_split_1 : decode cX7_split 1 = .ok (.invokevirtual 226, 3) := by decide +kernel
theorem dX7_split_4 : decode cX7_split 4 = .ok (.ifCond .eq 11, 3) := by decide +kernel
theorem dX7_split_7 : decode cX7_split 7 = .ok (.aload_n 1, 1) := by decide +kernel
theorem dX7_split_8 : decode cX7_split 8 = .ok (.getfield 230, 3) := by decide +kernel
theorem dX7_split_11 : decode cX7_split 11 = .ok (.iconst 1, 1) := by decide +kernel
theorem dX7_split_12 : decode cX7_split 12 = .ok (.if_icmp .ge 4, 3) := by decide +kernel
theorem dX7_split_15 : decode cX7_split 15 = .ok (.return_, 1) := by decide +kernel
theorem dX7_split_16 : decode cX7_split 16 = .ok (.iconst 0, 1) := by decide +kernel
theorem dX7_split_17 : decode cX7_split 17 = .ok (.istore_n 2, 1) := by decide +kernel
theorem dX7_split_18 : decode cX7_split 18 = .ok (.iconst 0, 1) := by decide +kernel
theorem dX7_split_19 : decode cX7_split 19 = .ok (.istore_n 3, 1) := by decide +kernel
theorem dX7_split_20 : decode cX7_split 20 = .ok (.iconst 0, 1) := by decide +kernel
theorem dX7_split_21 : decode cX7_split 21 = .ok (.istore 4, 2) := by decide +kernel
theorem dX7_split_23 : decode cX7_split 23 = .ok (.iload 4, 2) := by decide +kernel
theorem dX7_split_25 : decode cX7_split 25 = .ok (.aload_n 1, 1) := by decide +kernel
theorem dX7_split_26 : decode cX7_split 26 = .ok (.getfield 230, 3) := by decide +kernel
theorem dX7_split_29 : decode cX7_split 29 = .ok (.if_icmp .ge 73, 3) := by decide +kernel
theorem dX7_split_32 : decode cX7_split 32 = .ok (.aload_n 0, 1) := by decide +kernel
theorem dX7_split_33 : decode cX7_split 33 = .ok (.getfield 23, 3) := by decide +kernel
theorem dX7_split_36 : decode cX7_split 36 = .ok (.aload_n 1, 1) := by decide +kernel
theorem dX7_split_37 : decode cX7_split 37 = .ok (.getfield 233, 3) := by decide +kernel
theorem dX7_split_40 : decode cX7_split 40 = .ok (.iload 4, 2) := by decide +kernel
theorem dX7_split_42 : decode cX7_split 42 = .ok (.iaload, 1) := by decide +kernel
theorem dX7_split_43 : decode cX7_split 43 = .ok (.aaload, 1) := by decide +kernel
theorem dX7_split_44 : decode cX7_split 44 = .ok (.astore 5, 2) := by decide +kernel
theorem dX7_split_46 : decode cX7_split 46 = .ok (.aload 5, 2) := by decide +kernel
theorem dX7_split_48 : decode cX7_split 48 = .ok (.getfield 125, 3) := by decide +kernel
theorem dX7_split_51 : decode cX7_split 51 = .ok (.ifCond .eq 13, 3) := by decide +kernel
theorem dX7_split_54 : decode cX7_split 54 = .ok (.aload 5, 2) := by decide +kernel
theorem dX7_split_56 : decode cX7_split 56 = .ok (.getfield 196, 3) := by decide +kernel
theorem dX7_split_59 : decode cX7_split 59 = .ok (.iconst 2, 1) := by decide +kernel
theorem dX7_split_60 : decode cX7_split 60 = .ok (.idiv, 1) := by decide +kernel
theorem dX7_split_61 : decode cX7_split 61 = .ok (.goto 8, 3) := by decide +kernel
theorem dX7_split_64 : decode cX7_split 64 = .ok (.aload 5, 2) := by decide +kernel
theorem dX7_split_66 : decode cX7_split 66 = .ok (.getfield 196, 3) := by decide +kernel
theorem dX7_split_69 : decode cX7_split 69 = .ok (.istore 6, 2) := by decide +kernel
theorem dX7_split_71 : decode cX7_split 71 = .ok (.aload 5, 2) := by decide +kernel
theorem dX7_split_73 : decode cX7_split 73 = .ok (.dup, 1) := by decide +kernel
theorem dX7_split_74 : decode cX7_split 74 = .ok (.getfield 196, 3) := by decide +kernel
theorem dX7_split_77 : decode cX7_split 77 = .ok (.iload 6, 2) := by decide +kernel
theorem dX7_split_79 : decode cX7_split 79 = .ok (.isub, 1) := by decide +kernel
theorem dX7_split_80 : decode cX7_split 80 = .ok (.putfield 196, 3) := by decide +kernel
theorem dX7_split_83 : decode cX7_split 83 = .ok (.iload_n 2, 1) := by decide +kernel
theorem dX7_split_84 : decode cX7_split 84 = .ok (.iload 6, 2) := by decide +kernel
theorem dX7_split_86 : decode cX7_split 86 = .ok (.iadd, 1) := by decide +kernel
theorem dX7_split_87 : decode cX7_split 87 = .ok (.istore_n 2, 1) := by decide +kernel
theorem dX7_split_88 : decode cX7_split 88 = .ok (.iload_n 3, 1) := by decide +kernel
theorem dX7_split_89 : decode cX7_split 89 = .ok (.aload 5, 2) := by decide +kernel
theorem dX7_split_91 : decode cX7_split 91 = .ok (.getfield 196, 3) := by decide +kernel
theorem dX7_split_94 : decode cX7_split 94 = .ok (.iadd, 1) := by decide +kernel
theorem dX7_split_95 : decode cX7_split 95 = .ok (.istore_n 3, 1) := by decide +kernel
theorem dX7_split_96 : decode cX7_split 96 = .ok (.iinc 4 1, 3) := by decide +kernel
theorem dX7_split_99 : decode cX7_split 99 = .ok (.goto (-76), 3) := by decide +kernel
theorem dX7_split_102 : decode cX7_split 102 = .ok (.iload_n 2, 1) := by decide +kernel
theorem dX7_split_103 : decode cX7_split 103 = .ok (.aload_n 1, 1) := by decide +kernel
theorem dX7_split_104 : decode cX7_split 104 = .ok (.getfield 230, 3) := by decide +kernel
theorem dX7_split_107 : decode cX7_split 107 = .ok (.idiv, 1) := by decide +kernel
theorem dX7_split_108 : decode cX7_split 108 = .ok (.istore 4, 2) := by decide +kernel
theorem dX7_split_110 : decode cX7_split 110 = .ok (.iconst 0, 1) := by decide +kernel
theorem dX7_split_111 : decode cX7_split 111 = .ok (.istore 5, 2) := by decide +kernel
theorem dX7_split_113 : decode cX7_split 113 = .ok (.iload 5, 2) := by decide +kernel
theorem dX7_split_115 : decode cX7_split 115 = .ok (.aload_n 1, 1) := by decide +kernel
theorem dX7_split_116 : decode cX7_split 116 = .ok (.getfield 230, 3) := by decide +kernel
theorem dX7_split_119 : decode cX7_split 119 = .ok (.if_icmp .ge 31, 3) := by decide +kernel
theorem dX7_split_122 : decode cX7_split 122 = .ok (.aload_n 0, 1) := by decide +kernel
theorem dX7_split_123 : decode cX7_split 123 = .ok (.getfield 23, 3) := by decide +kernel
theorem dX7_split_126 : decode cX7_split 126 = .ok (.aload_n 1, 1) := by decide +kernel
theorem dX7_split_127 : decode cX7_split 127 = .ok (.getfield 233, 3) := by decide +kernel
theorem dX7_split_130 : decode cX7_split 130 = .ok (.iload 5, 2) := by decide +kernel
theorem dX7_split_132 : decode cX7_split 132 = .ok (.iaload, 1) := by decide +kernel
theorem dX7_split_133 : decode cX7_split 133 = .ok (.aaload, 1) := by decide +kernel
theorem dX7_split_134 : decode cX7_split 134 = .ok (.dup, 1) := by decide +kernel
theorem dX7_split_135 : decode cX7_split 135 = .ok (.getfield 196, 3) := by decide +kernel
theorem dX7_split_138 : decode cX7_split 138 = .ok (.iload 4, 2) := by decide +kernel
theorem dX7_split_140 : decode cX7_split 140 = .ok (.iadd, 1) := by decide +kernel
theorem dX7_split_141 : decode cX7_split 141 = .ok (.putfield 196, 3) := by decide +kernel
theorem dX7_split_144 : decode cX7_split 144 = .ok (.iinc 5 1, 3) := by decide +kernel
theorem dX7_split_147 : decode cX7_split 147 = .ok (.goto (-34), 3) := by decide +kernel
theorem dX7_split_150 : decode cX7_split 150 = .ok (.aload_n 0, 1) := by decide +kernel
theorem dX7_split_151 : decode cX7_split 151 = .ok (.getfield 23, 3) := by decide +kernel
theorem dX7_split_154 : decode cX7_split 154 = .ok (.aload_n 1, 1) := by decide +kernel
theorem dX7_split_155 : decode cX7_split 155 = .ok (.getfield 233, 3) := by decide +kernel
theorem dX7_split_158 : decode cX7_split 158 = .ok (.iconst 0, 1) := by decide +kernel
theorem dX7_split_159 : decode cX7_split 159 = .ok (.iaload, 1) := by decide +kernel
theorem dX7_split_160 : decode cX7_split 160 = .ok (.aaload, 1) := by decide +kernel
theorem dX7_split_161 : decode cX7_split 161 = .ok (.dup, 1) := by decide +kernel
theorem dX7_split_162 : decode cX7_split 162 = .ok (.getfield 196, 3) := by decide +kernel
theorem dX7_split_165 : decode cX7_split 165 = .ok (.iload_n 2, 1) := by decide +kernel
theorem dX7_split_166 : decode cX7_split 166 = .ok (.iload 4, 2) := by decide +kernel
theorem dX7_split_168 : decode cX7_split 168 = .ok (.aload_n 1, 1) := by decide +kernel
theorem dX7_split_169 : decode cX7_split 169 = .ok (.getfield 230, 3) := by decide +kernel
theorem dX7_split_172 : decode cX7_split 172 = .ok (.imul, 1) := by decide +kernel
theorem dX7_split_173 : decode cX7_split 173 = .ok (.isub, 1) := by decide +kernel
theorem dX7_split_174 : decode cX7_split 174 = .ok (.iadd, 1) := by decide +kernel
theorem dX7_split_175 : decode cX7_split 175 = .ok (.putfield 196, 3) := by decide +kernel
theorem dX7_split_178 : decode cX7_split 178 = .ok (.aload_n 1, 1) := by decide +kernel
theorem dX7_split_179 : decode cX7_split 179 = .ok (.dup, 1) := by decide +kernel
theorem dX7_split_180 : decode cX7_split 180 = .ok (.getfield 235, 3) := by decide +kernel
theorem dX7_split_183 : decode cX7_split 183 = .ok (.iload_n 2, 1) := by decide +kernel
theorem dX7_split_184 : decode cX7_split 184 = .ok (.iadd, 1) := by decide +kernel
theorem dX7_split_185 : decode cX7_split 185 = .ok (.putfield 235, 3) := by decide +kernel
theorem dX7_split_188 : decode cX7_split 188 = .ok (.aload_n 1, 1) := by decide +kernel
theorem dX7_split_189 : decode cX7_split 189 = .ok (.dup, 1) := by decide +kernel
theorem dX7_split_190 : decode cX7_split 190 = .ok (.getfield 238, 3) := by decide +kernel
theorem dX7_split_193 : decode cX7_split 193 = .ok (.iload_n 3, 1) := by decide +kernel
theorem dX7_split_194 : decode cX7_split 194 = .ok (.iadd, 1) := by decide +kernel
theorem dX7_split_195 : decode cX7_split 195 = .ok (.putfield 238, 3) := by decide +kernel
theorem dX7_split_198 : decode cX7_split 198 = .ok (.aload_n 1, 1) := by decide +kernel
theorem dX7_split_199 : decode cX7_split 199 = .ok (.dup, 1) := by decide +kernel
theorem dX7_split_200 : decode cX7_split 200 = .ok (.getfield 241, 3) := by decide +kernel
theorem dX7_split_203 : decode cX7_split 203 = .ok (.iload_n 3, 1) := by decide +kernel
theorem dX7_split_204 : decode cX7_split 204 = .ok (.ifCond .le 7, 3) := by decide +kernel
theorem dX7_split_207 : decode cX7_split 207 = .ok (.iconst 1, 1) := by decide +kernel
theorem dX7_split_208 : decode cX7_split 208 = .ok (.goto 4, 3) := by decide +kernel
theorem dX7_split_211 : decode cX7_split 211 = .ok (.iconst 0, 1) := by decide +kernel
theorem dX7_split_212 : decode cX7_split 212 = .ok (.iadd, 1) := by decide +kernel
theorem dX7_split_213 : decode cX7_split 213 = .ok (.putfield 241, 3) := by decide +kernel
theorem dX7_split_216 : decode cX7_split 216 = .ok (.return_, 1) := by decide +kernel
set_option maxRecDepth 20000 in
theorem ggX7_split_X5_splits : GoodIn wsX7_split wsX5_splits := goodIn_r _ [13, 14, 15, 16, 17, 18, 19, 20, 21, 22] (by decide +kernel) (by decide +kernel)
set_option maxRecDepth 20000 in
theorem gX7_split_X5_splits : GoodIn wsX7_split (wsV RX7 226 RX5 yX5_splits wsX5_splits) := goodIn_app (goodIn_of _ (by decide +kernel)) ggX7_split_X5_splits
theorem k_X7_split_f241 : Cond.fieldLink RX7 241 "TideLots$Pact" "hidingTides" "I" ∈ wsX7_split := by decide +kernel
theorem i_X7_split_X5 : ∀ w ∈ u_ws RX5 TX5 8, w ∈ wsX7_split := by decide +kernel
theorem k_X7_split_f230 : Cond.fieldLink RX7 230 "TideLots$Pact" "size" "I" ∈ wsX7_split := by decide +kernel
theorem k_X7_split_f23 : Cond.fieldLink RX7 23 "TideLots$Shore" "fishers" "[LTideLots$Fisher;" ∈ wsX7_split := by decide +kernel
theorem i_X7_split_X7 : ∀ w ∈ u_ws RX7 TX7 17, w ∈ wsX7_split := by decide +kernel
theorem k_X7_split_f233 : Cond.fieldLink RX7 233 "TideLots$Pact" "fishers" "[I" ∈ wsX7_split := by decide +kernel
theorem k_X7_split_f196 : Cond.fieldLink RX7 196 "TideLots$Fisher" "latest" "I" ∈ wsX7_split := by decide +kernel
theorem i_X7_split_X1 : ∀ w ∈ u_ws RX1 TX1 11, w ∈ wsX7_split := by decide +kernel
theorem k_X7_split_f235 : Cond.fieldLink RX7 235 "TideLots$Pact" "shown" "I" ∈ wsX7_split := by decide +kernel
theorem k_X7_split_f238 : Cond.fieldLink RX7 238 "TideLots$Pact" "hidden" "I" ∈ wsX7_split := by decide +kernel
theorem k_X7_split_f125 : Cond.fieldLink RX7 125 "TideLots$Fisher" "isCheat" "Z" ∈ wsX7_split := by decide +kernel
abbrev rX7_split : Room := { frames := 1, cells := 0, slots := 0, locals := 20 }
noncomputable def b_X7_split_212 (M : gMem) (s0 : Option Nat) (s1 : Int32) (s2 : Int32) : Option (Unit × gMem) :=
  dr s0 fun a1 => ck (mT M a1 = 5) <| lw (wI M a1 7 ((s1 + s2))) fun M3 => some ((), M3)
noncomputable def bb_X7_split_113 (M : gMem) (x0 : Nat) (x1 : Option Nat) (x2 : Int32) (x3 : Int32) (x4 : Int32) (x5 : Int32) : Option ((gMem × Int32) ⊕ (Unit × gMem)) :=
  dr x1 fun a5 => ck (mT M a5 = 5) <| (if (mI M a5 3) ≤ x5 then ck (mT M x0 = 7) <| dr ((mR M a5 4)) fun a8 => ck (mT M a8 = 20) <| ck (inb (0 : Int32) (mL M a8)) <| dr ((mR M x0 7)) fun a11 => ck (mT M a11 = 24) <| ck (inb (mI M a8 ((0 : Int32)).toNatClampNeg) (mL M a11)) <| dr ((mR M a11 ((mI M a8 ((0 : Int32)).toNatClampNeg)).toNatClampNeg)) fun a14 => ck (mT M a14 = 1) <| lw (wI M a14 5 (((mI M a14 5) + (x2 - (x4 * (mI M a5 3)))))) fun M16 => lw (wI M16 a5 5 (((mI M16 a5 5) + x2))) fun M22 => lw (wI M22 a5 6 (((mI M22 a5 6) + x3))) fun M28 => (if x3 ≤ 0 then oI (b_X7_split_212 M28 x1 ((mI M28 a5 7)) ((0 : Int32))) else oI (b_X7_split_212 M28 x1 ((mI M28 a5 7)) ((1 : Int32)))) else ck (mT M x0 = 7) <| dr ((mR M a5 4)) fun a37 => ck (mT M a37 = 20) <| ck (inb x5 (mL M a37)) <| dr ((mR M x0 7)) fun a40 => ck (mT M a40 = 24) <| ck (inb (mI M a37 x5.toNatClampNeg) (mL M a40)) <| dr ((mR M a40 ((mI M a37 x5.toNatClampNeg)).toNatClampNeg)) fun a43 => ck (mT M a43 = 1) <| lw (wI M a43 5 (((mI M a43 5) + x4))) fun M45 => some (.inl (M45, (x5 + (1 : Int32)))))
noncomputable def lp_X7_split_113 (M : gMem) (x0 : Nat) (x1 : Option Nat) (x2 : Int32) (x3 : Int32) (x4 : Int32) (x5 : Int32) : Option (Unit × gMem) :=
  lp (fun (q : gMem × Int32) => bb_X7_split_113 q.1 x0 x1 x2 x3 x4 q.2) (M, x5)
noncomputable def b_X7_split_69 (M : gMem) (x0 : Nat) (x1 : Option Nat) (x2 : Int32) (x3 : Int32) (x4 : Int32) (x5 : Option Nat) (s0 : Int32) : Option ((gMem × Int32 × Int32 × Int32) ⊕ (Unit × gMem)) :=
  dr x5 fun a51 => ck (mT M a51 = 1) <| lw (wI M a51 5 (((mI M a51 5) - s0))) fun M53 => some (.inl (M53, (x2 + s0), (x3 + (mI M53 a51 5)), (x4 + (1 : Int32))))
noncomputable def bb_X7_split_23 (M : gMem) (x0 : Nat) (x1 : Option Nat) (x2 : Int32) (x3 : Int32) (x4 : Int32) : Option ((gMem × Int32 × Int32 × Int32) ⊕ (Unit × gMem)) :=
  dr x1 fun a55 => ck (mT M a55 = 5) <| (if (mI M a55 3) ≤ x4 then ck (¬ (mI M a55 3) = 0) <| oI (lp_X7_split_113 M x0 x1 x2 x3 ((x2 / (mI M a55 3))) ((0 : Int32))) else ck (mT M x0 = 7) <| dr ((mR M a55 4)) fun a60 => ck (mT M a60 = 20) <| ck (inb x4 (mL M a60)) <| dr ((mR M x0 7)) fun a63 => ck (mT M a63 = 24) <| ck (inb (mI M a60 x4.toNatClampNeg) (mL M a63)) <| dr ((mR M a63 ((mI M a60 x4.toNatClampNeg)).toNatClampNeg)) fun a66 => ck (mT M a66 = 1) <| (if (mI M a66 9) = 0 then b_X7_split_69 M x0 x1 x2 x3 x4 ((mR M a63 ((mI M a60 x4.toNatClampNeg)).toNatClampNeg)) ((mI M a66 5)) else b_X7_split_69 M x0 x1 x2 x3 x4 ((mR M a63 ((mI M a60 x4.toNatClampNeg)).toNatClampNeg)) (((mI M a66 5) / (2 : Int32)))))
noncomputable def lp_X7_split_23 (M : gMem) (x0 : Nat) (x1 : Option Nat) (x2 : Int32) (x3 : Int32) (x4 : Int32) : Option (Unit × gMem) :=
  lp (fun (q : gMem × Int32 × Int32 × Int32) => bb_X7_split_23 q.1 x0 x1 q.2.1 q.2.2.1 q.2.2.2) (M, x2, x3, x4)
noncomputable def b_X7_split_15 (M : gMem)  : Option (Unit × gMem) :=
  some ((), M)
noncomputable def b_X7_split_0 (M : gMem) (x0 : Nat) (x1 : Option Nat) : Option (Unit × gMem) :=
  dr x1 fun a69 => ck (mT M a69 = 5) <| bd (f_X5_splits M a69) fun r68 M68 => (if r68 = 0 then b_X7_split_15 M68  else ck (mT M68 a69 = 5) <| (if (1 : Int32) ≤ (mI M68 a69 3) then lp_X7_split_23 M68 x0 x1 ((0 : Int32)) ((0 : Int32)) ((0 : Int32)) else b_X7_split_15 M68 ))
noncomputable def f_X7_split (M : gMem) (x0 : Nat) (x1 : Option Nat) : Option (Unit × gMem) :=
  b_X7_split_0 M x0 x1
set_option maxHeartbeats 4000000 in
set_option maxRecDepth 100000 in
theorem t_X7_split_212 (X : gX p s m args meth c D cy B (gSt Z B H0) RX7 cX7_split wsX7_split 7) (hr : meth.sig.returnType = none) {Q : State → Prop} : ∀ (M : gMem) (s0 : Option Nat) (s1 : Int32) (s2 : Int32) (z : Unit × gMem), b_X7_split_212 M s0 s1 s2 = some z → (fun (r : Unit × gMem) => Q = gMQ below D cy B H0 args s 0 0 none r.2) z → gGo p l e rX7_split s m args below meth c D cy B H0 7 0 0 Q 212 [] [vI s2, vI s1, vR s0] M := by
  intro M s0 s1 s2 z hf hK
  unfold b_X7_split_212 at hf
  refine g_iadd X dX7_split_212 ?_
  obtain ⟨a1, ha1, hf⟩ := dr_e hf
  obtain ⟨hT2, hf⟩ := ck_e hf
  refine g_putI (ci := 4) 7 X cdX5 i_X7_split_X5 (by decide) k_X7_split_f241 rfl dX7_split_213 ha1 hT2 (Or.inl rfl) rfl rfl rfl ?_
  obtain ⟨M3, hM3, hf⟩ := lw_e hf
  rw [← hM3]
  have hT4 : mT M3 a1 = 5 := by rw [hM3]; exact hT2
  cases hf
  refine g_eqQ hK ?_
  exact g_vret X hr dX7_split_216
set_option maxHeartbeats 4000000 in
set_option maxRecDepth 100000 in
theorem tb_X7_split_113 (X : gX p s m args meth c D cy B (gSt Z B H0) RX7 cX7_split wsX7_split 7) (hr : meth.sig.returnType = none) {Q : State → Prop} : ∀ (M : gMem) (x0 : Nat) (x1 : Option Nat) (x2 : Int32) (x3 : Int32) (x4 : Int32) (x5 : Int32) (z : (gMem × Int32) ⊕ (Unit × gMem)), bb_X7_split_113 M x0 x1 x2 x3 x4 x5 = some z → (Sum.elim (fun (q : gMem × Int32) => gGo p l e rX7_split s m args below meth c D cy B H0 7 0 0 Q 113 [(0, vR (some x0)), (1, vR x1), (2, vI x2), (3, vI x3), (4, vI x4), (5, vI q.2)] [] q.1) (fun (r : Unit × gMem) => Q = gMQ below D cy B H0 args s 0 0 none r.2)) z → gGo p l e rX7_split s m args below meth c D cy B H0 7 0 0 Q 113 [(0, vR (some x0)), (1, vR x1), (2, vI x2), (3, vI x3), (4, vI x4), (5, vI x5)] [] M := by
  intro M x0 x1 x2 x3 x4 x5 z hf hK
  unfold bb_X7_split_113 at hf
  refine g_iload X dX7_split_113 rfl ?_
  refine g_aload_n X dX7_split_115 rfl rfl ?_
  obtain ⟨a5, ha5, hf⟩ := dr_e hf
  obtain ⟨hT6, hf⟩ := ck_e hf
  refine g_get (ci := 4) (v := vI (mI M a5 3)) 3 X cdX5 i_X7_split_X5 (by decide) k_X7_split_f230 rfl dX7_split_116 ha5 hT6 rfl ?_
  refine g_icmp_ge (tgt := 150) X dX7_split_119 (by decide) (fun hc => ?_) (fun hc => ?_)
  · have hf := ife_t hc hf
    refine g_aload_n X dX7_split_150 rfl rfl ?_
    obtain ⟨hT7, hf⟩ := ck_e hf
    refine g_get (ci := 6) (v := vR (mR M x0 7)) 7 X cdX7 i_X7_split_X7 (by decide) k_X7_split_f23 rfl dX7_split_151 rfl hT7 rfl ?_
    refine g_aload_n X dX7_split_154 rfl rfl ?_
    refine g_get (ci := 4) (v := vR (mR M a5 4)) 4 X cdX5 i_X7_split_X5 (by decide) k_X7_split_f233 rfl dX7_split_155 ha5 hT6 rfl ?_
    refine g_iconst (v := (0 : Int32)) X dX7_split_158 (by decide) ?_
    obtain ⟨a8, ha8, hf⟩ := dr_e hf
    obtain ⟨hT9, hf⟩ := ck_e hf
    obtain ⟨hg10, hf⟩ := ck_e hf
    refine g_iald X dX7_split_159 ha8 hT9 hg10 ?_
    obtain ⟨a11, ha11, hf⟩ := dr_e hf
    obtain ⟨hT12, hf⟩ := ck_e hf
    obtain ⟨hg13, hf⟩ := ck_e hf
    refine g_aald (t0 := 4) X dX7_split_160 ha11 hT12 (by decide) rfl hg13 ?_
    refine g_dup X dX7_split_161 rfl ?_
    obtain ⟨a14, ha14, hf⟩ := dr_e hf
    obtain ⟨hT15, hf⟩ := ck_e hf
    refine g_get (ci := 0) (v := vI (mI M a14 5)) 5 X cdX1 i_X7_split_X1 (by decide) k_X7_split_f196 rfl dX7_split_162 ha14 hT15 rfl ?_
    refine g_iload_n X dX7_split_165 rfl rfl ?_
    refine g_iload X dX7_split_166 rfl ?_
    refine g_aload_n X dX7_split_168 rfl rfl ?_
    refine g_get (ci := 4) (v := vI (mI M a5 3)) 3 X cdX5 i_X7_split_X5 (by decide) k_X7_split_f230 rfl dX7_split_169 ha5 hT6 rfl ?_
    refine g_imul X dX7_split_172 ?_
    refine g_isub X dX7_split_173 ?_
    refine g_iadd X dX7_split_174 ?_
    refine g_putI (ci := 0) 5 X cdX1 i_X7_split_X1 (by decide) k_X7_split_f196 rfl dX7_split_175 ha14 hT15 (Or.inl rfl) rfl rfl rfl ?_
    obtain ⟨M16, hM16, hf⟩ := lw_e hf
    rw [← hM16]
    have hT17 : mT M16 a5 = 5 := by rw [hM16]; exact hT6
    have hT18 : mT M16 x0 = 7 := by rw [hM16]; exact hT7
    have hT19 : mT M16 a8 = 20 := by rw [hM16]; exact hT9
    have hT20 : mT M16 a11 = 24 := by rw [hM16]; exact hT12
    have hT21 : mT M16 a14 = 1 := by rw [hM16]; exact hT15
    refine g_aload_n X dX7_split_178 rfl rfl ?_
    refine g_dup X dX7_split_179 rfl ?_
    refine g_get (ci := 4) (v := vI (mI M16 a5 5)) 5 X cdX5 i_X7_split_X5 (by decide) k_X7_split_f235 rfl dX7_split_180 ha5 hT17 rfl ?_
    refine g_iload_n X dX7_split_183 rfl rfl ?_
    refine g_iadd X dX7_split_184 ?_
    refine g_putI (ci := 4) 5 X cdX5 i_X7_split_X5 (by decide) k_X7_split_f235 rfl dX7_split_185 ha5 hT17 (Or.inl rfl) rfl rfl rfl ?_
    obtain ⟨M22, hM22, hf⟩ := lw_e hf
    rw [← hM22]
    have hT23 : mT M22 a5 = 5 := by rw [hM22]; exact hT17
    have hT24 : mT M22 x0 = 7 := by rw [hM22]; exact hT18
    have hT25 : mT M22 a8 = 20 := by rw [hM22]; exact hT19
    have hT26 : mT M22 a11 = 24 := by rw [hM22]; exact hT20
    have hT27 : mT M22 a14 = 1 := by rw [hM22]; exact hT21
    refine g_aload_n X dX7_split_188 rfl rfl ?_
    refine g_dup X dX7_split_189 rfl ?_
    refine g_get (ci := 4) (v := vI (mI M22 a5 6)) 6 X cdX5 i_X7_split_X5 (by decide) k_X7_split_f238 rfl dX7_split_190 ha5 hT23 rfl ?_
    refine g_iload_n X dX7_split_193 rfl rfl ?_
    refine g_iadd X dX7_split_194 ?_
    refine g_putI (ci := 4) 6 X cdX5 i_X7_split_X5 (by decide) k_X7_split_f238 rfl dX7_split_195 ha5 hT23 (Or.inl rfl) rfl rfl rfl ?_
    obtain ⟨M28, hM28, hf⟩ := lw_e hf
    rw [← hM28]
    have hT29 : mT M28 a5 = 5 := by rw [hM28]; exact hT23
    have hT30 : mT M28 x0 = 7 := by rw [hM28]; exact hT24
    have hT31 : mT M28 a8 = 20 := by rw [hM28]; exact hT25
    have hT32 : mT M28 a11 = 24 := by rw [hM28]; exact hT26
    have hT33 : mT M28 a14 = 1 := by rw [hM28]; exact hT27
    refine g_aload_n X dX7_split_198 rfl rfl ?_
    refine g_dup X dX7_split_199 rfl ?_
    refine g_get (ci := 4) (v := vI (mI M28 a5 7)) 7 X cdX5 i_X7_split_X5 (by decide) k_X7_split_f241 rfl dX7_split_200 ha5 hT29 rfl ?_
    refine g_iload_n X dX7_split_203 rfl rfl ?_
    refine g_if_le (tgt := 211) X dX7_split_204 (by decide) (fun hc => ?_) (fun hc => ?_)
    · have hf := ife_t hc hf
      refine g_iconst (v := (0 : Int32)) X dX7_split_211 (by decide) ?_
      obtain ⟨w34, hw34, hz34⟩ := oI_e hf
      subst hz34
      have hf := hw34
      refine g_sub (lvsub_of _ _ [] rfl) ?_
      exact t_X7_split_212 X hr _ _ _ _ _ hf hK
    · have hf := ife_f hc hf
      refine g_iconst (v := (1 : Int32)) X dX7_split_207 (by decide) ?_
      refine g_goto (tgt := 212) X dX7_split_208 (by decide) ?_
      obtain ⟨w35, hw35, hz35⟩ := oI_e hf
      subst hz35
      have hf := hw35
      refine g_sub (lvsub_of _ _ [] rfl) ?_
      exact t_X7_split_212 X hr _ _ _ _ _ hf hK
  · have hf := ife_f hc hf
    refine g_aload_n X dX7_split_122 rfl rfl ?_
    obtain ⟨hT36, hf⟩ := ck_e hf
    refine g_get (ci := 6) (v := vR (mR M x0 7)) 7 X cdX7 i_X7_split_X7 (by decide) k_X7_split_f23 rfl dX7_split_123 rfl hT36 rfl ?_
    refine g_aload_n X dX7_split_126 rfl rfl ?_
    refine g_get (ci := 4) (v := vR (mR M a5 4)) 4 X cdX5 i_X7_split_X5 (by decide) k_X7_split_f233 rfl dX7_split_127 ha5 hT6 rfl ?_
    refine g_iload X dX7_split_130 rfl ?_
    obtain ⟨a37, ha37, hf⟩ := dr_e hf
    obtain ⟨hT38, hf⟩ := ck_e hf
    obtain ⟨hg39, hf⟩ := ck_e hf
    refine g_iald X dX7_split_132 ha37 hT38 hg39 ?_
    obtain ⟨a40, ha40, hf⟩ := dr_e hf
    obtain ⟨hT41, hf⟩ := ck_e hf
    obtain ⟨hg42, hf⟩ := ck_e hf
    refine g_aald (t0 := 4) X dX7_split_133 ha40 hT41 (by decide) rfl hg42 ?_
    refine g_dup X dX7_split_134 rfl ?_
    obtain ⟨a43, ha43, hf⟩ := dr_e hf
    obtain ⟨hT44, hf⟩ := ck_e hf
    refine g_get (ci := 0) (v := vI (mI M a43 5)) 5 X cdX1 i_X7_split_X1 (by decide) k_X7_split_f196 rfl dX7_split_135 ha43 hT44 rfl ?_
    refine g_iload X dX7_split_138 rfl ?_
    refine g_iadd X dX7_split_140 ?_
    refine g_putI (ci := 0) 5 X cdX1 i_X7_split_X1 (by decide) k_X7_split_f196 rfl dX7_split_141 ha43 hT44 (Or.inl rfl) rfl rfl rfl ?_
    obtain ⟨M45, hM45, hf⟩ := lw_e hf
    rw [← hM45]
    have hT46 : mT M45 a5 = 5 := by rw [hM45]; exact hT6
    have hT47 : mT M45 x0 = 7 := by rw [hM45]; exact hT36
    have hT48 : mT M45 a37 = 20 := by rw [hM45]; exact hT38
    have hT49 : mT M45 a40 = 24 := by rw [hM45]; exact hT41
    have hT50 : mT M45 a43 = 1 := by rw [hM45]; exact hT44
    refine g_iinc (v := (1 : Int32)) (lv' := [(5, vI (x5 + (1 : Int32))), (0, vR (some x0)), (1, vR x1), (2, vI x2), (3, vI x3), (4, vI x4)]) X dX7_split_144 rfl (by decide) (by decide) rfl ?_
    refine g_goto (tgt := 113) X dX7_split_147 (by decide) ?_
    cases hf
    refine g_sub (lvsub_of _ _ [1, 2, 3, 4, 5, 0] rfl) ?_
    exact hK
set_option maxHeartbeats 4000000 in
set_option maxRecDepth 100000 in
theorem tl_X7_split_113 (X : gX p s m args meth c D cy B (gSt Z B H0) RX7 cX7_split wsX7_split 7) (hr : meth.sig.returnType = none) {Q : State → Prop} : ∀ (M : gMem) (x0 : Nat) (x1 : Option Nat) (x2 : Int32) (x3 : Int32) (x4 : Int32) (x5 : Int32) (z : Unit × gMem), lp_X7_split_113 M x0 x1 x2 x3 x4 x5 = some z → (fun (r : Unit × gMem) => Q = gMQ below D cy B H0 args s 0 0 none r.2) z → gGo p l e rX7_split s m args below meth c D cy B H0 7 0 0 Q 113 [(0, vR (some x0)), (1, vR x1), (2, vI x2), (3, vI x3), (4, vI x4), (5, vI x5)] [] M := by
  intro M x0 x1 x2 x3 x4 x5 z hf hK
  refine lp_ind (P := (fun (q : gMem × Int32) (z : Unit × gMem) => (fun (r : Unit × gMem) => Q = gMQ below D cy B H0 args s 0 0 none r.2) z → gGo p l e rX7_split s m args below meth c D cy B H0 7 0 0 Q 113 [(0, vR (some x0)), (1, vR x1), (2, vI x2), (3, vI x3), (4, vI x4), (5, vI q.2)] [] q.1)) (fun q z hq => ?_) _ _ hf hK
  intro hK
  obtain ⟨w, hw, hm⟩ := hq
  refine tb_X7_split_113 X hr _ _ _ _ _ _ _ w hw ?_
  cases w with
  | inl a => exact hm hK
  | inr b => cases hm; exact hK
set_option maxHeartbeats 4000000 in
set_option maxRecDepth 100000 in
theorem t_X7_split_69 (X : gX p s m args meth c D cy B (gSt Z B H0) RX7 cX7_split wsX7_split 7) (hr : meth.sig.returnType = none) {Q : State → Prop} : ∀ (M : gMem) (x0 : Nat) (x1 : Option Nat) (x2 : Int32) (x3 : Int32) (x4 : Int32) (x5 : Option Nat) (s0 : Int32) (z : (gMem × Int32 × Int32 × Int32) ⊕ (Unit × gMem)), b_X7_split_69 M x0 x1 x2 x3 x4 x5 s0 = some z → (Sum.elim (fun (q : gMem × Int32 × Int32 × Int32) => gGo p l e rX7_split s m args below meth c D cy B H0 7 0 0 Q 23 [(0, vR (some x0)), (1, vR x1), (2, vI q.2.1), (3, vI q.2.2.1), (4, vI q.2.2.2)] [] q.1) (fun (r : Unit × gMem) => Q = gMQ below D cy B H0 args s 0 0 none r.2)) z → gGo p l e rX7_split s m args below meth c D cy B H0 7 0 0 Q 69 [(0, vR (some x0)), (1, vR x1), (2, vI x2), (3, vI x3), (4, vI x4), (5, vR x5)] [vI s0] M := by
  intro M x0 x1 x2 x3 x4 x5 s0 z hf hK
  unfold b_X7_split_69 at hf
  refine g_istore (lv' := [(6, vI s0), (0, vR (some x0)), (1, vR x1), (2, vI x2), (3, vI x3), (4, vI x4), (5, vR x5)]) X dX7_split_69 (by decide) rfl ?_
  refine g_aload X dX7_split_71 rfl ?_
  refine g_dup X dX7_split_73 rfl ?_
  obtain ⟨a51, ha51, hf⟩ := dr_e hf
  obtain ⟨hT52, hf⟩ := ck_e hf
  refine g_get (ci := 0) (v := vI (mI M a51 5)) 5 X cdX1 i_X7_split_X1 (by decide) k_X7_split_f196 rfl dX7_split_74 ha51 hT52 rfl ?_
  refine g_iload X dX7_split_77 rfl ?_
  refine g_isub X dX7_split_79 ?_
  refine g_putI (ci := 0) 5 X cdX1 i_X7_split_X1 (by decide) k_X7_split_f196 rfl dX7_split_80 ha51 hT52 (Or.inl rfl) rfl rfl rfl ?_
  obtain ⟨M53, hM53, hf⟩ := lw_e hf
  rw [← hM53]
  have hT54 : mT M53 a51 = 1 := by rw [hM53]; exact hT52
  refine g_iload_n X dX7_split_83 rfl rfl ?_
  refine g_iload X dX7_split_84 rfl ?_
  refine g_iadd X dX7_split_86 ?_
  refine g_istore_n (lv' := [(2, vI (x2 + s0)), (6, vI s0), (0, vR (some x0)), (1, vR x1), (3, vI x3), (4, vI x4), (5, vR x5)]) X dX7_split_87 rfl (by decide) rfl ?_
  refine g_iload_n X dX7_split_88 rfl rfl ?_
  refine g_aload X dX7_split_89 rfl ?_
  refine g_get (ci := 0) (v := vI (mI M53 a51 5)) 5 X cdX1 i_X7_split_X1 (by decide) k_X7_split_f196 rfl dX7_split_91 ha51 hT54 rfl ?_
  refine g_iadd X dX7_split_94 ?_
  refine g_istore_n (lv' := [(3, vI (x3 + (mI M53 a51 5))), (2, vI (x2 + s0)), (6, vI s0), (0, vR (some x0)), (1, vR x1), (4, vI x4), (5, vR x5)]) X dX7_split_95 rfl (by decide) rfl ?_
  refine g_iinc (v := (1 : Int32)) (lv' := [(4, vI (x4 + (1 : Int32))), (3, vI (x3 + (mI M53 a51 5))), (2, vI (x2 + s0)), (6, vI s0), (0, vR (some x0)), (1, vR x1), (5, vR x5)]) X dX7_split_96 rfl (by decide) (by decide) rfl ?_
  refine g_goto (tgt := 23) X dX7_split_99 (by decide) ?_
  cases hf
  refine g_sub (lvsub_of _ _ [4, 5, 2, 1, 0] rfl) ?_
  exact hK
set_option maxHeartbeats 4000000 in
set_option maxRecDepth 100000 in
theorem tb_X7_split_23 (X : gX p s m args meth c D cy B (gSt Z B H0) RX7 cX7_split wsX7_split 7) (hr : meth.sig.returnType = none) {Q : State → Prop} : ∀ (M : gMem) (x0 : Nat) (x1 : Option Nat) (x2 : Int32) (x3 : Int32) (x4 : Int32) (z : (gMem × Int32 × Int32 × Int32) ⊕ (Unit × gMem)), bb_X7_split_23 M x0 x1 x2 x3 x4 = some z → (Sum.elim (fun (q : gMem × Int32 × Int32 × Int32) => gGo p l e rX7_split s m args below meth c D cy B H0 7 0 0 Q 23 [(0, vR (some x0)), (1, vR x1), (2, vI q.2.1), (3, vI q.2.2.1), (4, vI q.2.2.2)] [] q.1) (fun (r : Unit × gMem) => Q = gMQ below D cy B H0 args s 0 0 none r.2)) z → gGo p l e rX7_split s m args below meth c D cy B H0 7 0 0 Q 23 [(0, vR (some x0)), (1, vR x1), (2, vI x2), (3, vI x3), (4, vI x4)] [] M := by
  intro M x0 x1 x2 x3 x4 z hf hK
  unfold bb_X7_split_23 at hf
  refine g_iload X dX7_split_23 rfl ?_
  refine g_aload_n X dX7_split_25 rfl rfl ?_
  obtain ⟨a55, ha55, hf⟩ := dr_e hf
  obtain ⟨hT56, hf⟩ := ck_e hf
  refine g_get (ci := 4) (v := vI (mI M a55 3)) 3 X cdX5 i_X7_split_X5 (by decide) k_X7_split_f230 rfl dX7_split_26 ha55 hT56 rfl ?_
  refine g_icmp_ge (tgt := 102) X dX7_split_29 (by decide) (fun hc => ?_) (fun hc => ?_)
  · have hf := ife_t hc hf
    refine g_iload_n X dX7_split_102 rfl rfl ?_
    refine g_aload_n X dX7_split_103 rfl rfl ?_
    refine g_get (ci := 4) (v := vI (mI M a55 3)) 3 X cdX5 i_X7_split_X5 (by decide) k_X7_split_f230 rfl dX7_split_104 ha55 hT56 rfl ?_
    obtain ⟨hg57, hf⟩ := ck_e hf
    refine g_idiv X dX7_split_107 hg57 ?_
    refine g_istore (lv' := [(4, vI (x2 / (mI M a55 3))), (0, vR (some x0)), (1, vR x1), (2, vI x2), (3, vI x3)]) X dX7_split_108 (by decide) rfl ?_
    refine g_iconst (v := (0 : Int32)) X dX7_split_110 (by decide) ?_
    refine g_istore (lv' := [(5, vI (0 : Int32)), (4, vI (x2 / (mI M a55 3))), (0, vR (some x0)), (1, vR x1), (2, vI x2), (3, vI x3)]) X dX7_split_111 (by decide) rfl ?_
    obtain ⟨w58, hw58, hz58⟩ := oI_e hf
    subst hz58
    have hf := hw58
    refine g_sub (lvsub_of _ _ [2, 3, 4, 5, 1, 0] rfl) ?_
    exact tl_X7_split_113 X hr _ _ _ _ _ _ _ _ hf hK
  · have hf := ife_f hc hf
    refine g_aload_n X dX7_split_32 rfl rfl ?_
    obtain ⟨hT59, hf⟩ := ck_e hf
    refine g_get (ci := 6) (v := vR (mR M x0 7)) 7 X cdX7 i_X7_split_X7 (by decide) k_X7_split_f23 rfl dX7_split_33 rfl hT59 rfl ?_
    refine g_aload_n X dX7_split_36 rfl rfl ?_
    refine g_get (ci := 4) (v := vR (mR M a55 4)) 4 X cdX5 i_X7_split_X5 (by decide) k_X7_split_f233 rfl dX7_split_37 ha55 hT56 rfl ?_
    refine g_iload X dX7_split_40 rfl ?_
    obtain ⟨a60, ha60, hf⟩ := dr_e hf
    obtain ⟨hT61, hf⟩ := ck_e hf
    obtain ⟨hg62, hf⟩ := ck_e hf
    refine g_iald X dX7_split_42 ha60 hT61 hg62 ?_
    obtain ⟨a63, ha63, hf⟩ := dr_e hf
    obtain ⟨hT64, hf⟩ := ck_e hf
    obtain ⟨hg65, hf⟩ := ck_e hf
    refine g_aald (t0 := 4) X dX7_split_43 ha63 hT64 (by decide) rfl hg65 ?_
    refine g_astore (lv' := [(5, vR (mR M a63 ((mI M a60 x4.toNatClampNeg)).toNatClampNeg)), (0, vR (some x0)), (1, vR x1), (2, vI x2), (3, vI x3), (4, vI x4)]) X dX7_split_44 (by decide) rfl ?_
    refine g_aload X dX7_split_46 rfl ?_
    obtain ⟨a66, ha66, hf⟩ := dr_e hf
    obtain ⟨hT67, hf⟩ := ck_e hf
    refine g_get (ci := 0) (v := vI (mI M a66 9)) 9 X cdX1 i_X7_split_X1 (by decide) k_X7_split_f125 rfl dX7_split_48 ha66 hT67 rfl ?_
    refine g_if_eq (tgt := 64) X dX7_split_51 (by decide) (fun hc => ?_) (fun hc => ?_)
    · have hf := ife_t hc hf
      refine g_aload X dX7_split_64 rfl ?_
      refine g_get (ci := 0) (v := vI (mI M a66 5)) 5 X cdX1 i_X7_split_X1 (by decide) k_X7_split_f196 rfl dX7_split_66 ha66 hT67 rfl ?_
      refine g_sub (lvsub_of _ _ [1, 2, 3, 4, 5, 0] rfl) ?_
      exact t_X7_split_69 X hr _ _ _ _ _ _ _ _ _ hf hK
    · have hf := ife_f hc hf
      refine g_aload X dX7_split_54 rfl ?_
      refine g_get (ci := 0) (v := vI (mI M a66 5)) 5 X cdX1 i_X7_split_X1 (by decide) k_X7_split_f196 rfl dX7_split_56 ha66 hT67 rfl ?_
      refine g_iconst (v := (2 : Int32)) X dX7_split_59 (by decide) ?_
      refine g_idiv X dX7_split_60 (by decide) ?_
      refine g_goto (tgt := 69) X dX7_split_61 (by decide) ?_
      refine g_sub (lvsub_of _ _ [1, 2, 3, 4, 5, 0] rfl) ?_
      exact t_X7_split_69 X hr _ _ _ _ _ _ _ _ _ hf hK
set_option maxHeartbeats 4000000 in
set_option maxRecDepth 100000 in
theorem tl_X7_split_23 (X : gX p s m args meth c D cy B (gSt Z B H0) RX7 cX7_split wsX7_split 7) (hr : meth.sig.returnType = none) {Q : State → Prop} : ∀ (M : gMem) (x0 : Nat) (x1 : Option Nat) (x2 : Int32) (x3 : Int32) (x4 : Int32) (z : Unit × gMem), lp_X7_split_23 M x0 x1 x2 x3 x4 = some z → (fun (r : Unit × gMem) => Q = gMQ below D cy B H0 args s 0 0 none r.2) z → gGo p l e rX7_split s m args below meth c D cy B H0 7 0 0 Q 23 [(0, vR (some x0)), (1, vR x1), (2, vI x2), (3, vI x3), (4, vI x4)] [] M := by
  intro M x0 x1 x2 x3 x4 z hf hK
  refine lp_ind (P := (fun (q : gMem × Int32 × Int32 × Int32) (z : Unit × gMem) => (fun (r : Unit × gMem) => Q = gMQ below D cy B H0 args s 0 0 none r.2) z → gGo p l e rX7_split s m args below meth c D cy B H0 7 0 0 Q 23 [(0, vR (some x0)), (1, vR x1), (2, vI q.2.1), (3, vI q.2.2.1), (4, vI q.2.2.2)] [] q.1)) (fun q z hq => ?_) _ _ hf hK
  intro hK
  obtain ⟨w, hw, hm⟩ := hq
  refine tb_X7_split_23 X hr _ _ _ _ _ _ w hw ?_
  cases w with
  | inl a => exact hm hK
  | inr b => cases hm; exact hK
set_option maxHeartbeats 4000000 in
set_option maxRecDepth 100000 in
theorem t_X7_split_15 (X : gX p s m args meth c D cy B (gSt Z B H0) RX7 cX7_split wsX7_split 7) (hr : meth.sig.returnType = none) {Q : State → Prop} : ∀ (M : gMem)  (z : Unit × gMem), b_X7_split_15 M  = some z → (fun (r : Unit × gMem) => Q = gMQ below D cy B H0 args s 0 0 none r.2) z → gGo p l e rX7_split s m args below meth c D cy B H0 7 0 0 Q 15 [] [] M := by
  intro M  z hf hK
  unfold b_X7_split_15 at hf
  cases hf
  refine g_eqQ hK ?_
  exact g_vret X hr dX7_split_15
set_option maxHeartbeats 4000000 in
set_option maxRecDepth 100000 in
theorem t_X7_split_0 (X : gX p s m args meth c D cy B (gSt Z B H0) RX7 cX7_split wsX7_split 7) (hr : meth.sig.returnType = none) {Q : State → Prop} : ∀ (M : gMem) (x0 : Nat) (x1 : Option Nat) (z : Unit × gMem), b_X7_split_0 M x0 x1 = some z → (fun (r : Unit × gMem) => Q = gMQ below D cy B H0 args s 0 0 none r.2) z → gGo p l e rX7_split s m args below meth c D cy B H0 7 0 0 Q 0 [(0, vR (some x0)), (1, vR x1)] [] M := by
  intro M x0 x1 z hf hK
  unfold b_X7_split_0 at hf
  refine g_aload_n X dX7_split_0 rfl rfl ?_
  obtain ⟨a69, ha69, hf⟩ := dr_e hf
  obtain ⟨hT70, hf⟩ := ck_e hf
  obtain ⟨r68, M68, hq68, hf⟩ := bd_e hf
  refine g_callV (ci := 4) (b := a69) (As := []) (st := []) (v := some (vI r68)) (M1 := M68) X (m_X5_splits l hq68) (cwV 0 X.2.2.1 gX7_split_X5_splits rfl rfl rfl (by decide +kernel) ⟨Nat.le_of_ble_eq_true rfl, Nat.le_of_ble_eq_true rfl⟩) rfl rfl ha69 hT70 (by decide) rfl (Nat.le_of_ble_eq_true rfl) dX7_split_1 ⟨by decide, by decide⟩ ?_
  refine g_if_eq (tgt := 15) X dX7_split_4 (by decide) (fun hc => ?_) (fun hc => ?_)
  · have hf := ife_t hc hf
    refine g_sub (lvsub_of _ _ [] rfl) ?_
    exact t_X7_split_15 X hr _  _ hf hK
  · have hf := ife_f hc hf
    refine g_aload_n X dX7_split_7 rfl rfl ?_
    obtain ⟨hT71, hf⟩ := ck_e hf
    refine g_get (ci := 4) (v := vI (mI M68 a69 3)) 3 X cdX5 i_X7_split_X5 (by decide) k_X7_split_f230 rfl dX7_split_8 ha69 hT71 rfl ?_
    refine g_iconst (v := (1 : Int32)) X dX7_split_11 (by decide) ?_
    refine g_icmp_ge (tgt := 16) X dX7_split_12 (by decide) (fun hc => ?_) (fun hc => ?_)
    · have hf := ife_t hc hf
      refine g_iconst (v := (0 : Int32)) X dX7_split_16 (by decide) ?_
      refine g_istore_n (lv' := [(2, vI (0 : Int32)), (0, vR (some x0)), (1, vR x1)]) X dX7_split_17 rfl (by decide) rfl ?_
      refine g_iconst (v := (0 : Int32)) X dX7_split_18 (by decide) ?_
      refine g_istore_n (lv' := [(3, vI (0 : Int32)), (2, vI (0 : Int32)), (0, vR (some x0)), (1, vR x1)]) X dX7_split_19 rfl (by decide) rfl ?_
      refine g_iconst (v := (0 : Int32)) X dX7_split_20 (by decide) ?_
      refine g_istore (lv' := [(4, vI (0 : Int32)), (3, vI (0 : Int32)), (2, vI (0 : Int32)), (0, vR (some x0)), (1, vR x1)]) X dX7_split_21 (by decide) rfl ?_
      refine g_sub (lvsub_of _ _ [3, 4, 2, 1, 0] rfl) ?_
      exact tl_X7_split_23 X hr _ _ _ _ _ _ _ hf hK
    · have hf := ife_f hc hf
      refine g_sub (lvsub_of _ _ [] rfl) ?_
      exact t_X7_split_15 X hr _  _ hf hK
set_option maxHeartbeats 4000000 in
set_option maxRecDepth 100000 in
theorem m_X7_split (l : Launch) {D : va_G} {cy : Nat → ClassId} {B : Nat} {H0 : Heap} {Z : Nat → Nat} {M M1 : gMem} {x0 : Nat} {x1 : Option Nat} {r : Unit} (hf : f_X7_split M x0 x1 = some (r, M1)) : Met l yX7_split wsX7_split rX7_split (va_Pc (Value.ref x0 :: List.map gv [vR x1]) (gPre D cy B H0 (gSt Z B H0) M)) (gQ D cy B H0 none M1) 0 0 (gA B) := by
  refine Met.ofW (cc := cX7_split) (maxL := 7) (ret := none) (by decide) rfl ?_
  intro p e s m args below meth c s₁ Bd hml hv
  obtain ⟨rfl, hW, hKK, hFs⟩ := hv
  have X : gX p s m _ meth c D cy B (gSt Z B H0) RX7 cX7_split wsX7_split 7 := ⟨Bd.exec, Bd.bytes, atoms_spec (ws := wsX7_split) Bd.pre, findClass_of_methodNamed Bd.named, hml, hKK, by rw [hW.1]; exact hW.2.1, Bd.notSynchronized, hFs⟩
  have hr := Bd.returns
  rcases x1 with _ | x1
  · have hl := lv_entry ([.ref x0, .null]) (n := 7) (Nat.le_of_ble_eq_true rfl)
    show W p l e rX7_split s m _ below meth c s.heap [] 0 0 _ (entryFrame m ([.ref x0, .null] : List Value).toArray 7)
    rw [lg_entry_eq]
    generalize (lg_sl ([.ref x0, .null]) ++ List.replicate (7 - (lg_sl ([.ref x0, .null])).length) Slot.unset).toArray = ls at hl ⊢
    have hl : lv_has ls 7 (List.map gq [(0, vR (some x0)), (1, vR none)]) := hl
    exact t_X7_split_0 X hr _ _ _ _ hf rfl s.heap [] ls hW va_S.rf (lv_has_sub hl (lvsub_of _ _ [0, 1] rfl))
  · have hl := lv_entry ([.ref x0, .ref x1]) (n := 7) (Nat.le_of_ble_eq_true rfl)
    show W p l e rX7_split s m _ below meth c s.heap [] 0 0 _ (entryFrame m ([.ref x0, .ref x1] : List Value).toArray 7)
    rw [lg_entry_eq]
    generalize (lg_sl ([.ref x0, .ref x1]) ++ List.replicate (7 - (lg_sl ([.ref x0, .ref x1])).length) Slot.unset).toArray = ls at hl ⊢
    have hl : lv_has ls 7 (List.map gq [(0, vR (some x0)), (1, vR (some x1))]) := hl
    exact t_X7_split_0 X hr _ _ _ _ hf rfl s.heap [] ls hW va_S.rf (lv_has_sub hl (lvsub_of _ _ [0, 1] rfl))
/-! ## TideLots$Shore.storeCatches()I -/
theorem dX7_storeCatches_0 : decode cX7_storeCatches 0 = .ok (.iconst 0, 1) := by decide +kernel
theorem dX7_storeCatches_1 : decode cX7_storeCatches 1 = .ok (.istore_n 1, 1) := by decide +kernel
theorem dX7_storeCatches_2 : decode cX7_storeCatches 2 = .ok (.iconst 0, 1) := by decide +kernel
theorem dX7_storeCatches_3 : decode cX7_storeCatches 3 = .ok (.istore_n 2, 1) := by decide +kernel
theorem dX7_storeCatches_4 : decode cX7_storeCatches 4 = .ok (.iload_n 2, 1) := by decide +kernel
theorem dX7_storeCatches_5 : decode cX7_storeCatches 5 = .ok (.aload_n 0, 1) := by decide +kernel
theorem dX7_storeCatches_6 : decode cX7_storeCatches 6 = .ok (.getfield 75, 3) := by decide +kernel
theorem dX7_storeCatches_9 : decode cX7_storeCatches 9 = .ok (.if_icmp .ge 44, 3) := by decide +kernel
theorem dX7_storeCatches_12 : decode cX7_storeCatches 12 = .ok (.aload_n 0, 1) := by decide +kernel
theorem dX7_storeCatches_13 : decode cX7_storeCatches 13 = .ok (.getfield 23, 3) := by decide +kernel
theorem dX7_storeCatches_16 : decode cX7_storeCatches 16 = .ok (.iload_n 2, 1) := by decide +kernel
theorem dX7_storeCatches_17 : decode cX7_storeCatches 17 = .ok (.aaload, 1) := by decide +kernel
theorem dX7_storeCatches_18 : decode cX7_storeCatches 18 = .ok (.dup, 1) := by decide +kernel
theorem dX7_storeCatches_19 : decode cX7_storeCatches 19 = .ok (.getfield 116, 3) := by decide +kernel
theorem dX7_storeCatches_22 : decode cX7_storeCatches 22 = .ok (.aload_n 0, 1) := by decide +kernel
theorem dX7_storeCatches_23 : decode cX7_storeCatches 23 = .ok (.getfield 23, 3) := by decide +kernel
theorem dX7_storeCatches_26 : decode cX7_storeCatches 26 = .ok (.iload_n 2, 1) := by decide +kernel
theorem dX7_storeCatches_27 : decode cX7_storeCatches 27 = .ok (.aaload, 1) := by decide +kernel
theorem dX7_storeCatches_28 : decode cX7_storeCatches 28 = .ok (.getfield 196, 3) := by decide +kernel
theorem dX7_storeCatches_31 : decode cX7_storeCatches 31 = .ok (.iadd, 1) := by decide +kernel
theorem dX7_storeCatches_32 : decode cX7_storeCatches 32 = .ok (.putfield 116, 3) := by decide +kernel
theorem dX7_storeCatches_35 : decode cX7_storeCatches 35 = .ok (.iload_n 1, 1) := by decide +kernel
theorem dX7_storeCatches_36 : decode cX7_storeCatches 36 = .ok (.aload_n 0, 1) := by decide +kernel
theorem dX7_storeCatches_37 : decode cX7_storeCatches 37 = .ok (.getfield 23, 3) := by decide +kernel
theorem dX7_storeCatches_40 : decode cX7_storeCatches 40 = .ok (.iload_n 2, 1) := by decide +kernel
theorem dX7_storeCatches_41 : decode cX7_storeCatches 41 = .ok (.aaload, 1) := by decide +kernel
theorem dX7_storeCatches_42 : decode cX7_storeCatches 42 = .ok (.getfield 196, 3) := by decide +kernel
theorem dX7_storeCatches_45 : decode cX7_storeCatches 45 = .ok (.iadd, 1) := by decide +kernel
theorem dX7_storeCatches_46 : decode cX7_storeCatches 46 = .ok (.istore_n 1, 1) := by decide +kernel
theorem dX7_storeCatches_47 : decode cX7_storeCatches 47 = .ok (.iinc 2 1, 3) := by decide +kernel
theorem dX7_storeCatches_50 : decode cX7_storeCatches 50 = .ok (.goto (-46), 3) := by decide +kernel
theorem dX7_storeCatches_53 : decode cX7_storeCatches 53 = .ok (.iload_n 1, 1) := by decide +kernel
theorem dX7_storeCatches_54 : decode cX7_storeCatches 54 = .ok (.ireturn, 1) := by decide +kernel
theorem k_X7_storeCatches_f75 : Cond.fieldLink RX7 75 "TideLots$Shore" "fisherCount" "I" ∈ wsX7_storeCatches := by decide +kernel
theorem i_X7_storeCatches_X7 : ∀ w ∈ u_ws RX7 TX7 17, w ∈ wsX7_storeCatches := by decide +kernel
theorem k_X7_storeCatches_f23 : Cond.fieldLink RX7 23 "TideLots$Shore" "fishers" "[LTideLots$Fisher;" ∈ wsX7_storeCatches := by decide +kernel
theorem k_X7_storeCatches_f116 : Cond.fieldLink RX7 116 "TideLots$Fisher" "store" "I" ∈ wsX7_storeCatches := by decide +kernel
theorem i_X7_storeCatches_X1 : ∀ w ∈ u_ws RX1 TX1 11, w ∈ wsX7_storeCatches := by decide +kernel
theorem k_X7_storeCatches_f196 : Cond.fieldLink RX7 196 "TideLots$Fisher" "latest" "I" ∈ wsX7_storeCatches := by decide +kernel
abbrev rX7_storeCatches : Room := { frames := 0, cells := 0, slots := 0, locals := 0 }
noncomputable def bb_X7_storeCatches_4 (M : gMem) (x0 : Nat) (x1 : Int32) (x2 : Int32) : Option ((gMem × Int32 × Int32) ⊕ (Int32 × gMem)) :=
  ck (mT M x0 = 7) <| (if (mI M x0 3) ≤ x2 then oI (some (x1, M)) else dr ((mR M x0 7)) fun a3 => ck (mT M a3 = 24) <| ck (inb x2 (mL M a3)) <| dr ((mR M a3 x2.toNatClampNeg)) fun a6 => ck (mT M a6 = 1) <| ck (inb x2 (mL M a3)) <| lw (wI M a6 4 (((mI M a6 4) + (mI M a6 5)))) fun M9 => dr ((mR M9 x0 7)) fun a13 => ck (mT M9 a13 = 24) <| ck (inb x2 (mL M9 a13)) <| dr ((mR M9 a13 x2.toNatClampNeg)) fun a16 => ck (mT M9 a16 = 1) <| some (.inl (M9, (x1 + (mI M9 a16 5)), (x2 + (1 : Int32)))))
noncomputable def lp_X7_storeCatches_4 (M : gMem) (x0 : Nat) (x1 : Int32) (x2 : Int32) : Option (Int32 × gMem) :=
  lp (fun (q : gMem × Int32 × Int32) => bb_X7_storeCatches_4 q.1 x0 q.2.1 q.2.2) (M, x1, x2)
noncomputable def b_X7_storeCatches_0 (M : gMem) (x0 : Nat) : Option (Int32 × gMem) :=
  lp_X7_storeCatches_4 M x0 ((0 : Int32)) ((0 : Int32))
noncomputable def f_X7_storeCatches (M : gMem) (x0 : Nat) : Option (Int32 × gMem) :=
  b_X7_storeCatches_0 M x0
set_option maxHeartbeats 4000000 in
set_option maxRecDepth 100000 in
theorem tb_X7_storeCatches_4 (X : gX p s m args meth c D cy B (gSt Z B H0) RX7 cX7_storeCatches wsX7_storeCatches 3) (hr : meth.sig.returnType = (some .int)) {Q : State → Prop} : ∀ (M : gMem) (x0 : Nat) (x1 : Int32) (x2 : Int32) (z : (gMem × Int32 × Int32) ⊕ (Int32 × gMem)), bb_X7_storeCatches_4 M x0 x1 x2 = some z → (Sum.elim (fun (q : gMem × Int32 × Int32) => gGo p l e rX7_storeCatches s m args below meth c D cy B H0 3 0 0 Q 4 [(0, vR (some x0)), (1, vI q.2.1), (2, vI q.2.2)] [] q.1) (fun (r : Int32 × gMem) => Q = gMQ below D cy B H0 args s 0 0 (some (vI r.1)) r.2)) z → gGo p l e rX7_storeCatches s m args below meth c D cy B H0 3 0 0 Q 4 [(0, vR (some x0)), (1, vI x1), (2, vI x2)] [] M := by
  intro M x0 x1 x2 z hf hK
  unfold bb_X7_storeCatches_4 at hf
  refine g_iload_n X dX7_storeCatches_4 rfl rfl ?_
  refine g_aload_n X dX7_storeCatches_5 rfl rfl ?_
  obtain ⟨hT1, hf⟩ := ck_e hf
  refine g_get (ci := 6) (v := vI (mI M x0 3)) 3 X cdX7 i_X7_storeCatches_X7 (by decide) k_X7_storeCatches_f75 rfl dX7_storeCatches_6 rfl hT1 rfl ?_
  refine g_icmp_ge (tgt := 53) X dX7_storeCatches_9 (by decide) (fun hc => ?_) (fun hc => ?_)
  · have hf := ife_t hc hf
    refine g_iload_n X dX7_storeCatches_53 rfl rfl ?_
    obtain ⟨w2, hw2, hz2⟩ := oI_e hf
    subst hz2
    have hf := hw2
    cases hf
    refine g_eqQ hK ?_
    exact g_iret X hr dX7_storeCatches_54
  · have hf := ife_f hc hf
    refine g_aload_n X dX7_storeCatches_12 rfl rfl ?_
    refine g_get (ci := 6) (v := vR (mR M x0 7)) 7 X cdX7 i_X7_storeCatches_X7 (by decide) k_X7_storeCatches_f23 rfl dX7_storeCatches_13 rfl hT1 rfl ?_
    refine g_iload_n X dX7_storeCatches_16 rfl rfl ?_
    obtain ⟨a3, ha3, hf⟩ := dr_e hf
    obtain ⟨hT4, hf⟩ := ck_e hf
    obtain ⟨hg5, hf⟩ := ck_e hf
    refine g_aald (t0 := 4) X dX7_storeCatches_17 ha3 hT4 (by decide) rfl hg5 ?_
    refine g_dup X dX7_storeCatches_18 rfl ?_
    obtain ⟨a6, ha6, hf⟩ := dr_e hf
    obtain ⟨hT7, hf⟩ := ck_e hf
    refine g_get (ci := 0) (v := vI (mI M a6 4)) 4 X cdX1 i_X7_storeCatches_X1 (by decide) k_X7_storeCatches_f116 rfl dX7_storeCatches_19 ha6 hT7 rfl ?_
    refine g_aload_n X dX7_storeCatches_22 rfl rfl ?_
    refine g_get (ci := 6) (v := vR (mR M x0 7)) 7 X cdX7 i_X7_storeCatches_X7 (by decide) k_X7_storeCatches_f23 rfl dX7_storeCatches_23 rfl hT1 rfl ?_
    refine g_iload_n X dX7_storeCatches_26 rfl rfl ?_
    obtain ⟨hg8, hf⟩ := ck_e hf
    refine g_aald (t0 := 4) X dX7_storeCatches_27 ha3 hT4 (by decide) rfl hg8 ?_
    refine g_get (ci := 0) (v := vI (mI M a6 5)) 5 X cdX1 i_X7_storeCatches_X1 (by decide) k_X7_storeCatches_f196 rfl dX7_storeCatches_28 ha6 hT7 rfl ?_
    refine g_iadd X dX7_storeCatches_31 ?_
    refine g_putI (ci := 0) 4 X cdX1 i_X7_storeCatches_X1 (by decide) k_X7_storeCatches_f116 rfl dX7_storeCatches_32 ha6 hT7 (Or.inl rfl) rfl rfl rfl ?_
    obtain ⟨M9, hM9, hf⟩ := lw_e hf
    rw [← hM9]
    have hT10 : mT M9 x0 = 7 := by rw [hM9]; exact hT1
    have hT11 : mT M9 a3 = 24 := by rw [hM9]; exact hT4
    have hT12 : mT M9 a6 = 1 := by rw [hM9]; exact hT7
    refine g_iload_n X dX7_storeCatches_35 rfl rfl ?_
    refine g_aload_n X dX7_storeCatches_36 rfl rfl ?_
    refine g_get (ci := 6) (v := vR (mR M9 x0 7)) 7 X cdX7 i_X7_storeCatches_X7 (by decide) k_X7_storeCatches_f23 rfl dX7_storeCatches_37 rfl hT10 rfl ?_
    refine g_iload_n X dX7_storeCatches_40 rfl rfl ?_
    obtain ⟨a13, ha13, hf⟩ := dr_e hf
    obtain ⟨hT14, hf⟩ := ck_e hf
    obtain ⟨hg15, hf⟩ := ck_e hf
    refine g_aald (t0 := 4) X dX7_storeCatches_41 ha13 hT14 (by decide) rfl hg15 ?_
    obtain ⟨a16, ha16, hf⟩ := dr_e hf
    obtain ⟨hT17, hf⟩ := ck_e hf
    refine g_get (ci := 0) (v := vI (mI M9 a16 5)) 5 X cdX1 i_X7_storeCatches_X1 (by decide) k_X7_storeCatches_f196 rfl dX7_storeCatches_42 ha16 hT17 rfl ?_
    refine g_iadd X dX7_storeCatches_45 ?_
    refine g_istore_n (lv' := [(1, vI (x1 + (mI M9 a16 5))), (0, vR (some x0)), (2, vI x2)]) X dX7_storeCatches_46 rfl (by decide) rfl ?_
    refine g_iinc (v := (1 : Int32)) (lv' := [(2, vI (x2 + (1 : Int32))), (1, vI (x1 + (mI M9 a16 5))), (0, vR (some x0))]) X dX7_storeCatches_47 rfl (by decide) (by decide) rfl ?_
    refine g_goto (tgt := 4) X dX7_storeCatches_50 (by decide) ?_
    cases hf
    refine g_sub (lvsub_of _ _ [2, 1, 0] rfl) ?_
    exact hK
set_option maxHeartbeats 4000000 in
set_option maxRecDepth 100000 in
theorem tl_X7_storeCatches_4 (X : gX p s m args meth c D cy B (gSt Z B H0) RX7 cX7_storeCatches wsX7_storeCatches 3) (hr : meth.sig.returnType = (some .int)) {Q : State → Prop} : ∀ (M : gMem) (x0 : Nat) (x1 : Int32) (x2 : Int32) (z : Int32 × gMem), lp_X7_storeCatches_4 M x0 x1 x2 = some z → (fun (r : Int32 × gMem) => Q = gMQ below D cy B H0 args s 0 0 (some (vI r.1)) r.2) z → gGo p l e rX7_storeCatches s m args below meth c D cy B H0 3 0 0 Q 4 [(0, vR (some x0)), (1, vI x1), (2, vI x2)] [] M := by
  intro M x0 x1 x2 z hf hK
  refine lp_ind (P := (fun (q : gMem × Int32 × Int32) (z : Int32 × gMem) => (fun (r : Int32 × gMem) => Q = gMQ below D cy B H0 args s 0 0 (some (vI r.1)) r.2) z → gGo p l e rX7_storeCatches s m args below meth c D cy B H0 3 0 0 Q 4 [(0, vR (some x0)), (1, vI q.2.1), (2, vI q.2.2)] [] q.1)) (fun q z hq => ?_) _ _ hf hK
  intro hK
  obtain ⟨w, hw, hm⟩ := hq
  refine tb_X7_storeCatches_4 X hr _ _ _ _ w hw ?_
  cases w with
  | inl a => exact hm hK
  | inr b => cases hm; exact hK
set_option maxHeartbeats 4000000 in
set_option maxRecDepth 100000 in
theorem t_X7_storeCatches_0 (X : gX p s m args meth c D cy B (gSt Z B H0) RX7 cX7_storeCatches wsX7_storeCatches 3) (hr : meth.sig.returnType = (some .int)) {Q : State → Prop} : ∀ (M : gMem) (x0 : Nat) (z : Int32 × gMem), b_X7_storeCatches_0 M x0 = some z → (fun (r : Int32 × gMem) => Q = gMQ below D cy B H0 args s 0 0 (some (vI r.1)) r.2) z → gGo p l e rX7_storeCatches s m args below meth c D cy B H0 3 0 0 Q 0 [(0, vR (some x0))] [] M := by
  intro M x0 z hf hK
  unfold b_X7_storeCatches_0 at hf
  refine g_iconst (v := (0 : Int32)) X dX7_storeCatches_0 (by decide) ?_
  refine g_istore_n (lv' := [(1, vI (0 : Int32)), (0, vR (some x0))]) X dX7_storeCatches_1 rfl (by decide) rfl ?_
  refine g_iconst (v := (0 : Int32)) X dX7_storeCatches_2 (by decide) ?_
  refine g_istore_n (lv' := [(2, vI (0 : Int32)), (1, vI (0 : Int32)), (0, vR (some x0))]) X dX7_storeCatches_3 rfl (by decide) rfl ?_
  refine g_sub (lvsub_of _ _ [2, 1, 0] rfl) ?_
  exact tl_X7_storeCatches_4 X hr _ _ _ _ _ hf hK
set_option maxHeartbeats 4000000 in
set_option maxRecDepth 100000 in
theorem m_X7_storeCatches (l : Launch) {D : va_G} {cy : Nat → ClassId} {B : Nat} {H0 : Heap} {Z : Nat → Nat} {M M1 : gMem} {x0 : Nat} {r : Int32} (hf : f_X7_storeCatches M x0 = some (r, M1)) : Met l yX7_storeCatches wsX7_storeCatches rX7_storeCatches (va_Pc (Value.ref x0 :: List.map gv []) (gPre D cy B H0 (gSt Z B H0) M)) (gQ D cy B H0 (some (vI r)) M1) 0 0 (gA B) := by
  refine Met.ofW (cc := cX7_storeCatches) (maxL := 3) (ret := (some .int)) (by decide) rfl ?_
  intro p e s m args below meth c s₁ Bd hml hv
  obtain ⟨rfl, hW, hKK, hFs⟩ := hv
  have X : gX p s m _ meth c D cy B (gSt Z B H0) RX7 cX7_storeCatches wsX7_storeCatches 3 := ⟨Bd.exec, Bd.bytes, atoms_spec (ws := wsX7_storeCatches) Bd.pre, findClass_of_methodNamed Bd.named, hml, hKK, by rw [hW.1]; exact hW.2.1, Bd.notSynchronized, hFs⟩
  have hr := Bd.returns
  have hl := lv_entry ([.ref x0]) (n := 3) (Nat.le_of_ble_eq_true rfl)
  show W p l e rX7_storeCatches s m _ below meth c s.heap [] 0 0 _ (entryFrame m ([.ref x0] : List Value).toArray 3)
  rw [lg_entry_eq]
  generalize (lg_sl ([.ref x0]) ++ List.replicate (3 - (lg_sl ([.ref x0])).length) Slot.unset).toArray = ls at hl ⊢
  have hl : lv_has ls 3 (List.map gq [(0, vR (some x0))]) := hl
  exact t_X7_storeCatches_0 X hr _ _ _ hf rfl s.heap [] ls hW va_S.rf (lv_has_sub hl (lvsub_of _ _ [0] rfl))
/-! ## TideLots$Shore.passTides(I)I -/
theorem dX7_passTides_0 : decode cX7_passTides 0 = .ok (.iconst 0, 1) := by decide +kernel
theorem dX7_passTides_1 : decode cX7_passTides 1 = .ok (.istore_n 2, 1) := by decide +kernel
theorem dX7_passTides_2 : decode cX7_passTides 2 = .ok (.iconst 0, 1) := by decide +kernel
theorem dX7_passTides_3 : decode cX7_passTides 3 = .ok (.istore_n 3, 1) := by decide +kernel
theorem dX7_passTides_4 : decode cX7_passTides 4 = .ok (.iload_n 3, 1) := by decide +kernel
theorem dX7_passTides_5 : decode cX7_passTides 5 = .ok (.iload_n 1, 1) := by decide +kernel
theorem dX7_passTides_6 : decode cX7_passTides 6 = .ok (.if_icmp .ge 135, 3) := by decide +kernel
theorem dX7_passTides_9 : decode cX7_passTides 9 = .ok (.aload_n 0, 1) := by decide +kernel
theorem dX7_passTides_10 : decode cX7_passTides 10 = .ok (.aload_n 0, 1) := by decide +kernel
theorem dX7_passTides_11 : decode cX7_passTides 11 = .ok (.invokevirtual 133, 3) := by decide +kernel
theorem dX7_passTides_14 : decode cX7_passTides 14 = .ok (.putfield 9, 3) := by decide +kernel
theorem dX7_passTides_17 : decode cX7_passTides 17 = .ok (.aload_n 0, 1) := by decide +kernel
theorem dX7_passTides_18 : decode cX7_passTides 18 = .ok (.invokevirtual 136, 3) := by decide +kernel
theorem dX7_passTides_21 : decode cX7_passTides 21 = .ok (.iconst 0, 1) := by decide +kernel
theorem dX7_passTides_22 : decode cX7_passTides 22 = .ok (.istore 4, 2) := by decide +kernel
theorem dX7_passTides_24 : decode cX7_passTides 24 = .ok (.iload 4, 2) := by decide +kernel
theorem dX7_passTides_26 : decode cX7_passTides 26 = .ok (.aload_n 0, 1) := by decide +kernel
theorem dX7_passTides_27 : decode cX7_passTides 27 = .ok (.getfield 75, 3) := by decide +kernel
theorem dX7_passTides_30 : decode cX7_passTides 30 = .ok (.if_icmp .ge 31, 3) := by decide +kernel
theorem dX7_passTides_33 : decode cX7_passTides 33 = .ok (.aload_n 0, 1) := by decide +kernel
theorem dX7_passTides_34 : decode cX7_passTides 34 = .ok (.aload_n 0, 1) := by decide +kernel
theorem dX7_passTides_35 : decode cX7_passTides 35 = .ok (.getfield 46, 3) := by decide +kernel
theorem dX7_passTides_38 : decode cX7_passTides 38 = .ok (.iload 4, 2) := by decide +kernel
theorem dX7_passTides_40 : decode cX7_passTides 40 = .ok (.iaload, 1) := by decide +kernel
theorem dX7_passTides_41 : decode cX7_passTides 41 = .ok (.aload_n 0, 1) := by decide +kernel
theorem dX7_passTides_42 : decode cX7_passTides 42 = .ok (.aload_n 0, 1) := by decide +kernel
theorem dX7_passTides_43 : decode cX7_passTides 43 = .ok (.getfield 46, 3) := by decide +kernel
theorem dX7_passTides_46 : decode cX7_passTides 46 = .ok (.iload 4, 2) := by decide +kernel
theorem dX7_passTides_48 : decode cX7_passTides 48 = .ok (.iaload, 1) := by decide +kernel
theorem dX7_passTides_49 : decode cX7_passTides 49 = .ok (.invokevirtual 139, 3) := by decide +kernel
theorem dX7_passTides_52 : decode cX7_passTides 52 = .ok (.invokevirtual 143, 3) := by decide +kernel
theorem dX7_passTides_55 : decode cX7_passTides 55 = .ok (.iinc 4 1, 3) := by decide +kernel
theorem dX7_passTides_58 : decode cX7_passTides 58 = .ok (.goto (-34), 3) := by decide +kernel
theorem dX7_passTides_61 : decode cX7_passTides 61 = .ok (.iconst 0, 1) := by decide +kernel
theorem dX7_passTides_62 : decode cX7_passTides 62 = .ok (.istore 4, 2) := by decide +kernel
theorem dX7_passTides_64 : decode cX7_passTides 64 = .ok (.iload 4, 2) := by decide +kernel
theorem dX7_passTides_66 : decode cX7_passTides 66 = .ok (.aload_n 0, 1) := by decide +kernel
theorem dX7_passTides_67 : decode cX7_passTides 67 = .ok (.getfield 81, 3) := by decide +kernel
theorem dX7_passTides_70 : decode cX7_passTides 70 = .ok (.if_icmp .ge 20, 3) := by decide +kernel
theorem dX7_passTides_73 : decode cX7_passTides 73 = .ok (.aload_n 0, 1) := by decide +kernel
theorem dX7_passTides_74 : decode cX7_passTides 74 = .ok (.aload_n 0, 1) := by decide +kernel
theorem dX7_passTides_75 : decode cX7_passTides 75 = .ok (.getfield 35, 3) := by decide +kernel
theorem dX7_passTides_78 : decode cX7_passTides 78 = .ok (.iload 4, 2) := by decide +kernel
theorem dX7_passTides_80 : decode cX7_passTides 80 = .ok (.aaload, 1) := by decide +kernel
theorem dX7_passTides_81 : decode cX7_passTides 81 = .ok (.invokevirtual 147, 3) := by decide +kernel
theorem dX7_passTides_84 : decode cX7_passTides 84 = .ok (.iinc 4 1, 3) := by decide +kernel
theorem dX7_passTides_87 : decode cX7_passTides 87 = .ok (.goto (-23), 3) := by decide +kernel
theorem dX7_passTides_90 : decode cX7_passTides 90 = .ok (.iload_n 2, 1) := by decide +kernel
theorem dX7_passTides_91 : decode cX7_passTides 91 = .ok (.aload_n 0, 1) := by decide +kernel
theorem dX7_passTides_92 : decode cX7_passTides 92 = .ok (.invokevirtual 150, 3) := by decide +kernel
theorem dX7_passTides_95 : decode cX7_passTides 95 = .ok (.iadd, 1) := by decide +kernel
theorem dX7_passTides_96 : decode cX7_passTides 96 = .ok (.istore_n 2, 1) := by decide +kernel
theorem dX7_passTides_97 : decode cX7_passTides 97 = .ok (.iconst 0, 1) := by decide +kernel
theorem dX7_passTides_98 : decode cX7_passTides 98 = .ok (.istore 4, 2) := by decide +kernel
theorem dX7_passTides_100 : decode cX7_passTides 100 = .ok (.iload 4, 2) := by decide +kernel
theorem dX7_passTides_102 : decode cX7_passTides 102 = .ok (.aload_n 0, 1) := by decide +kernel
theorem dX7_passTides_103 : decode cX7_passTides 103 = .ok (.getfield 72, 3) := by decide +kernel
theorem dX7_passTides_106 : decode cX7_passTides 106 = .ok (.if_icmp .ge 19, 3) := by decide +kernel
theorem dX7_passTides_109 : decode cX7_passTides 109 = .ok (.aload_n 0, 1) := by decide +kernel
theorem dX7_passTides_110 : decode cX7_passTides 110 = .ok (.getfield 17, 3) := by decide +kernel
theorem dX7_passTides_113 : decode cX7_passTides 113 = .ok (.iload 4, 2) := by decide +kernel
theorem dX7_passTides_115 : decode cX7_passTides 115 = .ok (.aaload, 1) := by decide +kernel
theorem dX7_passTides_116 : decode cX7_passTides 116 = .ok (.invokevirtual 153, 3) := by decide +kernel
theorem dX7_passTides_119 : decode cX7_passTides 119 = .ok (.iinc 4 1, 3) := by decide +kernel
theorem dX7_passTides_122 : decode cX7_passTides 122 = .ok (.goto (-22), 3) := by decide +kernel
theorem dX7_passTides_125 : decode cX7_passTides 125 = .ok (.aload_n 0, 1) := by decide +kernel
theorem dX7_passTides_126 : decode cX7_passTides 126 = .ok (.dup, 1) := by decide +kernel
theorem dX7_passTides_127 : decode cX7_passTides 127 = .ok (.getfield 103, 3) := by decide +kernel
theorem dX7_passTides_130 : decode cX7_passTides 130 = .ok (.iconst 1, 1) := by decide +kernel
theorem dX7_passTides_131 : decode cX7_passTides 131 = .ok (.iadd, 1) := by decide +kernel
theorem dX7_passTides_132 : decode cX7_passTides 132 = .ok (.putfield 103, 3) := by decide +kernel
theorem dX7_passTides_135 : decode cX7_passTides 135 = .ok (.iinc 3 1, 3) := by decide +kernel
theorem dX7_passTides_138 : decode cX7_passTides 138 = .ok (.goto (-134), 3) := by decide +kernel
theorem dX7_passTides_141 : decode cX7_passTides 141 = .ok (.iload_n 2, 1) := by decide +kernel
theorem dX7_passTides_142 : decode cX7_passTides 142 = .ok (.ireturn, 1) := by decide +kernel
set_option maxRecDepth 20000 in
theorem ggX7_passTides_X3_grow : GoodIn wsX7_passTides wsX3_grow := goodIn_r _ [148, 67, 149, 72, 73, 74, 150, 63, 64, 65, 66, 168, 169, 170, 171] (by decide +kernel) (by decide +kernel)
set_option maxRecDepth 20000 in
theorem gX7_passTides_X3_grow : GoodIn wsX7_passTides (wsV RX7 153 RX3 yX3_grow wsX3_grow) := goodIn_app (goodIn_of _ (by decide +kernel)) ggX7_passTides_X3_grow
set_option maxRecDepth 20000 in
theorem ggX7_passTides_X7_storeCatches : GoodIn wsX7_passTides wsX7_storeCatches := goodIn_r _ [143, 2, 82, 144, 100, 151, 152, 153, 154, 155, 156, 157, 158, 159, 160, 161, 162, 163, 164, 165, 166, 167, 180, 181, 182, 183, 184, 185, 186, 187, 188, 189, 190] (by decide +kernel) (by decide +kernel)
set_option maxRecDepth 20000 in
theorem gX7_passTides_X7_storeCatches : GoodIn wsX7_passTides (wsV RX7 150 RX7 yX7_storeCatches wsX7_storeCatches) := goodIn_app (goodIn_of _ (by decide +kernel)) ggX7_passTides_X7_storeCatches
set_option maxRecDepth 20000 in
theorem ggX7_passTides_X7_split : GoodIn wsX7_passTides wsX7_split := goodIn_2 24 (goodIn_r _ [129, 130, 82, 131, 83, 100, 132, 133, 134, 135, 136, 137, 90, 138, 139, 191, 192, 193, 194, 195, 196, 197, 198, 151] (by decide +kernel) (by decide +kernel)) (goodIn_2 24 (goodIn_r _ [152, 153, 154, 155, 156, 157, 158, 159, 160, 161, 162, 163, 164, 165, 166, 167, 180, 181, 182, 183, 184, 185, 186, 187] (by decide +kernel) (by decide +kernel)) (goodIn_r _ [188, 189, 190] (by decide +kernel) (by decide +kernel)))
set_option maxRecDepth 20000 in
theorem gX7_passTides_X7_split : GoodIn wsX7_passTides (wsV RX7 147 RX7 yX7_split wsX7_split) := goodIn_app (goodIn_of _ (by decide +kernel)) ggX7_passTides_X7_split
set_option maxRecDepth 20000 in
theorem ggX7_passTides_X7_firstGo : GoodIn wsX7_passTides wsX7_firstGo := goodIn_2 24 (goodIn_r _ [24, 25, 26, 27, 7, 28, 20, 29, 30, 31, 32, 33, 34, 35, 36, 37, 38, 39, 40, 41, 42, 43, 44, 45] (by decide +kernel) (by decide +kernel)) (goodIn_2 24 (goodIn_r _ [46, 47, 48, 49, 50, 51, 52, 53, 54, 55, 56, 57, 58, 59, 60, 61, 62, 63, 64, 65, 66, 67, 68, 69] (by decide +kernel) (by decide +kernel)) (goodIn_2 24 (goodIn_r _ [70, 71, 72, 73, 74, 75, 76, 77, 78, 79, 80, 12, 81, 82, 83, 4, 5, 84, 85, 86, 87, 88, 89, 90] (by decide +kernel) (by decide +kernel)) (goodIn_2 24 (goodIn_r _ [91, 92, 93, 94, 151, 152, 153, 154, 155, 156, 157, 158, 159, 160, 161, 162, 163, 164, 165, 166, 167, 172, 173, 174] (by decide +kernel) (by decide +kernel)) (goodIn_2 24 (goodIn_r _ [175, 168, 169, 170, 171, 176, 177, 178, 179, 180, 181, 182, 183, 184, 185, 186, 187, 188, 189, 190, 191, 192, 193, 194] (by decide +kernel) (by decide +kernel)) (goodIn_r _ [195, 196, 197, 198] (by decide +kernel) (by decide +kernel))))))
set_option maxRecDepth 20000 in
theorem gX7_passTides_X7_firstGo : GoodIn wsX7_passTides (wsV RX7 139 RX7 yX7_firstGo wsX7_firstGo) := goodIn_app (goodIn_of _ (by decide +kernel)) ggX7_passTides_X7_firstGo
set_option maxRecDepth 20000 in
theorem ggX7_passTides_X7_sail : GoodIn wsX7_passTides wsX7_sail := goodIn_2 24 (goodIn_r _ [98, 82, 99, 100, 7, 20, 101, 102, 103, 104, 12, 105, 106, 107, 108, 109, 110, 72, 73, 74, 111, 112, 113, 114] (by decide +kernel) (by decide +kernel)) (goodIn_2 24 (goodIn_r _ [115, 116, 117, 118, 119, 120, 121, 122, 123, 124, 125, 151, 152, 153, 154, 155, 156, 157, 158, 159, 160, 161, 162, 163] (by decide +kernel) (by decide +kernel)) (goodIn_r _ [164, 165, 166, 167, 180, 181, 182, 183, 184, 185, 186, 187, 188, 189, 190, 168, 169, 170, 171] (by decide +kernel) (by decide +kernel)))
set_option maxRecDepth 20000 in
theorem gX7_passTides_X7_sail : GoodIn wsX7_passTides (wsV RX7 143 RX7 yX7_sail wsX7_sail) := goodIn_app (goodIn_of _ (by decide +kernel)) ggX7_passTides_X7_sail
set_option maxRecDepth 20000 in
theorem ggX7_passTides_X7_drawLots : GoodIn wsX7_passTides wsX7_drawLots := goodIn_r _ [13, 1, 2, 14, 15, 3, 151, 152, 153, 154, 155, 156, 157, 158, 159, 160, 161, 162, 163, 164, 165, 166, 167] (by decide +kernel) (by decide +kernel)
set_option maxRecDepth 20000 in
theorem gX7_passTides_X7_drawLots : GoodIn wsX7_passTides (wsV RX7 133 RX7 yX7_drawLots wsX7_drawLots) := goodIn_app (goodIn_of _ (by decide +kernel)) ggX7_passTides_X7_drawLots
set_option maxRecDepth 20000 in
theorem ggX7_passTides_X7_callBoatsHome : GoodIn wsX7_passTides wsX7_callBoatsHome := goodIn_r _ [19, 6, 7, 20, 151, 152, 153, 154, 155, 156, 157, 158, 159, 160, 161, 162, 163, 164, 165, 166, 167, 168, 169, 170, 171] (by decide +kernel) (by decide +kernel)
set_option maxRecDepth 20000 in
theorem gX7_passTides_X7_callBoatsHome : GoodIn wsX7_passTides (wsV RX7 136 RX7 yX7_callBoatsHome wsX7_callBoatsHome) := goodIn_app (goodIn_of _ (by decide +kernel)) ggX7_passTides_X7_callBoatsHome
theorem k_X7_passTides_f72 : Cond.fieldLink RX7 72 "TideLots$Shore" "groundCount" "I" ∈ wsX7_passTides := by decide +kernel
theorem i_X7_passTides_X7 : ∀ w ∈ u_ws RX7 TX7 17, w ∈ wsX7_passTides := by decide +kernel
theorem k_X7_passTides_f103 : Cond.fieldLink RX7 103 "TideLots$Shore" "tide" "I" ∈ wsX7_passTides := by decide +kernel
theorem k_X7_passTides_f17 : Cond.fieldLink RX7 17 "TideLots$Shore" "grounds" "[LTideLots$Ground;" ∈ wsX7_passTides := by decide +kernel
theorem k_X7_passTides_f81 : Cond.fieldLink RX7 81 "TideLots$Shore" "pactCount" "I" ∈ wsX7_passTides := by decide +kernel
theorem k_X7_passTides_f35 : Cond.fieldLink RX7 35 "TideLots$Shore" "pacts" "[LTideLots$Pact;" ∈ wsX7_passTides := by decide +kernel
theorem k_X7_passTides_f75 : Cond.fieldLink RX7 75 "TideLots$Shore" "fisherCount" "I" ∈ wsX7_passTides := by decide +kernel
theorem k_X7_passTides_f46 : Cond.fieldLink RX7 46 "TideLots$Shore" "lots" "[I" ∈ wsX7_passTides := by decide +kernel
theorem k_X7_passTides_f9 : Cond.fieldLink RX7 9 "TideLots$Shore" "luck" "I" ∈ wsX7_passTides := by decide +kernel
abbrev rX7_passTides : Room := { frames := 5, cells := 0, slots := 0, locals := 117 }
noncomputable def bb_X7_passTides_100 (Z : Nat → Nat) (M : gMem) (x0 : Nat) (x1 : Int32) (x2 : Int32) (x3 : Int32) (x4 : Int32) : Option ((gMem × Int32) ⊕ ((gMem × Int32 × Int32) ⊕ (Int32 × gMem))) :=
  ck (mT M x0 = 7) <| (if (mI M x0 2) ≤ x4 then lw (wI M x0 0 (((mI M x0 0) + (1 : Int32)))) fun M2 => oI (some (.inl (M2, x2, (x3 + (1 : Int32))))) else dr ((mR M x0 6)) fun a5 => ck (mT M a5 = 23) <| ck (inb x4 (mL M a5)) <| dr ((mR M a5 x4.toNatClampNeg)) fun a9 => ck (mT M a9 = 3) <| bd (f_X3_grow M a9) fun _ M8 => some (.inl (M8, (x4 + (1 : Int32)))))
noncomputable def lp_X7_passTides_100 (Z : Nat → Nat) (M : gMem) (x0 : Nat) (x1 : Int32) (x2 : Int32) (x3 : Int32) (x4 : Int32) : Option ((gMem × Int32 × Int32) ⊕ (Int32 × gMem)) :=
  lp (fun (q : gMem × Int32) => bb_X7_passTides_100 Z q.1 x0 x1 x2 x3 q.2) (M, x4)
noncomputable def bb_X7_passTides_64 (Z : Nat → Nat) (M : gMem) (x0 : Nat) (x1 : Int32) (x2 : Int32) (x3 : Int32) (x4 : Int32) : Option ((gMem × Int32) ⊕ ((gMem × Int32 × Int32) ⊕ (Int32 × gMem))) :=
  ck (mT M x0 = 7) <| (if (mI M x0 5) ≤ x4 then bd (f_X7_storeCatches M x0) fun r12 M12 => oI (lp_X7_passTides_100 Z M12 x0 x1 ((x2 + r12)) x3 ((0 : Int32))) else dr ((mR M x0 9)) fun a14 => ck (mT M a14 = 26) <| ck (inb x4 (mL M a14)) <| bd (f_X7_split M x0 ((mR M a14 x4.toNatClampNeg))) fun _ M17 => some (.inl (M17, (x4 + (1 : Int32)))))
noncomputable def lp_X7_passTides_64 (Z : Nat → Nat) (M : gMem) (x0 : Nat) (x1 : Int32) (x2 : Int32) (x3 : Int32) (x4 : Int32) : Option ((gMem × Int32 × Int32) ⊕ (Int32 × gMem)) :=
  lp (fun (q : gMem × Int32) => bb_X7_passTides_64 Z q.1 x0 x1 x2 x3 q.2) (M, x4)
noncomputable def bb_X7_passTides_24 (Z : Nat → Nat) (M : gMem) (x0 : Nat) (x1 : Int32) (x2 : Int32) (x3 : Int32) (x4 : Int32) : Option ((gMem × Int32) ⊕ ((gMem × Int32 × Int32) ⊕ (Int32 × gMem))) :=
  ck (mT M x0 = 7) <| (if (mI M x0 3) ≤ x4 then oI (lp_X7_passTides_64 Z M x0 x1 x2 x3 ((0 : Int32))) else dr ((mR M x0 11)) fun a20 => ck (mT M a20 = 20) <| ck (inb x4 (mL M a20)) <| ck (inb x4 (mL M a20)) <| bd (f_X7_firstGo Z M x0 ((mI M a20 x4.toNatClampNeg))) fun r24 M24 => ck (mT M24 x0 = 7) <| bd (f_X7_sail M24 x0 ((mI M a20 x4.toNatClampNeg)) r24) fun _ M25 => some (.inl (M25, (x4 + (1 : Int32)))))
noncomputable def lp_X7_passTides_24 (Z : Nat → Nat) (M : gMem) (x0 : Nat) (x1 : Int32) (x2 : Int32) (x3 : Int32) (x4 : Int32) : Option ((gMem × Int32 × Int32) ⊕ (Int32 × gMem)) :=
  lp (fun (q : gMem × Int32) => bb_X7_passTides_24 Z q.1 x0 x1 x2 x3 q.2) (M, x4)
noncomputable def bb_X7_passTides_4 (Z : Nat → Nat) (M : gMem) (x0 : Nat) (x1 : Int32) (x2 : Int32) (x3 : Int32) : Option ((gMem × Int32 × Int32) ⊕ (Int32 × gMem)) :=
  (if x1 ≤ x3 then oI (some (x2, M)) else ck (mT M x0 = 7) <| bd (f_X7_drawLots M x0) fun r28 M28 => ck (mT M28 x0 = 7) <| lw (wI M28 x0 1 r28) fun M31 => bd (f_X7_callBoatsHome M31 x0) fun _ M33 => lp_X7_passTides_24 Z M33 x0 x1 x2 x3 ((0 : Int32)))
noncomputable def lp_X7_passTides_4 (Z : Nat → Nat) (M : gMem) (x0 : Nat) (x1 : Int32) (x2 : Int32) (x3 : Int32) : Option (Int32 × gMem) :=
  lp (fun (q : gMem × Int32 × Int32) => bb_X7_passTides_4 Z q.1 x0 x1 q.2.1 q.2.2) (M, x2, x3)
noncomputable def b_X7_passTides_0 (Z : Nat → Nat) (M : gMem) (x0 : Nat) (x1 : Int32) : Option (Int32 × gMem) :=
  lp_X7_passTides_4 Z M x0 x1 ((0 : Int32)) ((0 : Int32))
noncomputable def f_X7_passTides (Z : Nat → Nat) (M : gMem) (x0 : Nat) (x1 : Int32) : Option (Int32 × gMem) :=
  b_X7_passTides_0 Z M x0 x1
set_option maxHeartbeats 4000000 in
set_option maxRecDepth 100000 in
theorem tb_X7_passTides_100 (X : gX p s m args meth c D cy B (gSt Z B H0) RX7 cX7_passTides wsX7_passTides 5) (hr : meth.sig.returnType = (some .int)) {Q : State → Prop} : ∀ (M : gMem) (x0 : Nat) (x1 : Int32) (x2 : Int32) (x3 : Int32) (x4 : Int32) (z : (gMem × Int32) ⊕ ((gMem × Int32 × Int32) ⊕ (Int32 × gMem))), bb_X7_passTides_100 Z M x0 x1 x2 x3 x4 = some z → (Sum.elim (fun (q : gMem × Int32) => gGo p l e rX7_passTides s m args below meth c D cy B H0 5 0 0 Q 100 [(0, vR (some x0)), (1, vI x1), (2, vI x2), (3, vI x3), (4, vI q.2)] [] q.1) (Sum.elim (fun (q : gMem × Int32 × Int32) => gGo p l e rX7_passTides s m args below meth c D cy B H0 5 0 0 Q 4 [(0, vR (some x0)), (1, vI x1), (2, vI q.2.1), (3, vI q.2.2)] [] q.1) (fun (r : Int32 × gMem) => Q = gMQ below D cy B H0 args s 0 0 (some (vI r.1)) r.2))) z → gGo p l e rX7_passTides s m args below meth c D cy B H0 5 0 0 Q 100 [(0, vR (some x0)), (1, vI x1), (2, vI x2), (3, vI x3), (4, vI x4)] [] M := by
  intro M x0 x1 x2 x3 x4 z hf hK
  unfold bb_X7_passTides_100 at hf
  refine g_iload X dX7_passTides_100 rfl ?_
  refine g_aload_n X dX7_passTides_102 rfl rfl ?_
  obtain ⟨hT1, hf⟩ := ck_e hf
  refine g_get (ci := 6) (v := vI (mI M x0 2)) 2 X cdX7 i_X7_passTides_X7 (by decide) k_X7_passTides_f72 rfl dX7_passTides_103 rfl hT1 rfl ?_
  refine g_icmp_ge (tgt := 125) X dX7_passTides_106 (by decide) (fun hc => ?_) (fun hc => ?_)
  · have hf := ife_t hc hf
    refine g_aload_n X dX7_passTides_125 rfl rfl ?_
    refine g_dup X dX7_passTides_126 rfl ?_
    refine g_get (ci := 6) (v := vI (mI M x0 0)) 0 X cdX7 i_X7_passTides_X7 (by decide) k_X7_passTides_f103 rfl dX7_passTides_127 rfl hT1 rfl ?_
    refine g_iconst (v := (1 : Int32)) X dX7_passTides_130 (by decide) ?_
    refine g_iadd X dX7_passTides_131 ?_
    refine g_putI (ci := 6) 0 X cdX7 i_X7_passTides_X7 (by decide) k_X7_passTides_f103 rfl dX7_passTides_132 rfl hT1 (Or.inl rfl) rfl rfl rfl ?_
    obtain ⟨M2, hM2, hf⟩ := lw_e hf
    rw [← hM2]
    have hT3 : mT M2 x0 = 7 := by rw [hM2]; exact hT1
    refine g_iinc (v := (1 : Int32)) (lv' := [(3, vI (x3 + (1 : Int32))), (0, vR (some x0)), (1, vI x1), (2, vI x2), (4, vI x4)]) X dX7_passTides_135 rfl (by decide) (by decide) rfl ?_
    refine g_goto (tgt := 4) X dX7_passTides_138 (by decide) ?_
    obtain ⟨w4, hw4, hz4⟩ := oI_e hf
    subst hz4
    have hf := hw4
    cases hf
    refine g_sub (lvsub_of _ _ [1, 2, 3, 0] rfl) ?_
    exact hK
  · have hf := ife_f hc hf
    refine g_aload_n X dX7_passTides_109 rfl rfl ?_
    refine g_get (ci := 6) (v := vR (mR M x0 6)) 6 X cdX7 i_X7_passTides_X7 (by decide) k_X7_passTides_f17 rfl dX7_passTides_110 rfl hT1 rfl ?_
    refine g_iload X dX7_passTides_113 rfl ?_
    obtain ⟨a5, ha5, hf⟩ := dr_e hf
    obtain ⟨hT6, hf⟩ := ck_e hf
    obtain ⟨hg7, hf⟩ := ck_e hf
    refine g_aald (t0 := 3) X dX7_passTides_115 ha5 hT6 (by decide) rfl hg7 ?_
    obtain ⟨a9, ha9, hf⟩ := dr_e hf
    obtain ⟨hT10, hf⟩ := ck_e hf
    obtain ⟨r8, M8, hq8, hf⟩ := bd_e hf
    refine g_callV (ci := 2) (b := a9) (As := []) (st := []) (v := none) (M1 := M8) X (m_X3_grow l hq8) (cwV 0 X.2.2.1 gX7_passTides_X3_grow rfl rfl rfl (by decide +kernel) ⟨Nat.le_of_ble_eq_true rfl, Nat.le_of_ble_eq_true rfl⟩) rfl rfl ha9 hT10 (by decide) rfl (Nat.le_of_ble_eq_true rfl) dX7_passTides_116 ⟨by decide, by decide⟩ ?_
    refine g_iinc (v := (1 : Int32)) (lv' := [(4, vI (x4 + (1 : Int32))), (0, vR (some x0)), (1, vI x1), (2, vI x2), (3, vI x3)]) X dX7_passTides_119 rfl (by decide) (by decide) rfl ?_
    refine g_goto (tgt := 100) X dX7_passTides_122 (by decide) ?_
    cases hf
    refine g_sub (lvsub_of _ _ [1, 2, 3, 4, 0] rfl) ?_
    exact hK
set_option maxHeartbeats 4000000 in
set_option maxRecDepth 100000 in
theorem tl_X7_passTides_100 (X : gX p s m args meth c D cy B (gSt Z B H0) RX7 cX7_passTides wsX7_passTides 5) (hr : meth.sig.returnType = (some .int)) {Q : State → Prop} : ∀ (M : gMem) (x0 : Nat) (x1 : Int32) (x2 : Int32) (x3 : Int32) (x4 : Int32) (z : (gMem × Int32 × Int32) ⊕ (Int32 × gMem)), lp_X7_passTides_100 Z M x0 x1 x2 x3 x4 = some z → (Sum.elim (fun (q : gMem × Int32 × Int32) => gGo p l e rX7_passTides s m args below meth c D cy B H0 5 0 0 Q 4 [(0, vR (some x0)), (1, vI x1), (2, vI q.2.1), (3, vI q.2.2)] [] q.1) (fun (r : Int32 × gMem) => Q = gMQ below D cy B H0 args s 0 0 (some (vI r.1)) r.2)) z → gGo p l e rX7_passTides s m args below meth c D cy B H0 5 0 0 Q 100 [(0, vR (some x0)), (1, vI x1), (2, vI x2), (3, vI x3), (4, vI x4)] [] M := by
  intro M x0 x1 x2 x3 x4 z hf hK
  refine lp_ind (P := (fun (q : gMem × Int32) (z : (gMem × Int32 × Int32) ⊕ (Int32 × gMem)) => (Sum.elim (fun (q : gMem × Int32 × Int32) => gGo p l e rX7_passTides s m args below meth c D cy B H0 5 0 0 Q 4 [(0, vR (some x0)), (1, vI x1), (2, vI q.2.1), (3, vI q.2.2)] [] q.1) (fun (r : Int32 × gMem) => Q = gMQ below D cy B H0 args s 0 0 (some (vI r.1)) r.2)) z → gGo p l e rX7_passTides s m args below meth c D cy B H0 5 0 0 Q 100 [(0, vR (some x0)), (1, vI x1), (2, vI x2), (3, vI x3), (4, vI q.2)] [] q.1)) (fun q z hq => ?_) _ _ hf hK
  intro hK
  obtain ⟨w, hw, hm⟩ := hq
  refine tb_X7_passTides_100 X hr _ _ _ _ _ _ w hw ?_
  cases w with
  | inl a => exact hm hK
  | inr b => cases hm; exact hK
set_option maxHeartbeats 4000000 in
set_option maxRecDepth 100000 in
theorem tb_X7_passTides_64 (X : gX p s m args meth c D cy B (gSt Z B H0) RX7 cX7_passTides wsX7_passTides 5) (hr : meth.sig.returnType = (some .int)) {Q : State → Prop} : ∀ (M : gMem) (x0 : Nat) (x1 : Int32) (x2 : Int32) (x3 : Int32) (x4 : Int32) (z : (gMem × Int32) ⊕ ((gMem × Int32 × Int32) ⊕ (Int32 × gMem))), bb_X7_passTides_64 Z M x0 x1 x2 x3 x4 = some z → (Sum.elim (fun (q : gMem × Int32) => gGo p l e rX7_passTides s m args below meth c D cy B H0 5 0 0 Q 64 [(0, vR (some x0)), (1, vI x1), (2, vI x2), (3, vI x3), (4, vI q.2)] [] q.1) (Sum.elim (fun (q : gMem × Int32 × Int32) => gGo p l e rX7_passTides s m args below meth c D cy B H0 5 0 0 Q 4 [(0, vR (some x0)), (1, vI x1), (2, vI q.2.1), (3, vI q.2.2)] [] q.1) (fun (r : Int32 × gMem) => Q = gMQ below D cy B H0 args s 0 0 (some (vI r.1)) r.2))) z → gGo p l e rX7_passTides s m args below meth c D cy B H0 5 0 0 Q 64 [(0, vR (some x0)), (1, vI x1), (2, vI x2), (3, vI x3), (4, vI x4)] [] M := by
  intro M x0 x1 x2 x3 x4 z hf hK
  unfold bb_X7_passTides_64 at hf
  refine g_iload X dX7_passTides_64 rfl ?_
  refine g_aload_n X dX7_passTides_66 rfl rfl ?_
  obtain ⟨hT11, hf⟩ := ck_e hf
  refine g_get (ci := 6) (v := vI (mI M x0 5)) 5 X cdX7 i_X7_passTides_X7 (by decide) k_X7_passTides_f81 rfl dX7_passTides_67 rfl hT11 rfl ?_
  refine g_icmp_ge (tgt := 90) X dX7_passTides_70 (by decide) (fun hc => ?_) (fun hc => ?_)
  · have hf := ife_t hc hf
    refine g_iload_n X dX7_passTides_90 rfl rfl ?_
    refine g_aload_n X dX7_passTides_91 rfl rfl ?_
    obtain ⟨r12, M12, hq12, hf⟩ := bd_e hf
    refine g_callV (ci := 6) (b := x0) (As := []) (st := [vI x2]) (v := some (vI r12)) (M1 := M12) X (m_X7_storeCatches l hq12) (cwV 0 X.2.2.1 gX7_passTides_X7_storeCatches rfl rfl rfl (by decide +kernel) ⟨Nat.le_of_ble_eq_true rfl, Nat.le_of_ble_eq_true rfl⟩) rfl rfl rfl hT11 (by decide) rfl (Nat.le_of_ble_eq_true rfl) dX7_passTides_92 ⟨by decide, by decide⟩ ?_
    refine g_iadd X dX7_passTides_95 ?_
    refine g_istore_n (lv' := [(2, vI (x2 + r12)), (0, vR (some x0)), (1, vI x1), (3, vI x3), (4, vI x4)]) X dX7_passTides_96 rfl (by decide) rfl ?_
    refine g_iconst (v := (0 : Int32)) X dX7_passTides_97 (by decide) ?_
    refine g_istore (lv' := [(4, vI (0 : Int32)), (2, vI (x2 + r12)), (0, vR (some x0)), (1, vI x1), (3, vI x3)]) X dX7_passTides_98 (by decide) rfl ?_
    obtain ⟨w13, hw13, hz13⟩ := oI_e hf
    subst hz13
    have hf := hw13
    refine g_sub (lvsub_of _ _ [2, 3, 1, 4, 0] rfl) ?_
    exact tl_X7_passTides_100 X hr _ _ _ _ _ _ _ hf hK
  · have hf := ife_f hc hf
    refine g_aload_n X dX7_passTides_73 rfl rfl ?_
    refine g_aload_n X dX7_passTides_74 rfl rfl ?_
    refine g_get (ci := 6) (v := vR (mR M x0 9)) 9 X cdX7 i_X7_passTides_X7 (by decide) k_X7_passTides_f35 rfl dX7_passTides_75 rfl hT11 rfl ?_
    refine g_iload X dX7_passTides_78 rfl ?_
    obtain ⟨a14, ha14, hf⟩ := dr_e hf
    obtain ⟨hT15, hf⟩ := ck_e hf
    obtain ⟨hg16, hf⟩ := ck_e hf
    refine g_aald (t0 := 6) X dX7_passTides_80 ha14 hT15 (by decide) rfl hg16 ?_
    obtain ⟨r17, M17, hq17, hf⟩ := bd_e hf
    refine g_callV (ci := 6) (b := x0) (As := [vR (mR M a14 x4.toNatClampNeg)]) (st := []) (v := none) (M1 := M17) X (m_X7_split l hq17) (cwV 1 X.2.2.1 gX7_passTides_X7_split rfl rfl rfl (by decide +kernel) ⟨Nat.le_of_ble_eq_true rfl, Nat.le_of_ble_eq_true rfl⟩) rfl rfl rfl hT11 (by decide) rfl (Nat.le_of_ble_eq_true rfl) dX7_passTides_81 ⟨by decide, by decide⟩ ?_
    refine g_iinc (v := (1 : Int32)) (lv' := [(4, vI (x4 + (1 : Int32))), (0, vR (some x0)), (1, vI x1), (2, vI x2), (3, vI x3)]) X dX7_passTides_84 rfl (by decide) (by decide) rfl ?_
    refine g_goto (tgt := 64) X dX7_passTides_87 (by decide) ?_
    cases hf
    refine g_sub (lvsub_of _ _ [1, 2, 3, 4, 0] rfl) ?_
    exact hK
set_option maxHeartbeats 4000000 in
set_option maxRecDepth 100000 in
theorem tl_X7_passTides_64 (X : gX p s m args meth c D cy B (gSt Z B H0) RX7 cX7_passTides wsX7_passTides 5) (hr : meth.sig.returnType = (some .int)) {Q : State → Prop} : ∀ (M : gMem) (x0 : Nat) (x1 : Int32) (x2 : Int32) (x3 : Int32) (x4 : Int32) (z : (gMem × Int32 × Int32) ⊕ (Int32 × gMem)), lp_X7_passTides_64 Z M x0 x1 x2 x3 x4 = some z → (Sum.elim (fun (q : gMem × Int32 × Int32) => gGo p l e rX7_passTides s m args below meth c D cy B H0 5 0 0 Q 4 [(0, vR (some x0)), (1, vI x1), (2, vI q.2.1), (3, vI q.2.2)] [] q.1) (fun (r : Int32 × gMem) => Q = gMQ below D cy B H0 args s 0 0 (some (vI r.1)) r.2)) z → gGo p l e rX7_passTides s m args below meth c D cy B H0 5 0 0 Q 64 [(0, vR (some x0)), (1, vI x1), (2, vI x2), (3, vI x3), (4, vI x4)] [] M := by
  intro M x0 x1 x2 x3 x4 z hf hK
  refine lp_ind (P := (fun (q : gMem × Int32) (z : (gMem × Int32 × Int32) ⊕ (Int32 × gMem)) => (Sum.elim (fun (q : gMem × Int32 × Int32) => gGo p l e rX7_passTides s m args below meth c D cy B H0 5 0 0 Q 4 [(0, vR (some x0)), (1, vI x1), (2, vI q.2.1), (3, vI q.2.2)] [] q.1) (fun (r : Int32 × gMem) => Q = gMQ below D cy B H0 args s 0 0 (some (vI r.1)) r.2)) z → gGo p l e rX7_passTides s m args below meth c D cy B H0 5 0 0 Q 64 [(0, vR (some x0)), (1, vI x1), (2, vI x2), (3, vI x3), (4, vI q.2)] [] q.1)) (fun q z hq => ?_) _ _ hf hK
  intro hK
  obtain ⟨w, hw, hm⟩ := hq
  refine tb_X7_passTides_64 X hr _ _ _ _ _ _ w hw ?_
  cases w with
  | inl a => exact hm hK
  | inr b => cases hm; exact hK
set_option maxHeartbeats 4000000 in
set_option maxRecDepth 100000 in
theorem tb_X7_passTides_24 (X : gX p s m args meth c D cy B (gSt Z B H0) RX7 cX7_passTides wsX7_passTides 5) (hr : meth.sig.returnType = (some .int)) {Q : State → Prop} : ∀ (M : gMem) (x0 : Nat) (x1 : Int32) (x2 : Int32) (x3 : Int32) (x4 : Int32) (z : (gMem × Int32) ⊕ ((gMem × Int32 × Int32) ⊕ (Int32 × gMem))), bb_X7_passTides_24 Z M x0 x1 x2 x3 x4 = some z → (Sum.elim (fun (q : gMem × Int32) => gGo p l e rX7_passTides s m args below meth c D cy B H0 5 0 0 Q 24 [(0, vR (some x0)), (1, vI x1), (2, vI x2), (3, vI x3), (4, vI q.2)] [] q.1) (Sum.elim (fun (q : gMem × Int32 × Int32) => gGo p l e rX7_passTides s m args below meth c D cy B H0 5 0 0 Q 4 [(0, vR (some x0)), (1, vI x1), (2, vI q.2.1), (3, vI q.2.2)] [] q.1) (fun (r : Int32 × gMem) => Q = gMQ below D cy B H0 args s 0 0 (some (vI r.1)) r.2))) z → gGo p l e rX7_passTides s m args below meth c D cy B H0 5 0 0 Q 24 [(0, vR (some x0)), (1, vI x1), (2, vI x2), (3, vI x3), (4, vI x4)] [] M := by
  intro M x0 x1 x2 x3 x4 z hf hK
  unfold bb_X7_passTides_24 at hf
  refine g_iload X dX7_passTides_24 rfl ?_
  refine g_aload_n X dX7_passTides_26 rfl rfl ?_
  obtain ⟨hT18, hf⟩ := ck_e hf
  refine g_get (ci := 6) (v := vI (mI M x0 3)) 3 X cdX7 i_X7_passTides_X7 (by decide) k_X7_passTides_f75 rfl dX7_passTides_27 rfl hT18 rfl ?_
  refine g_icmp_ge (tgt := 61) X dX7_passTides_30 (by decide) (fun hc => ?_) (fun hc => ?_)
  · have hf := ife_t hc hf
    refine g_iconst (v := (0 : Int32)) X dX7_passTides_61 (by decide) ?_
    refine g_istore (lv' := [(4, vI (0 : Int32)), (0, vR (some x0)), (1, vI x1), (2, vI x2), (3, vI x3)]) X dX7_passTides_62 (by decide) rfl ?_
    obtain ⟨w19, hw19, hz19⟩ := oI_e hf
    subst hz19
    have hf := hw19
    refine g_sub (lvsub_of _ _ [1, 2, 3, 4, 0] rfl) ?_
    exact tl_X7_passTides_64 X hr _ _ _ _ _ _ _ hf hK
  · have hf := ife_f hc hf
    refine g_aload_n X dX7_passTides_33 rfl rfl ?_
    refine g_aload_n X dX7_passTides_34 rfl rfl ?_
    refine g_get (ci := 6) (v := vR (mR M x0 11)) 11 X cdX7 i_X7_passTides_X7 (by decide) k_X7_passTides_f46 rfl dX7_passTides_35 rfl hT18 rfl ?_
    refine g_iload X dX7_passTides_38 rfl ?_
    obtain ⟨a20, ha20, hf⟩ := dr_e hf
    obtain ⟨hT21, hf⟩ := ck_e hf
    obtain ⟨hg22, hf⟩ := ck_e hf
    refine g_iald X dX7_passTides_40 ha20 hT21 hg22 ?_
    refine g_aload_n X dX7_passTides_41 rfl rfl ?_
    refine g_aload_n X dX7_passTides_42 rfl rfl ?_
    refine g_get (ci := 6) (v := vR (mR M x0 11)) 11 X cdX7 i_X7_passTides_X7 (by decide) k_X7_passTides_f46 rfl dX7_passTides_43 rfl hT18 rfl ?_
    refine g_iload X dX7_passTides_46 rfl ?_
    obtain ⟨hg23, hf⟩ := ck_e hf
    refine g_iald X dX7_passTides_48 ha20 hT21 hg23 ?_
    obtain ⟨r24, M24, hq24, hf⟩ := bd_e hf
    refine g_callV (ci := 6) (b := x0) (As := [vI (mI M a20 x4.toNatClampNeg)]) (st := [vI (mI M a20 x4.toNatClampNeg), vR (some x0)]) (v := some (vI r24)) (M1 := M24) X (m_X7_firstGo l hq24) (cwV 1 X.2.2.1 gX7_passTides_X7_firstGo rfl rfl rfl (by decide +kernel) ⟨Nat.le_of_ble_eq_true rfl, Nat.le_of_ble_eq_true rfl⟩) rfl rfl rfl hT18 (by decide) rfl (Nat.le_of_ble_eq_true rfl) dX7_passTides_49 ⟨by decide, by decide⟩ ?_
    obtain ⟨hT26, hf⟩ := ck_e hf
    obtain ⟨r25, M25, hq25, hf⟩ := bd_e hf
    refine g_callV (ci := 6) (b := x0) (As := [vI (mI M a20 x4.toNatClampNeg), vI r24]) (st := []) (v := none) (M1 := M25) X (m_X7_sail l hq25) (cwV 2 X.2.2.1 gX7_passTides_X7_sail rfl rfl rfl (by decide +kernel) ⟨Nat.le_of_ble_eq_true rfl, Nat.le_of_ble_eq_true rfl⟩) rfl rfl rfl hT26 (by decide) rfl (Nat.le_of_ble_eq_true rfl) dX7_passTides_52 ⟨by decide, by decide⟩ ?_
    refine g_iinc (v := (1 : Int32)) (lv' := [(4, vI (x4 + (1 : Int32))), (0, vR (some x0)), (1, vI x1), (2, vI x2), (3, vI x3)]) X dX7_passTides_55 rfl (by decide) (by decide) rfl ?_
    refine g_goto (tgt := 24) X dX7_passTides_58 (by decide) ?_
    cases hf
    refine g_sub (lvsub_of _ _ [1, 2, 3, 4, 0] rfl) ?_
    exact hK
set_option maxHeartbeats 4000000 in
set_option maxRecDepth 100000 in
theorem tl_X7_passTides_24 (X : gX p s m args meth c D cy B (gSt Z B H0) RX7 cX7_passTides wsX7_passTides 5) (hr : meth.sig.returnType = (some .int)) {Q : State → Prop} : ∀ (M : gMem) (x0 : Nat) (x1 : Int32) (x2 : Int32) (x3 : Int32) (x4 : Int32) (z : (gMem × Int32 × Int32) ⊕ (Int32 × gMem)), lp_X7_passTides_24 Z M x0 x1 x2 x3 x4 = some z → (Sum.elim (fun (q : gMem × Int32 × Int32) => gGo p l e rX7_passTides s m args below meth c D cy B H0 5 0 0 Q 4 [(0, vR (some x0)), (1, vI x1), (2, vI q.2.1), (3, vI q.2.2)] [] q.1) (fun (r : Int32 × gMem) => Q = gMQ below D cy B H0 args s 0 0 (some (vI r.1)) r.2)) z → gGo p l e rX7_passTides s m args below meth c D cy B H0 5 0 0 Q 24 [(0, vR (some x0)), (1, vI x1), (2, vI x2), (3, vI x3), (4, vI x4)] [] M := by
  intro M x0 x1 x2 x3 x4 z hf hK
  refine lp_ind (P := (fun (q : gMem × Int32) (z : (gMem × Int32 × Int32) ⊕ (Int32 × gMem)) => (Sum.elim (fun (q : gMem × Int32 × Int32) => gGo p l e rX7_passTides s m args below meth c D cy B H0 5 0 0 Q 4 [(0, vR (some x0)), (1, vI x1), (2, vI q.2.1), (3, vI q.2.2)] [] q.1) (fun (r : Int32 × gMem) => Q = gMQ below D cy B H0 args s 0 0 (some (vI r.1)) r.2)) z → gGo p l e rX7_passTides s m args below meth c D cy B H0 5 0 0 Q 24 [(0, vR (some x0)), (1, vI x1), (2, vI x2), (3, vI x3), (4, vI q.2)] [] q.1)) (fun q z hq => ?_) _ _ hf hK
  intro hK
  obtain ⟨w, hw, hm⟩ := hq
  refine tb_X7_passTides_24 X hr _ _ _ _ _ _ w hw ?_
  cases w with
  | inl a => exact hm hK
  | inr b => cases hm; exact hK
set_option maxHeartbeats 4000000 in
set_option maxRecDepth 100000 in
theorem tb_X7_passTides_4 (X : gX p s m args meth c D cy B (gSt Z B H0) RX7 cX7_passTides wsX7_passTides 5) (hr : meth.sig.returnType = (some .int)) {Q : State → Prop} : ∀ (M : gMem) (x0 : Nat) (x1 : Int32) (x2 : Int32) (x3 : Int32) (z : (gMem × Int32 × Int32) ⊕ (Int32 × gMem)), bb_X7_passTides_4 Z M x0 x1 x2 x3 = some z → (Sum.elim (fun (q : gMem × Int32 × Int32) => gGo p l e rX7_passTides s m args below meth c D cy B H0 5 0 0 Q 4 [(0, vR (some x0)), (1, vI x1), (2, vI q.2.1), (3, vI q.2.2)] [] q.1) (fun (r : Int32 × gMem) => Q = gMQ below D cy B H0 args s 0 0 (some (vI r.1)) r.2)) z → gGo p l e rX7_passTides s m args below meth c D cy B H0 5 0 0 Q 4 [(0, vR (some x0)), (1, vI x1), (2, vI x2), (3, vI x3)] [] M := by
  intro M x0 x1 x2 x3 z hf hK
  unfold bb_X7_passTides_4 at hf
  refine g_iload_n X dX7_passTides_4 rfl rfl ?_
  refine g_iload_n X dX7_passTides_5 rfl rfl ?_
  refine g_icmp_ge (tgt := 141) X dX7_passTides_6 (by decide) (fun hc => ?_) (fun hc => ?_)
  · have hf := ife_t hc hf
    refine g_iload_n X dX7_passTides_141 rfl rfl ?_
    obtain ⟨w27, hw27, hz27⟩ := oI_e hf
    subst hz27
    have hf := hw27
    cases hf
    refine g_eqQ hK ?_
    exact g_iret X hr dX7_passTides_142
  · have hf := ife_f hc hf
    refine g_aload_n X dX7_passTides_9 rfl rfl ?_
    refine g_aload_n X dX7_passTides_10 rfl rfl ?_
    obtain ⟨hT29, hf⟩ := ck_e hf
    obtain ⟨r28, M28, hq28, hf⟩ := bd_e hf
    refine g_callV (ci := 6) (b := x0) (As := []) (st := [vR (some x0)]) (v := some (vI r28)) (M1 := M28) X (m_X7_drawLots l hq28) (cwV 0 X.2.2.1 gX7_passTides_X7_drawLots rfl rfl rfl (by decide +kernel) ⟨Nat.le_of_ble_eq_true rfl, Nat.le_of_ble_eq_true rfl⟩) rfl rfl rfl hT29 (by decide) rfl (Nat.le_of_ble_eq_true rfl) dX7_passTides_11 ⟨by decide, by decide⟩ ?_
    obtain ⟨hT30, hf⟩ := ck_e hf
    refine g_putI (ci := 6) 1 X cdX7 i_X7_passTides_X7 (by decide) k_X7_passTides_f9 rfl dX7_passTides_14 rfl hT30 (Or.inl rfl) rfl rfl rfl ?_
    obtain ⟨M31, hM31, hf⟩ := lw_e hf
    rw [← hM31]
    have hT32 : mT M31 x0 = 7 := by rw [hM31]; exact hT30
    refine g_aload_n X dX7_passTides_17 rfl rfl ?_
    obtain ⟨r33, M33, hq33, hf⟩ := bd_e hf
    refine g_callV (ci := 6) (b := x0) (As := []) (st := []) (v := none) (M1 := M33) X (m_X7_callBoatsHome l hq33) (cwV 0 X.2.2.1 gX7_passTides_X7_callBoatsHome rfl rfl rfl (by decide +kernel) ⟨Nat.le_of_ble_eq_true rfl, Nat.le_of_ble_eq_true rfl⟩) rfl rfl rfl hT32 (by decide) rfl (Nat.le_of_ble_eq_true rfl) dX7_passTides_18 ⟨by decide, by decide⟩ ?_
    refine g_iconst (v := (0 : Int32)) X dX7_passTides_21 (by decide) ?_
    refine g_istore (lv' := [(4, vI (0 : Int32)), (0, vR (some x0)), (1, vI x1), (2, vI x2), (3, vI x3)]) X dX7_passTides_22 (by decide) rfl ?_
    refine g_sub (lvsub_of _ _ [1, 2, 3, 4, 0] rfl) ?_
    exact tl_X7_passTides_24 X hr _ _ _ _ _ _ _ hf hK
set_option maxHeartbeats 4000000 in
set_option maxRecDepth 100000 in
theorem tl_X7_passTides_4 (X : gX p s m args meth c D cy B (gSt Z B H0) RX7 cX7_passTides wsX7_passTides 5) (hr : meth.sig.returnType = (some .int)) {Q : State → Prop} : ∀ (M : gMem) (x0 : Nat) (x1 : Int32) (x2 : Int32) (x3 : Int32) (z : Int32 × gMem), lp_X7_passTides_4 Z M x0 x1 x2 x3 = some z → (fun (r : Int32 × gMem) => Q = gMQ below D cy B H0 args s 0 0 (some (vI r.1)) r.2) z → gGo p l e rX7_passTides s m args below meth c D cy B H0 5 0 0 Q 4 [(0, vR (some x0)), (1, vI x1), (2, vI x2), (3, vI x3)] [] M := by
  intro M x0 x1 x2 x3 z hf hK
  refine lp_ind (P := (fun (q : gMem × Int32 × Int32) (z : Int32 × gMem) => (fun (r : Int32 × gMem) => Q = gMQ below D cy B H0 args s 0 0 (some (vI r.1)) r.2) z → gGo p l e rX7_passTides s m args below meth c D cy B H0 5 0 0 Q 4 [(0, vR (some x0)), (1, vI x1), (2, vI q.2.1), (3, vI q.2.2)] [] q.1)) (fun q z hq => ?_) _ _ hf hK
  intro hK
  obtain ⟨w, hw, hm⟩ := hq
  refine tb_X7_passTides_4 X hr _ _ _ _ _ w hw ?_
  cases w with
  | inl a => exact hm hK
  | inr b => cases hm; exact hK
set_option maxHeartbeats 4000000 in
set_option maxRecDepth 100000 in
theorem t_X7_passTides_0 (X : gX p s m args meth c D cy B (gSt Z B H0) RX7 cX7_passTides wsX7_passTides 5) (hr : meth.sig.returnType = (some .int)) {Q : State → Prop} : ∀ (M : gMem) (x0 : Nat) (x1 : Int32) (z : Int32 × gMem), b_X7_passTides_0 Z M x0 x1 = some z → (fun (r : Int32 × gMem) => Q = gMQ below D cy B H0 args s 0 0 (some (vI r.1)) r.2) z → gGo p l e rX7_passTides s m args below meth c D cy B H0 5 0 0 Q 0 [(0, vR (some x0)), (1, vI x1)] [] M := by
  intro M x0 x1 z hf hK
  unfold b_X7_passTides_0 at hf
  refine g_iconst (v := (0 : Int32)) X dX7_passTides_0 (by decide) ?_
  refine g_istore_n (lv' := [(2, vI (0 : Int32)), (0, vR (some x0)), (1, vI x1)]) X dX7_passTides_1 rfl (by decide) rfl ?_
  refine g_iconst (v := (0 : Int32)) X dX7_passTides_2 (by decide) ?_
  refine g_istore_n (lv' := [(3, vI (0 : Int32)), (2, vI (0 : Int32)), (0, vR (some x0)), (1, vI x1)]) X dX7_passTides_3 rfl (by decide) rfl ?_
  refine g_sub (lvsub_of _ _ [2, 3, 1, 0] rfl) ?_
  exact tl_X7_passTides_4 X hr _ _ _ _ _ _ hf hK
set_option maxHeartbeats 4000000 in
set_option maxRecDepth 100000 in
theorem m_X7_passTides (l : Launch) {D : va_G} {cy : Nat → ClassId} {B : Nat} {H0 : Heap} {Z : Nat → Nat} {M M1 : gMem} {x0 : Nat} {x1 : Int32} {r : Int32} (hf : f_X7_passTides Z M x0 x1 = some (r, M1)) : Met l yX7_passTides wsX7_passTides rX7_passTides (va_Pc (Value.ref x0 :: List.map gv [vI x1]) (gPre D cy B H0 (gSt Z B H0) M)) (gQ D cy B H0 (some (vI r)) M1) 0 0 (gA B) := by
  refine Met.ofW (cc := cX7_passTides) (maxL := 5) (ret := (some .int)) (by decide) rfl ?_
  intro p e s m args below meth c s₁ Bd hml hv
  obtain ⟨rfl, hW, hKK, hFs⟩ := hv
  have X : gX p s m _ meth c D cy B (gSt Z B H0) RX7 cX7_passTides wsX7_passTides 5 := ⟨Bd.exec, Bd.bytes, atoms_spec (ws := wsX7_passTides) Bd.pre, findClass_of_methodNamed Bd.named, hml, hKK, by rw [hW.1]; exact hW.2.1, Bd.notSynchronized, hFs⟩
  have hr := Bd.returns
  have hl := lv_entry ([.ref x0, .int x1]) (n := 5) (Nat.le_of_ble_eq_true rfl)
  show W p l e rX7_passTides s m _ below meth c s.heap [] 0 0 _ (entryFrame m ([.ref x0, .int x1] : List Value).toArray 5)
  rw [lg_entry_eq]
  generalize (lg_sl ([.ref x0, .int x1]) ++ List.replicate (5 - (lg_sl ([.ref x0, .int x1])).length) Slot.unset).toArray = ls at hl ⊢
  have hl : lv_has ls 5 (List.map gq [(0, vR (some x0)), (1, vI x1)]) := hl
  exact t_X7_passTides_0 X hr _ _ _ _ hf rfl s.heap [] ls hW va_S.rf (lv_has_sub hl (lvsub_of _ _ [0, 1] rfl))
end
