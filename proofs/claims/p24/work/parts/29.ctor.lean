section
variable {p : Program} {l : Launch} {e : Env} {s : State} {m : MethodId} {args : Array Value} {below : List Frame} {meth : Method} {c : Code} {D : va_G} {cy : Nat → ClassId} {B : Nat} {H0 : Heap} {Z : Nat → Nat}
/-! ## TideLots$Shore.<init>()V -/
theorem dX7_init_0 : decode cX7_init 0 = .ok (.aload_n 0, 1) := by decide +kernel
theorem dX7_init_1 : decode cX7_init 1 = .ok (.invokespecial 3, 3) := by decide +kernel
theorem dX7_init_4 : decode cX7_init 4 = .ok (.aload_n 0, 1) := by decide +kernel
theorem dX7_init_5 : decode cX7_init 5 = .ok (.iconst 1, 1) := by decide +kernel
theorem dX7_init_6 : decode cX7_init 6 = .ok (.putfield 9, 3) := by decide +kernel
theorem dX7_init_9 : decode cX7_init 9 = .ok (.aload_n 0, 1) := by decide +kernel
theorem dX7_init_10 : decode cX7_init 10 = .ok (.bipush 8, 2) := by decide +kernel
theorem dX7_init_12 : decode cX7_init 12 = .ok (.anewarray 15, 3) := by decide +kernel
theorem dX7_init_15 : decode cX7_init 15 = .ok (.putfield 17, 3) := by decide +kernel
theorem dX7_init_18 : decode cX7_init 18 = .ok (.aload_n 0, 1) := by decide +kernel
theorem dX7_init_19 : decode cX7_init 19 = .ok (.bipush 8, 2) := by decide +kernel
theorem dX7_init_21 : decode cX7_init 21 = .ok (.anewarray 21, 3) := by decide +kernel
theorem dX7_init_24 : decode cX7_init 24 = .ok (.putfield 23, 3) := by decide +kernel
theorem dX7_init_27 : decode cX7_init 27 = .ok (.aload_n 0, 1) := by decide +kernel
theorem dX7_init_28 : decode cX7_init 28 = .ok (.bipush 24, 2) := by decide +kernel
theorem dX7_init_30 : decode cX7_init 30 = .ok (.anewarray 27, 3) := by decide +kernel
theorem dX7_init_33 : decode cX7_init 33 = .ok (.putfield 29, 3) := by decide +kernel
theorem dX7_init_36 : decode cX7_init 36 = .ok (.aload_n 0, 1) := by decide +kernel
theorem dX7_init_37 : decode cX7_init 37 = .ok (.bipush 6, 2) := by decide +kernel
theorem dX7_init_39 : decode cX7_init 39 = .ok (.anewarray 33, 3) := by decide +kernel
theorem dX7_init_42 : decode cX7_init 42 = .ok (.putfield 35, 3) := by decide +kernel
theorem dX7_init_45 : decode cX7_init 45 = .ok (.aload_n 0, 1) := by decide +kernel
theorem dX7_init_46 : decode cX7_init 46 = .ok (.new 39, 3) := by decide +kernel
theorem dX7_init_49 : decode cX7_init 49 = .ok (.dup, 1) := by decide +kernel
theorem dX7_init_50 : decode cX7_init 50 = .ok (.invokespecial 41, 3) := by decide +kernel
theorem dX7_init_53 : decode cX7_init 53 = .ok (.putfield 42, 3) := by decide +kernel
theorem dX7_init_56 : decode cX7_init 56 = .ok (.aload_n 0, 1) := by decide +kernel
theorem dX7_init_57 : decode cX7_init 57 = .ok (.bipush 8, 2) := by decide +kernel
theorem dX7_init_59 : decode cX7_init 59 = .ok (.newarray .int, 2) := by decide +kernel
theorem dX7_init_61 : decode cX7_init 61 = .ok (.putfield 46, 3) := by decide +kernel
theorem dX7_init_64 : decode cX7_init 64 = .ok (.aload_n 0, 1) := by decide +kernel
theorem dX7_init_65 : decode cX7_init 65 = .ok (.bipush 8, 2) := by decide +kernel
theorem dX7_init_67 : decode cX7_init 67 = .ok (.newarray .int, 2) := by decide +kernel
theorem dX7_init_69 : decode cX7_init 69 = .ok (.putfield 50, 3) := by decide +kernel
theorem dX7_init_72 : decode cX7_init 72 = .ok (.aload_n 0, 1) := by decide +kernel
theorem dX7_init_73 : decode cX7_init 73 = .ok (.bipush 6, 2) := by decide +kernel
theorem dX7_init_75 : decode cX7_init 75 = .ok (.newarray .int, 2) := by decide +kernel
theorem dX7_init_77 : decode cX7_init 77 = .ok (.putfield 53, 3) := by decide +kernel
theorem dX7_init_80 : decode cX7_init 80 = .ok (.aload_n 0, 1) := by decide +kernel
theorem dX7_init_81 : decode cX7_init 81 = .ok (.new 15, 3) := by decide +kernel
theorem dX7_init_84 : decode cX7_init 84 = .ok (.dup, 1) := by decide +kernel
theorem dX7_init_85 : decode cX7_init 85 = .ok (.invokespecial 56, 3) := by decide +kernel
theorem dX7_init_88 : decode cX7_init 88 = .ok (.putfield 57, 3) := by decide +kernel
theorem dX7_init_91 : decode cX7_init 91 = .ok (.aload_n 0, 1) := by decide +kernel
theorem dX7_init_92 : decode cX7_init 92 = .ok (.new 21, 3) := by decide +kernel
theorem dX7_init_95 : decode cX7_init 95 = .ok (.dup, 1) := by decide +kernel
theorem dX7_init_96 : decode cX7_init 96 = .ok (.invokespecial 61, 3) := by decide +kernel
theorem dX7_init_99 : decode cX7_init 99 = .ok (.putfield 62, 3) := by decide +kernel
theorem dX7_init_102 : decode cX7_init 102 = .ok (.aload_n 0, 1) := by decide +kernel
theorem dX7_init_103 : decode cX7_init 103 = .ok (.new 33, 3) := by decide +kernel
theorem dX7_init_106 : decode cX7_init 106 = .ok (.dup, 1) := by decide +kernel
theorem dX7_init_107 : decode cX7_init 107 = .ok (.invokespecial 66, 3) := by decide +kernel
theorem dX7_init_110 : decode cX7_init 110 = .ok (.putfield 67, 3) := by decide +kernel
theorem dX7_init_113 : decode cX7_init 113 = .ok (.iconst 0, 1) := by decide +kernel
theorem dX7_init_114 : decode cX7_init 114 = .ok (.istore_n 1, 1) := by decide +kernel
theorem dX7_init_115 : decode cX7_init 115 = .ok (.iload_n 1, 1) := by decide +kernel
theorem dX7_init_116 : decode cX7_init 116 = .ok (.bipush 8, 2) := by decide +kernel
theorem dX7_init_118 : decode cX7_init 118 = .ok (.if_icmp .ge 22, 3) := by decide +kernel
theorem dX7_init_121 : decode cX7_init 121 = .ok (.aload_n 0, 1) := by decide +kernel
theorem dX7_init_122 : decode cX7_init 122 = .ok (.getfield 17, 3) := by decide +kernel
theorem dX7_init_125 : decode cX7_init 125 = .ok (.iload_n 1, 1) := by decide +kernel
theorem dX7_init_126 : decode cX7_init 126 = .ok (.new 15, 3) := by decide +kernel
theorem dX7_init_129 : decode cX7_init 129 = .ok (.dup, 1) := by decide +kernel
theorem dX7_init_130 : decode cX7_init 130 = .ok (.invokespecial 56, 3) := by decide +kernel
theorem dX7_init_133 : decode cX7_init 133 = .ok (.aastore, 1) := by decide +kernel
theorem dX7_init_134 : decode cX7_init 134 = .ok (.iinc 1 1, 3) := by decide +kernel
theorem dX7_init_137 : decode cX7_init 137 = .ok (.goto (-22), 3) := by decide +kernel
theorem dX7_init_140 : decode cX7_init 140 = .ok (.iconst 0, 1) := by decide +kernel
theorem dX7_init_141 : decode cX7_init 141 = .ok (.istore_n 1, 1) := by decide +kernel
theorem dX7_init_142 : decode cX7_init 142 = .ok (.iload_n 1, 1) := by decide +kernel
theorem dX7_init_143 : decode cX7_init 143 = .ok (.bipush 8, 2) := by decide +kernel
theorem dX7_init_145 : decode cX7_init 145 = .ok (.if_icmp .ge 22, 3) := by decide +kernel
theorem dX7_init_148 : decode cX7_init 148 = .ok (.aload_n 0, 1) := by decide +kernel
theorem dX7_init_149 : decode cX7_init 149 = .ok (.getfield 23, 3) := by decide +kernel
theorem dX7_init_152 : decode cX7_init 152 = .ok (.iload_n 1, 1) := by decide +kernel
theorem dX7_init_153 : decode cX7_init 153 = .ok (.new 21, 3) := by decide +kernel
theorem dX7_init_156 : decode cX7_init 156 = .ok (.dup, 1) := by decide +kernel
theorem dX7_init_157 : decode cX7_init 157 = .ok (.invokespecial 61, 3) := by decide +kernel
theorem dX7_init_160 : decode cX7_init 160 = .ok (.aastore, 1) := by decide +kernel
theorem dX7_init_161 : decode cX7_init 161 = .ok (.iinc 1 1, 3) := by decide +kernel
theorem dX7_init_164 : decode cX7_init 164 = .ok (.goto (-22), 3) := by decide +kernel
theorem dX7_init_167 : decode cX7_init 167 = .ok (.iconst 0, 1) := by decide +kernel
theorem dX7_init_168 : decode cX7_init 168 = .ok (.istore_n 1, 1) := by decide +kernel
theorem dX7_init_169 : decode cX7_init 169 = .ok (.iload_n 1, 1) := by decide +kernel
theorem dX7_init_170 : decode cX7_init 170 = .ok (.bipush 24, 2) := by decide +kernel
theorem dX7_init_172 : decode cX7_init 172 = .ok (.if_icmp .ge 22, 3) := by decide +kernel
theorem dX7_init_175 : decode cX7_init 175 = .ok (.aload_n 0, 1) := by decide +kernel
theorem dX7_init_176 : decode cX7_init 176 = .ok (.getfield 29, 3) := by decide +kernel
theorem dX7_init_179 : decode cX7_init 179 = .ok (.iload_n 1, 1) := by decide +kernel
theorem dX7_init_180 : decode cX7_init 180 = .ok (.new 27, 3) := by decide +kernel
theorem dX7_init_183 : decode cX7_init 183 = .ok (.dup, 1) := by decide +kernel
theorem dX7_init_184 : decode cX7_init 184 = .ok (.invokespecial 71, 3) := by decide +kernel
theorem dX7_init_187 : decode cX7_init 187 = .ok (.aastore, 1) := by decide +kernel
theorem dX7_init_188 : decode cX7_init 188 = .ok (.iinc 1 1, 3) := by decide +kernel
theorem dX7_init_191 : decode cX7_init 191 = .ok (.goto (-22), 3) := by decide +kernel
theorem dX7_init_194 : decode cX7_init 194 = .ok (.iconst 0, 1) := by decide +kernel
theorem dX7_init_195 : decode cX7_init 195 = .ok (.istore_n 1, 1) := by decide +kernel
theorem dX7_init_196 : decode cX7_init 196 = .ok (.iload_n 1, 1) := by decide +kernel
theorem dX7_init_197 : decode cX7_init 197 = .ok (.bipush 6, 2) := by decide +kernel
theorem dX7_init_199 : decode cX7_init 199 = .ok (.if_icmp .ge 22, 3) := by decide +kernel
theorem dX7_init_202 : decode cX7_init 202 = .ok (.aload_n 0, 1) := by decide +kernel
theorem dX7_init_203 : decode cX7_init 203 = .ok (.getfield 35, 3) := by decide +kernel
theorem dX7_init_206 : decode cX7_init 206 = .ok (.iload_n 1, 1) := by decide +kernel
theorem dX7_init_207 : decode cX7_init 207 = .ok (.new 33, 3) := by decide +kernel
theorem dX7_init_210 : decode cX7_init 210 = .ok (.dup, 1) := by decide +kernel
theorem dX7_init_211 : decode cX7_init 211 = .ok (.invokespecial 66, 3) := by decide +kernel
theorem dX7_init_214 : decode cX7_init 214 = .ok (.aastore, 1) := by decide +kernel
theorem dX7_init_215 : decode cX7_init 215 = .ok (.iinc 1 1, 3) := by decide +kernel
theorem dX7_init_218 : decode cX7_init 218 = .ok (.goto (-22), 3) := by decide +kernel
theorem dX7_init_221 : decode cX7_init 221 = .ok (.return_, 1) := by decide +kernel
set_option maxRecDepth 20000 in
theorem ggX7_init_X5_init : GoodIn wsX7_init wsX5_init := goodIn_r _ [51, 52, 2, 3, 53, 17, 54, 94, 95, 96, 97, 98, 99, 100, 101] (by decide +kernel) (by decide +kernel)
set_option maxRecDepth 20000 in
theorem gX7_init_X5_init_n66 : GoodIn wsX7_init (wsX5_init) := ggX7_init_X5_init
set_option maxRecDepth 20000 in
theorem ggX7_init_X2_init : GoodIn wsX7_init wsX2_init := goodIn_r _ [56, 57, 2, 3] (by decide +kernel) (by decide +kernel)
set_option maxRecDepth 20000 in
theorem gX7_init_X2_init_n71 : GoodIn wsX7_init (wsX2_init) := ggX7_init_X2_init
set_option maxRecDepth 20000 in
theorem ggX7_init_X1_init : GoodIn wsX7_init wsX1_init := goodIn_r _ [46, 47, 2, 3, 48, 17, 49, 83, 84, 85, 86, 87, 88, 89, 90, 91, 92, 93] (by decide +kernel) (by decide +kernel)
set_option maxRecDepth 20000 in
theorem gX7_init_X1_init_n61 : GoodIn wsX7_init (wsX1_init) := ggX7_init_X1_init
set_option maxRecDepth 20000 in
theorem ggX7_init_X3_init : GoodIn wsX7_init wsX3_init := goodIn_r _ [42, 43, 2, 3, 17, 44, 79, 80, 81, 82] (by decide +kernel) (by decide +kernel)
set_option maxRecDepth 20000 in
theorem gX7_init_X3_init_n56 : GoodIn wsX7_init (wsX3_init) := ggX7_init_X3_init
set_option maxRecDepth 20000 in
theorem ggX7_init_X9_init : GoodIn wsX7_init wsX9_init := goodIn_r _ [34, 35, 2, 3, 36, 37, 17, 38, 39, 40, 75, 76, 77, 78] (by decide +kernel) (by decide +kernel)
set_option maxRecDepth 20000 in
theorem gX7_init_X9_init : GoodIn wsX7_init (wsX9_init) := ggX7_init_X9_init
theorem k_X7_init_f35 : Cond.fieldLink RX7 35 "TideLots$Shore" "pacts" "[LTideLots$Pact;" ∈ wsX7_init := by decide +kernel
theorem i_X7_init_X7 : ∀ w ∈ u_ws RX7 TX7 17, w ∈ wsX7_init := by decide +kernel
theorem i_X7_init_X5 : ∀ w ∈ u_ws RX5 TX5 8, w ∈ wsX7_init := by decide +kernel
theorem k_X7_init_cl33 : Cond.classLink RX7 33 RX5 ∈ wsX7_init := by decide +kernel
theorem k_X7_init_inX5 : Cond.instantiable RX5 8 ∈ wsX7_init := by decide +kernel
theorem k_X7_init_iiX5 : Cond.initialized RX5 ∈ wsX7_init := by decide +kernel
theorem kn_X7_66 : Cond.methodLinkNest "TideLots$Shore" (66 : Nat) ({ cls := "TideLots$Pact", name := "<init>", desc := "()V" } : MethodName) "TideLots" ∈ gNs := by decide +kernel
theorem k_X7_init_imX5_init : Cond.instanceMethod yX5_init ∈ wsX7_init := by decide +kernel
theorem k_X7_init_f29 : Cond.fieldLink RX7 29 "TideLots$Shore" "goes" "[LTideLots$Go;" ∈ wsX7_init := by decide +kernel
theorem i_X7_init_X2 : ∀ w ∈ u_ws RX2 TX2 4, w ∈ wsX7_init := by decide +kernel
theorem k_X7_init_cl27 : Cond.classLink RX7 27 RX2 ∈ wsX7_init := by decide +kernel
theorem k_X7_init_inX2 : Cond.instantiable RX2 4 ∈ wsX7_init := by decide +kernel
theorem k_X7_init_iiX2 : Cond.initialized RX2 ∈ wsX7_init := by decide +kernel
theorem kn_X7_71 : Cond.methodLinkNest "TideLots$Shore" (71 : Nat) ({ cls := "TideLots$Go", name := "<init>", desc := "()V" } : MethodName) "TideLots" ∈ gNs := by decide +kernel
theorem k_X7_init_imX2_init : Cond.instanceMethod yX2_init ∈ wsX7_init := by decide +kernel
theorem k_X7_init_f23 : Cond.fieldLink RX7 23 "TideLots$Shore" "fishers" "[LTideLots$Fisher;" ∈ wsX7_init := by decide +kernel
theorem i_X7_init_X1 : ∀ w ∈ u_ws RX1 TX1 11, w ∈ wsX7_init := by decide +kernel
theorem k_X7_init_cl21 : Cond.classLink RX7 21 RX1 ∈ wsX7_init := by decide +kernel
theorem k_X7_init_inX1 : Cond.instantiable RX1 11 ∈ wsX7_init := by decide +kernel
theorem k_X7_init_iiX1 : Cond.initialized RX1 ∈ wsX7_init := by decide +kernel
theorem kn_X7_61 : Cond.methodLinkNest "TideLots$Shore" (61 : Nat) ({ cls := "TideLots$Fisher", name := "<init>", desc := "()V" } : MethodName) "TideLots" ∈ gNs := by decide +kernel
theorem k_X7_init_imX1_init : Cond.instanceMethod yX1_init ∈ wsX7_init := by decide +kernel
theorem k_X7_init_f17 : Cond.fieldLink RX7 17 "TideLots$Shore" "grounds" "[LTideLots$Ground;" ∈ wsX7_init := by decide +kernel
theorem i_X7_init_X3 : ∀ w ∈ u_ws RX3 TX3 4, w ∈ wsX7_init := by decide +kernel
theorem k_X7_init_cl15 : Cond.classLink RX7 15 RX3 ∈ wsX7_init := by decide +kernel
theorem k_X7_init_inX3 : Cond.instantiable RX3 4 ∈ wsX7_init := by decide +kernel
theorem k_X7_init_iiX3 : Cond.initialized RX3 ∈ wsX7_init := by decide +kernel
theorem kn_X7_56 : Cond.methodLinkNest "TideLots$Shore" (56 : Nat) ({ cls := "TideLots$Ground", name := "<init>", desc := "()V" } : MethodName) "TideLots" ∈ gNs := by decide +kernel
theorem k_X7_init_imX3_init : Cond.instanceMethod yX3_init ∈ wsX7_init := by decide +kernel
theorem k_X7_init_oi1 : Cond.methodLink RX7 3 objectInit ∈ wsX7_init := by decide +kernel
theorem k_X7_init_oi2 : Cond.instanceMethod objectInit ∈ wsX7_init := by decide +kernel
theorem k_X7_init_oi3 : Cond.code objectInit ⟨#[0xb1]⟩ 1 none ∈ wsX7_init := by decide +kernel
theorem k_X7_init_f9 : Cond.fieldLink RX7 9 "TideLots$Shore" "luck" "I" ∈ wsX7_init := by decide +kernel
theorem i_X7_init_X9 : ∀ w ∈ u_ws RX9 TX9 4, w ∈ wsX7_init := by decide +kernel
theorem k_X7_init_cl39 : Cond.classLink RX7 39 RX9 ∈ wsX7_init := by decide +kernel
theorem k_X7_init_inX9 : Cond.instantiable RX9 4 ∈ wsX7_init := by decide +kernel
theorem k_X7_init_iiX9 : Cond.initialized RX9 ∈ wsX7_init := by decide +kernel
theorem k_X7_init_ml41 : Cond.methodLink RX7 41 yX9_init ∈ wsX7_init := by decide +kernel
theorem k_X7_init_imX9_init : Cond.instanceMethod yX9_init ∈ wsX7_init := by decide +kernel
theorem k_X7_init_f42 : Cond.fieldLink RX7 42 "TideLots$Shore" "sums" "LTideLots$Sums;" ∈ wsX7_init := by decide +kernel
theorem k_X7_init_acint : Cond.arrayClass .int ∈ wsX7_init := by decide +kernel
theorem k_X7_init_f46 : Cond.fieldLink RX7 46 "TideLots$Shore" "lots" "[I" ∈ wsX7_init := by decide +kernel
theorem k_X7_init_f50 : Cond.fieldLink RX7 50 "TideLots$Shore" "row" "[I" ∈ wsX7_init := by decide +kernel
theorem k_X7_init_f53 : Cond.fieldLink RX7 53 "TideLots$Shore" "haul" "[I" ∈ wsX7_init := by decide +kernel
theorem k_X7_init_f57 : Cond.fieldLink RX7 57 "TideLots$Shore" "newGround" "LTideLots$Ground;" ∈ wsX7_init := by decide +kernel
theorem k_X7_init_f62 : Cond.fieldLink RX7 62 "TideLots$Shore" "newFisher" "LTideLots$Fisher;" ∈ wsX7_init := by decide +kernel
theorem k_X7_init_f67 : Cond.fieldLink RX7 67 "TideLots$Shore" "newPact" "LTideLots$Pact;" ∈ wsX7_init := by decide +kernel
abbrev rX7_init : Room := { frames := 2, cells := 90, slots := 36000, locals := 33 }
noncomputable def bb_X7_init_196 (N0 : Nat) (Z : Nat → Nat) (M : gMem) (x0 : Nat) (x1 : Int32) : Option ((gMem × Int32) ⊕ (Unit × gMem)) :=
  (if (6 : Int32) ≤ x1 then ck (mN M ≤ N0 + 90) <| oI (some ((), M)) else ck (mT M x0 = 7) <| ck (mN M + 1 ≤ N0 + 90) <| lw (nW M 5 0) fun M5 => ck (mN M5 + 1 ≤ N0 + 90) <| bd (f_X5_init M5 ((mN M))) fun _ M6 => ck (mN M6 = mN M5 + 1) <| dr ((mR M x0 9)) fun a9 => ck (mT M6 a9 = 26) <| ck (inb x1 (mL M6 a9)) <| ck (mT M6 (mN M) = 5) <| lw (wR M6 a9 x1.toNatClampNeg ((some (mN M)))) fun M13 => some (.inl (M13, (x1 + (1 : Int32)))))
noncomputable def lp_X7_init_196 (N0 : Nat) (Z : Nat → Nat) (M : gMem) (x0 : Nat) (x1 : Int32) : Option (Unit × gMem) :=
  lp (fun (q : gMem × Int32) => bb_X7_init_196 N0 Z q.1 x0 q.2) (M, x1)
noncomputable def bb_X7_init_169 (N0 : Nat) (Z : Nat → Nat) (M : gMem) (x0 : Nat) (x1 : Int32) : Option ((gMem × Int32) ⊕ (Unit × gMem)) :=
  (if (24 : Int32) ≤ x1 then oI (lp_X7_init_196 N0 Z M x0 ((0 : Int32))) else ck (mT M x0 = 7) <| ck (mN M + 1 ≤ N0 + 90) <| lw (nW M 2 0) fun M19 => ck (mN M19 + 0 ≤ N0 + 90) <| bd (f_X2_init M19 ((mN M))) fun _ M20 => ck (mN M20 = mN M19 + 0) <| dr ((mR M x0 8)) fun a23 => ck (mT M20 a23 = 25) <| ck (inb x1 (mL M20 a23)) <| ck (mT M20 (mN M) = 2) <| lw (wR M20 a23 x1.toNatClampNeg ((some (mN M)))) fun M27 => some (.inl (M27, (x1 + (1 : Int32)))))
noncomputable def lp_X7_init_169 (N0 : Nat) (Z : Nat → Nat) (M : gMem) (x0 : Nat) (x1 : Int32) : Option (Unit × gMem) :=
  lp (fun (q : gMem × Int32) => bb_X7_init_169 N0 Z q.1 x0 q.2) (M, x1)
noncomputable def bb_X7_init_142 (N0 : Nat) (Z : Nat → Nat) (M : gMem) (x0 : Nat) (x1 : Int32) : Option ((gMem × Int32) ⊕ (Unit × gMem)) :=
  (if (8 : Int32) ≤ x1 then oI (lp_X7_init_169 N0 Z M x0 ((0 : Int32))) else ck (mT M x0 = 7) <| ck (mN M + 1 ≤ N0 + 90) <| lw (nW M 1 0) fun M33 => ck (mN M33 + 1 ≤ N0 + 90) <| bd (f_X1_init M33 ((mN M))) fun _ M34 => ck (mN M34 = mN M33 + 1) <| dr ((mR M x0 7)) fun a37 => ck (mT M34 a37 = 24) <| ck (inb x1 (mL M34 a37)) <| ck (mT M34 (mN M) = 1) <| lw (wR M34 a37 x1.toNatClampNeg ((some (mN M)))) fun M41 => some (.inl (M41, (x1 + (1 : Int32)))))
noncomputable def lp_X7_init_142 (N0 : Nat) (Z : Nat → Nat) (M : gMem) (x0 : Nat) (x1 : Int32) : Option (Unit × gMem) :=
  lp (fun (q : gMem × Int32) => bb_X7_init_142 N0 Z q.1 x0 q.2) (M, x1)
noncomputable def bb_X7_init_115 (N0 : Nat) (Z : Nat → Nat) (M : gMem) (x0 : Nat) (x1 : Int32) : Option ((gMem × Int32) ⊕ (Unit × gMem)) :=
  (if (8 : Int32) ≤ x1 then oI (lp_X7_init_142 N0 Z M x0 ((0 : Int32))) else ck (mT M x0 = 7) <| ck (mN M + 1 ≤ N0 + 90) <| lw (nW M 3 0) fun M47 => ck (mN M47 + 1 ≤ N0 + 90) <| bd (f_X3_init M47 ((mN M))) fun _ M48 => ck (mN M48 = mN M47 + 1) <| dr ((mR M x0 6)) fun a51 => ck (mT M48 a51 = 23) <| ck (inb x1 (mL M48 a51)) <| ck (mT M48 (mN M) = 3) <| lw (wR M48 a51 x1.toNatClampNeg ((some (mN M)))) fun M55 => some (.inl (M55, (x1 + (1 : Int32)))))
noncomputable def lp_X7_init_115 (N0 : Nat) (Z : Nat → Nat) (M : gMem) (x0 : Nat) (x1 : Int32) : Option (Unit × gMem) :=
  lp (fun (q : gMem × Int32) => bb_X7_init_115 N0 Z q.1 x0 q.2) (M, x1)
noncomputable def b_X7_init_0 (N0 : Nat) (Z : Nat → Nat) (M : gMem) (x0 : Nat) : Option (Unit × gMem) :=
  ck (mT M x0 = 7) <| lw (wI M x0 1 ((1 : Int32))) fun M59 => ck (mN M59 + 1 ≤ N0 + 90) <| lw (nW M59 23 ((8 : Int32)).toNatClampNeg) fun M62 => ck (mT M62 x0 = 7) <| lw (wR M62 x0 6 ((some (mN M59)))) fun M64 => ck (mN M64 + 1 ≤ N0 + 90) <| lw (nW M64 24 ((8 : Int32)).toNatClampNeg) fun M67 => ck (mT M67 x0 = 7) <| lw (wR M67 x0 7 ((some (mN M64)))) fun M69 => ck (mN M69 + 1 ≤ N0 + 90) <| lw (nW M69 25 ((24 : Int32)).toNatClampNeg) fun M72 => ck (mT M72 x0 = 7) <| lw (wR M72 x0 8 ((some (mN M69)))) fun M74 => ck (mN M74 + 1 ≤ N0 + 90) <| lw (nW M74 26 ((6 : Int32)).toNatClampNeg) fun M77 => ck (mT M77 x0 = 7) <| lw (wR M77 x0 9 ((some (mN M74)))) fun M79 => ck (mN M79 + 1 ≤ N0 + 90) <| lw (nW M79 8 0) fun M82 => ck (mN M82 + 3 ≤ N0 + 90) <| bd (f_X9_init Z M82 ((mN M79))) fun _ M83 => ck (mN M83 = mN M82 + 3) <| ck (mT M83 x0 = 7) <| lw (wR M83 x0 10 ((some (mN M79)))) fun M87 => ck (mN M87 + 1 ≤ N0 + 90) <| lw (nW M87 20 ((8 : Int32)).toNatClampNeg) fun M90 => ck (mT M90 x0 = 7) <| lw (wR M90 x0 11 ((some (mN M87)))) fun M92 => ck (mN M92 + 1 ≤ N0 + 90) <| lw (nW M92 20 ((8 : Int32)).toNatClampNeg) fun M95 => ck (mT M95 x0 = 7) <| lw (wR M95 x0 12 ((some (mN M92)))) fun M97 => ck (mN M97 + 1 ≤ N0 + 90) <| lw (nW M97 20 ((6 : Int32)).toNatClampNeg) fun M100 => ck (mT M100 x0 = 7) <| lw (wR M100 x0 13 ((some (mN M97)))) fun M102 => ck (mN M102 + 1 ≤ N0 + 90) <| lw (nW M102 3 0) fun M105 => ck (mN M105 + 1 ≤ N0 + 90) <| bd (f_X3_init M105 ((mN M102))) fun _ M106 => ck (mN M106 = mN M105 + 1) <| ck (mT M106 x0 = 7) <| lw (wR M106 x0 14 ((some (mN M102)))) fun M110 => ck (mN M110 + 1 ≤ N0 + 90) <| lw (nW M110 1 0) fun M113 => ck (mN M113 + 1 ≤ N0 + 90) <| bd (f_X1_init M113 ((mN M110))) fun _ M114 => ck (mN M114 = mN M113 + 1) <| ck (mT M114 x0 = 7) <| lw (wR M114 x0 15 ((some (mN M110)))) fun M118 => ck (mN M118 + 1 ≤ N0 + 90) <| lw (nW M118 5 0) fun M121 => ck (mN M121 + 1 ≤ N0 + 90) <| bd (f_X5_init M121 ((mN M118))) fun _ M122 => ck (mN M122 = mN M121 + 1) <| ck (mT M122 x0 = 7) <| lw (wR M122 x0 16 ((some (mN M118)))) fun M126 => lp_X7_init_115 N0 Z M126 x0 ((0 : Int32))
noncomputable def f_X7_init (Z : Nat → Nat) (M : gMem) (x0 : Nat) : Option (Unit × gMem) :=
  b_X7_init_0 (mN M) Z M x0
set_option maxHeartbeats 4000000 in
set_option maxRecDepth 100000 in
theorem tb_X7_init_196 (X2 : gX p s m args meth c D cy B (gSt2 Z B H0) RX7 cX7_init wsX7_init 2) (hr : meth.sig.returnType = none) (hin : meth.name = "<init>") {N0 : Nat} {Q : State → Prop} : ∀ (M : gMem) (x0 : Nat) (x1 : Int32) (z : (gMem × Int32) ⊕ (Unit × gMem)), bb_X7_init_196 N0 Z M x0 x1 = some z → (Sum.elim (fun (q : gMem × Int32) => N0 ≤ mN q.1 → gGo p l e rX7_init s m args below meth c D cy B H0 2 (mN q.1 - N0) (400 * (mN q.1 - N0)) Q 196 [(0, vR (some x0)), (1, vI q.2)] [] q.1) (fun (r : Unit × gMem) => Q = gMQ below D cy B H0 args s 90 36000 none r.2)) z → N0 ≤ mN M → gGo p l e rX7_init s m args below meth c D cy B H0 2 (mN M - N0) (400 * (mN M - N0)) Q 196 [(0, vR (some x0)), (1, vI x1)] [] M := by
  intro M x0 x1 z hf hK hN0
  unfold bb_X7_init_196 at hf
  have X := gX_w X2
  refine g_iload_n X dX7_init_196 rfl rfl ?_
  refine g_bipush (v := (6 : Int32)) X dX7_init_197 (by decide) ?_
  refine g_icmp_ge (tgt := 221) X dX7_init_199 (by decide) (fun hc => ?_) (fun hc => ?_)
  · have hf := ife_t hc hf
    obtain ⟨hg1, hf⟩ := ck_e hf
    obtain ⟨w2, hw2, hz2⟩ := oI_e hf
    subst hz2
    have hf := hw2
    cases hf
    refine g_eqQ hK ?_
    refine g_wide (k' := 90) (n' := 36000) (by omega) (by omega) ?_
    exact g_vret X hr dX7_init_221
  · have hf := ife_f hc hf
    refine g_aload_n X dX7_init_202 rfl rfl ?_
    obtain ⟨hT3, hf⟩ := ck_e hf
    refine g_get (ci := 6) (v := vR (mR M x0 9)) 9 X cdX7 i_X7_init_X7 (by decide) k_X7_init_f35 rfl dX7_init_203 rfl hT3 rfl ?_
    refine g_iload_n X dX7_init_206 rfl rfl ?_
    obtain ⟨hg4, hf⟩ := ck_e hf
    refine g_new (ci := 4) X cdX5 i_X7_init_X5 k_X7_init_cl33 k_X7_init_inX5 k_X7_init_iiX5 (by intro i hi; rcases (show i = 0 ∨ i = 1 ∨ i = 2 ∨ i = 3 ∨ i = 4 ∨ i = 5 ∨ i = 6 ∨ i = 7 by omega) with rfl | rfl | rfl | rfl | rfl | rfl | rfl | rfl <;> rfl) ⟨by show _ ≤ 90; omega, by show _ ≤ 36000; omega⟩ dX7_init_207 ?_
    obtain ⟨M5, hM5, hf⟩ := lw_e hf
    rw [← hM5]
    have hQ5 : mN M5 = mN M + 1 := by rw [hM5]; rfl
    have hN5 : N0 ≤ mN M5 := by omega
    refine g_wide (k' := mN M5 - N0) (n' := 400 * (mN M5 - N0)) (by omega) (by omega) ?_
    refine g_dup X dX7_init_210 rfl ?_
    obtain ⟨hg7, hf⟩ := ck_e hf
    obtain ⟨r6, M6, hq6, hf⟩ := bd_e hf
    obtain ⟨hg8, hf⟩ := ck_e hf
    refine g_callIN (b := (mN M)) (As := []) (st := [vR (some (mN M)), vI x1, vR (mR M x0 9)]) (M1 := M6) X (m_X5_init l hq6) ⟨va_cnB 0 X.2.2.1 gX7_init_X5_init_n66 rfl rfl rfl (gNw X _ kn_X7_66) (X.2.2.1 _ k_X7_init_iiX5) (by decide +kernel) ⟨Nat.le_of_ble_eq_true rfl, Nat.le_of_ble_eq_true rfl⟩, rfl, X.2.2.1 _ k_X7_init_imX5_init⟩ rfl rfl rfl (Nat.le_of_ble_eq_true rfl) dX7_init_211 ⟨by show _ ≤ 90; omega, by show _ ≤ 36000; omega⟩ ?_
    have hN6 : N0 ≤ mN M6 := by omega
    refine g_wide (k' := mN M6 - N0) (n' := 400 * (mN M6 - N0)) (by omega) (by omega) ?_
    obtain ⟨a9, ha9, hf⟩ := dr_e hf
    obtain ⟨hT10, hf⟩ := ck_e hf
    obtain ⟨hg11, hf⟩ := ck_e hf
    obtain ⟨hT12, hf⟩ := ck_e hf
    refine g_aast (t0 := 6) (ci := 4) X dX7_init_214 ha9 hT10 (by decide) rfl hg11 rfl hT12 (by decide) rfl ?_
    obtain ⟨M13, hM13, hf⟩ := lw_e hf
    rw [← hM13]
    have hQ13 : mN M13 = mN M6 := by rw [hM13]; rfl
    have hN13 : N0 ≤ mN M13 := by omega
    refine g_wide (k' := mN M13 - N0) (n' := 400 * (mN M13 - N0)) (by omega) (by omega) ?_
    have hT14 : mT M13 a9 = 26 := by rw [hM13]; exact hT10
    have hT15 : mT M13 (mN M) = 5 := by rw [hM13]; exact hT12
    refine g_iinc (v := (1 : Int32)) (lv' := [(1, vI (x1 + (1 : Int32))), (0, vR (some x0))]) X dX7_init_215 rfl (by decide) (by decide) rfl ?_
    refine g_goto (tgt := 196) X dX7_init_218 (by decide) ?_
    cases hf
    refine g_sub (lvsub_of _ _ [1, 0] rfl) ?_
    exact hK hN13
set_option maxHeartbeats 4000000 in
set_option maxRecDepth 100000 in
theorem tl_X7_init_196 (X2 : gX p s m args meth c D cy B (gSt2 Z B H0) RX7 cX7_init wsX7_init 2) (hr : meth.sig.returnType = none) (hin : meth.name = "<init>") {N0 : Nat} {Q : State → Prop} : ∀ (M : gMem) (x0 : Nat) (x1 : Int32) (z : Unit × gMem), lp_X7_init_196 N0 Z M x0 x1 = some z → (fun (r : Unit × gMem) => Q = gMQ below D cy B H0 args s 90 36000 none r.2) z → N0 ≤ mN M → gGo p l e rX7_init s m args below meth c D cy B H0 2 (mN M - N0) (400 * (mN M - N0)) Q 196 [(0, vR (some x0)), (1, vI x1)] [] M := by
  intro M x0 x1 z hf hK hN0
  refine lp_ind (P := (fun (q : gMem × Int32) (z : Unit × gMem) => (fun (r : Unit × gMem) => Q = gMQ below D cy B H0 args s 90 36000 none r.2) z → N0 ≤ mN q.1 → gGo p l e rX7_init s m args below meth c D cy B H0 2 (mN q.1 - N0) (400 * (mN q.1 - N0)) Q 196 [(0, vR (some x0)), (1, vI q.2)] [] q.1)) (fun q z hq => ?_) _ _ hf hK hN0
  intro hK hN0
  obtain ⟨w, hw, hm⟩ := hq
  refine tb_X7_init_196 X2 hr hin _ _ _ w hw ?_ hN0
  cases w with
  | inl a => exact hm hK
  | inr b => cases hm; exact hK
set_option maxHeartbeats 4000000 in
set_option maxRecDepth 100000 in
theorem tb_X7_init_169 (X2 : gX p s m args meth c D cy B (gSt2 Z B H0) RX7 cX7_init wsX7_init 2) (hr : meth.sig.returnType = none) (hin : meth.name = "<init>") {N0 : Nat} {Q : State → Prop} : ∀ (M : gMem) (x0 : Nat) (x1 : Int32) (z : (gMem × Int32) ⊕ (Unit × gMem)), bb_X7_init_169 N0 Z M x0 x1 = some z → (Sum.elim (fun (q : gMem × Int32) => N0 ≤ mN q.1 → gGo p l e rX7_init s m args below meth c D cy B H0 2 (mN q.1 - N0) (400 * (mN q.1 - N0)) Q 169 [(0, vR (some x0)), (1, vI q.2)] [] q.1) (fun (r : Unit × gMem) => Q = gMQ below D cy B H0 args s 90 36000 none r.2)) z → N0 ≤ mN M → gGo p l e rX7_init s m args below meth c D cy B H0 2 (mN M - N0) (400 * (mN M - N0)) Q 169 [(0, vR (some x0)), (1, vI x1)] [] M := by
  intro M x0 x1 z hf hK hN0
  unfold bb_X7_init_169 at hf
  have X := gX_w X2
  refine g_iload_n X dX7_init_169 rfl rfl ?_
  refine g_bipush (v := (24 : Int32)) X dX7_init_170 (by decide) ?_
  refine g_icmp_ge (tgt := 194) X dX7_init_172 (by decide) (fun hc => ?_) (fun hc => ?_)
  · have hf := ife_t hc hf
    refine g_iconst (v := (0 : Int32)) X dX7_init_194 (by decide) ?_
    refine g_istore_n (lv' := [(1, vI (0 : Int32)), (0, vR (some x0))]) X dX7_init_195 rfl (by decide) rfl ?_
    obtain ⟨w16, hw16, hz16⟩ := oI_e hf
    subst hz16
    have hf := hw16
    refine g_sub (lvsub_of _ _ [1, 0] rfl) ?_
    exact tl_X7_init_196 X2 hr hin _ _ _ _ hf hK hN0
  · have hf := ife_f hc hf
    refine g_aload_n X dX7_init_175 rfl rfl ?_
    obtain ⟨hT17, hf⟩ := ck_e hf
    refine g_get (ci := 6) (v := vR (mR M x0 8)) 8 X cdX7 i_X7_init_X7 (by decide) k_X7_init_f29 rfl dX7_init_176 rfl hT17 rfl ?_
    refine g_iload_n X dX7_init_179 rfl rfl ?_
    obtain ⟨hg18, hf⟩ := ck_e hf
    refine g_new (ci := 1) X cdX2 i_X7_init_X2 k_X7_init_cl27 k_X7_init_inX2 k_X7_init_iiX2 (by intro i hi; rcases (show i = 0 ∨ i = 1 ∨ i = 2 ∨ i = 3 by omega) with rfl | rfl | rfl | rfl <;> rfl) ⟨by show _ ≤ 90; omega, by show _ ≤ 36000; omega⟩ dX7_init_180 ?_
    obtain ⟨M19, hM19, hf⟩ := lw_e hf
    rw [← hM19]
    have hQ19 : mN M19 = mN M + 1 := by rw [hM19]; rfl
    have hN19 : N0 ≤ mN M19 := by omega
    refine g_wide (k' := mN M19 - N0) (n' := 400 * (mN M19 - N0)) (by omega) (by omega) ?_
    refine g_dup X dX7_init_183 rfl ?_
    obtain ⟨hg21, hf⟩ := ck_e hf
    obtain ⟨r20, M20, hq20, hf⟩ := bd_e hf
    obtain ⟨hg22, hf⟩ := ck_e hf
    refine g_callIN (b := (mN M)) (As := []) (st := [vR (some (mN M)), vI x1, vR (mR M x0 8)]) (M1 := M20) X (m_X2_init l hq20) ⟨va_cnB 0 X.2.2.1 gX7_init_X2_init_n71 rfl rfl rfl (gNw X _ kn_X7_71) (X.2.2.1 _ k_X7_init_iiX2) (by decide +kernel) ⟨Nat.le_of_ble_eq_true rfl, Nat.le_of_ble_eq_true rfl⟩, rfl, X.2.2.1 _ k_X7_init_imX2_init⟩ rfl rfl rfl (Nat.le_of_ble_eq_true rfl) dX7_init_184 ⟨by show _ ≤ 90; omega, by show _ ≤ 36000; omega⟩ ?_
    have hN20 : N0 ≤ mN M20 := by omega
    refine g_wide (k' := mN M20 - N0) (n' := 400 * (mN M20 - N0)) (by omega) (by omega) ?_
    obtain ⟨a23, ha23, hf⟩ := dr_e hf
    obtain ⟨hT24, hf⟩ := ck_e hf
    obtain ⟨hg25, hf⟩ := ck_e hf
    obtain ⟨hT26, hf⟩ := ck_e hf
    refine g_aast (t0 := 5) (ci := 1) X dX7_init_187 ha23 hT24 (by decide) rfl hg25 rfl hT26 (by decide) rfl ?_
    obtain ⟨M27, hM27, hf⟩ := lw_e hf
    rw [← hM27]
    have hQ27 : mN M27 = mN M20 := by rw [hM27]; rfl
    have hN27 : N0 ≤ mN M27 := by omega
    refine g_wide (k' := mN M27 - N0) (n' := 400 * (mN M27 - N0)) (by omega) (by omega) ?_
    have hT28 : mT M27 a23 = 25 := by rw [hM27]; exact hT24
    have hT29 : mT M27 (mN M) = 2 := by rw [hM27]; exact hT26
    refine g_iinc (v := (1 : Int32)) (lv' := [(1, vI (x1 + (1 : Int32))), (0, vR (some x0))]) X dX7_init_188 rfl (by decide) (by decide) rfl ?_
    refine g_goto (tgt := 169) X dX7_init_191 (by decide) ?_
    cases hf
    refine g_sub (lvsub_of _ _ [1, 0] rfl) ?_
    exact hK hN27
set_option maxHeartbeats 4000000 in
set_option maxRecDepth 100000 in
theorem tl_X7_init_169 (X2 : gX p s m args meth c D cy B (gSt2 Z B H0) RX7 cX7_init wsX7_init 2) (hr : meth.sig.returnType = none) (hin : meth.name = "<init>") {N0 : Nat} {Q : State → Prop} : ∀ (M : gMem) (x0 : Nat) (x1 : Int32) (z : Unit × gMem), lp_X7_init_169 N0 Z M x0 x1 = some z → (fun (r : Unit × gMem) => Q = gMQ below D cy B H0 args s 90 36000 none r.2) z → N0 ≤ mN M → gGo p l e rX7_init s m args below meth c D cy B H0 2 (mN M - N0) (400 * (mN M - N0)) Q 169 [(0, vR (some x0)), (1, vI x1)] [] M := by
  intro M x0 x1 z hf hK hN0
  refine lp_ind (P := (fun (q : gMem × Int32) (z : Unit × gMem) => (fun (r : Unit × gMem) => Q = gMQ below D cy B H0 args s 90 36000 none r.2) z → N0 ≤ mN q.1 → gGo p l e rX7_init s m args below meth c D cy B H0 2 (mN q.1 - N0) (400 * (mN q.1 - N0)) Q 169 [(0, vR (some x0)), (1, vI q.2)] [] q.1)) (fun q z hq => ?_) _ _ hf hK hN0
  intro hK hN0
  obtain ⟨w, hw, hm⟩ := hq
  refine tb_X7_init_169 X2 hr hin _ _ _ w hw ?_ hN0
  cases w with
  | inl a => exact hm hK
  | inr b => cases hm; exact hK
set_option maxHeartbeats 4000000 in
set_option maxRecDepth 100000 in
theorem tb_X7_init_142 (X2 : gX p s m args meth c D cy B (gSt2 Z B H0) RX7 cX7_init wsX7_init 2) (hr : meth.sig.returnType = none) (hin : meth.name = "<init>") {N0 : Nat} {Q : State → Prop} : ∀ (M : gMem) (x0 : Nat) (x1 : Int32) (z : (gMem × Int32) ⊕ (Unit × gMem)), bb_X7_init_142 N0 Z M x0 x1 = some z → (Sum.elim (fun (q : gMem × Int32) => N0 ≤ mN q.1 → gGo p l e rX7_init s m args below meth c D cy B H0 2 (mN q.1 - N0) (400 * (mN q.1 - N0)) Q 142 [(0, vR (some x0)), (1, vI q.2)] [] q.1) (fun (r : Unit × gMem) => Q = gMQ below D cy B H0 args s 90 36000 none r.2)) z → N0 ≤ mN M → gGo p l e rX7_init s m args below meth c D cy B H0 2 (mN M - N0) (400 * (mN M - N0)) Q 142 [(0, vR (some x0)), (1, vI x1)] [] M := by
  intro M x0 x1 z hf hK hN0
  unfold bb_X7_init_142 at hf
  have X := gX_w X2
  refine g_iload_n X dX7_init_142 rfl rfl ?_
  refine g_bipush (v := (8 : Int32)) X dX7_init_143 (by decide) ?_
  refine g_icmp_ge (tgt := 167) X dX7_init_145 (by decide) (fun hc => ?_) (fun hc => ?_)
  · have hf := ife_t hc hf
    refine g_iconst (v := (0 : Int32)) X dX7_init_167 (by decide) ?_
    refine g_istore_n (lv' := [(1, vI (0 : Int32)), (0, vR (some x0))]) X dX7_init_168 rfl (by decide) rfl ?_
    obtain ⟨w30, hw30, hz30⟩ := oI_e hf
    subst hz30
    have hf := hw30
    refine g_sub (lvsub_of _ _ [1, 0] rfl) ?_
    exact tl_X7_init_169 X2 hr hin _ _ _ _ hf hK hN0
  · have hf := ife_f hc hf
    refine g_aload_n X dX7_init_148 rfl rfl ?_
    obtain ⟨hT31, hf⟩ := ck_e hf
    refine g_get (ci := 6) (v := vR (mR M x0 7)) 7 X cdX7 i_X7_init_X7 (by decide) k_X7_init_f23 rfl dX7_init_149 rfl hT31 rfl ?_
    refine g_iload_n X dX7_init_152 rfl rfl ?_
    obtain ⟨hg32, hf⟩ := ck_e hf
    refine g_new (ci := 0) X cdX1 i_X7_init_X1 k_X7_init_cl21 k_X7_init_inX1 k_X7_init_iiX1 (by intro i hi; rcases (show i = 0 ∨ i = 1 ∨ i = 2 ∨ i = 3 ∨ i = 4 ∨ i = 5 ∨ i = 6 ∨ i = 7 ∨ i = 8 ∨ i = 9 ∨ i = 10 by omega) with rfl | rfl | rfl | rfl | rfl | rfl | rfl | rfl | rfl | rfl | rfl <;> rfl) ⟨by show _ ≤ 90; omega, by show _ ≤ 36000; omega⟩ dX7_init_153 ?_
    obtain ⟨M33, hM33, hf⟩ := lw_e hf
    rw [← hM33]
    have hQ33 : mN M33 = mN M + 1 := by rw [hM33]; rfl
    have hN33 : N0 ≤ mN M33 := by omega
    refine g_wide (k' := mN M33 - N0) (n' := 400 * (mN M33 - N0)) (by omega) (by omega) ?_
    refine g_dup X dX7_init_156 rfl ?_
    obtain ⟨hg35, hf⟩ := ck_e hf
    obtain ⟨r34, M34, hq34, hf⟩ := bd_e hf
    obtain ⟨hg36, hf⟩ := ck_e hf
    refine g_callIN (b := (mN M)) (As := []) (st := [vR (some (mN M)), vI x1, vR (mR M x0 7)]) (M1 := M34) X (m_X1_init l hq34) ⟨va_cnB 0 X.2.2.1 gX7_init_X1_init_n61 rfl rfl rfl (gNw X _ kn_X7_61) (X.2.2.1 _ k_X7_init_iiX1) (by decide +kernel) ⟨Nat.le_of_ble_eq_true rfl, Nat.le_of_ble_eq_true rfl⟩, rfl, X.2.2.1 _ k_X7_init_imX1_init⟩ rfl rfl rfl (Nat.le_of_ble_eq_true rfl) dX7_init_157 ⟨by show _ ≤ 90; omega, by show _ ≤ 36000; omega⟩ ?_
    have hN34 : N0 ≤ mN M34 := by omega
    refine g_wide (k' := mN M34 - N0) (n' := 400 * (mN M34 - N0)) (by omega) (by omega) ?_
    obtain ⟨a37, ha37, hf⟩ := dr_e hf
    obtain ⟨hT38, hf⟩ := ck_e hf
    obtain ⟨hg39, hf⟩ := ck_e hf
    obtain ⟨hT40, hf⟩ := ck_e hf
    refine g_aast (t0 := 4) (ci := 0) X dX7_init_160 ha37 hT38 (by decide) rfl hg39 rfl hT40 (by decide) rfl ?_
    obtain ⟨M41, hM41, hf⟩ := lw_e hf
    rw [← hM41]
    have hQ41 : mN M41 = mN M34 := by rw [hM41]; rfl
    have hN41 : N0 ≤ mN M41 := by omega
    refine g_wide (k' := mN M41 - N0) (n' := 400 * (mN M41 - N0)) (by omega) (by omega) ?_
    have hT42 : mT M41 a37 = 24 := by rw [hM41]; exact hT38
    have hT43 : mT M41 (mN M) = 1 := by rw [hM41]; exact hT40
    refine g_iinc (v := (1 : Int32)) (lv' := [(1, vI (x1 + (1 : Int32))), (0, vR (some x0))]) X dX7_init_161 rfl (by decide) (by decide) rfl ?_
    refine g_goto (tgt := 142) X dX7_init_164 (by decide) ?_
    cases hf
    refine g_sub (lvsub_of _ _ [1, 0] rfl) ?_
    exact hK hN41
set_option maxHeartbeats 4000000 in
set_option maxRecDepth 100000 in
theorem tl_X7_init_142 (X2 : gX p s m args meth c D cy B (gSt2 Z B H0) RX7 cX7_init wsX7_init 2) (hr : meth.sig.returnType = none) (hin : meth.name = "<init>") {N0 : Nat} {Q : State → Prop} : ∀ (M : gMem) (x0 : Nat) (x1 : Int32) (z : Unit × gMem), lp_X7_init_142 N0 Z M x0 x1 = some z → (fun (r : Unit × gMem) => Q = gMQ below D cy B H0 args s 90 36000 none r.2) z → N0 ≤ mN M → gGo p l e rX7_init s m args below meth c D cy B H0 2 (mN M - N0) (400 * (mN M - N0)) Q 142 [(0, vR (some x0)), (1, vI x1)] [] M := by
  intro M x0 x1 z hf hK hN0
  refine lp_ind (P := (fun (q : gMem × Int32) (z : Unit × gMem) => (fun (r : Unit × gMem) => Q = gMQ below D cy B H0 args s 90 36000 none r.2) z → N0 ≤ mN q.1 → gGo p l e rX7_init s m args below meth c D cy B H0 2 (mN q.1 - N0) (400 * (mN q.1 - N0)) Q 142 [(0, vR (some x0)), (1, vI q.2)] [] q.1)) (fun q z hq => ?_) _ _ hf hK hN0
  intro hK hN0
  obtain ⟨w, hw, hm⟩ := hq
  refine tb_X7_init_142 X2 hr hin _ _ _ w hw ?_ hN0
  cases w with
  | inl a => exact hm hK
  | inr b => cases hm; exact hK
set_option maxHeartbeats 4000000 in
set_option maxRecDepth 100000 in
theorem tb_X7_init_115 (X2 : gX p s m args meth c D cy B (gSt2 Z B H0) RX7 cX7_init wsX7_init 2) (hr : meth.sig.returnType = none) (hin : meth.name = "<init>") {N0 : Nat} {Q : State → Prop} : ∀ (M : gMem) (x0 : Nat) (x1 : Int32) (z : (gMem × Int32) ⊕ (Unit × gMem)), bb_X7_init_115 N0 Z M x0 x1 = some z → (Sum.elim (fun (q : gMem × Int32) => N0 ≤ mN q.1 → gGo p l e rX7_init s m args below meth c D cy B H0 2 (mN q.1 - N0) (400 * (mN q.1 - N0)) Q 115 [(0, vR (some x0)), (1, vI q.2)] [] q.1) (fun (r : Unit × gMem) => Q = gMQ below D cy B H0 args s 90 36000 none r.2)) z → N0 ≤ mN M → gGo p l e rX7_init s m args below meth c D cy B H0 2 (mN M - N0) (400 * (mN M - N0)) Q 115 [(0, vR (some x0)), (1, vI x1)] [] M := by
  intro M x0 x1 z hf hK hN0
  unfold bb_X7_init_115 at hf
  have X := gX_w X2
  refine g_iload_n X dX7_init_115 rfl rfl ?_
  refine g_bipush (v := (8 : Int32)) X dX7_init_116 (by decide) ?_
  refine g_icmp_ge (tgt := 140) X dX7_init_118 (by decide) (fun hc => ?_) (fun hc => ?_)
  · have hf := ife_t hc hf
    refine g_iconst (v := (0 : Int32)) X dX7_init_140 (by decide) ?_
    refine g_istore_n (lv' := [(1, vI (0 : Int32)), (0, vR (some x0))]) X dX7_init_141 rfl (by decide) rfl ?_
    obtain ⟨w44, hw44, hz44⟩ := oI_e hf
    subst hz44
    have hf := hw44
    refine g_sub (lvsub_of _ _ [1, 0] rfl) ?_
    exact tl_X7_init_142 X2 hr hin _ _ _ _ hf hK hN0
  · have hf := ife_f hc hf
    refine g_aload_n X dX7_init_121 rfl rfl ?_
    obtain ⟨hT45, hf⟩ := ck_e hf
    refine g_get (ci := 6) (v := vR (mR M x0 6)) 6 X cdX7 i_X7_init_X7 (by decide) k_X7_init_f17 rfl dX7_init_122 rfl hT45 rfl ?_
    refine g_iload_n X dX7_init_125 rfl rfl ?_
    obtain ⟨hg46, hf⟩ := ck_e hf
    refine g_new (ci := 2) X cdX3 i_X7_init_X3 k_X7_init_cl15 k_X7_init_inX3 k_X7_init_iiX3 (by intro i hi; rcases (show i = 0 ∨ i = 1 ∨ i = 2 ∨ i = 3 by omega) with rfl | rfl | rfl | rfl <;> rfl) ⟨by show _ ≤ 90; omega, by show _ ≤ 36000; omega⟩ dX7_init_126 ?_
    obtain ⟨M47, hM47, hf⟩ := lw_e hf
    rw [← hM47]
    have hQ47 : mN M47 = mN M + 1 := by rw [hM47]; rfl
    have hN47 : N0 ≤ mN M47 := by omega
    refine g_wide (k' := mN M47 - N0) (n' := 400 * (mN M47 - N0)) (by omega) (by omega) ?_
    refine g_dup X dX7_init_129 rfl ?_
    obtain ⟨hg49, hf⟩ := ck_e hf
    obtain ⟨r48, M48, hq48, hf⟩ := bd_e hf
    obtain ⟨hg50, hf⟩ := ck_e hf
    refine g_callIN (b := (mN M)) (As := []) (st := [vR (some (mN M)), vI x1, vR (mR M x0 6)]) (M1 := M48) X (m_X3_init l hq48) ⟨va_cnB 0 X.2.2.1 gX7_init_X3_init_n56 rfl rfl rfl (gNw X _ kn_X7_56) (X.2.2.1 _ k_X7_init_iiX3) (by decide +kernel) ⟨Nat.le_of_ble_eq_true rfl, Nat.le_of_ble_eq_true rfl⟩, rfl, X.2.2.1 _ k_X7_init_imX3_init⟩ rfl rfl rfl (Nat.le_of_ble_eq_true rfl) dX7_init_130 ⟨by show _ ≤ 90; omega, by show _ ≤ 36000; omega⟩ ?_
    have hN48 : N0 ≤ mN M48 := by omega
    refine g_wide (k' := mN M48 - N0) (n' := 400 * (mN M48 - N0)) (by omega) (by omega) ?_
    obtain ⟨a51, ha51, hf⟩ := dr_e hf
    obtain ⟨hT52, hf⟩ := ck_e hf
    obtain ⟨hg53, hf⟩ := ck_e hf
    obtain ⟨hT54, hf⟩ := ck_e hf
    refine g_aast (t0 := 3) (ci := 2) X dX7_init_133 ha51 hT52 (by decide) rfl hg53 rfl hT54 (by decide) rfl ?_
    obtain ⟨M55, hM55, hf⟩ := lw_e hf
    rw [← hM55]
    have hQ55 : mN M55 = mN M48 := by rw [hM55]; rfl
    have hN55 : N0 ≤ mN M55 := by omega
    refine g_wide (k' := mN M55 - N0) (n' := 400 * (mN M55 - N0)) (by omega) (by omega) ?_
    have hT56 : mT M55 a51 = 23 := by rw [hM55]; exact hT52
    have hT57 : mT M55 (mN M) = 3 := by rw [hM55]; exact hT54
    refine g_iinc (v := (1 : Int32)) (lv' := [(1, vI (x1 + (1 : Int32))), (0, vR (some x0))]) X dX7_init_134 rfl (by decide) (by decide) rfl ?_
    refine g_goto (tgt := 115) X dX7_init_137 (by decide) ?_
    cases hf
    refine g_sub (lvsub_of _ _ [1, 0] rfl) ?_
    exact hK hN55
set_option maxHeartbeats 4000000 in
set_option maxRecDepth 100000 in
theorem tl_X7_init_115 (X2 : gX p s m args meth c D cy B (gSt2 Z B H0) RX7 cX7_init wsX7_init 2) (hr : meth.sig.returnType = none) (hin : meth.name = "<init>") {N0 : Nat} {Q : State → Prop} : ∀ (M : gMem) (x0 : Nat) (x1 : Int32) (z : Unit × gMem), lp_X7_init_115 N0 Z M x0 x1 = some z → (fun (r : Unit × gMem) => Q = gMQ below D cy B H0 args s 90 36000 none r.2) z → N0 ≤ mN M → gGo p l e rX7_init s m args below meth c D cy B H0 2 (mN M - N0) (400 * (mN M - N0)) Q 115 [(0, vR (some x0)), (1, vI x1)] [] M := by
  intro M x0 x1 z hf hK hN0
  refine lp_ind (P := (fun (q : gMem × Int32) (z : Unit × gMem) => (fun (r : Unit × gMem) => Q = gMQ below D cy B H0 args s 90 36000 none r.2) z → N0 ≤ mN q.1 → gGo p l e rX7_init s m args below meth c D cy B H0 2 (mN q.1 - N0) (400 * (mN q.1 - N0)) Q 115 [(0, vR (some x0)), (1, vI q.2)] [] q.1)) (fun q z hq => ?_) _ _ hf hK hN0
  intro hK hN0
  obtain ⟨w, hw, hm⟩ := hq
  refine tb_X7_init_115 X2 hr hin _ _ _ w hw ?_ hN0
  cases w with
  | inl a => exact hm hK
  | inr b => cases hm; exact hK
set_option maxHeartbeats 4000000 in
set_option maxRecDepth 100000 in
theorem t_X7_init_0 (X2 : gX p s m args meth c D cy B (gSt2 Z B H0) RX7 cX7_init wsX7_init 2) (hr : meth.sig.returnType = none) (hin : meth.name = "<init>") {N0 : Nat} {Q : State → Prop} : ∀ (M : gMem) (x0 : Nat) (z : Unit × gMem), b_X7_init_0 N0 Z M x0 = some z → (fun (r : Unit × gMem) => Q = gMQ below D cy B H0 args s 90 36000 none r.2) z → N0 ≤ mN M → gGo p l e rX7_init s m args below meth c D cy B H0 2 (mN M - N0) (400 * (mN M - N0)) Q 0 [(0, vR (some x0))] [] M := by
  intro M x0 z hf hK hN0
  unfold b_X7_init_0 at hf
  have X := gX_w X2
  refine g_aload_n X dX7_init_0 rfl rfl ?_
  refine g_objInit (i9 := 0) (b := x0) X k_X7_init_oi1 k_X7_init_oi2 k_X7_init_oi3 rfl dX7_init_1 (Nat.le_of_ble_eq_true rfl) (Nat.le_of_ble_eq_true rfl) ?_
  refine g_aload_n X dX7_init_4 rfl rfl ?_
  refine g_iconst (v := (1 : Int32)) X dX7_init_5 (by decide) ?_
  obtain ⟨hT58, hf⟩ := ck_e hf
  refine g_putI (ci := 6) 1 X cdX7 i_X7_init_X7 (by decide) k_X7_init_f9 rfl dX7_init_6 rfl hT58 (Or.inl rfl) rfl rfl rfl ?_
  obtain ⟨M59, hM59, hf⟩ := lw_e hf
  rw [← hM59]
  have hQ59 : mN M59 = mN M := by rw [hM59]; rfl
  have hN59 : N0 ≤ mN M59 := by omega
  refine g_wide (k' := mN M59 - N0) (n' := 400 * (mN M59 - N0)) (by omega) (by omega) ?_
  have hT60 : mT M59 x0 = 7 := by rw [hM59]; exact hT58
  refine g_aload_n X dX7_init_9 rfl rfl ?_
  refine g_bipush (v := (8 : Int32)) X dX7_init_10 (by decide) ?_
  obtain ⟨hg61, hf⟩ := ck_e hf
  refine g_anewa (t0 := 3) X (gN2w X2 _ (by decide +kernel)) k_X7_init_cl15 (by decide) rfl (by decide) (by decide) ⟨by show _ ≤ 90; omega, by rw [show ((8 : Int32)).toNatClampNeg = 8 by decide]; show _ ≤ 36000; omega⟩ dX7_init_12 ?_
  obtain ⟨M62, hM62, hf⟩ := lw_e hf
  rw [← hM62]
  have hQ62 : mN M62 = mN M59 + 1 := by rw [hM62]; rfl
  have hN62 : N0 ≤ mN M62 := by omega
  refine g_wide (k' := mN M62 - N0) (n' := 400 * (mN M62 - N0)) (by omega) (by rw [show ((8 : Int32)).toNatClampNeg = 8 by decide]; omega) ?_
  obtain ⟨hT63, hf⟩ := ck_e hf
  refine g_putR (ci := 6) 6 X cdX7 i_X7_init_X7 (by decide) k_X7_init_f17 rfl dX7_init_15 rfl hT63 (Or.inr ⟨rfl, hin, rfl⟩) (gnA _ _) (gfA _ _) rfl ?_
  obtain ⟨M64, hM64, hf⟩ := lw_e hf
  rw [← hM64]
  have hQ64 : mN M64 = mN M62 := by rw [hM64]; rfl
  have hN64 : N0 ≤ mN M64 := by omega
  refine g_wide (k' := mN M64 - N0) (n' := 400 * (mN M64 - N0)) (by omega) (by omega) ?_
  have hT65 : mT M64 x0 = 7 := by rw [hM64]; exact hT63
  refine g_aload_n X dX7_init_18 rfl rfl ?_
  refine g_bipush (v := (8 : Int32)) X dX7_init_19 (by decide) ?_
  obtain ⟨hg66, hf⟩ := ck_e hf
  refine g_anewa (t0 := 4) X (gN2w X2 _ (by decide +kernel)) k_X7_init_cl21 (by decide) rfl (by decide) (by decide) ⟨by show _ ≤ 90; omega, by rw [show ((8 : Int32)).toNatClampNeg = 8 by decide]; show _ ≤ 36000; omega⟩ dX7_init_21 ?_
  obtain ⟨M67, hM67, hf⟩ := lw_e hf
  rw [← hM67]
  have hQ67 : mN M67 = mN M64 + 1 := by rw [hM67]; rfl
  have hN67 : N0 ≤ mN M67 := by omega
  refine g_wide (k' := mN M67 - N0) (n' := 400 * (mN M67 - N0)) (by omega) (by rw [show ((8 : Int32)).toNatClampNeg = 8 by decide]; omega) ?_
  obtain ⟨hT68, hf⟩ := ck_e hf
  refine g_putR (ci := 6) 7 X cdX7 i_X7_init_X7 (by decide) k_X7_init_f23 rfl dX7_init_24 rfl hT68 (Or.inr ⟨rfl, hin, rfl⟩) (gnA _ _) (gfA _ _) rfl ?_
  obtain ⟨M69, hM69, hf⟩ := lw_e hf
  rw [← hM69]
  have hQ69 : mN M69 = mN M67 := by rw [hM69]; rfl
  have hN69 : N0 ≤ mN M69 := by omega
  refine g_wide (k' := mN M69 - N0) (n' := 400 * (mN M69 - N0)) (by omega) (by omega) ?_
  have hT70 : mT M69 x0 = 7 := by rw [hM69]; exact hT68
  refine g_aload_n X dX7_init_27 rfl rfl ?_
  refine g_bipush (v := (24 : Int32)) X dX7_init_28 (by decide) ?_
  obtain ⟨hg71, hf⟩ := ck_e hf
  refine g_anewa (t0 := 5) X (gN2w X2 _ (by decide +kernel)) k_X7_init_cl27 (by decide) rfl (by decide) (by decide) ⟨by show _ ≤ 90; omega, by rw [show ((24 : Int32)).toNatClampNeg = 24 by decide]; show _ ≤ 36000; omega⟩ dX7_init_30 ?_
  obtain ⟨M72, hM72, hf⟩ := lw_e hf
  rw [← hM72]
  have hQ72 : mN M72 = mN M69 + 1 := by rw [hM72]; rfl
  have hN72 : N0 ≤ mN M72 := by omega
  refine g_wide (k' := mN M72 - N0) (n' := 400 * (mN M72 - N0)) (by omega) (by rw [show ((24 : Int32)).toNatClampNeg = 24 by decide]; omega) ?_
  obtain ⟨hT73, hf⟩ := ck_e hf
  refine g_putR (ci := 6) 8 X cdX7 i_X7_init_X7 (by decide) k_X7_init_f29 rfl dX7_init_33 rfl hT73 (Or.inr ⟨rfl, hin, rfl⟩) (gnA _ _) (gfA _ _) rfl ?_
  obtain ⟨M74, hM74, hf⟩ := lw_e hf
  rw [← hM74]
  have hQ74 : mN M74 = mN M72 := by rw [hM74]; rfl
  have hN74 : N0 ≤ mN M74 := by omega
  refine g_wide (k' := mN M74 - N0) (n' := 400 * (mN M74 - N0)) (by omega) (by omega) ?_
  have hT75 : mT M74 x0 = 7 := by rw [hM74]; exact hT73
  refine g_aload_n X dX7_init_36 rfl rfl ?_
  refine g_bipush (v := (6 : Int32)) X dX7_init_37 (by decide) ?_
  obtain ⟨hg76, hf⟩ := ck_e hf
  refine g_anewa (t0 := 6) X (gN2w X2 _ (by decide +kernel)) k_X7_init_cl33 (by decide) rfl (by decide) (by decide) ⟨by show _ ≤ 90; omega, by rw [show ((6 : Int32)).toNatClampNeg = 6 by decide]; show _ ≤ 36000; omega⟩ dX7_init_39 ?_
  obtain ⟨M77, hM77, hf⟩ := lw_e hf
  rw [← hM77]
  have hQ77 : mN M77 = mN M74 + 1 := by rw [hM77]; rfl
  have hN77 : N0 ≤ mN M77 := by omega
  refine g_wide (k' := mN M77 - N0) (n' := 400 * (mN M77 - N0)) (by omega) (by rw [show ((6 : Int32)).toNatClampNeg = 6 by decide]; omega) ?_
  obtain ⟨hT78, hf⟩ := ck_e hf
  refine g_putR (ci := 6) 9 X cdX7 i_X7_init_X7 (by decide) k_X7_init_f35 rfl dX7_init_42 rfl hT78 (Or.inr ⟨rfl, hin, rfl⟩) (gnA _ _) (gfA _ _) rfl ?_
  obtain ⟨M79, hM79, hf⟩ := lw_e hf
  rw [← hM79]
  have hQ79 : mN M79 = mN M77 := by rw [hM79]; rfl
  have hN79 : N0 ≤ mN M79 := by omega
  refine g_wide (k' := mN M79 - N0) (n' := 400 * (mN M79 - N0)) (by omega) (by omega) ?_
  have hT80 : mT M79 x0 = 7 := by rw [hM79]; exact hT78
  refine g_aload_n X dX7_init_45 rfl rfl ?_
  obtain ⟨hg81, hf⟩ := ck_e hf
  refine g_new (ci := 7) X cdX9 i_X7_init_X9 k_X7_init_cl39 k_X7_init_inX9 k_X7_init_iiX9 (by intro i hi; rcases (show i = 0 ∨ i = 1 ∨ i = 2 ∨ i = 3 by omega) with rfl | rfl | rfl | rfl <;> rfl) ⟨by show _ ≤ 90; omega, by show _ ≤ 36000; omega⟩ dX7_init_46 ?_
  obtain ⟨M82, hM82, hf⟩ := lw_e hf
  rw [← hM82]
  have hQ82 : mN M82 = mN M79 + 1 := by rw [hM82]; rfl
  have hN82 : N0 ≤ mN M82 := by omega
  refine g_wide (k' := mN M82 - N0) (n' := 400 * (mN M82 - N0)) (by omega) (by omega) ?_
  refine g_dup X dX7_init_49 rfl ?_
  obtain ⟨hg84, hf⟩ := ck_e hf
  obtain ⟨r83, M83, hq83, hf⟩ := bd_e hf
  obtain ⟨hg85, hf⟩ := ck_e hf
  refine g_callI (b := (mN M79)) (As := []) (st := [vR (some (mN M79)), vR (some x0)]) (M1 := M83) X2 (m_X9_init l hq83) (cwI 0 X.2.2.1 gX7_init_X9_init rfl rfl rfl (X.2.2.1 _ k_X7_init_iiX9) (X.2.2.1 _ k_X7_init_ml41) (X.2.2.1 _ k_X7_init_imX9_init) rfl (by decide +kernel) ⟨Nat.le_of_ble_eq_true rfl, Nat.le_of_ble_eq_true rfl⟩) rfl rfl rfl (Nat.le_of_ble_eq_true rfl) dX7_init_50 ⟨by show _ ≤ 90; omega, by show _ ≤ 36000; omega⟩ ?_
  have hN83 : N0 ≤ mN M83 := by omega
  refine g_wide (k' := mN M83 - N0) (n' := 400 * (mN M83 - N0)) (by omega) (by omega) ?_
  obtain ⟨hT86, hf⟩ := ck_e hf
  refine g_putR (ci := 6) 10 X cdX7 i_X7_init_X7 (by decide) k_X7_init_f42 rfl dX7_init_53 rfl hT86 (Or.inr ⟨rfl, hin, rfl⟩) (gnO _ _) (gfO _ _) rfl ?_
  obtain ⟨M87, hM87, hf⟩ := lw_e hf
  rw [← hM87]
  have hQ87 : mN M87 = mN M83 := by rw [hM87]; rfl
  have hN87 : N0 ≤ mN M87 := by omega
  refine g_wide (k' := mN M87 - N0) (n' := 400 * (mN M87 - N0)) (by omega) (by omega) ?_
  have hT88 : mT M87 x0 = 7 := by rw [hM87]; exact hT86
  refine g_aload_n X dX7_init_56 rfl rfl ?_
  refine g_bipush (v := (8 : Int32)) X dX7_init_57 (by decide) ?_
  obtain ⟨hg89, hf⟩ := ck_e hf
  refine g_newa (at' := .int) (t0 := 0) X k_X7_init_acint (by exact Or.inl ⟨rfl, rfl⟩) (by decide) (by decide) ⟨by show _ ≤ 90; omega, by rw [show ((8 : Int32)).toNatClampNeg = 8 by decide]; show _ ≤ 36000; omega⟩ dX7_init_59 ?_
  obtain ⟨M90, hM90, hf⟩ := lw_e hf
  rw [← hM90]
  have hQ90 : mN M90 = mN M87 + 1 := by rw [hM90]; rfl
  have hN90 : N0 ≤ mN M90 := by omega
  refine g_wide (k' := mN M90 - N0) (n' := 400 * (mN M90 - N0)) (by omega) (by rw [show ((8 : Int32)).toNatClampNeg = 8 by decide]; omega) ?_
  obtain ⟨hT91, hf⟩ := ck_e hf
  refine g_putR (ci := 6) 11 X cdX7 i_X7_init_X7 (by decide) k_X7_init_f46 rfl dX7_init_61 rfl hT91 (Or.inr ⟨rfl, hin, rfl⟩) (gnA _ _) (gfA _ _) rfl ?_
  obtain ⟨M92, hM92, hf⟩ := lw_e hf
  rw [← hM92]
  have hQ92 : mN M92 = mN M90 := by rw [hM92]; rfl
  have hN92 : N0 ≤ mN M92 := by omega
  refine g_wide (k' := mN M92 - N0) (n' := 400 * (mN M92 - N0)) (by omega) (by omega) ?_
  have hT93 : mT M92 x0 = 7 := by rw [hM92]; exact hT91
  refine g_aload_n X dX7_init_64 rfl rfl ?_
  refine g_bipush (v := (8 : Int32)) X dX7_init_65 (by decide) ?_
  obtain ⟨hg94, hf⟩ := ck_e hf
  refine g_newa (at' := .int) (t0 := 0) X k_X7_init_acint (by exact Or.inl ⟨rfl, rfl⟩) (by decide) (by decide) ⟨by show _ ≤ 90; omega, by rw [show ((8 : Int32)).toNatClampNeg = 8 by decide]; show _ ≤ 36000; omega⟩ dX7_init_67 ?_
  obtain ⟨M95, hM95, hf⟩ := lw_e hf
  rw [← hM95]
  have hQ95 : mN M95 = mN M92 + 1 := by rw [hM95]; rfl
  have hN95 : N0 ≤ mN M95 := by omega
  refine g_wide (k' := mN M95 - N0) (n' := 400 * (mN M95 - N0)) (by omega) (by rw [show ((8 : Int32)).toNatClampNeg = 8 by decide]; omega) ?_
  obtain ⟨hT96, hf⟩ := ck_e hf
  refine g_putR (ci := 6) 12 X cdX7 i_X7_init_X7 (by decide) k_X7_init_f50 rfl dX7_init_69 rfl hT96 (Or.inr ⟨rfl, hin, rfl⟩) (gnA _ _) (gfA _ _) rfl ?_
  obtain ⟨M97, hM97, hf⟩ := lw_e hf
  rw [← hM97]
  have hQ97 : mN M97 = mN M95 := by rw [hM97]; rfl
  have hN97 : N0 ≤ mN M97 := by omega
  refine g_wide (k' := mN M97 - N0) (n' := 400 * (mN M97 - N0)) (by omega) (by omega) ?_
  have hT98 : mT M97 x0 = 7 := by rw [hM97]; exact hT96
  refine g_aload_n X dX7_init_72 rfl rfl ?_
  refine g_bipush (v := (6 : Int32)) X dX7_init_73 (by decide) ?_
  obtain ⟨hg99, hf⟩ := ck_e hf
  refine g_newa (at' := .int) (t0 := 0) X k_X7_init_acint (by exact Or.inl ⟨rfl, rfl⟩) (by decide) (by decide) ⟨by show _ ≤ 90; omega, by rw [show ((6 : Int32)).toNatClampNeg = 6 by decide]; show _ ≤ 36000; omega⟩ dX7_init_75 ?_
  obtain ⟨M100, hM100, hf⟩ := lw_e hf
  rw [← hM100]
  have hQ100 : mN M100 = mN M97 + 1 := by rw [hM100]; rfl
  have hN100 : N0 ≤ mN M100 := by omega
  refine g_wide (k' := mN M100 - N0) (n' := 400 * (mN M100 - N0)) (by omega) (by rw [show ((6 : Int32)).toNatClampNeg = 6 by decide]; omega) ?_
  obtain ⟨hT101, hf⟩ := ck_e hf
  refine g_putR (ci := 6) 13 X cdX7 i_X7_init_X7 (by decide) k_X7_init_f53 rfl dX7_init_77 rfl hT101 (Or.inr ⟨rfl, hin, rfl⟩) (gnA _ _) (gfA _ _) rfl ?_
  obtain ⟨M102, hM102, hf⟩ := lw_e hf
  rw [← hM102]
  have hQ102 : mN M102 = mN M100 := by rw [hM102]; rfl
  have hN102 : N0 ≤ mN M102 := by omega
  refine g_wide (k' := mN M102 - N0) (n' := 400 * (mN M102 - N0)) (by omega) (by omega) ?_
  have hT103 : mT M102 x0 = 7 := by rw [hM102]; exact hT101
  refine g_aload_n X dX7_init_80 rfl rfl ?_
  obtain ⟨hg104, hf⟩ := ck_e hf
  refine g_new (ci := 2) X cdX3 i_X7_init_X3 k_X7_init_cl15 k_X7_init_inX3 k_X7_init_iiX3 (by intro i hi; rcases (show i = 0 ∨ i = 1 ∨ i = 2 ∨ i = 3 by omega) with rfl | rfl | rfl | rfl <;> rfl) ⟨by show _ ≤ 90; omega, by show _ ≤ 36000; omega⟩ dX7_init_81 ?_
  obtain ⟨M105, hM105, hf⟩ := lw_e hf
  rw [← hM105]
  have hQ105 : mN M105 = mN M102 + 1 := by rw [hM105]; rfl
  have hN105 : N0 ≤ mN M105 := by omega
  refine g_wide (k' := mN M105 - N0) (n' := 400 * (mN M105 - N0)) (by omega) (by omega) ?_
  refine g_dup X dX7_init_84 rfl ?_
  obtain ⟨hg107, hf⟩ := ck_e hf
  obtain ⟨r106, M106, hq106, hf⟩ := bd_e hf
  obtain ⟨hg108, hf⟩ := ck_e hf
  refine g_callIN (b := (mN M102)) (As := []) (st := [vR (some (mN M102)), vR (some x0)]) (M1 := M106) X (m_X3_init l hq106) ⟨va_cnB 0 X.2.2.1 gX7_init_X3_init_n56 rfl rfl rfl (gNw X _ kn_X7_56) (X.2.2.1 _ k_X7_init_iiX3) (by decide +kernel) ⟨Nat.le_of_ble_eq_true rfl, Nat.le_of_ble_eq_true rfl⟩, rfl, X.2.2.1 _ k_X7_init_imX3_init⟩ rfl rfl rfl (Nat.le_of_ble_eq_true rfl) dX7_init_85 ⟨by show _ ≤ 90; omega, by show _ ≤ 36000; omega⟩ ?_
  have hN106 : N0 ≤ mN M106 := by omega
  refine g_wide (k' := mN M106 - N0) (n' := 400 * (mN M106 - N0)) (by omega) (by omega) ?_
  obtain ⟨hT109, hf⟩ := ck_e hf
  refine g_putR (ci := 6) 14 X cdX7 i_X7_init_X7 (by decide) k_X7_init_f57 rfl dX7_init_88 rfl hT109 (Or.inr ⟨rfl, hin, rfl⟩) (gnO _ _) (gfO _ _) rfl ?_
  obtain ⟨M110, hM110, hf⟩ := lw_e hf
  rw [← hM110]
  have hQ110 : mN M110 = mN M106 := by rw [hM110]; rfl
  have hN110 : N0 ≤ mN M110 := by omega
  refine g_wide (k' := mN M110 - N0) (n' := 400 * (mN M110 - N0)) (by omega) (by omega) ?_
  have hT111 : mT M110 x0 = 7 := by rw [hM110]; exact hT109
  refine g_aload_n X dX7_init_91 rfl rfl ?_
  obtain ⟨hg112, hf⟩ := ck_e hf
  refine g_new (ci := 0) X cdX1 i_X7_init_X1 k_X7_init_cl21 k_X7_init_inX1 k_X7_init_iiX1 (by intro i hi; rcases (show i = 0 ∨ i = 1 ∨ i = 2 ∨ i = 3 ∨ i = 4 ∨ i = 5 ∨ i = 6 ∨ i = 7 ∨ i = 8 ∨ i = 9 ∨ i = 10 by omega) with rfl | rfl | rfl | rfl | rfl | rfl | rfl | rfl | rfl | rfl | rfl <;> rfl) ⟨by show _ ≤ 90; omega, by show _ ≤ 36000; omega⟩ dX7_init_92 ?_
  obtain ⟨M113, hM113, hf⟩ := lw_e hf
  rw [← hM113]
  have hQ113 : mN M113 = mN M110 + 1 := by rw [hM113]; rfl
  have hN113 : N0 ≤ mN M113 := by omega
  refine g_wide (k' := mN M113 - N0) (n' := 400 * (mN M113 - N0)) (by omega) (by omega) ?_
  refine g_dup X dX7_init_95 rfl ?_
  obtain ⟨hg115, hf⟩ := ck_e hf
  obtain ⟨r114, M114, hq114, hf⟩ := bd_e hf
  obtain ⟨hg116, hf⟩ := ck_e hf
  refine g_callIN (b := (mN M110)) (As := []) (st := [vR (some (mN M110)), vR (some x0)]) (M1 := M114) X (m_X1_init l hq114) ⟨va_cnB 0 X.2.2.1 gX7_init_X1_init_n61 rfl rfl rfl (gNw X _ kn_X7_61) (X.2.2.1 _ k_X7_init_iiX1) (by decide +kernel) ⟨Nat.le_of_ble_eq_true rfl, Nat.le_of_ble_eq_true rfl⟩, rfl, X.2.2.1 _ k_X7_init_imX1_init⟩ rfl rfl rfl (Nat.le_of_ble_eq_true rfl) dX7_init_96 ⟨by show _ ≤ 90; omega, by show _ ≤ 36000; omega⟩ ?_
  have hN114 : N0 ≤ mN M114 := by omega
  refine g_wide (k' := mN M114 - N0) (n' := 400 * (mN M114 - N0)) (by omega) (by omega) ?_
  obtain ⟨hT117, hf⟩ := ck_e hf
  refine g_putR (ci := 6) 15 X cdX7 i_X7_init_X7 (by decide) k_X7_init_f62 rfl dX7_init_99 rfl hT117 (Or.inr ⟨rfl, hin, rfl⟩) (gnO _ _) (gfO _ _) rfl ?_
  obtain ⟨M118, hM118, hf⟩ := lw_e hf
  rw [← hM118]
  have hQ118 : mN M118 = mN M114 := by rw [hM118]; rfl
  have hN118 : N0 ≤ mN M118 := by omega
  refine g_wide (k' := mN M118 - N0) (n' := 400 * (mN M118 - N0)) (by omega) (by omega) ?_
  have hT119 : mT M118 x0 = 7 := by rw [hM118]; exact hT117
  refine g_aload_n X dX7_init_102 rfl rfl ?_
  obtain ⟨hg120, hf⟩ := ck_e hf
  refine g_new (ci := 4) X cdX5 i_X7_init_X5 k_X7_init_cl33 k_X7_init_inX5 k_X7_init_iiX5 (by intro i hi; rcases (show i = 0 ∨ i = 1 ∨ i = 2 ∨ i = 3 ∨ i = 4 ∨ i = 5 ∨ i = 6 ∨ i = 7 by omega) with rfl | rfl | rfl | rfl | rfl | rfl | rfl | rfl <;> rfl) ⟨by show _ ≤ 90; omega, by show _ ≤ 36000; omega⟩ dX7_init_103 ?_
  obtain ⟨M121, hM121, hf⟩ := lw_e hf
  rw [← hM121]
  have hQ121 : mN M121 = mN M118 + 1 := by rw [hM121]; rfl
  have hN121 : N0 ≤ mN M121 := by omega
  refine g_wide (k' := mN M121 - N0) (n' := 400 * (mN M121 - N0)) (by omega) (by omega) ?_
  refine g_dup X dX7_init_106 rfl ?_
  obtain ⟨hg123, hf⟩ := ck_e hf
  obtain ⟨r122, M122, hq122, hf⟩ := bd_e hf
  obtain ⟨hg124, hf⟩ := ck_e hf
  refine g_callIN (b := (mN M118)) (As := []) (st := [vR (some (mN M118)), vR (some x0)]) (M1 := M122) X (m_X5_init l hq122) ⟨va_cnB 0 X.2.2.1 gX7_init_X5_init_n66 rfl rfl rfl (gNw X _ kn_X7_66) (X.2.2.1 _ k_X7_init_iiX5) (by decide +kernel) ⟨Nat.le_of_ble_eq_true rfl, Nat.le_of_ble_eq_true rfl⟩, rfl, X.2.2.1 _ k_X7_init_imX5_init⟩ rfl rfl rfl (Nat.le_of_ble_eq_true rfl) dX7_init_107 ⟨by show _ ≤ 90; omega, by show _ ≤ 36000; omega⟩ ?_
  have hN122 : N0 ≤ mN M122 := by omega
  refine g_wide (k' := mN M122 - N0) (n' := 400 * (mN M122 - N0)) (by omega) (by omega) ?_
  obtain ⟨hT125, hf⟩ := ck_e hf
  refine g_putR (ci := 6) 16 X cdX7 i_X7_init_X7 (by decide) k_X7_init_f67 rfl dX7_init_110 rfl hT125 (Or.inr ⟨rfl, hin, rfl⟩) (gnO _ _) (gfO _ _) rfl ?_
  obtain ⟨M126, hM126, hf⟩ := lw_e hf
  rw [← hM126]
  have hQ126 : mN M126 = mN M122 := by rw [hM126]; rfl
  have hN126 : N0 ≤ mN M126 := by omega
  refine g_wide (k' := mN M126 - N0) (n' := 400 * (mN M126 - N0)) (by omega) (by omega) ?_
  have hT127 : mT M126 x0 = 7 := by rw [hM126]; exact hT125
  refine g_iconst (v := (0 : Int32)) X dX7_init_113 (by decide) ?_
  refine g_istore_n (lv' := [(1, vI (0 : Int32)), (0, vR (some x0))]) X dX7_init_114 rfl (by decide) rfl ?_
  refine g_sub (lvsub_of _ _ [1, 0] rfl) ?_
  exact tl_X7_init_115 X2 hr hin _ _ _ _ hf hK hN126
set_option maxHeartbeats 4000000 in
set_option maxRecDepth 100000 in
theorem m_X7_init (l : Launch) {D : va_G} {cy : Nat → ClassId} {B : Nat} {H0 : Heap} {Z : Nat → Nat} {M M1 : gMem} {x0 : Nat} {r : Unit} (hf : f_X7_init Z M x0 = some (r, M1)) : Met l yX7_init wsX7_init rX7_init (va_Pc (Value.ref x0 :: List.map gv []) (gPre D cy B H0 (gSt2 Z B H0) M)) (gQ D cy B H0 none M1) 90 36000 (gA B) := by
  refine Met.ofW (cc := cX7_init) (maxL := 2) (ret := none) (by decide) rfl ?_
  intro p e s m args below meth c s₁ Bd hml hv
  obtain ⟨rfl, hW, hKK, hFs⟩ := hv
  have X2 : gX p s m _ meth c D cy B (gSt2 Z B H0) RX7 cX7_init wsX7_init 2 := ⟨Bd.exec, Bd.bytes, atoms_spec (ws := wsX7_init) Bd.pre, findClass_of_methodNamed Bd.named, hml, hKK, by rw [hW.1]; exact hW.2.1, Bd.notSynchronized, hFs⟩
  have hr := Bd.returns
  have hin : meth.name = "<init>" := (name_of_methodNamed Bd.named Bd.method).1
  have hl := lv_entry ([.ref x0]) (n := 2) (Nat.le_of_ble_eq_true rfl)
  show W p l e rX7_init s m _ below meth c s.heap [] 0 0 _ (entryFrame m ([.ref x0] : List Value).toArray 2)
  rw [lg_entry_eq]
  generalize (lg_sl ([.ref x0]) ++ List.replicate (2 - (lg_sl ([.ref x0])).length) Slot.unset).toArray = ls at hl ⊢
  have hl : lv_has ls 2 (List.map gq [(0, vR (some x0))]) := hl
  refine (g_start0 (N := mN M) (SL := 400) ?_ : gGo p l e rX7_init s m _ below meth c D cy B H0 2 0 0 _ 0 [(0, vR (some x0))] [] M) s.heap [] ls hW va_S.rf (lv_has_sub hl (lvsub_of _ _ [0] rfl))
  exact t_X7_init_0 X2 hr hin _ _ _ hf rfl (Nat.le_refl _)
/-! ## TideLots.<init>()V -/
theorem dX11_init_0 : decode cX11_init 0 = .ok (.aload_n 0, 1) := by decide +kernel
theorem dX11_init_1 : decode cX11_init 1 = .ok (.invokespecial 1, 3) := by decide +kernel
theorem dX11_init_4 : decode cX11_init 4 = .ok (.aload_n 0, 1) := by decide +kernel
theorem dX11_init_5 : decode cX11_init 5 = .ok (.new 7, 3) := by decide +kernel
theorem dX11_init_8 : decode cX11_init 8 = .ok (.dup, 1) := by decide +kernel
theorem dX11_init_9 : decode cX11_init 9 = .ok (.invokespecial 9, 3) := by decide +kernel
theorem dX11_init_12 : decode cX11_init 12 = .ok (.putfield 10, 3) := by decide +kernel
theorem dX11_init_15 : decode cX11_init 15 = .ok (.aload_n 0, 1) := by decide +kernel
theorem dX11_init_16 : decode cX11_init 16 = .ok (.new 16, 3) := by decide +kernel
theorem dX11_init_19 : decode cX11_init 19 = .ok (.dup, 1) := by decide +kernel
theorem dX11_init_20 : decode cX11_init 20 = .ok (.invokespecial 18, 3) := by decide +kernel
theorem dX11_init_23 : decode cX11_init 23 = .ok (.putfield 19, 3) := by decide +kernel
theorem dX11_init_26 : decode cX11_init 26 = .ok (.aload_n 0, 1) := by decide +kernel
theorem dX11_init_27 : decode cX11_init 27 = .ok (.new 16, 3) := by decide +kernel
theorem dX11_init_30 : decode cX11_init 30 = .ok (.dup, 1) := by decide +kernel
theorem dX11_init_31 : decode cX11_init 31 = .ok (.invokespecial 18, 3) := by decide +kernel
theorem dX11_init_34 : decode cX11_init 34 = .ok (.putfield 23, 3) := by decide +kernel
theorem dX11_init_37 : decode cX11_init 37 = .ok (.aload_n 0, 1) := by decide +kernel
theorem dX11_init_38 : decode cX11_init 38 = .ok (.iconst (-1), 1) := by decide +kernel
theorem dX11_init_39 : decode cX11_init 39 = .ok (.putfield 26, 3) := by decide +kernel
theorem dX11_init_42 : decode cX11_init 42 = .ok (.return_, 1) := by decide +kernel
set_option maxRecDepth 20000 in
theorem ggX11_init_X10_init : GoodIn wsX11_init wsX10_init := goodIn_r _ [16, 17, 2, 3, 18, 19, 20, 21, 22, 23, 24, 25, 26, 84, 85, 86, 87, 88, 89] (by decide +kernel) (by decide +kernel)
set_option maxRecDepth 20000 in
theorem gX11_init_X10_init : GoodIn wsX11_init (wsX10_init) := ggX11_init_X10_init
set_option maxRecDepth 20000 in
theorem ggX11_init_X7_init : GoodIn wsX11_init wsX7_init := goodIn_2 24 (goodIn_r _ [29, 30, 2, 3, 31, 32, 33, 34, 35, 36, 37, 38, 39, 40, 41, 42, 43, 22, 44, 45, 46, 47, 48, 49] (by decide +kernel) (by decide +kernel)) (goodIn_2 24 (goodIn_r _ [50, 51, 52, 53, 54, 55, 56, 57, 58, 59, 60, 61, 62, 63, 64, 65, 66, 67, 68, 69, 70, 71, 72, 73] (by decide +kernel) (by decide +kernel)) (goodIn_2 24 (goodIn_r _ [74, 75, 76, 77, 78, 79, 80, 81, 82, 83, 94, 95, 96, 97, 98, 99, 100, 101, 102, 103, 104, 105, 106, 107] (by decide +kernel) (by decide +kernel)) (goodIn_2 24 (goodIn_r _ [108, 109, 110, 111, 112, 113, 114, 115, 116, 117, 118, 119, 120, 121, 122, 123, 124, 125, 126, 127, 128, 129, 130, 131] (by decide +kernel) (by decide +kernel)) (goodIn_r _ [132, 133, 134, 135, 136, 137, 138, 139, 140, 141] (by decide +kernel) (by decide +kernel)))))
set_option maxRecDepth 20000 in
theorem gX11_init_X7_init : GoodIn wsX11_init (wsX7_init) := ggX11_init_X7_init
theorem k_X11_init_oi1 : Cond.methodLink RX11 1 objectInit ∈ wsX11_init := by decide +kernel
theorem k_X11_init_oi2 : Cond.instanceMethod objectInit ∈ wsX11_init := by decide +kernel
theorem k_X11_init_oi3 : Cond.code objectInit ⟨#[0xb1]⟩ 1 none ∈ wsX11_init := by decide +kernel
theorem i_X11_init_X10 : ∀ w ∈ u_ws RX10 TX10 6, w ∈ wsX11_init := by decide +kernel
theorem k_X11_init_cl7 : Cond.classLink RX11 7 RX10 ∈ wsX11_init := by decide +kernel
theorem k_X11_init_inX10 : Cond.instantiable RX10 6 ∈ wsX11_init := by decide +kernel
theorem k_X11_init_iiX10 : Cond.initialized RX10 ∈ wsX11_init := by decide +kernel
theorem k_X11_init_ml9 : Cond.methodLink RX11 9 yX10_init ∈ wsX11_init := by decide +kernel
theorem k_X11_init_imX10_init : Cond.instanceMethod yX10_init ∈ wsX11_init := by decide +kernel
theorem k_X11_init_f10 : Cond.fieldLink RX11 10 "TideLots" "tape" "LTideLots$Tape;" ∈ wsX11_init := by decide +kernel
theorem i_X11_init_X11 : ∀ w ∈ u_ws RX11 TX11 4, w ∈ wsX11_init := by decide +kernel
theorem i_X11_init_X7 : ∀ w ∈ u_ws RX7 TX7 17, w ∈ wsX11_init := by decide +kernel
theorem k_X11_init_cl16 : Cond.classLink RX11 16 RX7 ∈ wsX11_init := by decide +kernel
theorem k_X11_init_inX7 : Cond.instantiable RX7 17 ∈ wsX11_init := by decide +kernel
theorem k_X11_init_iiX7 : Cond.initialized RX7 ∈ wsX11_init := by decide +kernel
theorem k_X11_init_ml18 : Cond.methodLink RX11 18 yX7_init ∈ wsX11_init := by decide +kernel
theorem k_X11_init_imX7_init : Cond.instanceMethod yX7_init ∈ wsX11_init := by decide +kernel
theorem k_X11_init_f19 : Cond.fieldLink RX11 19 "TideLots" "shore" "LTideLots$Shore;" ∈ wsX11_init := by decide +kernel
theorem k_X11_init_f23 : Cond.fieldLink RX11 23 "TideLots" "other" "LTideLots$Shore;" ∈ wsX11_init := by decide +kernel
theorem k_X11_init_f26 : Cond.fieldLink RX11 26 "TideLots" "errorAt" "I" ∈ wsX11_init := by decide +kernel
abbrev rX11_init : Room := { frames := 3, cells := 187, slots := 75243, locals := 54 }
noncomputable def b_X11_init_0 (Z : Nat → Nat) (M : gMem) (x0 : Nat) : Option (Unit × gMem) :=
  lw (nW M 9 0) fun M1 => bd (f_X10_init Z M1 ((mN M))) fun _ M2 => ck (mT M2 x0 = 10) <| lw (wR M2 x0 0 ((some (mN M)))) fun M4 => lw (nW M4 7 0) fun M6 => bd (f_X7_init Z M6 ((mN M4))) fun _ M7 => ck (mT M7 x0 = 10) <| lw (wR M7 x0 1 ((some (mN M4)))) fun M9 => lw (nW M9 7 0) fun M11 => bd (f_X7_init Z M11 ((mN M9))) fun _ M12 => ck (mT M12 x0 = 10) <| lw (wR M12 x0 2 ((some (mN M9)))) fun M14 => lw (wI M14 x0 3 ((-1 : Int32))) fun M16 => some ((), M16)
noncomputable def f_X11_init (Z : Nat → Nat) (M : gMem) (x0 : Nat) : Option (Unit × gMem) :=
  b_X11_init_0 Z M x0
set_option maxHeartbeats 4000000 in
set_option maxRecDepth 100000 in
theorem t_X11_init_0 (X2 : gX p s m args meth c D cy B (gSt2 Z B H0) RX11 cX11_init wsX11_init 1) (hr : meth.sig.returnType = none) (hin : meth.name = "<init>") {Q : State → Prop} : ∀ (M : gMem) (x0 : Nat) (z : Unit × gMem), b_X11_init_0 Z M x0 = some z → (fun (r : Unit × gMem) => Q = gMQ below D cy B H0 args s 187 75243 none r.2) z → gGo p l e rX11_init s m args below meth c D cy B H0 1 0 0 Q 0 [(0, vR (some x0))] [] M := by
  intro M x0 z hf hK
  unfold b_X11_init_0 at hf
  have X := gX_w X2
  refine g_aload_n X dX11_init_0 rfl rfl ?_
  refine g_objInit (i9 := 0) (b := x0) X k_X11_init_oi1 k_X11_init_oi2 k_X11_init_oi3 rfl dX11_init_1 (Nat.le_of_ble_eq_true rfl) (Nat.le_of_ble_eq_true rfl) ?_
  refine g_aload_n X dX11_init_4 rfl rfl ?_
  refine g_new (ci := 8) X cdX10 i_X11_init_X10 k_X11_init_cl7 k_X11_init_inX10 k_X11_init_iiX10 (by intro i hi; rcases (show i = 0 ∨ i = 1 ∨ i = 2 ∨ i = 3 ∨ i = 4 ∨ i = 5 by omega) with rfl | rfl | rfl | rfl | rfl | rfl <;> rfl) ⟨by decide, by decide⟩ dX11_init_5 ?_
  obtain ⟨M1, hM1, hf⟩ := lw_e hf
  rw [← hM1]
  refine g_dup X dX11_init_8 rfl ?_
  obtain ⟨r2, M2, hq2, hf⟩ := bd_e hf
  refine g_callI (b := (mN M)) (As := []) (st := [vR (some (mN M)), vR (some x0)]) (M1 := M2) X2 (m_X10_init l hq2) (cwI 0 X.2.2.1 gX11_init_X10_init rfl rfl rfl (X.2.2.1 _ k_X11_init_iiX10) (X.2.2.1 _ k_X11_init_ml9) (X.2.2.1 _ k_X11_init_imX10_init) rfl (by decide +kernel) ⟨Nat.le_of_ble_eq_true rfl, Nat.le_of_ble_eq_true rfl⟩) rfl rfl rfl (Nat.le_of_ble_eq_true rfl) dX11_init_9 ⟨by decide, by decide⟩ ?_
  obtain ⟨hT3, hf⟩ := ck_e hf
  refine g_putR (ci := 9) 0 X cdX11 i_X11_init_X11 (by decide) k_X11_init_f10 rfl dX11_init_12 rfl hT3 (Or.inr ⟨rfl, hin, rfl⟩) (gnO _ _) (gfO _ _) rfl ?_
  obtain ⟨M4, hM4, hf⟩ := lw_e hf
  rw [← hM4]
  have hT5 : mT M4 x0 = 10 := by rw [hM4]; exact hT3
  refine g_aload_n X dX11_init_15 rfl rfl ?_
  refine g_new (ci := 6) X cdX7 i_X11_init_X7 k_X11_init_cl16 k_X11_init_inX7 k_X11_init_iiX7 (by intro i hi; rcases (show i = 0 ∨ i = 1 ∨ i = 2 ∨ i = 3 ∨ i = 4 ∨ i = 5 ∨ i = 6 ∨ i = 7 ∨ i = 8 ∨ i = 9 ∨ i = 10 ∨ i = 11 ∨ i = 12 ∨ i = 13 ∨ i = 14 ∨ i = 15 ∨ i = 16 by omega) with rfl | rfl | rfl | rfl | rfl | rfl | rfl | rfl | rfl | rfl | rfl | rfl | rfl | rfl | rfl | rfl | rfl <;> rfl) ⟨by decide, by decide⟩ dX11_init_16 ?_
  obtain ⟨M6, hM6, hf⟩ := lw_e hf
  rw [← hM6]
  refine g_dup X dX11_init_19 rfl ?_
  obtain ⟨r7, M7, hq7, hf⟩ := bd_e hf
  refine g_callI (b := (mN M4)) (As := []) (st := [vR (some (mN M4)), vR (some x0)]) (M1 := M7) X2 (m_X7_init l hq7) (cwI 0 X.2.2.1 gX11_init_X7_init rfl rfl rfl (X.2.2.1 _ k_X11_init_iiX7) (X.2.2.1 _ k_X11_init_ml18) (X.2.2.1 _ k_X11_init_imX7_init) rfl (by decide +kernel) ⟨Nat.le_of_ble_eq_true rfl, Nat.le_of_ble_eq_true rfl⟩) rfl rfl rfl (Nat.le_of_ble_eq_true rfl) dX11_init_20 ⟨by decide, by decide⟩ ?_
  obtain ⟨hT8, hf⟩ := ck_e hf
  refine g_putR (ci := 9) 1 X cdX11 i_X11_init_X11 (by decide) k_X11_init_f19 rfl dX11_init_23 rfl hT8 (Or.inl rfl) (gnO _ _) (gfO _ _) rfl ?_
  obtain ⟨M9, hM9, hf⟩ := lw_e hf
  rw [← hM9]
  have hT10 : mT M9 x0 = 10 := by rw [hM9]; exact hT8
  refine g_aload_n X dX11_init_26 rfl rfl ?_
  refine g_new (ci := 6) X cdX7 i_X11_init_X7 k_X11_init_cl16 k_X11_init_inX7 k_X11_init_iiX7 (by intro i hi; rcases (show i = 0 ∨ i = 1 ∨ i = 2 ∨ i = 3 ∨ i = 4 ∨ i = 5 ∨ i = 6 ∨ i = 7 ∨ i = 8 ∨ i = 9 ∨ i = 10 ∨ i = 11 ∨ i = 12 ∨ i = 13 ∨ i = 14 ∨ i = 15 ∨ i = 16 by omega) with rfl | rfl | rfl | rfl | rfl | rfl | rfl | rfl | rfl | rfl | rfl | rfl | rfl | rfl | rfl | rfl | rfl <;> rfl) ⟨by decide, by decide⟩ dX11_init_27 ?_
  obtain ⟨M11, hM11, hf⟩ := lw_e hf
  rw [← hM11]
  refine g_dup X dX11_init_30 rfl ?_
  obtain ⟨r12, M12, hq12, hf⟩ := bd_e hf
  refine g_callI (b := (mN M9)) (As := []) (st := [vR (some (mN M9)), vR (some x0)]) (M1 := M12) X2 (m_X7_init l hq12) (cwI 0 X.2.2.1 gX11_init_X7_init rfl rfl rfl (X.2.2.1 _ k_X11_init_iiX7) (X.2.2.1 _ k_X11_init_ml18) (X.2.2.1 _ k_X11_init_imX7_init) rfl (by decide +kernel) ⟨Nat.le_of_ble_eq_true rfl, Nat.le_of_ble_eq_true rfl⟩) rfl rfl rfl (Nat.le_of_ble_eq_true rfl) dX11_init_31 ⟨by decide, by decide⟩ ?_
  obtain ⟨hT13, hf⟩ := ck_e hf
  refine g_putR (ci := 9) 2 X cdX11 i_X11_init_X11 (by decide) k_X11_init_f23 rfl dX11_init_34 rfl hT13 (Or.inl rfl) (gnO _ _) (gfO _ _) rfl ?_
  obtain ⟨M14, hM14, hf⟩ := lw_e hf
  rw [← hM14]
  have hT15 : mT M14 x0 = 10 := by rw [hM14]; exact hT13
  refine g_aload_n X dX11_init_37 rfl rfl ?_
  refine g_iconst (v := (-1 : Int32)) X dX11_init_38 (by decide) ?_
  refine g_putI (ci := 9) 3 X cdX11 i_X11_init_X11 (by decide) k_X11_init_f26 rfl dX11_init_39 rfl hT15 (Or.inl rfl) rfl rfl rfl ?_
  obtain ⟨M16, hM16, hf⟩ := lw_e hf
  rw [← hM16]
  have hT17 : mT M16 x0 = 10 := by rw [hM16]; exact hT15
  cases hf
  refine g_eqQ hK ?_
  exact g_vret X hr dX11_init_42
set_option maxHeartbeats 4000000 in
set_option maxRecDepth 100000 in
theorem m_X11_init (l : Launch) {D : va_G} {cy : Nat → ClassId} {B : Nat} {H0 : Heap} {Z : Nat → Nat} {M M1 : gMem} {x0 : Nat} {r : Unit} (hf : f_X11_init Z M x0 = some (r, M1)) : Met l yX11_init wsX11_init rX11_init (va_Pc (Value.ref x0 :: List.map gv []) (gPre D cy B H0 (gSt2 Z B H0) M)) (gQ D cy B H0 none M1) 187 75243 (gA B) := by
  refine Met.ofW (cc := cX11_init) (maxL := 1) (ret := none) (by decide) rfl ?_
  intro p e s m args below meth c s₁ Bd hml hv
  obtain ⟨rfl, hW, hKK, hFs⟩ := hv
  have X2 : gX p s m _ meth c D cy B (gSt2 Z B H0) RX11 cX11_init wsX11_init 1 := ⟨Bd.exec, Bd.bytes, atoms_spec (ws := wsX11_init) Bd.pre, findClass_of_methodNamed Bd.named, hml, hKK, by rw [hW.1]; exact hW.2.1, Bd.notSynchronized, hFs⟩
  have hr := Bd.returns
  have hin : meth.name = "<init>" := (name_of_methodNamed Bd.named Bd.method).1
  have hl := lv_entry ([.ref x0]) (n := 1) (Nat.le_of_ble_eq_true rfl)
  show W p l e rX11_init s m _ below meth c s.heap [] 0 0 _ (entryFrame m ([.ref x0] : List Value).toArray 1)
  rw [lg_entry_eq]
  generalize (lg_sl ([.ref x0]) ++ List.replicate (1 - (lg_sl ([.ref x0])).length) Slot.unset).toArray = ls at hl ⊢
  have hl : lv_has ls 1 (List.map gq [(0, vR (some x0))]) := hl
  exact t_X11_init_0 X2 hr hin _ _ _ hf rfl s.heap [] ls hW va_S.rf (lv_has_sub hl (lvsub_of _ _ [0] rfl))
end
