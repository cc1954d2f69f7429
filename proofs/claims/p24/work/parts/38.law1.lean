section
variable {p : Program} {l : Launch} {e : Env} {s : State} {m : MethodId} {args : Array Value} {below : List Frame} {meth : Method} {c : Code} {D : va_G} {cy : Nat → ClassId} {B : Nat} {H0 : Heap} {Z : Nat → Nat}
/-! ## TideLotsLaw$Sim.<init>()V -/
theorem dX12_init_0 : decode cX12_init 0 = .ok (.aload_n 0, 1) := by decide +kernel
theorem dX12_init_1 : decode cX12_init 1 = .ok (.invokespecial 1, 3) := by decide +kernel
theorem dX12_init_4 : decode cX12_init 4 = .ok (.aload_n 0, 1) := by decide +kernel
theorem dX12_init_5 : decode cX12_init 5 = .ok (.bipush 8, 2) := by decide +kernel
theorem dX12_init_7 : decode cX12_init 7 = .ok (.bipush 6, 2) := by decide +kernel
theorem dX12_init_9 : decode cX12_init 9 = .ok (.multianewarray 7 2, 4) := by decide +kernel
theorem dX12_init_13 : decode cX12_init 13 = .ok (.putfield 9, 3) := by decide +kernel
theorem dX12_init_16 : decode cX12_init 16 = .ok (.aload_n 0, 1) := by decide +kernel
theorem dX12_init_17 : decode cX12_init 17 = .ok (.bipush 8, 2) := by decide +kernel
theorem dX12_init_19 : decode cX12_init 19 = .ok (.iconst 4, 1) := by decide +kernel
theorem dX12_init_20 : decode cX12_init 20 = .ok (.multianewarray 7 2, 4) := by decide +kernel
theorem dX12_init_24 : decode cX12_init 24 = .ok (.putfield 14, 3) := by decide +kernel
theorem dX12_init_27 : decode cX12_init 27 = .ok (.aload_n 0, 1) := by decide +kernel
theorem dX12_init_28 : decode cX12_init 28 = .ok (.bipush 24, 2) := by decide +kernel
theorem dX12_init_30 : decode cX12_init 30 = .ok (.bipush 7, 2) := by decide +kernel
theorem dX12_init_32 : decode cX12_init 32 = .ok (.multianewarray 7 2, 4) := by decide +kernel
theorem dX12_init_36 : decode cX12_init 36 = .ok (.putfield 17, 3) := by decide +kernel
theorem dX12_init_39 : decode cX12_init 39 = .ok (.aload_n 0, 1) := by decide +kernel
theorem dX12_init_40 : decode cX12_init 40 = .ok (.bipush 6, 2) := by decide +kernel
theorem dX12_init_42 : decode cX12_init 42 = .ok (.iconst 4, 1) := by decide +kernel
theorem dX12_init_43 : decode cX12_init 43 = .ok (.multianewarray 7 2, 4) := by decide +kernel
theorem dX12_init_47 : decode cX12_init 47 = .ok (.putfield 20, 3) := by decide +kernel
theorem dX12_init_50 : decode cX12_init 50 = .ok (.aload_n 0, 1) := by decide +kernel
theorem dX12_init_51 : decode cX12_init 51 = .ok (.bipush 6, 2) := by decide +kernel
theorem dX12_init_53 : decode cX12_init 53 = .ok (.anewarray 23, 3) := by decide +kernel
theorem dX12_init_56 : decode cX12_init 56 = .ok (.putfield 25, 3) := by decide +kernel
theorem dX12_init_59 : decode cX12_init 59 = .ok (.aload_n 0, 1) := by decide +kernel
theorem dX12_init_60 : decode cX12_init 60 = .ok (.lconst 1, 1) := by decide +kernel
theorem dX12_init_61 : decode cX12_init 61 = .ok (.putfield 28, 3) := by decide +kernel
theorem dX12_init_64 : decode cX12_init 64 = .ok (.aload_n 0, 1) := by decide +kernel
theorem dX12_init_65 : decode cX12_init 65 = .ok (.bipush 8, 2) := by decide +kernel
theorem dX12_init_67 : decode cX12_init 67 = .ok (.newarray .int, 2) := by decide +kernel
theorem dX12_init_69 : decode cX12_init 69 = .ok (.putfield 32, 3) := by decide +kernel
theorem dX12_init_72 : decode cX12_init 72 = .ok (.aload_n 0, 1) := by decide +kernel
theorem dX12_init_73 : decode cX12_init 73 = .ok (.bipush 8, 2) := by decide +kernel
theorem dX12_init_75 : decode cX12_init 75 = .ok (.bipush 8, 2) := by decide +kernel
theorem dX12_init_77 : decode cX12_init 77 = .ok (.multianewarray 7 2, 4) := by decide +kernel
theorem dX12_init_81 : decode cX12_init 81 = .ok (.putfield 35, 3) := by decide +kernel
theorem dX12_init_84 : decode cX12_init 84 = .ok (.aload_n 0, 1) := by decide +kernel
theorem dX12_init_85 : decode cX12_init 85 = .ok (.bipush 8, 2) := by decide +kernel
theorem dX12_init_87 : decode cX12_init 87 = .ok (.newarray .int, 2) := by decide +kernel
theorem dX12_init_89 : decode cX12_init 89 = .ok (.putfield 38, 3) := by decide +kernel
theorem dX12_init_92 : decode cX12_init 92 = .ok (.aload_n 0, 1) := by decide +kernel
theorem dX12_init_93 : decode cX12_init 93 = .ok (.bipush 8, 2) := by decide +kernel
theorem dX12_init_95 : decode cX12_init 95 = .ok (.newarray .int, 2) := by decide +kernel
theorem dX12_init_97 : decode cX12_init 97 = .ok (.putfield 41, 3) := by decide +kernel
theorem dX12_init_100 : decode cX12_init 100 = .ok (.aload_n 0, 1) := by decide +kernel
theorem dX12_init_101 : decode cX12_init 101 = .ok (.bipush 8, 2) := by decide +kernel
theorem dX12_init_103 : decode cX12_init 103 = .ok (.newarray .int, 2) := by decide +kernel
theorem dX12_init_105 : decode cX12_init 105 = .ok (.dup, 1) := by decide +kernel
theorem dX12_init_106 : decode cX12_init 106 = .ok (.iconst 0, 1) := by decide +kernel
theorem dX12_init_107 : decode cX12_init 107 = .ok (.iconst (-1), 1) := by decide +kernel
theorem dX12_init_108 : decode cX12_init 108 = .ok (.iastore, 1) := by decide +kernel
theorem dX12_init_109 : decode cX12_init 109 = .ok (.dup, 1) := by decide +kernel
theorem dX12_init_110 : decode cX12_init 110 = .ok (.iconst 1, 1) := by decide +kernel
theorem dX12_init_111 : decode cX12_init 111 = .ok (.iconst (-1), 1) := by decide +kernel
theorem dX12_init_112 : decode cX12_init 112 = .ok (.iastore, 1) := by decide +kernel
theorem dX12_init_113 : decode cX12_init 113 = .ok (.dup, 1) := by decide +kernel
theorem dX12_init_114 : decode cX12_init 114 = .ok (.iconst 2, 1) := by decide +kernel
theorem dX12_init_115 : decode cX12_init 115 = .ok (.iconst (-1), 1) := by decide +kernel
theorem dX12_init_116 : decode cX12_init 116 = .ok (.iastore, 1) := by decide +kernel
theorem dX12_init_117 : decode cX12_init 117 = .ok (.dup, 1) := by decide +kernel
theorem dX12_init_118 : decode cX12_init 118 = .ok (.iconst 3, 1) := by decide +kernel
theorem dX12_init_119 : decode cX12_init 119 = .ok (.iconst (-1), 1) := by decide +kernel
theorem dX12_init_120 : decode cX12_init 120 = .ok (.iastore, 1) := by decide +kernel
theorem dX12_init_121 : decode cX12_init 121 = .ok (.dup, 1) := by decide +kernel
theorem dX12_init_122 : decode cX12_init 122 = .ok (.iconst 4, 1) := by decide +kernel
theorem dX12_init_123 : decode cX12_init 123 = .ok (.iconst (-1), 1) := by decide +kernel
theorem dX12_init_124 : decode cX12_init 124 = .ok (.iastore, 1) := by decide +kernel
theorem dX12_init_125 : decode cX12_init 125 = .ok (.dup, 1) := by decide +kernel
theorem dX12_init_126 : decode cX12_init 126 = .ok (.iconst 5, 1) := by decide +kernel
theorem dX12_init_127 : decode cX12_init 127 = .ok (.iconst (-1), 1) := by decide +kernel
theorem dX12_init_128 : decode cX12_init 128 = .ok (.iastore, 1) := by decide +kernel
theorem dX12_init_129 : decode cX12_init 129 = .ok (.dup, 1) := by decide +kernel
theorem dX12_init_130 : decode cX12_init 130 = .ok (.bipush 6, 2) := by decide +kernel
theorem dX12_init_132 : decode cX12_init 132 = .ok (.iconst (-1), 1) := by decide +kernel
theorem dX12_init_133 : decode cX12_init 133 = .ok (.iastore, 1) := by decide +kernel
theorem dX12_init_134 : decode cX12_init 134 = .ok (.dup, 1) := by decide +kernel
theorem dX12_init_135 : decode cX12_init 135 = .ok (.bipush 7, 2) := by decide +kernel
theorem dX12_init_137 : decode cX12_init 137 = .ok (.iconst (-1), 1) := by decide +kernel
theorem dX12_init_138 : decode cX12_init 138 = .ok (.iastore, 1) := by decide +kernel
theorem dX12_init_139 : decode cX12_init 139 = .ok (.putfield 44, 3) := by decide +kernel
theorem dX12_init_142 : decode cX12_init 142 = .ok (.aload_n 0, 1) := by decide +kernel
theorem dX12_init_143 : decode cX12_init 143 = .ok (.bipush 8, 2) := by decide +kernel
theorem dX12_init_145 : decode cX12_init 145 = .ok (.newarray .int, 2) := by decide +kernel
theorem dX12_init_147 : decode cX12_init 147 = .ok (.putfield 47, 3) := by decide +kernel
theorem dX12_init_150 : decode cX12_init 150 = .ok (.aload_n 0, 1) := by decide +kernel
theorem dX12_init_151 : decode cX12_init 151 = .ok (.bipush 8, 2) := by decide +kernel
theorem dX12_init_153 : decode cX12_init 153 = .ok (.newarray .boolean, 2) := by decide +kernel
theorem dX12_init_155 : decode cX12_init 155 = .ok (.putfield 50, 3) := by decide +kernel
theorem dX12_init_158 : decode cX12_init 158 = .ok (.aload_n 0, 1) := by decide +kernel
theorem dX12_init_159 : decode cX12_init 159 = .ok (.bipush 6, 2) := by decide +kernel
theorem dX12_init_161 : decode cX12_init 161 = .ok (.iconst 3, 1) := by decide +kernel
theorem dX12_init_162 : decode cX12_init 162 = .ok (.multianewarray 7 2, 4) := by decide +kernel
theorem dX12_init_166 : decode cX12_init 166 = .ok (.putfield 54, 3) := by decide +kernel
theorem dX12_init_169 : decode cX12_init 169 = .ok (.aload_n 0, 1) := by decide +kernel
theorem dX12_init_170 : decode cX12_init 170 = .ok (.bipush 8, 2) := by decide +kernel
theorem dX12_init_172 : decode cX12_init 172 = .ok (.newarray .int, 2) := by decide +kernel
theorem dX12_init_174 : decode cX12_init 174 = .ok (.putfield 57, 3) := by decide +kernel
theorem dX12_init_177 : decode cX12_init 177 = .ok (.return_, 1) := by decide +kernel
theorem k_X12_init_oi1 : Cond.methodLink RX12 1 objectInit ∈ wsX12_init := by decide +kernel
theorem k_X12_init_oi2 : Cond.instanceMethod objectInit ∈ wsX12_init := by decide +kernel
theorem k_X12_init_oi3 : Cond.code objectInit ⟨#[0xb1]⟩ 1 none ∈ wsX12_init := by decide +kernel
theorem k_X12_init_cl7 : Cond.classLink RX12 7 "[[I" ∈ wsX12_init := by decide +kernel
theorem k_X12_init_acint : Cond.arrayClass .int ∈ wsX12_init := by decide +kernel
theorem k_X12_init_f9 : Cond.fieldLink RX12 9 "TideLotsLaw$Sim" "ground" "[[I" ∈ wsX12_init := by decide +kernel
theorem i_X12_init_X12 : ∀ w ∈ u_ws RX12 TX12 20, w ∈ wsX12_init := by decide +kernel
theorem k_X12_init_f14 : Cond.fieldLink RX12 14 "TideLotsLaw$Sim" "fisher" "[[I" ∈ wsX12_init := by decide +kernel
theorem k_X12_init_f17 : Cond.fieldLink RX12 17 "TideLotsLaw$Sim" "go" "[[I" ∈ wsX12_init := by decide +kernel
theorem k_X12_init_f20 : Cond.fieldLink RX12 20 "TideLotsLaw$Sim" "pact" "[[I" ∈ wsX12_init := by decide +kernel
theorem k_X12_init_cl23 : Cond.classLink RX12 23 "[I" ∈ wsX12_init := by decide +kernel
theorem k_X12_init_f25 : Cond.fieldLink RX12 25 "TideLotsLaw$Sim" "member" "[[I" ∈ wsX12_init := by decide +kernel
theorem k_X12_init_f28 : Cond.fieldLink RX12 28 "TideLotsLaw$Sim" "l" "J" ∈ wsX12_init := by decide +kernel
theorem k_X12_init_f32 : Cond.fieldLink RX12 32 "TideLotsLaw$Sim" "boats" "[I" ∈ wsX12_init := by decide +kernel
theorem k_X12_init_f35 : Cond.fieldLink RX12 35 "TideLotsLaw$Sim" "took" "[[I" ∈ wsX12_init := by decide +kernel
theorem k_X12_init_f38 : Cond.fieldLink RX12 38 "TideLotsLaw$Sim" "store" "[I" ∈ wsX12_init := by decide +kernel
theorem k_X12_init_f41 : Cond.fieldLink RX12 41 "TideLotsLaw$Sim" "caught" "[I" ∈ wsX12_init := by decide +kernel
theorem k_X12_init_f44 : Cond.fieldLink RX12 44 "TideLotsLaw$Sim" "where" "[I" ∈ wsX12_init := by decide +kernel
theorem k_X12_init_f47 : Cond.fieldLink RX12 47 "TideLotsLaw$Sim" "tears" "[I" ∈ wsX12_init := by decide +kernel
theorem k_X12_init_acboolean : Cond.arrayClass .boolean ∈ wsX12_init := by decide +kernel
theorem k_X12_init_f50 : Cond.fieldLink RX12 50 "TideLotsLaw$Sim" "isCheat" "[Z" ∈ wsX12_init := by decide +kernel
theorem k_X12_init_f54 : Cond.fieldLink RX12 54 "TideLotsLaw$Sim" "split" "[[I" ∈ wsX12_init := by decide +kernel
theorem k_X12_init_f57 : Cond.fieldLink RX12 57 "TideLotsLaw$Sim" "before" "[I" ∈ wsX12_init := by decide +kernel
abbrev rX12_init : Room := { frames := 1, cells := 74, slots := 476, locals := 12 }
noncomputable def b_X12_init_0 (M : gMem) (x0 : Nat) : Option (Unit × gMem) :=
  lw (mnM M ((8 : Int32)).toNatClampNeg ((6 : Int32)).toNatClampNeg) fun M1 => ck (mT M1 x0 = 11) <| lw (wR M1 x0 2 ((some (mN M)))) fun M3 => lw (mnM M3 ((8 : Int32)).toNatClampNeg ((4 : Int32)).toNatClampNeg) fun M5 => ck (mT M5 x0 = 11) <| lw (wR M5 x0 3 ((some (mN M3)))) fun M7 => lw (mnM M7 ((24 : Int32)).toNatClampNeg ((7 : Int32)).toNatClampNeg) fun M9 => ck (mT M9 x0 = 11) <| lw (wR M9 x0 4 ((some (mN M7)))) fun M11 => lw (mnM M11 ((6 : Int32)).toNatClampNeg ((4 : Int32)).toNatClampNeg) fun M13 => ck (mT M13 x0 = 11) <| lw (wR M13 x0 6 ((some (mN M11)))) fun M15 => lw (nW M15 28 ((6 : Int32)).toNatClampNeg) fun M17 => ck (mT M17 x0 = 11) <| lw (wR M17 x0 7 ((some (mN M15)))) fun M19 => lw (wJ M19 x0 10 ((1 : Int64))) fun M21 => lw (nW M21 20 ((8 : Int32)).toNatClampNeg) fun M23 => ck (mT M23 x0 = 11) <| lw (wR M23 x0 11 ((some (mN M21)))) fun M25 => lw (mnM M25 ((8 : Int32)).toNatClampNeg ((8 : Int32)).toNatClampNeg) fun M27 => ck (mT M27 x0 = 11) <| lw (wR M27 x0 12 ((some (mN M25)))) fun M29 => lw (nW M29 20 ((8 : Int32)).toNatClampNeg) fun M31 => ck (mT M31 x0 = 11) <| lw (wR M31 x0 13 ((some (mN M29)))) fun M33 => lw (nW M33 20 ((8 : Int32)).toNatClampNeg) fun M35 => ck (mT M35 x0 = 11) <| lw (wR M35 x0 14 ((some (mN M33)))) fun M37 => lw (nW M37 20 ((8 : Int32)).toNatClampNeg) fun M39 => ck (mT M39 (mN M37) = 20) <| ck (inb (0 : Int32) (mL M39 (mN M37))) <| lw (wI M39 (mN M37) ((0 : Int32)).toNatClampNeg ((-1 : Int32))) fun M42 => ck (inb (1 : Int32) (mL M42 (mN M37))) <| lw (wI M42 (mN M37) ((1 : Int32)).toNatClampNeg ((-1 : Int32))) fun M45 => ck (inb (2 : Int32) (mL M45 (mN M37))) <| lw (wI M45 (mN M37) ((2 : Int32)).toNatClampNeg ((-1 : Int32))) fun M48 => ck (inb (3 : Int32) (mL M48 (mN M37))) <| lw (wI M48 (mN M37) ((3 : Int32)).toNatClampNeg ((-1 : Int32))) fun M51 => ck (inb (4 : Int32) (mL M51 (mN M37))) <| lw (wI M51 (mN M37) ((4 : Int32)).toNatClampNeg ((-1 : Int32))) fun M54 => ck (inb (5 : Int32) (mL M54 (mN M37))) <| lw (wI M54 (mN M37) ((5 : Int32)).toNatClampNeg ((-1 : Int32))) fun M57 => ck (inb (6 : Int32) (mL M57 (mN M37))) <| lw (wI M57 (mN M37) ((6 : Int32)).toNatClampNeg ((-1 : Int32))) fun M60 => ck (inb (7 : Int32) (mL M60 (mN M37))) <| lw (wI M60 (mN M37) ((7 : Int32)).toNatClampNeg ((-1 : Int32))) fun M63 => ck (mT M63 x0 = 11) <| lw (wR M63 x0 15 ((some (mN M37)))) fun M66 => lw (nW M66 20 ((8 : Int32)).toNatClampNeg) fun M69 => ck (mT M69 x0 = 11) <| lw (wR M69 x0 16 ((some (mN M66)))) fun M71 => lw (nW M71 29 ((8 : Int32)).toNatClampNeg) fun M73 => ck (mT M73 x0 = 11) <| lw (wR M73 x0 17 ((some (mN M71)))) fun M75 => lw (mnM M75 ((6 : Int32)).toNatClampNeg ((3 : Int32)).toNatClampNeg) fun M77 => ck (mT M77 x0 = 11) <| lw (wR M77 x0 18 ((some (mN M75)))) fun M79 => lw (nW M79 20 ((8 : Int32)).toNatClampNeg) fun M81 => ck (mT M81 x0 = 11) <| lw (wR M81 x0 19 ((some (mN M79)))) fun M83 => some ((), M83)
noncomputable def f_X12_init (M : gMem) (x0 : Nat) : Option (Unit × gMem) :=
  b_X12_init_0 M x0
set_option maxHeartbeats 4000000 in
set_option maxRecDepth 100000 in
theorem t_X12_init_0 (X2 : gX p s m args meth c D cy B (gSt2 Z B H0) RX12 cX12_init wsX12_init 1) (hr : meth.sig.returnType = none) (hin : meth.name = "<init>") {Q : State → Prop} : ∀ (M : gMem) (x0 : Nat) (z : Unit × gMem), b_X12_init_0 M x0 = some z → (fun (r : Unit × gMem) => Q = gMQ below D cy B H0 args s 74 476 none r.2) z → gGo p l e rX12_init s m args below meth c D cy B H0 1 0 0 Q 0 [(0, vR (some x0))] [] M := by
  intro M x0 z hf hK
  unfold b_X12_init_0 at hf
  have X := gX_w X2
  refine g_aload_n X dX12_init_0 rfl rfl ?_
  refine g_objInit (i9 := 0) (b := x0) X k_X12_init_oi1 k_X12_init_oi2 k_X12_init_oi3 rfl dX12_init_1 (Nat.le_of_ble_eq_true rfl) (Nat.le_of_ble_eq_true rfl) ?_
  refine g_aload_n X dX12_init_4 rfl rfl ?_
  refine g_bipush (v := (8 : Int32)) X dX12_init_5 (by decide) ?_
  refine g_bipush (v := (6 : Int32)) X dX12_init_7 (by decide) ?_
  refine g_mnew (N := 8) (K := 6) X (gN2w X2 _ (by decide +kernel)) k_X12_init_cl7 k_X12_init_acint (by decide) (by decide) (by decide) (by decide) ⟨(by decide), (by decide)⟩ dX12_init_9 (by decide) ?_
  obtain ⟨M1, hM1, hf⟩ := lw_e hf
  rw [← hM1]
  obtain ⟨hT2, hf⟩ := ck_e hf
  refine g_putR (ci := 10) 2 X cdX12 i_X12_init_X12 (by decide) k_X12_init_f9 rfl dX12_init_13 rfl hT2 (Or.inl rfl) (gnA _ _) (gfA _ _) rfl ?_
  obtain ⟨M3, hM3, hf⟩ := lw_e hf
  rw [← hM3]
  have hT4 : mT M3 x0 = 11 := by rw [hM3]; exact hT2
  refine g_aload_n X dX12_init_16 rfl rfl ?_
  refine g_bipush (v := (8 : Int32)) X dX12_init_17 (by decide) ?_
  refine g_iconst (v := (4 : Int32)) X dX12_init_19 (by decide) ?_
  refine g_mnew (N := 8) (K := 4) X (gN2w X2 _ (by decide +kernel)) k_X12_init_cl7 k_X12_init_acint (by decide) (by decide) (by decide) (by decide) ⟨(by decide), (by decide)⟩ dX12_init_20 (by decide) ?_
  obtain ⟨M5, hM5, hf⟩ := lw_e hf
  rw [← hM5]
  obtain ⟨hT6, hf⟩ := ck_e hf
  refine g_putR (ci := 10) 3 X cdX12 i_X12_init_X12 (by decide) k_X12_init_f14 rfl dX12_init_24 rfl hT6 (Or.inl rfl) (gnA _ _) (gfA _ _) rfl ?_
  obtain ⟨M7, hM7, hf⟩ := lw_e hf
  rw [← hM7]
  have hT8 : mT M7 x0 = 11 := by rw [hM7]; exact hT6
  refine g_aload_n X dX12_init_27 rfl rfl ?_
  refine g_bipush (v := (24 : Int32)) X dX12_init_28 (by decide) ?_
  refine g_bipush (v := (7 : Int32)) X dX12_init_30 (by decide) ?_
  refine g_mnew (N := 24) (K := 7) X (gN2w X2 _ (by decide +kernel)) k_X12_init_cl7 k_X12_init_acint (by decide) (by decide) (by decide) (by decide) ⟨(by decide), (by decide)⟩ dX12_init_32 (by decide) ?_
  obtain ⟨M9, hM9, hf⟩ := lw_e hf
  rw [← hM9]
  obtain ⟨hT10, hf⟩ := ck_e hf
  refine g_putR (ci := 10) 4 X cdX12 i_X12_init_X12 (by decide) k_X12_init_f17 rfl dX12_init_36 rfl hT10 (Or.inl rfl) (gnA _ _) (gfA _ _) rfl ?_
  obtain ⟨M11, hM11, hf⟩ := lw_e hf
  rw [← hM11]
  have hT12 : mT M11 x0 = 11 := by rw [hM11]; exact hT10
  refine g_aload_n X dX12_init_39 rfl rfl ?_
  refine g_bipush (v := (6 : Int32)) X dX12_init_40 (by decide) ?_
  refine g_iconst (v := (4 : Int32)) X dX12_init_42 (by decide) ?_
  refine g_mnew (N := 6) (K := 4) X (gN2w X2 _ (by decide +kernel)) k_X12_init_cl7 k_X12_init_acint (by decide) (by decide) (by decide) (by decide) ⟨(by decide), (by decide)⟩ dX12_init_43 (by decide) ?_
  obtain ⟨M13, hM13, hf⟩ := lw_e hf
  rw [← hM13]
  obtain ⟨hT14, hf⟩ := ck_e hf
  refine g_putR (ci := 10) 6 X cdX12 i_X12_init_X12 (by decide) k_X12_init_f20 rfl dX12_init_47 rfl hT14 (Or.inl rfl) (gnA _ _) (gfA _ _) rfl ?_
  obtain ⟨M15, hM15, hf⟩ := lw_e hf
  rw [← hM15]
  have hT16 : mT M15 x0 = 11 := by rw [hM15]; exact hT14
  refine g_aload_n X dX12_init_50 rfl rfl ?_
  refine g_bipush (v := (6 : Int32)) X dX12_init_51 (by decide) ?_
  refine g_anewA X (gN2w X2 _ (by decide +kernel)) k_X12_init_cl23 (by decide) (by decide) ⟨(by decide), (by decide)⟩ dX12_init_53 ?_
  obtain ⟨M17, hM17, hf⟩ := lw_e hf
  rw [← hM17]
  obtain ⟨hT18, hf⟩ := ck_e hf
  refine g_putR (ci := 10) 7 X cdX12 i_X12_init_X12 (by decide) k_X12_init_f25 rfl dX12_init_56 rfl hT18 (Or.inl rfl) (gnA _ _) (gfA _ _) rfl ?_
  obtain ⟨M19, hM19, hf⟩ := lw_e hf
  rw [← hM19]
  have hT20 : mT M19 x0 = 11 := by rw [hM19]; exact hT18
  refine g_aload_n X dX12_init_59 rfl rfl ?_
  refine g_lconst (v := (1 : Int64)) X dX12_init_60 (by decide) ?_
  refine g_putJ (ci := 10) 10 X cdX12 i_X12_init_X12 (by decide) k_X12_init_f28 rfl dX12_init_61 rfl hT20 (Or.inl rfl) rfl rfl rfl ?_
  obtain ⟨M21, hM21, hf⟩ := lw_e hf
  rw [← hM21]
  have hT22 : mT M21 x0 = 11 := by rw [hM21]; exact hT20
  refine g_aload_n X dX12_init_64 rfl rfl ?_
  refine g_bipush (v := (8 : Int32)) X dX12_init_65 (by decide) ?_
  refine g_newa (at' := .int) (t0 := 0) X k_X12_init_acint (by exact Or.inl ⟨rfl, rfl⟩) (by decide) (by decide) ⟨(by decide), (by decide)⟩ dX12_init_67 ?_
  obtain ⟨M23, hM23, hf⟩ := lw_e hf
  rw [← hM23]
  obtain ⟨hT24, hf⟩ := ck_e hf
  refine g_putR (ci := 10) 11 X cdX12 i_X12_init_X12 (by decide) k_X12_init_f32 rfl dX12_init_69 rfl hT24 (Or.inl rfl) (gnA _ _) (gfA _ _) rfl ?_
  obtain ⟨M25, hM25, hf⟩ := lw_e hf
  rw [← hM25]
  have hT26 : mT M25 x0 = 11 := by rw [hM25]; exact hT24
  refine g_aload_n X dX12_init_72 rfl rfl ?_
  refine g_bipush (v := (8 : Int32)) X dX12_init_73 (by decide) ?_
  refine g_bipush (v := (8 : Int32)) X dX12_init_75 (by decide) ?_
  refine g_mnew (N := 8) (K := 8) X (gN2w X2 _ (by decide +kernel)) k_X12_init_cl7 k_X12_init_acint (by decide) (by decide) (by decide) (by decide) ⟨(by decide), (by decide)⟩ dX12_init_77 (by decide) ?_
  obtain ⟨M27, hM27, hf⟩ := lw_e hf
  rw [← hM27]
  obtain ⟨hT28, hf⟩ := ck_e hf
  refine g_putR (ci := 10) 12 X cdX12 i_X12_init_X12 (by decide) k_X12_init_f35 rfl dX12_init_81 rfl hT28 (Or.inl rfl) (gnA _ _) (gfA _ _) rfl ?_
  obtain ⟨M29, hM29, hf⟩ := lw_e hf
  rw [← hM29]
  have hT30 : mT M29 x0 = 11 := by rw [hM29]; exact hT28
  refine g_aload_n X dX12_init_84 rfl rfl ?_
  refine g_bipush (v := (8 : Int32)) X dX12_init_85 (by decide) ?_
  refine g_newa (at' := .int) (t0 := 0) X k_X12_init_acint (by exact Or.inl ⟨rfl, rfl⟩) (by decide) (by decide) ⟨(by decide), (by decide)⟩ dX12_init_87 ?_
  obtain ⟨M31, hM31, hf⟩ := lw_e hf
  rw [← hM31]
  obtain ⟨hT32, hf⟩ := ck_e hf
  refine g_putR (ci := 10) 13 X cdX12 i_X12_init_X12 (by decide) k_X12_init_f38 rfl dX12_init_89 rfl hT32 (Or.inl rfl) (gnA _ _) (gfA _ _) rfl ?_
  obtain ⟨M33, hM33, hf⟩ := lw_e hf
  rw [← hM33]
  have hT34 : mT M33 x0 = 11 := by rw [hM33]; exact hT32
  refine g_aload_n X dX12_init_92 rfl rfl ?_
  refine g_bipush (v := (8 : Int32)) X dX12_init_93 (by decide) ?_
  refine g_newa (at' := .int) (t0 := 0) X k_X12_init_acint (by exact Or.inl ⟨rfl, rfl⟩) (by decide) (by decide) ⟨(by decide), (by decide)⟩ dX12_init_95 ?_
  obtain ⟨M35, hM35, hf⟩ := lw_e hf
  rw [← hM35]
  obtain ⟨hT36, hf⟩ := ck_e hf
  refine g_putR (ci := 10) 14 X cdX12 i_X12_init_X12 (by decide) k_X12_init_f41 rfl dX12_init_97 rfl hT36 (Or.inl rfl) (gnA _ _) (gfA _ _) rfl ?_
  obtain ⟨M37, hM37, hf⟩ := lw_e hf
  rw [← hM37]
  have hT38 : mT M37 x0 = 11 := by rw [hM37]; exact hT36
  refine g_aload_n X dX12_init_100 rfl rfl ?_
  refine g_bipush (v := (8 : Int32)) X dX12_init_101 (by decide) ?_
  refine g_newa (at' := .int) (t0 := 0) X k_X12_init_acint (by exact Or.inl ⟨rfl, rfl⟩) (by decide) (by decide) ⟨(by decide), (by decide)⟩ dX12_init_103 ?_
  obtain ⟨M39, hM39, hf⟩ := lw_e hf
  rw [← hM39]
  refine g_dup X dX12_init_105 rfl ?_
  refine g_iconst (v := (0 : Int32)) X dX12_init_106 (by decide) ?_
  refine g_iconst (v := (-1 : Int32)) X dX12_init_107 (by decide) ?_
  obtain ⟨hT40, hf⟩ := ck_e hf
  obtain ⟨hg41, hf⟩ := ck_e hf
  refine g_iast X dX12_init_108 rfl hT40 hg41 ?_
  obtain ⟨M42, hM42, hf⟩ := lw_e hf
  rw [← hM42]
  have hT43 : mT M42 (mN M37) = 20 := by rw [hM42]; exact hT40
  refine g_dup X dX12_init_109 rfl ?_
  refine g_iconst (v := (1 : Int32)) X dX12_init_110 (by decide) ?_
  refine g_iconst (v := (-1 : Int32)) X dX12_init_111 (by decide) ?_
  obtain ⟨hg44, hf⟩ := ck_e hf
  refine g_iast X dX12_init_112 rfl hT43 hg44 ?_
  obtain ⟨M45, hM45, hf⟩ := lw_e hf
  rw [← hM45]
  have hT46 : mT M45 (mN M37) = 20 := by rw [hM45]; exact hT43
  refine g_dup X dX12_init_113 rfl ?_
  refine g_iconst (v := (2 : Int32)) X dX12_init_114 (by decide) ?_
  refine g_iconst (v := (-1 : Int32)) X dX12_init_115 (by decide) ?_
  obtain ⟨hg47, hf⟩ := ck_e hf
  refine g_iast X dX12_init_116 rfl hT46 hg47 ?_
  obtain ⟨M48, hM48, hf⟩ := lw_e hf
  rw [← hM48]
  have hT49 : mT M48 (mN M37) = 20 := by rw [hM48]; exact hT46
  refine g_dup X dX12_init_117 rfl ?_
  refine g_iconst (v := (3 : Int32)) X dX12_init_118 (by decide) ?_
  refine g_iconst (v := (-1 : Int32)) X dX12_init_119 (by decide) ?_
  obtain ⟨hg50, hf⟩ := ck_e hf
  refine g_iast X dX12_init_120 rfl hT49 hg50 ?_
  obtain ⟨M51, hM51, hf⟩ := lw_e hf
  rw [← hM51]
  have hT52 : mT M51 (mN M37) = 20 := by rw [hM51]; exact hT49
  refine g_dup X dX12_init_121 rfl ?_
  refine g_iconst (v := (4 : Int32)) X dX12_init_122 (by decide) ?_
  refine g_iconst (v := (-1 : Int32)) X dX12_init_123 (by decide) ?_
  obtain ⟨hg53, hf⟩ := ck_e hf
  refine g_iast X dX12_init_124 rfl hT52 hg53 ?_
  obtain ⟨M54, hM54, hf⟩ := lw_e hf
  rw [← hM54]
  have hT55 : mT M54 (mN M37) = 20 := by rw [hM54]; exact hT52
  refine g_dup X dX12_init_125 rfl ?_
  refine g_iconst (v := (5 : Int32)) X dX12_init_126 (by decide) ?_
  refine g_iconst (v := (-1 : Int32)) X dX12_init_127 (by decide) ?_
  obtain ⟨hg56, hf⟩ := ck_e hf
  refine g_iast X dX12_init_128 rfl hT55 hg56 ?_
  obtain ⟨M57, hM57, hf⟩ := lw_e hf
  rw [← hM57]
  have hT58 : mT M57 (mN M37) = 20 := by rw [hM57]; exact hT55
  refine g_dup X dX12_init_129 rfl ?_
  refine g_bipush (v := (6 : Int32)) X dX12_init_130 (by decide) ?_
  refine g_iconst (v := (-1 : Int32)) X dX12_init_132 (by decide) ?_
  obtain ⟨hg59, hf⟩ := ck_e hf
  refine g_iast X dX12_init_133 rfl hT58 hg59 ?_
  obtain ⟨M60, hM60, hf⟩ := lw_e hf
  rw [← hM60]
  have hT61 : mT M60 (mN M37) = 20 := by rw [hM60]; exact hT58
  refine g_dup X dX12_init_134 rfl ?_
  refine g_bipush (v := (7 : Int32)) X dX12_init_135 (by decide) ?_
  refine g_iconst (v := (-1 : Int32)) X dX12_init_137 (by decide) ?_
  obtain ⟨hg62, hf⟩ := ck_e hf
  refine g_iast X dX12_init_138 rfl hT61 hg62 ?_
  obtain ⟨M63, hM63, hf⟩ := lw_e hf
  rw [← hM63]
  have hT64 : mT M63 (mN M37) = 20 := by rw [hM63]; exact hT61
  obtain ⟨hT65, hf⟩ := ck_e hf
  refine g_putR (ci := 10) 15 X cdX12 i_X12_init_X12 (by decide) k_X12_init_f44 rfl dX12_init_139 rfl hT65 (Or.inl rfl) (gnA _ _) (gfA _ _) rfl ?_
  obtain ⟨M66, hM66, hf⟩ := lw_e hf
  rw [← hM66]
  have hT67 : mT M66 (mN M37) = 20 := by rw [hM66]; exact hT64
  have hT68 : mT M66 x0 = 11 := by rw [hM66]; exact hT65
  refine g_aload_n X dX12_init_142 rfl rfl ?_
  refine g_bipush (v := (8 : Int32)) X dX12_init_143 (by decide) ?_
  refine g_newa (at' := .int) (t0 := 0) X k_X12_init_acint (by exact Or.inl ⟨rfl, rfl⟩) (by decide) (by decide) ⟨(by decide), (by decide)⟩ dX12_init_145 ?_
  obtain ⟨M69, hM69, hf⟩ := lw_e hf
  rw [← hM69]
  obtain ⟨hT70, hf⟩ := ck_e hf
  refine g_putR (ci := 10) 16 X cdX12 i_X12_init_X12 (by decide) k_X12_init_f47 rfl dX12_init_147 rfl hT70 (Or.inl rfl) (gnA _ _) (gfA _ _) rfl ?_
  obtain ⟨M71, hM71, hf⟩ := lw_e hf
  rw [← hM71]
  have hT72 : mT M71 x0 = 11 := by rw [hM71]; exact hT70
  refine g_aload_n X dX12_init_150 rfl rfl ?_
  refine g_bipush (v := (8 : Int32)) X dX12_init_151 (by decide) ?_
  refine g_newa (at' := .boolean) (t0 := 0) X k_X12_init_acboolean (by exact Or.inr (Or.inr (Or.inr ⟨rfl, rfl⟩))) (by decide) (by decide) ⟨(by decide), (by decide)⟩ dX12_init_153 ?_
  obtain ⟨M73, hM73, hf⟩ := lw_e hf
  rw [← hM73]
  obtain ⟨hT74, hf⟩ := ck_e hf
  refine g_putR (ci := 10) 17 X cdX12 i_X12_init_X12 (by decide) k_X12_init_f50 rfl dX12_init_155 rfl hT74 (Or.inl rfl) (gnA _ _) (gfA _ _) rfl ?_
  obtain ⟨M75, hM75, hf⟩ := lw_e hf
  rw [← hM75]
  have hT76 : mT M75 x0 = 11 := by rw [hM75]; exact hT74
  refine g_aload_n X dX12_init_158 rfl rfl ?_
  refine g_bipush (v := (6 : Int32)) X dX12_init_159 (by decide) ?_
  refine g_iconst (v := (3 : Int32)) X dX12_init_161 (by decide) ?_
  refine g_mnew (N := 6) (K := 3) X (gN2w X2 _ (by decide +kernel)) k_X12_init_cl7 k_X12_init_acint (by decide) (by decide) (by decide) (by decide) ⟨(by decide), (by decide)⟩ dX12_init_162 (by decide) ?_
  obtain ⟨M77, hM77, hf⟩ := lw_e hf
  rw [← hM77]
  obtain ⟨hT78, hf⟩ := ck_e hf
  refine g_putR (ci := 10) 18 X cdX12 i_X12_init_X12 (by decide) k_X12_init_f54 rfl dX12_init_166 rfl hT78 (Or.inl rfl) (gnA _ _) (gfA _ _) rfl ?_
  obtain ⟨M79, hM79, hf⟩ := lw_e hf
  rw [← hM79]
  have hT80 : mT M79 x0 = 11 := by rw [hM79]; exact hT78
  refine g_aload_n X dX12_init_169 rfl rfl ?_
  refine g_bipush (v := (8 : Int32)) X dX12_init_170 (by decide) ?_
  refine g_newa (at' := .int) (t0 := 0) X k_X12_init_acint (by exact Or.inl ⟨rfl, rfl⟩) (by decide) (by decide) ⟨(by decide), (by decide)⟩ dX12_init_172 ?_
  obtain ⟨M81, hM81, hf⟩ := lw_e hf
  rw [← hM81]
  obtain ⟨hT82, hf⟩ := ck_e hf
  refine g_putR (ci := 10) 19 X cdX12 i_X12_init_X12 (by decide) k_X12_init_f57 rfl dX12_init_174 rfl hT82 (Or.inl rfl) (gnA _ _) (gfA _ _) rfl ?_
  obtain ⟨M83, hM83, hf⟩ := lw_e hf
  rw [← hM83]
  have hT84 : mT M83 x0 = 11 := by rw [hM83]; exact hT82
  cases hf
  refine g_eqQ hK ?_
  exact g_vret X hr dX12_init_177
set_option maxHeartbeats 4000000 in
set_option maxRecDepth 100000 in
theorem m_X12_init (l : Launch) {D : va_G} {cy : Nat → ClassId} {B : Nat} {H0 : Heap} {Z : Nat → Nat} {M M1 : gMem} {x0 : Nat} {r : Unit} (hf : f_X12_init M x0 = some (r, M1)) : Met l yX12_init wsX12_init rX12_init (va_Pc (Value.ref x0 :: List.map gv []) (gPre D cy B H0 (gSt2 Z B H0) M)) (gQ D cy B H0 none M1) 74 476 (gA B) := by
  refine Met.ofW (cc := cX12_init) (maxL := 1) (ret := none) (by decide) rfl ?_
  intro p e s m args below meth c s₁ Bd hml hv
  obtain ⟨rfl, hW, hKK, hFs⟩ := hv
  have X2 : gX p s m _ meth c D cy B (gSt2 Z B H0) RX12 cX12_init wsX12_init 1 := ⟨Bd.exec, Bd.bytes, atoms_spec (ws := wsX12_init) Bd.pre, findClass_of_methodNamed Bd.named, hml, hKK, by rw [hW.1]; exact hW.2.1, Bd.notSynchronized, hFs⟩
  have hr := Bd.returns
  have hin : meth.name = "<init>" := (name_of_methodNamed Bd.named Bd.method).1
  have hl := lv_entry ([.ref x0]) (n := 1) (Nat.le_of_ble_eq_true rfl)
  show W p l e rX12_init s m _ below meth c s.heap [] 0 0 _ (entryFrame m ([.ref x0] : List Value).toArray 1)
  rw [lg_entry_eq]
  generalize (lg_sl ([.ref x0]) ++ List.replicate (1 - (lg_sl ([.ref x0])).length) Slot.unset).toArray = ls at hl ⊢
  have hl : lv_has ls 1 (List.map gq [(0, vR (some x0))]) := hl
  exact t_X12_init_0 X2 hr hin _ _ _ hf rfl s.heap [] ls hW va_S.rf (lv_has_sub hl (lvsub_of _ _ [0] rfl))
/-! ## TideLotsLaw.below(II)I -/
theorem dL_below_0 : decode cL_below 0 = .ok (.iload_n 0, 1) := by decide +kernel
theorem dL_below_1 : decode cL_below 1 = .ok (.ldc 7, 2) := by decide +kernel
theorem dL_below_3 : decode cL_below 3 = .ok (.iand, 1) := by decide +kernel
theorem dL_below_4 : decode cL_below 4 = .ok (.iload_n 1, 1) := by decide +kernel
theorem dL_below_5 : decode cL_below 5 = .ok (.irem, 1) := by decide +kernel
theorem dL_below_6 : decode cL_below 6 = .ok (.ireturn, 1) := by decide +kernel
theorem k_L_below_c7 : Jvm.Cond.constant RL 7 (2147483647) ∈ wsL_below := by decide +kernel
abbrev rL_below : Room := { frames := 0, cells := 0, slots := 0, locals := 0 }
noncomputable def b_L_below_0 (M : gMem) (x0 : Int32) (x1 : Int32) : Option (Int32 × gMem) :=
  ck (¬ x1 = 0) <| some (((x0 &&& (2147483647 : Int32)) - (x0 &&& (2147483647 : Int32)) / x1 * x1), M)
noncomputable def f_L_below (M : gMem) (x0 : Int32) (x1 : Int32) : Option (Int32 × gMem) :=
  b_L_below_0 M x0 x1
set_option maxHeartbeats 4000000 in
set_option maxRecDepth 100000 in
theorem t_L_below_0 (X : gX p s m args meth c D cy B (gSt Z B H0) RL cL_below wsL_below 2) (hr : meth.sig.returnType = (some .int)) {Q : State → Prop} : ∀ (M : gMem) (x0 : Int32) (x1 : Int32) (z : Int32 × gMem), b_L_below_0 M x0 x1 = some z → (fun (r : Int32 × gMem) => Q = gMQ below D cy B H0 args s 0 0 (some (vI r.1)) r.2) z → gGo p l e rL_below s m args below meth c D cy B H0 2 0 0 Q 0 [(0, vI x0), (1, vI x1)] [] M := by
  intro M x0 x1 z hf hK
  unfold b_L_below_0 at hf
  refine g_iload_n X dL_below_0 rfl rfl ?_
  refine g_ldc (v := (2147483647 : Int32)) X k_L_below_c7 dL_below_1 ?_
  refine g_iand X dL_below_3 ?_
  refine g_iload_n X dL_below_4 rfl rfl ?_
  obtain ⟨hg1, hf⟩ := ck_e hf
  refine g_irem X dL_below_5 hg1 ?_
  cases hf
  refine g_eqQ hK ?_
  exact g_iret X hr dL_below_6
set_option maxHeartbeats 4000000 in
set_option maxRecDepth 100000 in
theorem m_L_below (l : Launch) {D : va_G} {cy : Nat → ClassId} {B : Nat} {H0 : Heap} {Z : Nat → Nat} {M M1 : gMem} {x0 : Int32} {x1 : Int32} {r : Int32} (hf : f_L_below M x0 x1 = some (r, M1)) : Met l yL_below wsL_below rL_below (va_Pc (List.map gv [vI x0, vI x1]) (gPre D cy B H0 (gSt Z B H0) M)) (gQ D cy B H0 (some (vI r)) M1) 0 0 (gA B) := by
  refine Met.ofW (cc := cL_below) (maxL := 2) (ret := (some .int)) (by decide) rfl ?_
  intro p e s m args below meth c s₁ Bd hml hv
  obtain ⟨rfl, hW, hKK, hFs⟩ := hv
  have X : gX p s m _ meth c D cy B (gSt Z B H0) RL cL_below wsL_below 2 := ⟨Bd.exec, Bd.bytes, atoms_spec (ws := wsL_below) Bd.pre, findClass_of_methodNamed Bd.named, hml, hKK, by rw [hW.1]; exact hW.2.1, Bd.notSynchronized, hFs⟩
  have hr := Bd.returns
  have hl := lv_entry ([.int x0, .int x1]) (n := 2) (Nat.le_of_ble_eq_true rfl)
  show W p l e rL_below s m _ below meth c s.heap [] 0 0 _ (entryFrame m ([.int x0, .int x1] : List Value).toArray 2)
  rw [lg_entry_eq]
  generalize (lg_sl ([.int x0, .int x1]) ++ List.replicate (2 - (lg_sl ([.int x0, .int x1])).length) Slot.unset).toArray = ls at hl ⊢
  have hl : lv_has ls 2 (List.map gq [(0, vI x0), (1, vI x1)]) := hl
  exact t_L_below_0 X hr _ _ _ _ hf rfl s.heap [] ls hW va_S.rf (lv_has_sub hl (lvsub_of _ _ [0, 1] rfl))
/-! ## TideLotsLaw.cell([II)I -/
theorem dL_cell_0 : decode cL_cell 0 = .ok (.iload_n 1, 1) := by decide +kernel
theorem dL_cell_1 : decode cL_cell 1 = .ok (.aload_n 0, 1) := by decide +kernel
theorem dL_cell_2 : decode cL_cell 2 = .ok (.arraylength, 1) := by decide +kernel
theorem dL_cell_3 : decode cL_cell 3 = .ok (.if_icmp .ge 9, 3) := by decide +kernel
theorem dL_cell_6 : decode cL_cell 6 = .ok (.aload_n 0, 1) := by decide +kernel
theorem dL_cell_7 : decode cL_cell 7 = .ok (.iload_n 1, 1) := by decide +kernel
theorem dL_cell_8 : decode cL_cell 8 = .ok (.iaload, 1) := by decide +kernel
theorem dL_cell_9 : decode cL_cell 9 = .ok (.goto 9, 3) := by decide +kernel
theorem dL_cell_12 : decode cL_cell 12 = .ok (.ldc 8, 2) := by decide +kernel
theorem dL_cell_14 : decode cL_cell 14 = .ok (.iload_n 1, 1) := by decide +kernel
theorem dL_cell_15 : decode cL_cell 15 = .ok (.iconst 3, 1) := by decide +kernel
theorem dL_cell_16 : decode cL_cell 16 = .ok (.iadd, 1) := by decide +kernel
theorem dL_cell_17 : decode cL_cell 17 = .ok (.imul, 1) := by decide +kernel
theorem dL_cell_18 : decode cL_cell 18 = .ok (.ireturn, 1) := by decide +kernel
theorem k_L_cell_c8 : Jvm.Cond.constant RL 8 (790386105) ∈ wsL_cell := by decide +kernel
abbrev rL_cell : Room := { frames := 0, cells := 0, slots := 0, locals := 0 }
noncomputable def b_L_cell_18 (Z : Nat → Nat) (M : gMem) (s0 : Int32) : Option (Int32 × gMem) :=
  some (s0, M)
noncomputable def b_L_cell_0 (Z : Nat → Nat) (M : gMem) (x1 : Int32) : Option (Int32 × gMem) :=
  (if (Int32.ofNat (Z 401)) ≤ x1 then b_L_cell_18 Z M (((790386105 : Int32) * (x1 + (3 : Int32)))) else ck (inb x1 (Z 401)) <| b_L_cell_18 Z M ((Int32.ofNat (Z (1000 + x1.toNatClampNeg)))))
noncomputable def f_L_cell (Z : Nat → Nat) (M : gMem) (x1 : Int32) : Option (Int32 × gMem) :=
  b_L_cell_0 Z M x1
set_option maxHeartbeats 4000000 in
set_option maxRecDepth 100000 in
theorem t_L_cell_18 (X2 : gX p s m args meth c D cy B (gSt2 Z B H0) RL cL_cell wsL_cell 2) (hr : meth.sig.returnType = (some .int)) {Q : State → Prop} : ∀ (M : gMem) (s0 : Int32) (z : Int32 × gMem), b_L_cell_18 Z M s0 = some z → (fun (r : Int32 × gMem) => Q = gMQ below D cy B H0 args s 0 0 (some (vI r.1)) r.2) z → gGo p l e rL_cell s m args below meth c D cy B H0 2 0 0 Q 18 [] [vI s0] M := by
  intro M s0 z hf hK
  unfold b_L_cell_18 at hf
  have X := gX_w X2
  cases hf
  refine g_eqQ hK ?_
  exact g_iret X hr dL_cell_18
set_option maxHeartbeats 4000000 in
set_option maxRecDepth 100000 in
theorem t_L_cell_0 (X2 : gX p s m args meth c D cy B (gSt2 Z B H0) RL cL_cell wsL_cell 2) (hr : meth.sig.returnType = (some .int)) {Q : State → Prop} : ∀ (M : gMem) (x1 : Int32) (z : Int32 × gMem), b_L_cell_0 Z M x1 = some z → (fun (r : Int32 × gMem) => Q = gMQ below D cy B H0 args s 0 0 (some (vI r.1)) r.2) z → gGo p l e rL_cell s m args below meth c D cy B H0 2 0 0 Q 0 [(0, vR (some (Z 400))), (1, vI x1)] [] M := by
  intro M x1 z hf hK
  unfold b_L_cell_0 at hf
  have X := gX_w X2
  refine g_iload_n X dL_cell_0 rfl rfl ?_
  refine g_aload_n X dL_cell_1 rfl rfl ?_
  refine g_alenT X (gSt2_scr X2) rfl dL_cell_2 ?_
  refine g_icmp_ge (tgt := 12) X dL_cell_3 (by decide) (fun hc => ?_) (fun hc => ?_)
  · have hf := ife_t hc hf
    refine g_ldc (v := (790386105 : Int32)) X k_L_cell_c8 dL_cell_12 ?_
    refine g_iload_n X dL_cell_14 rfl rfl ?_
    refine g_iconst (v := (3 : Int32)) X dL_cell_15 (by decide) ?_
    refine g_iadd X dL_cell_16 ?_
    refine g_imul X dL_cell_17 ?_
    refine g_sub (lvsub_of _ _ [] rfl) ?_
    exact t_L_cell_18 X2 hr _ _ _ hf hK
  · have hf := ife_f hc hf
    refine g_aload_n X dL_cell_6 rfl rfl ?_
    refine g_iload_n X dL_cell_7 rfl rfl ?_
    obtain ⟨hg1, hf⟩ := ck_e hf
    refine g_ialdT (w := (Int32.ofNat (Z (1000 + x1.toNatClampNeg)))) X (gSt2_scr X2) rfl (gin_nn hg1) (gin_lt hg1) rfl dL_cell_8 ?_
    refine g_goto (tgt := 18) X dL_cell_9 (by decide) ?_
    refine g_sub (lvsub_of _ _ [] rfl) ?_
    exact t_L_cell_18 X2 hr _ _ _ hf hK
set_option maxHeartbeats 4000000 in
set_option maxRecDepth 100000 in
theorem m_L_cell (l : Launch) {D : va_G} {cy : Nat → ClassId} {B : Nat} {H0 : Heap} {Z : Nat → Nat} {M M1 : gMem} {x1 : Int32} {r : Int32} (hf : f_L_cell Z M x1 = some (r, M1)) : Met l yL_cell wsL_cell rL_cell (va_Pc (List.map gv [vR (some (Z 400)), vI x1]) (gPre D cy B H0 (gSt2 Z B H0) M)) (gQ D cy B H0 (some (vI r)) M1) 0 0 (gA B) := by
  refine Met.ofW (cc := cL_cell) (maxL := 2) (ret := (some .int)) (by decide) rfl ?_
  intro p e s m args below meth c s₁ Bd hml hv
  obtain ⟨rfl, hW, hKK, hFs⟩ := hv
  have X2 : gX p s m _ meth c D cy B (gSt2 Z B H0) RL cL_cell wsL_cell 2 := ⟨Bd.exec, Bd.bytes, atoms_spec (ws := wsL_cell) Bd.pre, findClass_of_methodNamed Bd.named, hml, hKK, by rw [hW.1]; exact hW.2.1, Bd.notSynchronized, hFs⟩
  have hr := Bd.returns
  have hl := lv_entry ([.ref (Z 400), .int x1]) (n := 2) (Nat.le_of_ble_eq_true rfl)
  show W p l e rL_cell s m _ below meth c s.heap [] 0 0 _ (entryFrame m ([.ref (Z 400), .int x1] : List Value).toArray 2)
  rw [lg_entry_eq]
  generalize (lg_sl ([.ref (Z 400), .int x1]) ++ List.replicate (2 - (lg_sl ([.ref (Z 400), .int x1])).length) Slot.unset).toArray = ls at hl ⊢
  have hl : lv_has ls 2 (List.map gq [(0, vR (some (Z 400))), (1, vI x1)]) := hl
  exact t_L_cell_0 X2 hr _ _ _ hf rfl s.heap [] ls hW va_S.rf (lv_has_sub hl (lvsub_of _ _ [0, 1] rfl))
/-! ## TideLotsLaw.taught(LTideLots;Ljava/lang/String;)I -/
theorem dL_taught_0 : decode cL_taught 0 = .ok (.iconst 5, 1) := by decide +kernel
theorem dL_taught_1 : decode cL_taught 1 = .ok (.newarray .int, 2) := by decide +kernel
theorem dL_taught_3 : decode cL_taught 3 = .ok (.astore_n 2, 1) := by decide +kernel
theorem dL_taught_4 : decode cL_taught 4 = .ok (.aload_n 0, 1) := by decide +kernel
theorem dL_taught_5 : decode cL_taught 5 = .ok (.iconst 0, 1) := by decide +kernel
theorem dL_taught_6 : decode cL_taught 6 = .ok (.invokevirtual 9, 3) := by decide +kernel
theorem dL_taught_9 : decode cL_taught 9 = .ok (.pop, 1) := by decide +kernel
theorem dL_taught_10 : decode cL_taught 10 = .ok (.iconst 0, 1) := by decide +kernel
theorem dL_taught_11 : decode cL_taught 11 = .ok (.istore_n 3, 1) := by decide +kernel
theorem dL_taught_12 : decode cL_taught 12 = .ok (.iload_n 3, 1) := by decide +kernel
theorem dL_taught_13 : decode cL_taught 13 = .ok (.aload_n 1, 1) := by decide +kernel
theorem dL_taught_14 : decode cL_taught 14 = .ok (.invokevirtual 15, 3) := by decide +kernel
theorem dL_taught_17 : decode cL_taught 17 = .ok (.if_icmp .ge 85, 3) := by decide +kernel
theorem dL_taught_20 : decode cL_taught 20 = .ok (.iconst 0, 1) := by decide +kernel
theorem dL_taught_21 : decode cL_taught 21 = .ok (.istore 4, 2) := by decide +kernel
theorem dL_taught_23 : decode cL_taught 23 = .ok (.iload 4, 2) := by decide +kernel
theorem dL_taught_25 : decode cL_taught 25 = .ok (.bipush 20, 2) := by decide +kernel
theorem dL_taught_27 : decode cL_taught 27 = .ok (.if_icmp .ge 49, 3) := by decide +kernel
theorem dL_taught_30 : decode cL_taught 30 = .ok (.aload_n 2, 1) := by decide +kernel
theorem dL_taught_31 : decode cL_taught 31 = .ok (.iload 4, 2) := by decide +kernel
theorem dL_taught_33 : decode cL_taught 33 = .ok (.iconst 4, 1) := by decide +kernel
theorem dL_taught_34 : decode cL_taught 34 = .ok (.idiv, 1) := by decide +kernel
theorem dL_taught_35 : decode cL_taught 35 = .ok (.aload_n 2, 1) := by decide +kernel
theorem dL_taught_36 : decode cL_taught 36 = .ok (.iload 4, 2) := by decide +kernel
theorem dL_taught_38 : decode cL_taught 38 = .ok (.iconst 4, 1) := by decide +kernel
theorem dL_taught_39 : decode cL_taught 39 = .ok (.idiv, 1) := by decide +kernel
theorem dL_taught_40 : decode cL_taught 40 = .ok (.iaload, 1) := by decide +kernel
theorem dL_taught_41 : decode cL_taught 41 = .ok (.bipush 8, 2) := by decide +kernel
theorem dL_taught_43 : decode cL_taught 43 = .ok (.ishl, 1) := by decide +kernel
theorem dL_taught_44 : decode cL_taught 44 = .ok (.iload_n 3, 1) := by decide +kernel
theorem dL_taught_45 : decode cL_taught 45 = .ok (.iload 4, 2) := by decide +kernel
theorem dL_taught_47 : decode cL_taught 47 = .ok (.iadd, 1) := by decide +kernel
theorem dL_taught_48 : decode cL_taught 48 = .ok (.aload_n 1, 1) := by decide +kernel
theorem dL_taught_49 : decode cL_taught 49 = .ok (.invokevirtual 15, 3) := by decide +kernel
theorem dL_taught_52 : decode cL_taught 52 = .ok (.if_icmp .ge 14, 3) := by decide +kernel
theorem dL_taught_55 : decode cL_taught 55 = .ok (.aload_n 1, 1) := by decide +kernel
theorem dL_taught_56 : decode cL_taught 56 = .ok (.iload_n 3, 1) := by decide +kernel
theorem dL_taught_57 : decode cL_taught 57 = .ok (.iload 4, 2) := by decide +kernel
theorem dL_taught_59 : decode cL_taught 59 = .ok (.iadd, 1) := by decide +kernel
theorem dL_taught_60 : decode cL_taught 60 = .ok (.invokevirtual 21, 3) := by decide +kernel
theorem dL_taught_63 : decode cL_taught 63 = .ok (.goto 5, 3) := by decide +kernel
theorem dL_taught_66 : decode cL_taught 66 = .ok (.bipush 32, 2) := by decide +kernel
theorem dL_taught_68 : decode cL_taught 68 = .ok (.ior, 1) := by decide +kernel
theorem dL_taught_69 : decode cL_taught 69 = .ok (.iastore, 1) := by decide +kernel
theorem dL_taught_70 : decode cL_taught 70 = .ok (.iinc 4 1, 3) := by decide +kernel
theorem dL_taught_73 : decode cL_taught 73 = .ok (.goto (-50), 3) := by decide +kernel
theorem dL_taught_76 : decode cL_taught 76 = .ok (.aload_n 0, 1) := by decide +kernel
theorem dL_taught_77 : decode cL_taught 77 = .ok (.aload_n 2, 1) := by decide +kernel
theorem dL_taught_78 : decode cL_taught 78 = .ok (.iconst 0, 1) := by decide +kernel
theorem dL_taught_79 : decode cL_taught 79 = .ok (.iaload, 1) := by decide +kernel
theorem dL_taught_80 : decode cL_taught 80 = .ok (.aload_n 2, 1) := by decide +kernel
theorem dL_taught_81 : decode cL_taught 81 = .ok (.iconst 1, 1) := by decide +kernel
theorem dL_taught_82 : decode cL_taught 82 = .ok (.iaload, 1) := by decide +kernel
theorem dL_taught_83 : decode cL_taught 83 = .ok (.aload_n 2, 1) := by decide +kernel
theorem dL_taught_84 : decode cL_taught 84 = .ok (.iconst 2, 1) := by decide +kernel
theorem dL_taught_85 : decode cL_taught 85 = .ok (.iaload, 1) := by decide +kernel
theorem dL_taught_86 : decode cL_taught 86 = .ok (.aload_n 2, 1) := by decide +kernel
theorem dL_taught_87 : decode cL_taught 87 = .ok (.iconst 3, 1) := by decide +kernel
theorem dL_taught_88 : decode cL_taught 88 = .ok (.iaload, 1) := by decide +kernel
theorem dL_taught_89 : decode cL_taught 89 = .ok (.aload_n 2, 1) := by decide +kernel
theorem dL_taught_90 : decode cL_taught 90 = .ok (.iconst 4, 1) := by decide +kernel
theorem dL_taught_91 : decode cL_taught 91 = .ok (.iaload, 1) := by decide +kernel
theorem dL_taught_92 : decode cL_taught 92 = .ok (.invokevirtual 25, 3) := by decide +kernel
theorem dL_taught_95 : decode cL_taught 95 = .ok (.pop, 1) := by decide +kernel
theorem dL_taught_96 : decode cL_taught 96 = .ok (.iinc 3 20, 3) := by decide +kernel
theorem dL_taught_99 : decode cL_taught 99 = .ok (.goto (-87), 3) := by decide +kernel
theorem dL_taught_102 : decode cL_taught 102 = .ok (.aload_n 0, 1) := by decide +kernel
theorem dL_taught_103 : decode cL_taught 103 = .ok (.aload_n 1, 1) := by decide +kernel
theorem dL_taught_104 : decode cL_taught 104 = .ok (.invokevirtual 15, 3) := by decide +kernel
theorem dL_taught_107 : decode cL_taught 107 = .ok (.invokevirtual 9, 3) := by decide +kernel
theorem dL_taught_110 : decode cL_taught 110 = .ok (.pop, 1) := by decide +kernel
theorem dL_taught_111 : decode cL_taught 111 = .ok (.aload_n 0, 1) := by decide +kernel
theorem dL_taught_112 : decode cL_taught 112 = .ok (.invokevirtual 29, 3) := by decide +kernel
theorem dL_taught_115 : decode cL_taught 115 = .ok (.ireturn, 1) := by decide +kernel
set_option maxRecDepth 20000 in
theorem ggL_taught_X11_feed : GoodIn wsL_taught wsX11_feed := goodIn_ca (goodIn_r _ [63, 64, 65, 9, 10, 66, 67, 68, 69, 70, 71, 72, 412, 413, 414, 415, 416, 417, 418, 419, 420, 421] (by decide +kernel) (by decide +kernel)) (goodIn_sub (fun _ h => List.mem_cons_of_mem _ (List.mem_append_right _ h)) (by decide +kernel))
set_option maxRecDepth 20000 in
theorem gL_taught_X11_feed : GoodIn wsL_taught (wsV RL 25 RX11 yX11_feed wsX11_feed) := goodIn_app (goodIn_of _ (by decide +kernel)) ggL_taught_X11_feed
set_option maxRecDepth 20000 in
theorem ggL_taught_J0_length_8abf5 : GoodIn wsL_taught wsJ0_length_8abf5 := goodIn_r _ [15, 16, 17, 18, 19, 14, 20, 21, 22, 422, 423, 424, 425] (by decide +kernel) (by decide +kernel)
set_option maxRecDepth 20000 in
theorem gL_taught_J0_length_8abf5 : GoodIn wsL_taught (wsV RL 15 RJ0 yJ0_length_8abf5 wsJ0_length_8abf5) := goodIn_app (goodIn_of _ (by decide +kernel)) ggL_taught_J0_length_8abf5
set_option maxRecDepth 20000 in
theorem ggL_taught_J0_charAt_5068e : GoodIn wsL_taught wsJ0_charAt_5068e := goodIn_2 24 (goodIn_r _ [26, 16, 27, 28, 29, 14, 30, 21, 22, 31, 32, 33, 34, 35, 36, 37, 38, 39, 40, 41, 42, 43, 44, 45] (by decide +kernel) (by decide +kernel)) (goodIn_r _ [46, 47, 48, 49, 50, 51, 52, 53, 54, 55, 56, 57, 58, 59, 422, 423, 424, 425] (by decide +kernel) (by decide +kernel))
set_option maxRecDepth 20000 in
theorem gL_taught_J0_charAt_5068e : GoodIn wsL_taught (wsV RL 21 RJ0 yJ0_charAt_5068e wsJ0_charAt_5068e) := goodIn_app (goodIn_of _ (by decide +kernel)) ggL_taught_J0_charAt_5068e
set_option maxRecDepth 20000 in
theorem ggL_taught_X11_trim : GoodIn wsL_taught wsX11_trim := goodIn_ca (goodIn_r _ [6, 7, 8, 9, 10, 412, 413, 414, 415, 416, 417, 418, 419, 420, 421] (by decide +kernel) (by decide +kernel)) (goodIn_sub (fun _ h => List.mem_cons_of_mem _ (List.mem_append_left _ (List.mem_append_right _ h))) (by decide +kernel))
set_option maxRecDepth 20000 in
theorem gL_taught_X11_trim : GoodIn wsL_taught (wsV RL 9 RX11 yX11_trim wsX11_trim) := goodIn_app (goodIn_of _ (by decide +kernel)) ggL_taught_X11_trim
set_option maxRecDepth 20000 in
theorem ggL_taught_X11_teach_c : GoodIn wsL_taught [.code yX11_teach cX11_teach 4 (some .int)] := goodIn_r _ [76] (by decide +kernel) (by decide +kernel)
set_option maxRecDepth 20000 in
theorem ggL_taught_X11_teach_wsX11_teach_r1 : GoodIn wsL_taught wsX11_teach_r1 := goodIn_r _ [9, 77, 78, 79, 80, 81, 82, 10, 83, 84, 85, 86, 87, 88, 69, 89, 90, 91, 92, 71, 93, 94, 95, 96] (by decide +kernel) (by decide +kernel)
set_option maxRecDepth 20000 in
theorem ggL_taught_X11_teach_wsX11_teach_r2 : GoodIn wsL_taught wsX11_teach_r2 := goodIn_r _ [97, 98, 99, 100, 101, 102, 72, 103, 104, 105, 106, 107, 108, 109, 110, 111, 112, 113, 114, 115, 116, 117, 118, 119] (by decide +kernel) (by decide +kernel)
set_option maxRecDepth 20000 in
theorem ggL_taught_X11_teach_wsX11_teach_r3 : GoodIn wsL_taught wsX11_teach_r3 := goodIn_r _ [120, 121, 122, 123, 124, 125, 126, 127, 128, 129, 130, 131, 12, 13, 14, 15, 16, 17, 18, 19, 20, 21, 22, 132] (by decide +kernel) (by decide +kernel)
set_option maxRecDepth 20000 in
theorem ggL_taught_X11_teach_wsX11_teach_r4 : GoodIn wsL_taught wsX11_teach_r4 := goodIn_r _ [24, 25, 26, 27, 28, 29, 30, 31, 32, 33, 34, 35, 36, 37, 38, 39, 40, 41, 42, 43, 44, 45, 46, 47] (by decide +kernel) (by decide +kernel)
set_option maxRecDepth 20000 in
theorem ggL_taught_X11_teach_wsX11_teach_r5 : GoodIn wsL_taught wsX11_teach_r5 := goodIn_r _ [48, 49, 50, 51, 52, 53, 54, 55, 56, 57, 58, 59, 133, 134, 135, 136, 137, 138, 139, 140, 141, 142, 143, 144] (by decide +kernel) (by decide +kernel)
set_option maxRecDepth 20000 in
theorem ggL_taught_X11_teach_wsX11_teach_r6 : GoodIn wsL_taught wsX11_teach_r6 := goodIn_r _ [145, 146, 147, 148, 149, 150, 151, 152, 153, 154, 155, 156, 157, 158, 159, 160, 161, 162, 163, 164, 165, 166, 167, 168] (by decide +kernel) (by decide +kernel)
set_option maxRecDepth 20000 in
theorem ggL_taught_X11_teach_wsX11_teach_r7 : GoodIn wsL_taught wsX11_teach_r7 := goodIn_r _ [169, 170, 171, 172, 173, 174, 175, 176, 177, 178, 179, 180, 181, 182, 183, 184, 185, 186, 187, 188, 189, 190, 191, 192] (by decide +kernel) (by decide +kernel)
set_option maxRecDepth 20000 in
theorem ggL_taught_X11_teach_wsX11_teach_r8 : GoodIn wsL_taught wsX11_teach_r8 := goodIn_r _ [193, 194, 195, 196, 197, 198, 199, 200, 201, 202, 203, 204, 205, 206, 207, 208, 209, 210, 211, 212, 213, 214, 215, 216] (by decide +kernel) (by decide +kernel)
set_option maxRecDepth 20000 in
theorem ggL_taught_X11_teach_wsX11_teach_r9 : GoodIn wsL_taught wsX11_teach_r9 := goodIn_r _ [217, 218, 219, 220, 221, 222, 223, 224, 225, 226, 227, 228, 229, 230, 231, 232, 233, 234, 235, 236, 237, 238, 239, 240] (by decide +kernel) (by decide +kernel)
set_option maxRecDepth 20000 in
theorem ggL_taught_X11_teach_wsX11_teach_r10 : GoodIn wsL_taught wsX11_teach_r10 := goodIn_r _ [241, 242, 243, 244, 245, 246, 247, 248, 249, 250, 251, 252, 253, 254, 255, 256, 257, 258, 259, 260, 261, 262, 263, 264] (by decide +kernel) (by decide +kernel)
set_option maxRecDepth 20000 in
theorem ggL_taught_X11_teach_wsX11_teach_r11 : GoodIn wsL_taught wsX11_teach_r11 := goodIn_r _ [265, 266, 267, 268, 269, 270, 271, 272, 273, 274, 275, 276, 277, 278, 279, 280, 281, 282, 283, 284, 285, 286, 287, 288] (by decide +kernel) (by decide +kernel)
set_option maxRecDepth 20000 in
theorem ggL_taught_X11_teach_wsX11_teach_r12 : GoodIn wsL_taught wsX11_teach_r12 := goodIn_r _ [289, 290, 291, 292, 293, 294, 295, 296, 297, 298, 299, 300, 301, 302, 303, 304, 305, 306, 307, 308, 309, 310, 311, 312] (by decide +kernel) (by decide +kernel)
set_option maxRecDepth 20000 in
theorem ggL_taught_X11_teach_wsX11_teach_r13 : GoodIn wsL_taught wsX11_teach_r13 := goodIn_r _ [313, 314, 315, 316, 317, 318, 319, 320, 321, 322, 323, 324, 325, 326, 327, 328, 329, 330, 331, 332, 333, 334, 335, 336] (by decide +kernel) (by decide +kernel)
set_option maxRecDepth 20000 in
theorem ggL_taught_X11_teach_wsX11_teach_r14 : GoodIn wsL_taught wsX11_teach_r14 := goodIn_r _ [337, 338, 339, 340, 341, 342, 343, 344, 345, 346, 347, 348, 349, 350, 351, 352, 353, 354, 355, 356, 357, 358, 359, 360] (by decide +kernel) (by decide +kernel)
set_option maxRecDepth 20000 in
theorem ggL_taught_X11_teach_wsX11_teach_r15 : GoodIn wsL_taught wsX11_teach_r15 := goodIn_r _ [361, 362, 363, 364, 365, 366, 367, 368, 369, 370, 371, 372, 373, 374, 375, 376, 377, 378, 379, 380, 381, 382, 383, 384] (by decide +kernel) (by decide +kernel)
set_option maxRecDepth 20000 in
theorem ggL_taught_X11_teach_wsX11_teach_r16 : GoodIn wsL_taught wsX11_teach_r16 := goodIn_r _ [385, 386, 387, 388, 389, 390, 391, 392, 393, 394, 395, 396, 397, 398, 399, 400, 401, 402, 403, 404, 405, 406, 407, 408] (by decide +kernel) (by decide +kernel)
set_option maxRecDepth 20000 in
theorem ggL_taught_X11_teach_wsX11_teach_r17 : GoodIn wsL_taught wsX11_teach_r17 := goodIn_r _ [409, 410, 411] (by decide +kernel) (by decide +kernel)
set_option maxRecDepth 20000 in
theorem ggL_taught_X11_teach_wsX110 : GoodIn wsL_taught wsX110 := goodIn_sub (by decide +kernel) (by decide +kernel)
set_option maxRecDepth 20000 in
theorem ggL_taught_X11_teach_wsX60 : GoodIn wsL_taught wsX60 := goodIn_sub (by decide +kernel) (by decide +kernel)
set_option maxRecDepth 20000 in
theorem ggL_taught_X11_teach_wsX100 : GoodIn wsL_taught wsX100 := goodIn_sub (by decide +kernel) (by decide +kernel)
set_option maxRecDepth 20000 in
theorem ggL_taught_X11_teach_wsX70 : GoodIn wsL_taught wsX70 := goodIn_sub (by decide +kernel) (by decide +kernel)
set_option maxRecDepth 20000 in
theorem ggL_taught_X11_teach_wsJ00 : GoodIn wsL_taught wsJ00 := goodIn_sub (by decide +kernel) (by decide +kernel)
set_option maxRecDepth 20000 in
theorem ggL_taught_X11_teach_wsX40 : GoodIn wsL_taught wsX40 := goodIn_sub (by decide +kernel) (by decide +kernel)
set_option maxRecDepth 20000 in
theorem ggL_taught_X11_teach_wsX90 : GoodIn wsL_taught wsX90 := goodIn_sub (by decide +kernel) (by decide +kernel)
set_option maxRecDepth 20000 in
theorem ggL_taught_X11_teach_wsX30 : GoodIn wsL_taught wsX30 := goodIn_sub (by decide +kernel) (by decide +kernel)
set_option maxRecDepth 20000 in
theorem ggL_taught_X11_teach_wsX10 : GoodIn wsL_taught wsX10 := goodIn_sub (by decide +kernel) (by decide +kernel)
set_option maxRecDepth 20000 in
theorem ggL_taught_X11_teach_wsX20 : GoodIn wsL_taught wsX20 := goodIn_sub (by decide +kernel) (by decide +kernel)
set_option maxRecDepth 20000 in
theorem ggL_taught_X11_teach_wsX50 : GoodIn wsL_taught wsX50 := goodIn_sub (by decide +kernel) (by decide +kernel)
set_option maxRecDepth 20000 in
theorem ggL_taught_X11_teach : GoodIn wsL_taught wsX11_teach := goodIn_c1 ggL_taught_X11_teach_c (goodIn_app (goodIn_app (goodIn_app (goodIn_app (goodIn_app (goodIn_app (goodIn_app (goodIn_app (goodIn_app (goodIn_app (goodIn_app (goodIn_app ggL_taught_X11_teach_wsX11_teach_r1 (goodIn_app ggL_taught_X11_teach_wsX11_teach_r2 (goodIn_app ggL_taught_X11_teach_wsX11_teach_r3 (goodIn_app ggL_taught_X11_teach_wsX11_teach_r4 (goodIn_app ggL_taught_X11_teach_wsX11_teach_r5 (goodIn_app ggL_taught_X11_teach_wsX11_teach_r6 (goodIn_app ggL_taught_X11_teach_wsX11_teach_r7 (goodIn_app ggL_taught_X11_teach_wsX11_teach_r8 (goodIn_app ggL_taught_X11_teach_wsX11_teach_r9 (goodIn_app ggL_taught_X11_teach_wsX11_teach_r10 (goodIn_app ggL_taught_X11_teach_wsX11_teach_r11 (goodIn_app ggL_taught_X11_teach_wsX11_teach_r12 (goodIn_app ggL_taught_X11_teach_wsX11_teach_r13 (goodIn_app ggL_taught_X11_teach_wsX11_teach_r14 (goodIn_app ggL_taught_X11_teach_wsX11_teach_r15 (goodIn_app ggL_taught_X11_teach_wsX11_teach_r16 ggL_taught_X11_teach_wsX11_teach_r17)))))))))))))))) ggL_taught_X11_teach_wsX110) ggL_taught_X11_teach_wsX60) ggL_taught_X11_teach_wsX100) ggL_taught_X11_teach_wsX70) ggL_taught_X11_teach_wsJ00) ggL_taught_X11_teach_wsX40) ggL_taught_X11_teach_wsX90) ggL_taught_X11_teach_wsX30) ggL_taught_X11_teach_wsX10) ggL_taught_X11_teach_wsX20) ggL_taught_X11_teach_wsX50)
set_option maxRecDepth 20000 in
theorem gL_taught_X11_teach : GoodIn wsL_taught (wsV RL 29 RX11 yX11_teach wsX11_teach) := goodIn_app (goodIn_of _ (by decide +kernel)) ggL_taught_X11_teach
theorem k_L_taught_acint : Cond.arrayClass .int ∈ wsL_taught := by decide +kernel
abbrev rL_taught : Room := { frames := 70, cells := 300, slots := 3000, locals := 2694 }
noncomputable def b_L_taught_68 (Z : Nat → Nat) (M : gMem) (kc : Nat) (kn : Nat) (x0 : Option Nat) (x1 : Option Nat) (x2 : Option Nat) (x3 : Int32) (x4 : Int32) (s0 : Option Nat) (s1 : Int32) (s2 : Int32) (s3 : Int32) : Option ((gMem × Nat × Nat × Int32) ⊕ ((gMem × Nat × Nat × Int32) ⊕ ((Nat ⊕ Int32) × gMem))) :=
  dr s0 fun a1 => ck (mT M a1 = 20) <| ck (inb s1 (mL M a1)) <| lw (wI M a1 s1.toNatClampNeg ((s2 ||| s3))) fun M4 => some (.inl (M4, kc, kn, (x4 + (1 : Int32))))
noncomputable def bb_L_taught_23 (Z : Nat → Nat) (M : gMem) (kc : Nat) (kn : Nat) (x0 : Option Nat) (x1 : Option Nat) (x2 : Option Nat) (x3 : Int32) (x4 : Int32) : Option ((gMem × Nat × Nat × Int32) ⊕ ((gMem × Nat × Nat × Int32) ⊕ ((Nat ⊕ Int32) × gMem))) :=
  (if (20 : Int32) ≤ x4 then dr x2 fun a6 => ck (mT M a6 = 20) <| ck (inb (0 : Int32) (mL M a6)) <| ck (inb (1 : Int32) (mL M a6)) <| ck (inb (2 : Int32) (mL M a6)) <| ck (inb (3 : Int32) (mL M a6)) <| ck (inb (4 : Int32) (mL M a6)) <| dr x0 fun a14 => ck (mT M a14 = 10) <| ck (kc + 1 ≤ 300 ∧ kn + 6 ≤ 3000) <| bx (f_X11_feed M a14 ((mI M a6 ((0 : Int32)).toNatClampNeg)) ((mI M a6 ((1 : Int32)).toNatClampNeg)) ((mI M a6 ((2 : Int32)).toNatClampNeg)) ((mI M a6 ((3 : Int32)).toNatClampNeg)) ((mI M a6 ((4 : Int32)).toNatClampNeg))) (fun e13 M13 => oI (oI (some (.inl e13, M13)))) fun r13 M13 => oI (some (.inl (M13, (kc + 1), (kn + 6), (x3 + (20 : Int32))))) else dr x2 fun a20 => ck (mT M a20 = 20) <| ck (inb (x4 / (4 : Int32)) (mL M a20)) <| dr x1 fun a24 => ck (mT M a24 = 12) <| ck (kc + 0 ≤ 300 ∧ kn + 0 ≤ 3000) <| bd (f_J0_length_8abf5_r Z M a24) fun r23 M23 => (if r23 ≤ (x3 + x4) then b_L_taught_68 Z M23 ((kc + 0)) ((kn + 0)) x0 x1 x2 x3 x4 x2 ((x4 / (4 : Int32))) (((mI M a20 ((x4 / (4 : Int32))).toNatClampNeg) <<< ((8 : Int32) &&& 31))) ((32 : Int32)) else ck (mT M23 a24 = 12) <| ck ((kc + 0) + 0 ≤ 300 ∧ (kn + 0) + 0 ≤ 3000) <| bd (f_J0_charAt_5068e_r Z M23 a24 ((x3 + x4))) fun r27 M27 => b_L_taught_68 Z M27 (((kc + 0) + 0)) (((kn + 0) + 0)) x0 x1 x2 x3 x4 x2 ((x4 / (4 : Int32))) (((mI M a20 ((x4 / (4 : Int32))).toNatClampNeg) <<< ((8 : Int32) &&& 31))) r27))
noncomputable def lp_L_taught_23 (Z : Nat → Nat) (M : gMem) (kc : Nat) (kn : Nat) (x0 : Option Nat) (x1 : Option Nat) (x2 : Option Nat) (x3 : Int32) (x4 : Int32) : Option ((gMem × Nat × Nat × Int32) ⊕ ((Nat ⊕ Int32) × gMem)) :=
  lp (fun (q : gMem × Nat × Nat × Int32) => bb_L_taught_23 Z q.1 q.2.1 q.2.2.1 x0 x1 x2 x3 q.2.2.2) (M, kc, kn, x4)
noncomputable def bb_L_taught_12 (Z : Nat → Nat) (M : gMem) (kc : Nat) (kn : Nat) (x0 : Option Nat) (x1 : Option Nat) (x2 : Option Nat) (x3 : Int32) : Option ((gMem × Nat × Nat × Int32) ⊕ ((Nat ⊕ Int32) × gMem)) :=
  dr x1 fun a31 => ck (mT M a31 = 12) <| ck (kc + 0 ≤ 300 ∧ kn + 0 ≤ 3000) <| bd (f_J0_length_8abf5_r Z M a31) fun r30 M30 => (if r30 ≤ x3 then ck (mT M30 a31 = 12) <| ck ((kc + 0) + 0 ≤ 300 ∧ (kn + 0) + 0 ≤ 3000) <| bd (f_J0_length_8abf5_r Z M30 a31) fun r34 M34 => dr x0 fun a38 => ck (mT M34 a38 = 10) <| ck (((kc + 0) + 0) + 1 ≤ 300 ∧ ((kn + 0) + 0) + 6 ≤ 3000) <| bx (f_X11_trim M34 a38 r34) (fun e37 M37 => oI (some (.inl e37, M37))) fun r37 M37 => ck (mT M37 a38 = 10) <| ck ((((kc + 0) + 0) + 1) + 7 ≤ 300 ∧ (((kn + 0) + 0) + 6) + 39 ≤ 3000) <| bd (f_X11_teach Z M37 a38) fun r42 M42 => ck (((((kc + 0) + 0) + 1) + 7) ≤ 300 ∧ ((((kn + 0) + 0) + 6) + 39) ≤ 3000) <| oI (some (.inr r42, M42)) else lp_L_taught_23 Z M30 ((kc + 0)) ((kn + 0)) x0 x1 x2 x3 ((0 : Int32)))
noncomputable def lp_L_taught_12 (Z : Nat → Nat) (M : gMem) (kc : Nat) (kn : Nat) (x0 : Option Nat) (x1 : Option Nat) (x2 : Option Nat) (x3 : Int32) : Option ((Nat ⊕ Int32) × gMem) :=
  lp (fun (q : gMem × Nat × Nat × Int32) => bb_L_taught_12 Z q.1 q.2.1 q.2.2.1 x0 x1 x2 q.2.2.2) (M, kc, kn, x3)
noncomputable def b_L_taught_0 (Z : Nat → Nat) (M : gMem) (kc : Nat) (kn : Nat) (x0 : Option Nat) (x1 : Option Nat) : Option ((Nat ⊕ Int32) × gMem) :=
  ck (kc + 1 ≤ 300 ∧ kn + 5 ≤ 3000) <| lw (nW M 20 ((5 : Int32)).toNatClampNeg) fun M48 => dr x0 fun a50 => ck (mT M48 a50 = 10) <| ck ((kc + 1) + 1 ≤ 300 ∧ (kn + 5) + 6 ≤ 3000) <| bx (f_X11_trim M48 a50 ((0 : Int32))) (fun e49 M49 => some (.inl e49, M49)) fun r49 M49 => lp_L_taught_12 Z M49 (((kc + 1) + 1)) (((kn + 5) + 6)) x0 x1 ((some (mN M))) ((0 : Int32))
noncomputable def f_L_taught (Z : Nat → Nat) (M : gMem) (x0 : Option Nat) (x1 : Option Nat) : Option ((Nat ⊕ Int32) × gMem) :=
  b_L_taught_0 Z M 0 0 x0 x1
set_option maxHeartbeats 4000000 in
set_option maxRecDepth 100000 in
theorem t_L_taught_68 (X2 : gX p s m args meth c D cy B (gSt2 Z B H0) RL cL_taught wsL_taught 5) (hr : meth.sig.returnType = (some .int)) (hlx : l.stackTraces = false) (hH : ∀ q : Nat, q < B → s.heap[q]? = H0[q]?) (hne : ∀ x ∈ c.exceptionTable.toList, False) (hH0 : H0.size = B) {Q : State → Prop} : ∀ (M : gMem) (kc : Nat) (kn : Nat) (x0 : Option Nat) (x1 : Option Nat) (x2 : Option Nat) (x3 : Int32) (x4 : Int32) (s0 : Option Nat) (s1 : Int32) (s2 : Int32) (s3 : Int32) (z : (gMem × Nat × Nat × Int32) ⊕ ((gMem × Nat × Nat × Int32) ⊕ ((Nat ⊕ Int32) × gMem))), b_L_taught_68 Z M kc kn x0 x1 x2 x3 x4 s0 s1 s2 s3 = some z → (Sum.elim (fun (q : gMem × Nat × Nat × Int32) => gGo p l e rL_taught s m args below meth c D cy B H0 5 q.2.1 q.2.2.1 Q 23 [(0, vR x0), (1, vR x1), (2, vR x2), (3, vI x3), (4, vI q.2.2.2)] [] q.1) (Sum.elim (fun (q : gMem × Nat × Nat × Int32) => gGo p l e rL_taught s m args below meth c D cy B H0 5 q.2.1 q.2.2.1 Q 12 [(0, vR x0), (1, vR x1), (2, vR x2), (3, vI q.2.2.2)] [] q.1) (fun (r : (Nat ⊕ Int32) × gMem) => Q = gMX below D cy B H0 args s 300 3000 (gzI r.1) r.2))) z → gGo p l e rL_taught s m args below meth c D cy B H0 5 kc kn Q 68 [(0, vR x0), (1, vR x1), (2, vR x2), (3, vI x3), (4, vI x4)] [vI s3, vI s2, vI s1, vR s0] M := by
  intro M kc kn x0 x1 x2 x3 x4 s0 s1 s2 s3 z hf hK
  unfold b_L_taught_68 at hf
  have X := gX_w X2
  refine g_ior X dL_taught_68 ?_
  obtain ⟨a1, ha1, hf⟩ := dr_e hf
  obtain ⟨hT2, hf⟩ := ck_e hf
  obtain ⟨hg3, hf⟩ := ck_e hf
  refine g_iast X dL_taught_69 ha1 hT2 hg3 ?_
  obtain ⟨M4, hM4, hf⟩ := lw_e hf
  rw [← hM4]
  have hT5 : mT M4 a1 = 20 := by rw [hM4]; exact hT2
  refine g_iinc (v := (1 : Int32)) (lv' := [(4, vI (x4 + (1 : Int32))), (0, vR x0), (1, vR x1), (2, vR x2), (3, vI x3)]) X dL_taught_70 rfl (by decide) (by decide) rfl ?_
  refine g_goto (tgt := 23) X dL_taught_73 (by decide) ?_
  cases hf
  refine g_sub (lvsub_of _ _ [1, 2, 3, 4, 0] rfl) ?_
  exact hK
set_option maxHeartbeats 4000000 in
set_option maxRecDepth 100000 in
theorem tb_L_taught_23 (X2 : gX p s m args meth c D cy B (gSt2 Z B H0) RL cL_taught wsL_taught 5) (hr : meth.sig.returnType = (some .int)) (hlx : l.stackTraces = false) (hH : ∀ q : Nat, q < B → s.heap[q]? = H0[q]?) (hne : ∀ x ∈ c.exceptionTable.toList, False) (hH0 : H0.size = B) {Q : State → Prop} : ∀ (M : gMem) (kc : Nat) (kn : Nat) (x0 : Option Nat) (x1 : Option Nat) (x2 : Option Nat) (x3 : Int32) (x4 : Int32) (z : (gMem × Nat × Nat × Int32) ⊕ ((gMem × Nat × Nat × Int32) ⊕ ((Nat ⊕ Int32) × gMem))), bb_L_taught_23 Z M kc kn x0 x1 x2 x3 x4 = some z → (Sum.elim (fun (q : gMem × Nat × Nat × Int32) => gGo p l e rL_taught s m args below meth c D cy B H0 5 q.2.1 q.2.2.1 Q 23 [(0, vR x0), (1, vR x1), (2, vR x2), (3, vI x3), (4, vI q.2.2.2)] [] q.1) (Sum.elim (fun (q : gMem × Nat × Nat × Int32) => gGo p l e rL_taught s m args below meth c D cy B H0 5 q.2.1 q.2.2.1 Q 12 [(0, vR x0), (1, vR x1), (2, vR x2), (3, vI q.2.2.2)] [] q.1) (fun (r : (Nat ⊕ Int32) × gMem) => Q = gMX below D cy B H0 args s 300 3000 (gzI r.1) r.2))) z → gGo p l e rL_taught s m args below meth c D cy B H0 5 kc kn Q 23 [(0, vR x0), (1, vR x1), (2, vR x2), (3, vI x3), (4, vI x4)] [] M := by
  intro M kc kn x0 x1 x2 x3 x4 z hf hK
  unfold bb_L_taught_23 at hf
  have X := gX_w X2
  refine g_iload X dL_taught_23 rfl ?_
  refine g_bipush (v := (20 : Int32)) X dL_taught_25 (by decide) ?_
  refine g_icmp_ge (tgt := 76) X dL_taught_27 (by decide) (fun hc => ?_) (fun hc => ?_)
  · have hf := ife_t hc hf
    refine g_aload_n X dL_taught_76 rfl rfl ?_
    refine g_aload_n X dL_taught_77 rfl rfl ?_
    refine g_iconst (v := (0 : Int32)) X dL_taught_78 (by decide) ?_
    obtain ⟨a6, ha6, hf⟩ := dr_e hf
    obtain ⟨hT7, hf⟩ := ck_e hf
    obtain ⟨hg8, hf⟩ := ck_e hf
    refine g_iald X dL_taught_79 ha6 hT7 hg8 ?_
    refine g_aload_n X dL_taught_80 rfl rfl ?_
    refine g_iconst (v := (1 : Int32)) X dL_taught_81 (by decide) ?_
    obtain ⟨hg9, hf⟩ := ck_e hf
    refine g_iald X dL_taught_82 ha6 hT7 hg9 ?_
    refine g_aload_n X dL_taught_83 rfl rfl ?_
    refine g_iconst (v := (2 : Int32)) X dL_taught_84 (by decide) ?_
    obtain ⟨hg10, hf⟩ := ck_e hf
    refine g_iald X dL_taught_85 ha6 hT7 hg10 ?_
    refine g_aload_n X dL_taught_86 rfl rfl ?_
    refine g_iconst (v := (3 : Int32)) X dL_taught_87 (by decide) ?_
    obtain ⟨hg11, hf⟩ := ck_e hf
    refine g_iald X dL_taught_88 ha6 hT7 hg11 ?_
    refine g_aload_n X dL_taught_89 rfl rfl ?_
    refine g_iconst (v := (4 : Int32)) X dL_taught_90 (by decide) ?_
    obtain ⟨hg12, hf⟩ := ck_e hf
    refine g_iald X dL_taught_91 ha6 hT7 hg12 ?_
    obtain ⟨a14, ha14, hf⟩ := dr_e hf
    obtain ⟨hT15, hf⟩ := ck_e hf
    obtain ⟨hg16, hf⟩ := ck_e hf
    rcases bx_e hf with ⟨e13, M13, hq13, hf⟩ | ⟨r13, M13, hq13, hf⟩
    · obtain ⟨w17, hw17, hz17⟩ := oI_e hf
      subst hz17
      have hf := hw17
      obtain ⟨w18, hw18, hz18⟩ := oI_e hf
      subst hz18
      have hf := hw18
      cases hf
      refine g_eqQ hK ?_
      exact g_callTV (ci := 9) (b := a14) (As := [vI (mI M a6 ((0 : Int32)).toNatClampNeg), vI (mI M a6 ((1 : Int32)).toNatClampNeg), vI (mI M a6 ((2 : Int32)).toNatClampNeg), vI (mI M a6 ((3 : Int32)).toNatClampNeg), vI (mI M a6 ((4 : Int32)).toNatClampNeg)]) (st := []) (M1 := M13) X2 hne (m_X11_feed l hlx hH0 hq13) (cwV 5 X.2.2.1 gL_taught_X11_feed rfl rfl rfl (by decide +kernel) ⟨Nat.le_of_ble_eq_true rfl, Nat.le_of_ble_eq_true rfl⟩) rfl rfl ha14 hT15 (by decide) rfl (Nat.le_of_ble_eq_true rfl) dL_taught_92 ⟨hg16.1, hg16.2⟩ hg16.1 hg16.2
    refine g_callXV (ci := 9) (b := a14) (As := [vI (mI M a6 ((0 : Int32)).toNatClampNeg), vI (mI M a6 ((1 : Int32)).toNatClampNeg), vI (mI M a6 ((2 : Int32)).toNatClampNeg), vI (mI M a6 ((3 : Int32)).toNatClampNeg), vI (mI M a6 ((4 : Int32)).toNatClampNeg)]) (st := []) (v := some (vI r13)) (M1 := M13) X2 (m_X11_feed l hlx hH0 hq13) (cwV 5 X.2.2.1 gL_taught_X11_feed rfl rfl rfl (by decide +kernel) ⟨Nat.le_of_ble_eq_true rfl, Nat.le_of_ble_eq_true rfl⟩) rfl rfl ha14 hT15 (by decide) rfl (Nat.le_of_ble_eq_true rfl) dL_taught_92 ⟨hg16.1, hg16.2⟩ ?_
    refine g_pop X dL_taught_95 rfl ?_
    refine g_iinc (v := (20 : Int32)) (lv' := [(3, vI (x3 + (20 : Int32))), (0, vR x0), (1, vR x1), (2, vR x2), (4, vI x4)]) X dL_taught_96 rfl (by decide) (by decide) rfl ?_
    refine g_goto (tgt := 12) X dL_taught_99 (by decide) ?_
    obtain ⟨w19, hw19, hz19⟩ := oI_e hf
    subst hz19
    have hf := hw19
    cases hf
    refine g_sub (lvsub_of _ _ [1, 2, 3, 0] rfl) ?_
    exact hK
  · have hf := ife_f hc hf
    refine g_aload_n X dL_taught_30 rfl rfl ?_
    refine g_iload X dL_taught_31 rfl ?_
    refine g_iconst (v := (4 : Int32)) X dL_taught_33 (by decide) ?_
    refine g_idiv X dL_taught_34 (by decide) ?_
    refine g_aload_n X dL_taught_35 rfl rfl ?_
    refine g_iload X dL_taught_36 rfl ?_
    refine g_iconst (v := (4 : Int32)) X dL_taught_38 (by decide) ?_
    refine g_idiv X dL_taught_39 (by decide) ?_
    obtain ⟨a20, ha20, hf⟩ := dr_e hf
    obtain ⟨hT21, hf⟩ := ck_e hf
    obtain ⟨hg22, hf⟩ := ck_e hf
    refine g_iald X dL_taught_40 ha20 hT21 hg22 ?_
    refine g_bipush (v := (8 : Int32)) X dL_taught_41 (by decide) ?_
    refine g_ishl X dL_taught_43 ?_
    refine g_iload_n X dL_taught_44 rfl rfl ?_
    refine g_iload X dL_taught_45 rfl ?_
    refine g_iadd X dL_taught_47 ?_
    refine g_aload_n X dL_taught_48 rfl rfl ?_
    obtain ⟨a24, ha24, hf⟩ := dr_e hf
    obtain ⟨hT25, hf⟩ := ck_e hf
    obtain ⟨hg26, hf⟩ := ck_e hf
    obtain ⟨r23, M23, hq23, hf⟩ := bd_e hf
    refine g_callV (ci := 11) (b := a24) (As := []) (st := [vI (x3 + x4), vI ((mI M a20 ((x4 / (4 : Int32))).toNatClampNeg) <<< ((8 : Int32) &&& 31)), vI (x4 / (4 : Int32)), vR x2]) (v := some (vI r23)) (M1 := M23) X (m_J0_length_8abf5_r l hq23) (cwV 0 X.2.2.1 gL_taught_J0_length_8abf5 rfl rfl rfl (by decide +kernel) ⟨Nat.le_of_ble_eq_true rfl, Nat.le_of_ble_eq_true rfl⟩) rfl rfl ha24 hT25 (by decide) rfl (Nat.le_of_ble_eq_true rfl) dL_taught_49 ⟨hg26.1, hg26.2⟩ ?_
    refine g_icmp_ge (tgt := 66) X dL_taught_52 (by decide) (fun hc => ?_) (fun hc => ?_)
    · have hf := ife_t hc hf
      refine g_bipush (v := (32 : Int32)) X dL_taught_66 (by decide) ?_
      refine g_sub (lvsub_of _ _ [0, 1, 2, 3, 4] rfl) ?_
      exact t_L_taught_68 X2 hr hlx hH hne hH0 _ _ _ _ _ _ _ _ _ _ _ _ _ hf hK
    · have hf := ife_f hc hf
      refine g_aload_n X dL_taught_55 rfl rfl ?_
      refine g_iload_n X dL_taught_56 rfl rfl ?_
      refine g_iload X dL_taught_57 rfl ?_
      refine g_iadd X dL_taught_59 ?_
      obtain ⟨hT28, hf⟩ := ck_e hf
      obtain ⟨hg29, hf⟩ := ck_e hf
      obtain ⟨r27, M27, hq27, hf⟩ := bd_e hf
      refine g_callV (ci := 11) (b := a24) (As := [vI (x3 + x4)]) (st := [vI ((mI M a20 ((x4 / (4 : Int32))).toNatClampNeg) <<< ((8 : Int32) &&& 31)), vI (x4 / (4 : Int32)), vR x2]) (v := some (vI r27)) (M1 := M27) X (m_J0_charAt_5068e_r l hq27) (cwV 1 X.2.2.1 gL_taught_J0_charAt_5068e rfl rfl rfl (by decide +kernel) ⟨Nat.le_of_ble_eq_true rfl, Nat.le_of_ble_eq_true rfl⟩) rfl rfl ha24 hT28 (by decide) rfl (Nat.le_of_ble_eq_true rfl) dL_taught_60 ⟨hg29.1, hg29.2⟩ ?_
      refine g_goto (tgt := 68) X dL_taught_63 (by decide) ?_
      refine g_sub (lvsub_of _ _ [0, 1, 2, 3, 4] rfl) ?_
      exact t_L_taught_68 X2 hr hlx hH hne hH0 _ _ _ _ _ _ _ _ _ _ _ _ _ hf hK
set_option maxHeartbeats 4000000 in
set_option maxRecDepth 100000 in
theorem tl_L_taught_23 (X2 : gX p s m args meth c D cy B (gSt2 Z B H0) RL cL_taught wsL_taught 5) (hr : meth.sig.returnType = (some .int)) (hlx : l.stackTraces = false) (hH : ∀ q : Nat, q < B → s.heap[q]? = H0[q]?) (hne : ∀ x ∈ c.exceptionTable.toList, False) (hH0 : H0.size = B) {Q : State → Prop} : ∀ (M : gMem) (kc : Nat) (kn : Nat) (x0 : Option Nat) (x1 : Option Nat) (x2 : Option Nat) (x3 : Int32) (x4 : Int32) (z : (gMem × Nat × Nat × Int32) ⊕ ((Nat ⊕ Int32) × gMem)), lp_L_taught_23 Z M kc kn x0 x1 x2 x3 x4 = some z → (Sum.elim (fun (q : gMem × Nat × Nat × Int32) => gGo p l e rL_taught s m args below meth c D cy B H0 5 q.2.1 q.2.2.1 Q 12 [(0, vR x0), (1, vR x1), (2, vR x2), (3, vI q.2.2.2)] [] q.1) (fun (r : (Nat ⊕ Int32) × gMem) => Q = gMX below D cy B H0 args s 300 3000 (gzI r.1) r.2)) z → gGo p l e rL_taught s m args below meth c D cy B H0 5 kc kn Q 23 [(0, vR x0), (1, vR x1), (2, vR x2), (3, vI x3), (4, vI x4)] [] M := by
  intro M kc kn x0 x1 x2 x3 x4 z hf hK
  refine lp_ind (P := (fun (q : gMem × Nat × Nat × Int32) (z : (gMem × Nat × Nat × Int32) ⊕ ((Nat ⊕ Int32) × gMem)) => (Sum.elim (fun (q : gMem × Nat × Nat × Int32) => gGo p l e rL_taught s m args below meth c D cy B H0 5 q.2.1 q.2.2.1 Q 12 [(0, vR x0), (1, vR x1), (2, vR x2), (3, vI q.2.2.2)] [] q.1) (fun (r : (Nat ⊕ Int32) × gMem) => Q = gMX below D cy B H0 args s 300 3000 (gzI r.1) r.2)) z → gGo p l e rL_taught s m args below meth c D cy B H0 5 q.2.1 q.2.2.1 Q 23 [(0, vR x0), (1, vR x1), (2, vR x2), (3, vI x3), (4, vI q.2.2.2)] [] q.1)) (fun q z hq => ?_) _ _ hf hK
  intro hK
  obtain ⟨w, hw, hm⟩ := hq
  refine tb_L_taught_23 X2 hr hlx hH hne hH0 _ _ _ _ _ _ _ _ w hw ?_
  cases w with
  | inl a => exact hm hK
  | inr b => cases hm; exact hK
set_option maxHeartbeats 4000000 in
set_option maxRecDepth 100000 in
theorem tb_L_taught_12 (X2 : gX p s m args meth c D cy B (gSt2 Z B H0) RL cL_taught wsL_taught 5) (hr : meth.sig.returnType = (some .int)) (hlx : l.stackTraces = false) (hH : ∀ q : Nat, q < B → s.heap[q]? = H0[q]?) (hne : ∀ x ∈ c.exceptionTable.toList, False) (hH0 : H0.size = B) {Q : State → Prop} : ∀ (M : gMem) (kc : Nat) (kn : Nat) (x0 : Option Nat) (x1 : Option Nat) (x2 : Option Nat) (x3 : Int32) (z : (gMem × Nat × Nat × Int32) ⊕ ((Nat ⊕ Int32) × gMem)), bb_L_taught_12 Z M kc kn x0 x1 x2 x3 = some z → (Sum.elim (fun (q : gMem × Nat × Nat × Int32) => gGo p l e rL_taught s m args below meth c D cy B H0 5 q.2.1 q.2.2.1 Q 12 [(0, vR x0), (1, vR x1), (2, vR x2), (3, vI q.2.2.2)] [] q.1) (fun (r : (Nat ⊕ Int32) × gMem) => Q = gMX below D cy B H0 args s 300 3000 (gzI r.1) r.2)) z → gGo p l e rL_taught s m args below meth c D cy B H0 5 kc kn Q 12 [(0, vR x0), (1, vR x1), (2, vR x2), (3, vI x3)] [] M := by
  intro M kc kn x0 x1 x2 x3 z hf hK
  unfold bb_L_taught_12 at hf
  have X := gX_w X2
  refine g_iload_n X dL_taught_12 rfl rfl ?_
  refine g_aload_n X dL_taught_13 rfl rfl ?_
  obtain ⟨a31, ha31, hf⟩ := dr_e hf
  obtain ⟨hT32, hf⟩ := ck_e hf
  obtain ⟨hg33, hf⟩ := ck_e hf
  obtain ⟨r30, M30, hq30, hf⟩ := bd_e hf
  refine g_callV (ci := 11) (b := a31) (As := []) (st := [vI x3]) (v := some (vI r30)) (M1 := M30) X (m_J0_length_8abf5_r l hq30) (cwV 0 X.2.2.1 gL_taught_J0_length_8abf5 rfl rfl rfl (by decide +kernel) ⟨Nat.le_of_ble_eq_true rfl, Nat.le_of_ble_eq_true rfl⟩) rfl rfl ha31 hT32 (by decide) rfl (Nat.le_of_ble_eq_true rfl) dL_taught_14 ⟨hg33.1, hg33.2⟩ ?_
  refine g_icmp_ge (tgt := 102) X dL_taught_17 (by decide) (fun hc => ?_) (fun hc => ?_)
  · have hf := ife_t hc hf
    refine g_aload_n X dL_taught_102 rfl rfl ?_
    refine g_aload_n X dL_taught_103 rfl rfl ?_
    obtain ⟨hT35, hf⟩ := ck_e hf
    obtain ⟨hg36, hf⟩ := ck_e hf
    obtain ⟨r34, M34, hq34, hf⟩ := bd_e hf
    refine g_callV (ci := 11) (b := a31) (As := []) (st := [vR x0]) (v := some (vI r34)) (M1 := M34) X (m_J0_length_8abf5_r l hq34) (cwV 0 X.2.2.1 gL_taught_J0_length_8abf5 rfl rfl rfl (by decide +kernel) ⟨Nat.le_of_ble_eq_true rfl, Nat.le_of_ble_eq_true rfl⟩) rfl rfl ha31 hT35 (by decide) rfl (Nat.le_of_ble_eq_true rfl) dL_taught_104 ⟨hg36.1, hg36.2⟩ ?_
    obtain ⟨a38, ha38, hf⟩ := dr_e hf
    obtain ⟨hT39, hf⟩ := ck_e hf
    obtain ⟨hg40, hf⟩ := ck_e hf
    rcases bx_e hf with ⟨e37, M37, hq37, hf⟩ | ⟨r37, M37, hq37, hf⟩
    · obtain ⟨w41, hw41, hz41⟩ := oI_e hf
      subst hz41
      have hf := hw41
      cases hf
      refine g_eqQ hK ?_
      exact g_callTV (ci := 9) (b := a38) (As := [vI r34]) (st := []) (M1 := M37) X2 hne (m_X11_trim l hlx hH0 hq37) (cwV 1 X.2.2.1 gL_taught_X11_trim rfl rfl rfl (by decide +kernel) ⟨Nat.le_of_ble_eq_true rfl, Nat.le_of_ble_eq_true rfl⟩) rfl rfl ha38 hT39 (by decide) rfl (Nat.le_of_ble_eq_true rfl) dL_taught_107 ⟨hg40.1, hg40.2⟩ hg40.1 hg40.2
    refine g_callXV (ci := 9) (b := a38) (As := [vI r34]) (st := []) (v := some (vI r37)) (M1 := M37) X2 (m_X11_trim l hlx hH0 hq37) (cwV 1 X.2.2.1 gL_taught_X11_trim rfl rfl rfl (by decide +kernel) ⟨Nat.le_of_ble_eq_true rfl, Nat.le_of_ble_eq_true rfl⟩) rfl rfl ha38 hT39 (by decide) rfl (Nat.le_of_ble_eq_true rfl) dL_taught_107 ⟨hg40.1, hg40.2⟩ ?_
    refine g_pop X dL_taught_110 rfl ?_
    refine g_aload_n X dL_taught_111 rfl rfl ?_
    obtain ⟨hT43, hf⟩ := ck_e hf
    obtain ⟨hg44, hf⟩ := ck_e hf
    obtain ⟨r42, M42, hq42, hf⟩ := bd_e hf
    refine g_callV (ci := 9) (b := a38) (As := []) (st := []) (v := some (vI r42)) (M1 := M42) X (m_X11_teach l hq42) (cwV 0 X.2.2.1 gL_taught_X11_teach rfl rfl rfl (by decide +kernel) ⟨Nat.le_of_ble_eq_true rfl, Nat.le_of_ble_eq_true rfl⟩) rfl rfl ha38 hT43 (by decide) rfl (Nat.le_of_ble_eq_true rfl) dL_taught_112 ⟨hg44.1, hg44.2⟩ ?_
    obtain ⟨hg45, hf⟩ := ck_e hf
    obtain ⟨w46, hw46, hz46⟩ := oI_e hf
    subst hz46
    have hf := hw46
    cases hf
    refine g_eqQ hK ?_
    refine g_wide (k' := 300) (n' := 3000) hg45.1 hg45.2 ?_
    refine g_xret ?_
    exact g_iret X hr dL_taught_115
  · have hf := ife_f hc hf
    refine g_iconst (v := (0 : Int32)) X dL_taught_20 (by decide) ?_
    refine g_istore (lv' := [(4, vI (0 : Int32)), (0, vR x0), (1, vR x1), (2, vR x2), (3, vI x3)]) X dL_taught_21 (by decide) rfl ?_
    refine g_sub (lvsub_of _ _ [1, 2, 3, 4, 0] rfl) ?_
    exact tl_L_taught_23 X2 hr hlx hH hne hH0 _ _ _ _ _ _ _ _ _ hf hK
set_option maxHeartbeats 4000000 in
set_option maxRecDepth 100000 in
theorem tl_L_taught_12 (X2 : gX p s m args meth c D cy B (gSt2 Z B H0) RL cL_taught wsL_taught 5) (hr : meth.sig.returnType = (some .int)) (hlx : l.stackTraces = false) (hH : ∀ q : Nat, q < B → s.heap[q]? = H0[q]?) (hne : ∀ x ∈ c.exceptionTable.toList, False) (hH0 : H0.size = B) {Q : State → Prop} : ∀ (M : gMem) (kc : Nat) (kn : Nat) (x0 : Option Nat) (x1 : Option Nat) (x2 : Option Nat) (x3 : Int32) (z : (Nat ⊕ Int32) × gMem), lp_L_taught_12 Z M kc kn x0 x1 x2 x3 = some z → (fun (r : (Nat ⊕ Int32) × gMem) => Q = gMX below D cy B H0 args s 300 3000 (gzI r.1) r.2) z → gGo p l e rL_taught s m args below meth c D cy B H0 5 kc kn Q 12 [(0, vR x0), (1, vR x1), (2, vR x2), (3, vI x3)] [] M := by
  intro M kc kn x0 x1 x2 x3 z hf hK
  refine lp_ind (P := (fun (q : gMem × Nat × Nat × Int32) (z : (Nat ⊕ Int32) × gMem) => (fun (r : (Nat ⊕ Int32) × gMem) => Q = gMX below D cy B H0 args s 300 3000 (gzI r.1) r.2) z → gGo p l e rL_taught s m args below meth c D cy B H0 5 q.2.1 q.2.2.1 Q 12 [(0, vR x0), (1, vR x1), (2, vR x2), (3, vI q.2.2.2)] [] q.1)) (fun q z hq => ?_) _ _ hf hK
  intro hK
  obtain ⟨w, hw, hm⟩ := hq
  refine tb_L_taught_12 X2 hr hlx hH hne hH0 _ _ _ _ _ _ _ w hw ?_
  cases w with
  | inl a => exact hm hK
  | inr b => cases hm; exact hK
set_option maxHeartbeats 4000000 in
set_option maxRecDepth 100000 in
theorem t_L_taught_0 (X2 : gX p s m args meth c D cy B (gSt2 Z B H0) RL cL_taught wsL_taught 5) (hr : meth.sig.returnType = (some .int)) (hlx : l.stackTraces = false) (hH : ∀ q : Nat, q < B → s.heap[q]? = H0[q]?) (hne : ∀ x ∈ c.exceptionTable.toList, False) (hH0 : H0.size = B) {Q : State → Prop} : ∀ (M : gMem) (kc : Nat) (kn : Nat) (x0 : Option Nat) (x1 : Option Nat) (z : (Nat ⊕ Int32) × gMem), b_L_taught_0 Z M kc kn x0 x1 = some z → (fun (r : (Nat ⊕ Int32) × gMem) => Q = gMX below D cy B H0 args s 300 3000 (gzI r.1) r.2) z → gGo p l e rL_taught s m args below meth c D cy B H0 5 kc kn Q 0 [(0, vR x0), (1, vR x1)] [] M := by
  intro M kc kn x0 x1 z hf hK
  unfold b_L_taught_0 at hf
  have X := gX_w X2
  refine g_iconst (v := (5 : Int32)) X dL_taught_0 (by decide) ?_
  obtain ⟨hg47, hf⟩ := ck_e hf
  refine g_newa (at' := .int) (t0 := 0) X k_L_taught_acint (by exact Or.inl ⟨rfl, rfl⟩) (by decide) (by decide) ⟨hg47.1, hg47.2⟩ dL_taught_1 ?_
  obtain ⟨M48, hM48, hf⟩ := lw_e hf
  rw [← hM48]
  refine g_astore_n (lv' := [(2, vR (some (mN M))), (0, vR x0), (1, vR x1)]) X dL_taught_3 rfl (by decide) rfl ?_
  refine g_aload_n X dL_taught_4 rfl rfl ?_
  refine g_iconst (v := (0 : Int32)) X dL_taught_5 (by decide) ?_
  obtain ⟨a50, ha50, hf⟩ := dr_e hf
  obtain ⟨hT51, hf⟩ := ck_e hf
  obtain ⟨hg52, hf⟩ := ck_e hf
  rcases bx_e hf with ⟨e49, M49, hq49, hf⟩ | ⟨r49, M49, hq49, hf⟩
  · cases hf
    refine g_eqQ hK ?_
    exact g_callTV (ci := 9) (b := a50) (As := [vI (0 : Int32)]) (st := []) (M1 := M49) X2 hne (m_X11_trim l hlx hH0 hq49) (cwV 1 X.2.2.1 gL_taught_X11_trim rfl rfl rfl (by decide +kernel) ⟨Nat.le_of_ble_eq_true rfl, Nat.le_of_ble_eq_true rfl⟩) rfl rfl ha50 hT51 (by decide) rfl (Nat.le_of_ble_eq_true rfl) dL_taught_6 ⟨hg52.1, hg52.2⟩ hg52.1 hg52.2
  refine g_callXV (ci := 9) (b := a50) (As := [vI (0 : Int32)]) (st := []) (v := some (vI r49)) (M1 := M49) X2 (m_X11_trim l hlx hH0 hq49) (cwV 1 X.2.2.1 gL_taught_X11_trim rfl rfl rfl (by decide +kernel) ⟨Nat.le_of_ble_eq_true rfl, Nat.le_of_ble_eq_true rfl⟩) rfl rfl ha50 hT51 (by decide) rfl (Nat.le_of_ble_eq_true rfl) dL_taught_6 ⟨hg52.1, hg52.2⟩ ?_
  refine g_pop X dL_taught_9 rfl ?_
  refine g_iconst (v := (0 : Int32)) X dL_taught_10 (by decide) ?_
  refine g_istore_n (lv' := [(3, vI (0 : Int32)), (2, vR (some (mN M))), (0, vR x0), (1, vR x1)]) X dL_taught_11 rfl (by decide) rfl ?_
  refine g_sub (lvsub_of _ _ [2, 3, 1, 0] rfl) ?_
  exact tl_L_taught_12 X2 hr hlx hH hne hH0 _ _ _ _ _ _ _ _ hf hK
set_option maxHeartbeats 4000000 in
set_option maxRecDepth 100000 in
theorem m_L_taught (l : Launch) (hlx : l.stackTraces = false) {D : va_G} {cy : Nat → ClassId} {B : Nat} {H0 : Heap} {Z : Nat → Nat} {M M1 : gMem} {x0 : Option Nat} {x1 : Option Nat} {r : (Nat ⊕ Int32)} (hH0 : H0.size = B) (hf : f_L_taught Z M x0 x1 = some (r, M1)) : vx_Met l yL_taught wsL_taught rL_taught (va_Pc (List.map gv [vR x0, vR x1]) (gPre D cy B H0 (gSt2 Z B H0) M)) (gQX D cy B H0 (gzI r) M1) (gXC D cy B H0 (gzI r) M1) 300 3000 (gA B) := by
  refine vx_ofW (cc := cL_taught) (maxL := 5) (ret := (some .int)) (by decide) rfl ?_
  intro p e s m args below meth c s₁ Bd hml hne hv
  obtain ⟨rfl, hW, hKK, hFs⟩ := hv
  have X2 : gX p s m _ meth c D cy B (gSt2 Z B H0) RL cL_taught wsL_taught 5 := ⟨Bd.exec, Bd.bytes, atoms_spec (ws := wsL_taught) Bd.pre, findClass_of_methodNamed Bd.named, hml, hKK, by rw [hW.1]; exact hW.2.1, Bd.notSynchronized, hFs⟩
  have hr := Bd.returns
  have hH : ∀ q : Nat, q < B → s.heap[q]? = H0[q]? := hW.2.2.1
  rcases x0 with _ | x0
  · rcases x1 with _ | x1
    · have hl := lv_entry ([.null, .null]) (n := 5) (Nat.le_of_ble_eq_true rfl)
      show W p l e rL_taught s m _ below meth c s.heap [] 0 0 _ (entryFrame m ([.null, .null] : List Value).toArray 5)
      rw [lg_entry_eq]
      generalize (lg_sl ([.null, .null]) ++ List.replicate (5 - (lg_sl ([.null, .null])).length) Slot.unset).toArray = ls at hl ⊢
      have hl : lv_has ls 5 (List.map gq [(0, vR none), (1, vR none)]) := hl
      exact t_L_taught_0 X2 hr hlx hH hne hH0 _ _ _ _ _ _ hf rfl s.heap [] ls hW va_S.rf (lv_has_sub hl (lvsub_of _ _ [0, 1] rfl))
    · have hl := lv_entry ([.null, .ref x1]) (n := 5) (Nat.le_of_ble_eq_true rfl)
      show W p l e rL_taught s m _ below meth c s.heap [] 0 0 _ (entryFrame m ([.null, .ref x1] : List Value).toArray 5)
      rw [lg_entry_eq]
      generalize (lg_sl ([.null, .ref x1]) ++ List.replicate (5 - (lg_sl ([.null, .ref x1])).length) Slot.unset).toArray = ls at hl ⊢
      have hl : lv_has ls 5 (List.map gq [(0, vR none), (1, vR (some x1))]) := hl
      exact t_L_taught_0 X2 hr hlx hH hne hH0 _ _ _ _ _ _ hf rfl s.heap [] ls hW va_S.rf (lv_has_sub hl (lvsub_of _ _ [0, 1] rfl))
  · rcases x1 with _ | x1
    · have hl := lv_entry ([.ref x0, .null]) (n := 5) (Nat.le_of_ble_eq_true rfl)
      show W p l e rL_taught s m _ below meth c s.heap [] 0 0 _ (entryFrame m ([.ref x0, .null] : List Value).toArray 5)
      rw [lg_entry_eq]
      generalize (lg_sl ([.ref x0, .null]) ++ List.replicate (5 - (lg_sl ([.ref x0, .null])).length) Slot.unset).toArray = ls at hl ⊢
      have hl : lv_has ls 5 (List.map gq [(0, vR (some x0)), (1, vR none)]) := hl
      exact t_L_taught_0 X2 hr hlx hH hne hH0 _ _ _ _ _ _ hf rfl s.heap [] ls hW va_S.rf (lv_has_sub hl (lvsub_of _ _ [0, 1] rfl))
    · have hl := lv_entry ([.ref x0, .ref x1]) (n := 5) (Nat.le_of_ble_eq_true rfl)
      show W p l e rL_taught s m _ below meth c s.heap [] 0 0 _ (entryFrame m ([.ref x0, .ref x1] : List Value).toArray 5)
      rw [lg_entry_eq]
      generalize (lg_sl ([.ref x0, .ref x1]) ++ List.replicate (5 - (lg_sl ([.ref x0, .ref x1])).length) Slot.unset).toArray = ls at hl ⊢
      have hl : lv_has ls 5 (List.map gq [(0, vR (some x0)), (1, vR (some x1))]) := hl
      exact t_L_taught_0 X2 hr hlx hH hne hH0 _ _ _ _ _ _ hf rfl s.heap [] ls hW va_S.rf (lv_has_sub hl (lvsub_of _ _ [0, 1] rfl))
end
