section
variable {p : Program} {l : Launch} {e : Env} {s : State} {m : MethodId} {args : Array Value} {below : List Frame} {meth : Method} {c : Code} {D : va_G} {cy : Nat → ClassId} {B : Nat} {H0 : Heap} {Z : Nat → Nat}
/-! ## TideLotsModel.fisherTold(II)I -/
theorem dX14_fisherTold_0 : decode cX14_fisherTold 0 = .ok (.bipush 10, 2) := by decide +kernel
theorem dX14_fisherTold_2 : decode cX14_fisherTold 2 = .ok (.newarray .int, 2) := by decide +kernel
theorem dX14_fisherTold_4 : decode cX14_fisherTold 4 = .ok (.dup, 1) := by decide +kernel
theorem dX14_fisherTold_5 : decode cX14_fisherTold 5 = .ok (.iconst 0, 1) := by decide +kernel
theorem dX14_fisherTold_6 : decode cX14_fisherTold 6 = .ok (.aload_n 0, 1) := by decide +kernel
theorem dX14_fisherTold_7 : decode cX14_fisherTold 7 = .ok (.getfield 47, 3) := by decide +kernel
theorem dX14_fisherTold_10 : decode cX14_fisherTold 10 = .ok (.getfield 282, 3) := by decide +kernel
theorem dX14_fisherTold_13 : decode cX14_fisherTold 13 = .ok (.iload_n 1, 1) := by decide +kernel
theorem dX14_fisherTold_14 : decode cX14_fisherTold 14 = .ok (.iaload, 1) := by decide +kernel
theorem dX14_fisherTold_15 : decode cX14_fisherTold 15 = .ok (.iastore, 1) := by decide +kernel
theorem dX14_fisherTold_16 : decode cX14_fisherTold 16 = .ok (.dup, 1) := by decide +kernel
theorem dX14_fisherTold_17 : decode cX14_fisherTold 17 = .ok (.iconst 1, 1) := by decide +kernel
theorem dX14_fisherTold_18 : decode cX14_fisherTold 18 = .ok (.aload_n 0, 1) := by decide +kernel
theorem dX14_fisherTold_19 : decode cX14_fisherTold 19 = .ok (.getfield 35, 3) := by decide +kernel
theorem dX14_fisherTold_22 : decode cX14_fisherTold 22 = .ok (.getfield 241, 3) := by decide +kernel
theorem dX14_fisherTold_25 : decode cX14_fisherTold 25 = .ok (.iload_n 1, 1) := by decide +kernel
theorem dX14_fisherTold_26 : decode cX14_fisherTold 26 = .ok (.iaload, 1) := by decide +kernel
theorem dX14_fisherTold_27 : decode cX14_fisherTold 27 = .ok (.iastore, 1) := by decide +kernel
theorem dX14_fisherTold_28 : decode cX14_fisherTold 28 = .ok (.dup, 1) := by decide +kernel
theorem dX14_fisherTold_29 : decode cX14_fisherTold 29 = .ok (.iconst 2, 1) := by decide +kernel
theorem dX14_fisherTold_30 : decode cX14_fisherTold 30 = .ok (.aload_n 0, 1) := by decide +kernel
theorem dX14_fisherTold_31 : decode cX14_fisherTold 31 = .ok (.getfield 35, 3) := by decide +kernel
theorem dX14_fisherTold_34 : decode cX14_fisherTold 34 = .ok (.getfield 244, 3) := by decide +kernel
theorem dX14_fisherTold_37 : decode cX14_fisherTold 37 = .ok (.iload_n 1, 1) := by decide +kernel
theorem dX14_fisherTold_38 : decode cX14_fisherTold 38 = .ok (.iaload, 1) := by decide +kernel
theorem dX14_fisherTold_39 : decode cX14_fisherTold 39 = .ok (.iastore, 1) := by decide +kernel
theorem dX14_fisherTold_40 : decode cX14_fisherTold 40 = .ok (.dup, 1) := by decide +kernel
theorem dX14_fisherTold_41 : decode cX14_fisherTold 41 = .ok (.iconst 3, 1) := by decide +kernel
theorem dX14_fisherTold_42 : decode cX14_fisherTold 42 = .ok (.aload_n 0, 1) := by decide +kernel
theorem dX14_fisherTold_43 : decode cX14_fisherTold 43 = .ok (.getfield 35, 3) := by decide +kernel
theorem dX14_fisherTold_46 : decode cX14_fisherTold 46 = .ok (.getfield 247, 3) := by decide +kernel
theorem dX14_fisherTold_49 : decode cX14_fisherTold 49 = .ok (.iload_n 1, 1) := by decide +kernel
theorem dX14_fisherTold_50 : decode cX14_fisherTold 50 = .ok (.iaload, 1) := by decide +kernel
theorem dX14_fisherTold_51 : decode cX14_fisherTold 51 = .ok (.iastore, 1) := by decide +kernel
theorem dX14_fisherTold_52 : decode cX14_fisherTold 52 = .ok (.dup, 1) := by decide +kernel
theorem dX14_fisherTold_53 : decode cX14_fisherTold 53 = .ok (.iconst 4, 1) := by decide +kernel
theorem dX14_fisherTold_54 : decode cX14_fisherTold 54 = .ok (.aload_n 0, 1) := by decide +kernel
theorem dX14_fisherTold_55 : decode cX14_fisherTold 55 = .ok (.getfield 47, 3) := by decide +kernel
theorem dX14_fisherTold_58 : decode cX14_fisherTold 58 = .ok (.getfield 290, 3) := by decide +kernel
theorem dX14_fisherTold_61 : decode cX14_fisherTold 61 = .ok (.iload_n 1, 1) := by decide +kernel
theorem dX14_fisherTold_62 : decode cX14_fisherTold 62 = .ok (.iaload, 1) := by decide +kernel
theorem dX14_fisherTold_63 : decode cX14_fisherTold 63 = .ok (.iastore, 1) := by decide +kernel
theorem dX14_fisherTold_64 : decode cX14_fisherTold 64 = .ok (.dup, 1) := by decide +kernel
theorem dX14_fisherTold_65 : decode cX14_fisherTold 65 = .ok (.iconst 5, 1) := by decide +kernel
theorem dX14_fisherTold_66 : decode cX14_fisherTold 66 = .ok (.aload_n 0, 1) := by decide +kernel
theorem dX14_fisherTold_67 : decode cX14_fisherTold 67 = .ok (.getfield 47, 3) := by decide +kernel
theorem dX14_fisherTold_70 : decode cX14_fisherTold 70 = .ok (.getfield 317, 3) := by decide +kernel
theorem dX14_fisherTold_73 : decode cX14_fisherTold 73 = .ok (.iload_n 1, 1) := by decide +kernel
theorem dX14_fisherTold_74 : decode cX14_fisherTold 74 = .ok (.iaload, 1) := by decide +kernel
theorem dX14_fisherTold_75 : decode cX14_fisherTold 75 = .ok (.iastore, 1) := by decide +kernel
theorem dX14_fisherTold_76 : decode cX14_fisherTold 76 = .ok (.dup, 1) := by decide +kernel
theorem dX14_fisherTold_77 : decode cX14_fisherTold 77 = .ok (.bipush 6, 2) := by decide +kernel
theorem dX14_fisherTold_79 : decode cX14_fisherTold 79 = .ok (.aload_n 0, 1) := by decide +kernel
theorem dX14_fisherTold_80 : decode cX14_fisherTold 80 = .ok (.getfield 47, 3) := by decide +kernel
theorem dX14_fisherTold_83 : decode cX14_fisherTold 83 = .ok (.getfield 320, 3) := by decide +kernel
theorem dX14_fisherTold_86 : decode cX14_fisherTold 86 = .ok (.iload_n 1, 1) := by decide +kernel
theorem dX14_fisherTold_87 : decode cX14_fisherTold 87 = .ok (.iaload, 1) := by decide +kernel
theorem dX14_fisherTold_88 : decode cX14_fisherTold 88 = .ok (.iastore, 1) := by decide +kernel
theorem dX14_fisherTold_89 : decode cX14_fisherTold 89 = .ok (.dup, 1) := by decide +kernel
theorem dX14_fisherTold_90 : decode cX14_fisherTold 90 = .ok (.bipush 7, 2) := by decide +kernel
theorem dX14_fisherTold_92 : decode cX14_fisherTold 92 = .ok (.aload_n 0, 1) := by decide +kernel
theorem dX14_fisherTold_93 : decode cX14_fisherTold 93 = .ok (.getfield 47, 3) := by decide +kernel
theorem dX14_fisherTold_96 : decode cX14_fisherTold 96 = .ok (.getfield 323, 3) := by decide +kernel
theorem dX14_fisherTold_99 : decode cX14_fisherTold 99 = .ok (.iload_n 1, 1) := by decide +kernel
theorem dX14_fisherTold_100 : decode cX14_fisherTold 100 = .ok (.iaload, 1) := by decide +kernel
theorem dX14_fisherTold_101 : decode cX14_fisherTold 101 = .ok (.iastore, 1) := by decide +kernel
theorem dX14_fisherTold_102 : decode cX14_fisherTold 102 = .ok (.dup, 1) := by decide +kernel
theorem dX14_fisherTold_103 : decode cX14_fisherTold 103 = .ok (.bipush 8, 2) := by decide +kernel
theorem dX14_fisherTold_105 : decode cX14_fisherTold 105 = .ok (.aload_n 0, 1) := by decide +kernel
theorem dX14_fisherTold_106 : decode cX14_fisherTold 106 = .ok (.getfield 47, 3) := by decide +kernel
theorem dX14_fisherTold_109 : decode cX14_fisherTold 109 = .ok (.getfield 293, 3) := by decide +kernel
theorem dX14_fisherTold_112 : decode cX14_fisherTold 112 = .ok (.iload_n 1, 1) := by decide +kernel
theorem dX14_fisherTold_113 : decode cX14_fisherTold 113 = .ok (.iaload, 1) := by decide +kernel
theorem dX14_fisherTold_114 : decode cX14_fisherTold 114 = .ok (.iastore, 1) := by decide +kernel
theorem dX14_fisherTold_115 : decode cX14_fisherTold 115 = .ok (.dup, 1) := by decide +kernel
theorem dX14_fisherTold_116 : decode cX14_fisherTold 116 = .ok (.bipush 9, 2) := by decide +kernel
theorem dX14_fisherTold_118 : decode cX14_fisherTold 118 = .ok (.aload_n 0, 1) := by decide +kernel
theorem dX14_fisherTold_119 : decode cX14_fisherTold 119 = .ok (.iload_n 1, 1) := by decide +kernel
theorem dX14_fisherTold_120 : decode cX14_fisherTold 120 = .ok (.invokevirtual 326, 3) := by decide +kernel
theorem dX14_fisherTold_123 : decode cX14_fisherTold 123 = .ok (.iastore, 1) := by decide +kernel
theorem dX14_fisherTold_124 : decode cX14_fisherTold 124 = .ok (.astore_n 3, 1) := by decide +kernel
theorem dX14_fisherTold_125 : decode cX14_fisherTold 125 = .ok (.aload_n 3, 1) := by decide +kernel
theorem dX14_fisherTold_126 : decode cX14_fisherTold 126 = .ok (.iload_n 2, 1) := by decide +kernel
theorem dX14_fisherTold_127 : decode cX14_fisherTold 127 = .ok (.iaload, 1) := by decide +kernel
theorem dX14_fisherTold_128 : decode cX14_fisherTold 128 = .ok (.ireturn, 1) := by decide +kernel
set_option maxRecDepth 20000 in
theorem ggX14_fisherTold_X14_takenBy : GoodIn wsX14_fisherTold wsX14_takenBy := goodIn_2 24 (goodIn_rr wsB_X14_fisherTold_in _ [(1, 7), (1, 2), (1, 1), (2, 0), (2, 1), (2, 2), (2, 3), (2, 4), (2, 5), (2, 6), (2, 7), (2, 8), (2, 9), (2, 10), (2, 11), (2, 12), (2, 13), (2, 14), (4, 0), (4, 1), (4, 2), (4, 3), (4, 4), (4, 5)] (by decide +kernel) (by decide +kernel)) (goodIn_2 24 (goodIn_rr wsB_X14_fisherTold_in _ [(4, 6), (4, 7), (4, 8), (4, 9), (4, 10), (4, 11), (4, 12), (4, 13), (4, 14), (4, 15), (4, 16), (4, 17), (4, 18), (4, 19), (4, 20), (4, 21), (4, 22), (4, 23), (4, 24), (3, 0), (3, 1), (3, 2), (3, 3), (3, 4)] (by decide +kernel) (by decide +kernel)) (goodIn_rr wsB_X14_fisherTold_in _ [(3, 5), (3, 6), (3, 7), (3, 8), (3, 9), (3, 10), (3, 11), (3, 12), (3, 13), (3, 14), (3, 15), (3, 16), (3, 17), (3, 18)] (by decide +kernel) (by decide +kernel)))
set_option maxRecDepth 20000 in
theorem gX14_fisherTold_X14_takenBy : GoodIn wsX14_fisherTold (wsV RX14 326 RX14 yX14_takenBy wsX14_takenBy) := goodIn_app (goodIn_rr wsB_X14_fisherTold_in _ [(1, 3), (1, 4), (1, 5), (1, 6)] (by decide +kernel) (by decide +kernel)) ggX14_fisherTold_X14_takenBy
theorem k_X14_fisherTold_acint : Cond.arrayClass .int ∈ wsX14_fisherTold := by decide +kernel
theorem k_X14_fisherTold_f47 : Cond.fieldLink RX14 47 "TideLotsModel" "s" "LTideLotsModel$State;" ∈ wsX14_fisherTold := by decide +kernel
theorem i_X14_fisherTold_X14 : ∀ w ∈ u_ws RX14 TX14 15, w ∈ wsX14_fisherTold := by decide +kernel
theorem i_X14_fisherTold_X12 : ∀ w ∈ u_ws RX12 TX12 19, w ∈ wsX14_fisherTold := by decide +kernel
theorem k_X14_fisherTold_f35 : Cond.fieldLink RX14 35 "TideLotsModel" "told" "LTideLotsModel$Told;" ∈ wsX14_fisherTold := by decide +kernel
theorem i_X14_fisherTold_X13 : ∀ w ∈ u_ws RX13 TX13 25, w ∈ wsX14_fisherTold := by decide +kernel
theorem kn_X14_317 : Cond.fieldLinkNest "TideLotsModel" (317 : Nat) "TideLotsModel$State" "caught" "[I" "TideLotsModel" ∈ gNs := by decide +kernel
theorem kn_X14_320 : Cond.fieldLinkNest "TideLotsModel" (320 : Nat) "TideLotsModel$State" "where" "[I" "TideLotsModel" ∈ gNs := by decide +kernel
theorem kn_X14_323 : Cond.fieldLinkNest "TideLotsModel" (323 : Nat) "TideLotsModel$State" "tears" "[I" "TideLotsModel" ∈ gNs := by decide +kernel
abbrev rX14_fisherTold : Room := { frames := 1, cells := 1, slots := 10, locals := 23 }
noncomputable def b_X14_fisherTold_0 (M : gMem) (x0 : Nat) (x1 : Int32) (x2 : Int32) : Option (Int32 × gMem) :=
  lw (nW M 20 ((10 : Int32)).toNatClampNeg) fun M1 => ck (mT M1 x0 = 13) <| dr ((mR M1 x0 13)) fun a3 => ck (mT M1 a3 = 11) <| dr ((mR M1 a3 5)) fun a5 => ck (mT M1 a5 = 20) <| ck (inb x1 (mL M1 a5)) <| ck (mT M1 (mN M) = 20) <| ck (inb (0 : Int32) (mL M1 (mN M))) <| lw (wI M1 (mN M) ((0 : Int32)).toNatClampNeg ((mI M1 a5 x1.toNatClampNeg))) fun M10 => dr ((mR M10 x0 11)) fun a15 => ck (mT M10 a15 = 12) <| dr ((mR M10 a15 5)) fun a17 => ck (mT M10 a17 = 20) <| ck (inb x1 (mL M10 a17)) <| ck (inb (1 : Int32) (mL M10 (mN M))) <| lw (wI M10 (mN M) ((1 : Int32)).toNatClampNeg ((mI M10 a17 x1.toNatClampNeg))) fun M21 => dr ((mR M21 x0 11)) fun a28 => ck (mT M21 a28 = 12) <| dr ((mR M21 a28 6)) fun a30 => ck (mT M21 a30 = 20) <| ck (inb x1 (mL M21 a30)) <| ck (inb (2 : Int32) (mL M21 (mN M))) <| lw (wI M21 (mN M) ((2 : Int32)).toNatClampNeg ((mI M21 a30 x1.toNatClampNeg))) fun M34 => dr ((mR M34 x0 11)) fun a43 => ck (mT M34 a43 = 12) <| dr ((mR M34 a43 7)) fun a45 => ck (mT M34 a45 = 20) <| ck (inb x1 (mL M34 a45)) <| ck (inb (3 : Int32) (mL M34 (mN M))) <| lw (wI M34 (mN M) ((3 : Int32)).toNatClampNeg ((mI M34 a45 x1.toNatClampNeg))) fun M49 => dr ((mR M49 x0 13)) fun a60 => ck (mT M49 a60 = 11) <| dr ((mR M49 a60 6)) fun a62 => ck (mT M49 a62 = 20) <| ck (inb x1 (mL M49 a62)) <| ck (inb (4 : Int32) (mL M49 (mN M))) <| lw (wI M49 (mN M) ((4 : Int32)).toNatClampNeg ((mI M49 a62 x1.toNatClampNeg))) fun M66 => dr ((mR M66 x0 13)) fun a79 => ck (mT M66 a79 = 11) <| dr ((mR M66 a79 7)) fun a81 => ck (mT M66 a81 = 20) <| ck (inb x1 (mL M66 a81)) <| ck (inb (5 : Int32) (mL M66 (mN M))) <| lw (wI M66 (mN M) ((5 : Int32)).toNatClampNeg ((mI M66 a81 x1.toNatClampNeg))) fun M85 => dr ((mR M85 x0 13)) fun a100 => ck (mT M85 a100 = 11) <| dr ((mR M85 a100 8)) fun a102 => ck (mT M85 a102 = 20) <| ck (inb x1 (mL M85 a102)) <| ck (inb (6 : Int32) (mL M85 (mN M))) <| lw (wI M85 (mN M) ((6 : Int32)).toNatClampNeg ((mI M85 a102 x1.toNatClampNeg))) fun M106 => dr ((mR M106 x0 13)) fun a123 => ck (mT M106 a123 = 11) <| dr ((mR M106 a123 9)) fun a125 => ck (mT M106 a125 = 20) <| ck (inb x1 (mL M106 a125)) <| ck (inb (7 : Int32) (mL M106 (mN M))) <| lw (wI M106 (mN M) ((7 : Int32)).toNatClampNeg ((mI M106 a125 x1.toNatClampNeg))) fun M129 => dr ((mR M129 x0 13)) fun a148 => ck (mT M129 a148 = 11) <| dr ((mR M129 a148 10)) fun a150 => ck (mT M129 a150 = 20) <| ck (inb x1 (mL M129 a150)) <| ck (inb (8 : Int32) (mL M129 (mN M))) <| lw (wI M129 (mN M) ((8 : Int32)).toNatClampNeg ((mI M129 a150 x1.toNatClampNeg))) fun M154 => bd (f_X14_takenBy M154 x0 x1) fun r175 M175 => ck (mT M175 (mN M) = 20) <| ck (inb (9 : Int32) (mL M175 (mN M))) <| lw (wI M175 (mN M) ((9 : Int32)).toNatClampNeg r175) fun M178 => ck (inb x2 (mL M178 (mN M))) <| some ((mI M178 (mN M) x2.toNatClampNeg), M178)
noncomputable def f_X14_fisherTold (M : gMem) (x0 : Nat) (x1 : Int32) (x2 : Int32) : Option (Int32 × gMem) :=
  b_X14_fisherTold_0 M x0 x1 x2
set_option maxHeartbeats 4000000 in
set_option maxRecDepth 100000 in
theorem t_X14_fisherTold_0 (X : gX p s m args meth c D cy B (gSt Z B H0) RX14 cX14_fisherTold wsX14_fisherTold 4) (hr : meth.sig.returnType = (some .int)) {Q : State → Prop} : ∀ (M : gMem) (x0 : Nat) (x1 : Int32) (x2 : Int32) (z : Int32 × gMem), b_X14_fisherTold_0 M x0 x1 x2 = some z → (fun (r : Int32 × gMem) => Q = gMQ below D cy B H0 args s 1 10 (some (vI r.1)) r.2) z → gGo p l e rX14_fisherTold s m args below meth c D cy B H0 4 0 0 Q 0 [(0, vR (some x0)), (1, vI x1), (2, vI x2)] [] M := by
  intro M x0 x1 x2 z hf hK
  unfold b_X14_fisherTold_0 at hf
  refine g_bipush (v := (10 : Int32)) X dX14_fisherTold_0 (by decide) ?_
  refine g_newa (at' := .int) (t0 := 0) X k_X14_fisherTold_acint (by exact Or.inl ⟨rfl, rfl⟩) (by decide) (by decide) ⟨by decide, by decide⟩ dX14_fisherTold_2 ?_
  obtain ⟨M1, hM1, hf⟩ := lw_e hf
  rw [← hM1]
  refine g_dup X dX14_fisherTold_4 rfl ?_
  refine g_iconst (v := (0 : Int32)) X dX14_fisherTold_5 (by decide) ?_
  refine g_aload_n X dX14_fisherTold_6 rfl rfl ?_
  obtain ⟨hT2, hf⟩ := ck_e hf
  refine g_get (ci := 12) (v := vR (mR M1 x0 13)) 13 X cdX14 i_X14_fisherTold_X14 (by decide) k_X14_fisherTold_f47 rfl dX14_fisherTold_7 rfl hT2 rfl ?_
  obtain ⟨a3, ha3, hf⟩ := dr_e hf
  obtain ⟨hT4, hf⟩ := ck_e hf
  refine g_getN (ci := 10) (w := vR (mR M1 a3 5)) 5 X cdX12 i_X14_fisherTold_X12 (by decide) (gNw X _ kn_X14_282) rfl dX14_fisherTold_10 ha3 hT4 rfl ?_
  refine g_iload_n X dX14_fisherTold_13 rfl rfl ?_
  obtain ⟨a5, ha5, hf⟩ := dr_e hf
  obtain ⟨hT6, hf⟩ := ck_e hf
  obtain ⟨hg7, hf⟩ := ck_e hf
  refine g_iald X dX14_fisherTold_14 ha5 hT6 hg7 ?_
  obtain ⟨hT8, hf⟩ := ck_e hf
  obtain ⟨hg9, hf⟩ := ck_e hf
  refine g_iast X dX14_fisherTold_15 rfl hT8 hg9 ?_
  obtain ⟨M10, hM10, hf⟩ := lw_e hf
  rw [← hM10]
  have hT11 : mT M10 x0 = 13 := by rw [hM10]; exact hT2
  have hT12 : mT M10 a3 = 11 := by rw [hM10]; exact hT4
  have hT13 : mT M10 a5 = 20 := by rw [hM10]; exact hT6
  have hT14 : mT M10 (mN M) = 20 := by rw [hM10]; exact hT8
  refine g_dup X dX14_fisherTold_16 rfl ?_
  refine g_iconst (v := (1 : Int32)) X dX14_fisherTold_17 (by decide) ?_
  refine g_aload_n X dX14_fisherTold_18 rfl rfl ?_
  refine g_get (ci := 12) (v := vR (mR M10 x0 11)) 11 X cdX14 i_X14_fisherTold_X14 (by decide) k_X14_fisherTold_f35 rfl dX14_fisherTold_19 rfl hT11 rfl ?_
  obtain ⟨a15, ha15, hf⟩ := dr_e hf
  obtain ⟨hT16, hf⟩ := ck_e hf
  refine g_getN (ci := 11) (w := vR (mR M10 a15 5)) 5 X cdX13 i_X14_fisherTold_X13 (by decide) (gNw X _ kn_X14_241) rfl dX14_fisherTold_22 ha15 hT16 rfl ?_
  refine g_iload_n X dX14_fisherTold_25 rfl rfl ?_
  obtain ⟨a17, ha17, hf⟩ := dr_e hf
  obtain ⟨hT18, hf⟩ := ck_e hf
  obtain ⟨hg19, hf⟩ := ck_e hf
  refine g_iald X dX14_fisherTold_26 ha17 hT18 hg19 ?_
  obtain ⟨hg20, hf⟩ := ck_e hf
  refine g_iast X dX14_fisherTold_27 rfl hT14 hg20 ?_
  obtain ⟨M21, hM21, hf⟩ := lw_e hf
  rw [← hM21]
  have hT22 : mT M21 x0 = 13 := by rw [hM21]; exact hT11
  have hT23 : mT M21 a3 = 11 := by rw [hM21]; exact hT12
  have hT24 : mT M21 a5 = 20 := by rw [hM21]; exact hT13
  have hT25 : mT M21 (mN M) = 20 := by rw [hM21]; exact hT14
  have hT26 : mT M21 a15 = 12 := by rw [hM21]; exact hT16
  have hT27 : mT M21 a17 = 20 := by rw [hM21]; exact hT18
  refine g_dup X dX14_fisherTold_28 rfl ?_
  refine g_iconst (v := (2 : Int32)) X dX14_fisherTold_29 (by decide) ?_
  refine g_aload_n X dX14_fisherTold_30 rfl rfl ?_
  refine g_get (ci := 12) (v := vR (mR M21 x0 11)) 11 X cdX14 i_X14_fisherTold_X14 (by decide) k_X14_fisherTold_f35 rfl dX14_fisherTold_31 rfl hT22 rfl ?_
  obtain ⟨a28, ha28, hf⟩ := dr_e hf
  obtain ⟨hT29, hf⟩ := ck_e hf
  refine g_getN (ci := 11) (w := vR (mR M21 a28 6)) 6 X cdX13 i_X14_fisherTold_X13 (by decide) (gNw X _ kn_X14_244) rfl dX14_fisherTold_34 ha28 hT29 rfl ?_
  refine g_iload_n X dX14_fisherTold_37 rfl rfl ?_
  obtain ⟨a30, ha30, hf⟩ := dr_e hf
  obtain ⟨hT31, hf⟩ := ck_e hf
  obtain ⟨hg32, hf⟩ := ck_e hf
  refine g_iald X dX14_fisherTold_38 ha30 hT31 hg32 ?_
  obtain ⟨hg33, hf⟩ := ck_e hf
  refine g_iast X dX14_fisherTold_39 rfl hT25 hg33 ?_
  obtain ⟨M34, hM34, hf⟩ := lw_e hf
  rw [← hM34]
  have hT35 : mT M34 x0 = 13 := by rw [hM34]; exact hT22
  have hT36 : mT M34 a3 = 11 := by rw [hM34]; exact hT23
  have hT37 : mT M34 a5 = 20 := by rw [hM34]; exact hT24
  have hT38 : mT M34 (mN M) = 20 := by rw [hM34]; exact hT25
  have hT39 : mT M34 a15 = 12 := by rw [hM34]; exact hT26
  have hT40 : mT M34 a17 = 20 := by rw [hM34]; exact hT27
  have hT41 : mT M34 a28 = 12 := by rw [hM34]; exact hT29
  have hT42 : mT M34 a30 = 20 := by rw [hM34]; exact hT31
  refine g_dup X dX14_fisherTold_40 rfl ?_
  refine g_iconst (v := (3 : Int32)) X dX14_fisherTold_41 (by decide) ?_
  refine g_aload_n X dX14_fisherTold_42 rfl rfl ?_
  refine g_get (ci := 12) (v := vR (mR M34 x0 11)) 11 X cdX14 i_X14_fisherTold_X14 (by decide) k_X14_fisherTold_f35 rfl dX14_fisherTold_43 rfl hT35 rfl ?_
  obtain ⟨a43, ha43, hf⟩ := dr_e hf
  obtain ⟨hT44, hf⟩ := ck_e hf
  refine g_getN (ci := 11) (w := vR (mR M34 a43 7)) 7 X cdX13 i_X14_fisherTold_X13 (by decide) (gNw X _ kn_X14_247) rfl dX14_fisherTold_46 ha43 hT44 rfl ?_
  refine g_iload_n X dX14_fisherTold_49 rfl rfl ?_
  obtain ⟨a45, ha45, hf⟩ := dr_e hf
  obtain ⟨hT46, hf⟩ := ck_e hf
  obtain ⟨hg47, hf⟩ := ck_e hf
  refine g_iald X dX14_fisherTold_50 ha45 hT46 hg47 ?_
  obtain ⟨hg48, hf⟩ := ck_e hf
  refine g_iast X dX14_fisherTold_51 rfl hT38 hg48 ?_
  obtain ⟨M49, hM49, hf⟩ := lw_e hf
  rw [← hM49]
  have hT50 : mT M49 x0 = 13 := by rw [hM49]; exact hT35
  have hT51 : mT M49 a3 = 11 := by rw [hM49]; exact hT36
  have hT52 : mT M49 a5 = 20 := by rw [hM49]; exact hT37
  have hT53 : mT M49 (mN M) = 20 := by rw [hM49]; exact hT38
  have hT54 : mT M49 a15 = 12 := by rw [hM49]; exact hT39
  have hT55 : mT M49 a17 = 20 := by rw [hM49]; exact hT40
  have hT56 : mT M49 a28 = 12 := by rw [hM49]; exact hT41
  have hT57 : mT M49 a30 = 20 := by rw [hM49]; exact hT42
  have hT58 : mT M49 a43 = 12 := by rw [hM49]; exact hT44
  have hT59 : mT M49 a45 = 20 := by rw [hM49]; exact hT46
  refine g_dup X dX14_fisherTold_52 rfl ?_
  refine g_iconst (v := (4 : Int32)) X dX14_fisherTold_53 (by decide) ?_
  refine g_aload_n X dX14_fisherTold_54 rfl rfl ?_
  refine g_get (ci := 12) (v := vR (mR M49 x0 13)) 13 X cdX14 i_X14_fisherTold_X14 (by decide) k_X14_fisherTold_f47 rfl dX14_fisherTold_55 rfl hT50 rfl ?_
  obtain ⟨a60, ha60, hf⟩ := dr_e hf
  obtain ⟨hT61, hf⟩ := ck_e hf
  refine g_getN (ci := 10) (w := vR (mR M49 a60 6)) 6 X cdX12 i_X14_fisherTold_X12 (by decide) (gNw X _ kn_X14_290) rfl dX14_fisherTold_58 ha60 hT61 rfl ?_
  refine g_iload_n X dX14_fisherTold_61 rfl rfl ?_
  obtain ⟨a62, ha62, hf⟩ := dr_e hf
  obtain ⟨hT63, hf⟩ := ck_e hf
  obtain ⟨hg64, hf⟩ := ck_e hf
  refine g_iald X dX14_fisherTold_62 ha62 hT63 hg64 ?_
  obtain ⟨hg65, hf⟩ := ck_e hf
  refine g_iast X dX14_fisherTold_63 rfl hT53 hg65 ?_
  obtain ⟨M66, hM66, hf⟩ := lw_e hf
  rw [← hM66]
  have hT67 : mT M66 x0 = 13 := by rw [hM66]; exact hT50
  have hT68 : mT M66 a3 = 11 := by rw [hM66]; exact hT51
  have hT69 : mT M66 a5 = 20 := by rw [hM66]; exact hT52
  have hT70 : mT M66 (mN M) = 20 := by rw [hM66]; exact hT53
  have hT71 : mT M66 a15 = 12 := by rw [hM66]; exact hT54
  have hT72 : mT M66 a17 = 20 := by rw [hM66]; exact hT55
  have hT73 : mT M66 a28 = 12 := by rw [hM66]; exact hT56
  have hT74 : mT M66 a30 = 20 := by rw [hM66]; exact hT57
  have hT75 : mT M66 a43 = 12 := by rw [hM66]; exact hT58
  have hT76 : mT M66 a45 = 20 := by rw [hM66]; exact hT59
  have hT77 : mT M66 a60 = 11 := by rw [hM66]; exact hT61
  have hT78 : mT M66 a62 = 20 := by rw [hM66]; exact hT63
  refine g_dup X dX14_fisherTold_64 rfl ?_
  refine g_iconst (v := (5 : Int32)) X dX14_fisherTold_65 (by decide) ?_
  refine g_aload_n X dX14_fisherTold_66 rfl rfl ?_
  refine g_get (ci := 12) (v := vR (mR M66 x0 13)) 13 X cdX14 i_X14_fisherTold_X14 (by decide) k_X14_fisherTold_f47 rfl dX14_fisherTold_67 rfl hT67 rfl ?_
  obtain ⟨a79, ha79, hf⟩ := dr_e hf
  obtain ⟨hT80, hf⟩ := ck_e hf
  refine g_getN (ci := 10) (w := vR (mR M66 a79 7)) 7 X cdX12 i_X14_fisherTold_X12 (by decide) (gNw X _ kn_X14_317) rfl dX14_fisherTold_70 ha79 hT80 rfl ?_
  refine g_iload_n X dX14_fisherTold_73 rfl rfl ?_
  obtain ⟨a81, ha81, hf⟩ := dr_e hf
  obtain ⟨hT82, hf⟩ := ck_e hf
  obtain ⟨hg83, hf⟩ := ck_e hf
  refine g_iald X dX14_fisherTold_74 ha81 hT82 hg83 ?_
  obtain ⟨hg84, hf⟩ := ck_e hf
  refine g_iast X dX14_fisherTold_75 rfl hT70 hg84 ?_
  obtain ⟨M85, hM85, hf⟩ := lw_e hf
  rw [← hM85]
  have hT86 : mT M85 x0 = 13 := by rw [hM85]; exact hT67
  have hT87 : mT M85 a3 = 11 := by rw [hM85]; exact hT68
  have hT88 : mT M85 a5 = 20 := by rw [hM85]; exact hT69
  have hT89 : mT M85 (mN M) = 20 := by rw [hM85]; exact hT70
  have hT90 : mT M85 a15 = 12 := by rw [hM85]; exact hT71
  have hT91 : mT M85 a17 = 20 := by rw [hM85]; exact hT72
  have hT92 : mT M85 a28 = 12 := by rw [hM85]; exact hT73
  have hT93 : mT M85 a30 = 20 := by rw [hM85]; exact hT74
  have hT94 : mT M85 a43 = 12 := by rw [hM85]; exact hT75
  have hT95 : mT M85 a45 = 20 := by rw [hM85]; exact hT76
  have hT96 : mT M85 a60 = 11 := by rw [hM85]; exact hT77
  have hT97 : mT M85 a62 = 20 := by rw [hM85]; exact hT78
  have hT98 : mT M85 a79 = 11 := by rw [hM85]; exact hT80
  have hT99 : mT M85 a81 = 20 := by rw [hM85]; exact hT82
  refine g_dup X dX14_fisherTold_76 rfl ?_
  refine g_bipush (v := (6 : Int32)) X dX14_fisherTold_77 (by decide) ?_
  refine g_aload_n X dX14_fisherTold_79 rfl rfl ?_
  refine g_get (ci := 12) (v := vR (mR M85 x0 13)) 13 X cdX14 i_X14_fisherTold_X14 (by decide) k_X14_fisherTold_f47 rfl dX14_fisherTold_80 rfl hT86 rfl ?_
  obtain ⟨a100, ha100, hf⟩ := dr_e hf
  obtain ⟨hT101, hf⟩ := ck_e hf
  refine g_getN (ci := 10) (w := vR (mR M85 a100 8)) 8 X cdX12 i_X14_fisherTold_X12 (by decide) (gNw X _ kn_X14_320) rfl dX14_fisherTold_83 ha100 hT101 rfl ?_
  refine g_iload_n X dX14_fisherTold_86 rfl rfl ?_
  obtain ⟨a102, ha102, hf⟩ := dr_e hf
  obtain ⟨hT103, hf⟩ := ck_e hf
  obtain ⟨hg104, hf⟩ := ck_e hf
  refine g_iald X dX14_fisherTold_87 ha102 hT103 hg104 ?_
  obtain ⟨hg105, hf⟩ := ck_e hf
  refine g_iast X dX14_fisherTold_88 rfl hT89 hg105 ?_
  obtain ⟨M106, hM106, hf⟩ := lw_e hf
  rw [← hM106]
  have hT107 : mT M106 x0 = 13 := by rw [hM106]; exact hT86
  have hT108 : mT M106 a3 = 11 := by rw [hM106]; exact hT87
  have hT109 : mT M106 a5 = 20 := by rw [hM106]; exact hT88
  have hT110 : mT M106 (mN M) = 20 := by rw [hM106]; exact hT89
  have hT111 : mT M106 a15 = 12 := by rw [hM106]; exact hT90
  have hT112 : mT M106 a17 = 20 := by rw [hM106]; exact hT91
  have hT113 : mT M106 a28 = 12 := by rw [hM106]; exact hT92
  have hT114 : mT M106 a30 = 20 := by rw [hM106]; exact hT93
  have hT115 : mT M106 a43 = 12 := by rw [hM106]; exact hT94
  have hT116 : mT M106 a45 = 20 := by rw [hM106]; exact hT95
  have hT117 : mT M106 a60 = 11 := by rw [hM106]; exact hT96
  have hT118 : mT M106 a62 = 20 := by rw [hM106]; exact hT97
  have hT119 : mT M106 a79 = 11 := by rw [hM106]; exact hT98
  have hT120 : mT M106 a81 = 20 := by rw [hM106]; exact hT99
  have hT121 : mT M106 a100 = 11 := by rw [hM106]; exact hT101
  have hT122 : mT M106 a102 = 20 := by rw [hM106]; exact hT103
  refine g_dup X dX14_fisherTold_89 rfl ?_
  refine g_bipush (v := (7 : Int32)) X dX14_fisherTold_90 (by decide) ?_
  refine g_aload_n X dX14_fisherTold_92 rfl rfl ?_
  refine g_get (ci := 12) (v := vR (mR M106 x0 13)) 13 X cdX14 i_X14_fisherTold_X14 (by decide) k_X14_fisherTold_f47 rfl dX14_fisherTold_93 rfl hT107 rfl ?_
  obtain ⟨a123, ha123, hf⟩ := dr_e hf
  obtain ⟨hT124, hf⟩ := ck_e hf
  refine g_getN (ci := 10) (w := vR (mR M106 a123 9)) 9 X cdX12 i_X14_fisherTold_X12 (by decide) (gNw X _ kn_X14_323) rfl dX14_fisherTold_96 ha123 hT124 rfl ?_
  refine g_iload_n X dX14_fisherTold_99 rfl rfl ?_
  obtain ⟨a125, ha125, hf⟩ := dr_e hf
  obtain ⟨hT126, hf⟩ := ck_e hf
  obtain ⟨hg127, hf⟩ := ck_e hf
  refine g_iald X dX14_fisherTold_100 ha125 hT126 hg127 ?_
  obtain ⟨hg128, hf⟩ := ck_e hf
  refine g_iast X dX14_fisherTold_101 rfl hT110 hg128 ?_
  obtain ⟨M129, hM129, hf⟩ := lw_e hf
  rw [← hM129]
  have hT130 : mT M129 x0 = 13 := by rw [hM129]; exact hT107
  have hT131 : mT M129 a3 = 11 := by rw [hM129]; exact hT108
  have hT132 : mT M129 a5 = 20 := by rw [hM129]; exact hT109
  have hT133 : mT M129 (mN M) = 20 := by rw [hM129]; exact hT110
  have hT134 : mT M129 a15 = 12 := by rw [hM129]; exact hT111
  have hT135 : mT M129 a17 = 20 := by rw [hM129]; exact hT112
  have hT136 : mT M129 a28 = 12 := by rw [hM129]; exact hT113
  have hT137 : mT M129 a30 = 20 := by rw [hM129]; exact hT114
  have hT138 : mT M129 a43 = 12 := by rw [hM129]; exact hT115
  have hT139 : mT M129 a45 = 20 := by rw [hM129]; exact hT116
  have hT140 : mT M129 a60 = 11 := by rw [hM129]; exact hT117
  have hT141 : mT M129 a62 = 20 := by rw [hM129]; exact hT118
  have hT142 : mT M129 a79 = 11 := by rw [hM129]; exact hT119
  have hT143 : mT M129 a81 = 20 := by rw [hM129]; exact hT120
  have hT144 : mT M129 a100 = 11 := by rw [hM129]; exact hT121
  have hT145 : mT M129 a102 = 20 := by rw [hM129]; exact hT122
  have hT146 : mT M129 a123 = 11 := by rw [hM129]; exact hT124
  have hT147 : mT M129 a125 = 20 := by rw [hM129]; exact hT126
  refine g_dup X dX14_fisherTold_102 rfl ?_
  refine g_bipush (v := (8 : Int32)) X dX14_fisherTold_103 (by decide) ?_
  refine g_aload_n X dX14_fisherTold_105 rfl rfl ?_
  refine g_get (ci := 12) (v := vR (mR M129 x0 13)) 13 X cdX14 i_X14_fisherTold_X14 (by decide) k_X14_fisherTold_f47 rfl dX14_fisherTold_106 rfl hT130 rfl ?_
  obtain ⟨a148, ha148, hf⟩ := dr_e hf
  obtain ⟨hT149, hf⟩ := ck_e hf
  refine g_getN (ci := 10) (w := vR (mR M129 a148 10)) 10 X cdX12 i_X14_fisherTold_X12 (by decide) (gNw X _ kn_X14_293) rfl dX14_fisherTold_109 ha148 hT149 rfl ?_
  refine g_iload_n X dX14_fisherTold_112 rfl rfl ?_
  obtain ⟨a150, ha150, hf⟩ := dr_e hf
  obtain ⟨hT151, hf⟩ := ck_e hf
  obtain ⟨hg152, hf⟩ := ck_e hf
  refine g_iald X dX14_fisherTold_113 ha150 hT151 hg152 ?_
  obtain ⟨hg153, hf⟩ := ck_e hf
  refine g_iast X dX14_fisherTold_114 rfl hT133 hg153 ?_
  obtain ⟨M154, hM154, hf⟩ := lw_e hf
  rw [← hM154]
  have hT155 : mT M154 x0 = 13 := by rw [hM154]; exact hT130
  have hT156 : mT M154 a3 = 11 := by rw [hM154]; exact hT131
  have hT157 : mT M154 a5 = 20 := by rw [hM154]; exact hT132
  have hT158 : mT M154 (mN M) = 20 := by rw [hM154]; exact hT133
  have hT159 : mT M154 a15 = 12 := by rw [hM154]; exact hT134
  have hT160 : mT M154 a17 = 20 := by rw [hM154]; exact hT135
  have hT161 : mT M154 a28 = 12 := by rw [hM154]; exact hT136
  have hT162 : mT M154 a30 = 20 := by rw [hM154]; exact hT137
  have hT163 : mT M154 a43 = 12 := by rw [hM154]; exact hT138
  have hT164 : mT M154 a45 = 20 := by rw [hM154]; exact hT139
  have hT165 : mT M154 a60 = 11 := by rw [hM154]; exact hT140
  have hT166 : mT M154 a62 = 20 := by rw [hM154]; exact hT141
  have hT167 : mT M154 a79 = 11 := by rw [hM154]; exact hT142
  have hT168 : mT M154 a81 = 20 := by rw [hM154]; exact hT143
  have hT169 : mT M154 a100 = 11 := by rw [hM154]; exact hT144
  have hT170 : mT M154 a102 = 20 := by rw [hM154]; exact hT145
  have hT171 : mT M154 a123 = 11 := by rw [hM154]; exact hT146
  have hT172 : mT M154 a125 = 20 := by rw [hM154]; exact hT147
  have hT173 : mT M154 a148 = 11 := by rw [hM154]; exact hT149
  have hT174 : mT M154 a150 = 20 := by rw [hM154]; exact hT151
  refine g_dup X dX14_fisherTold_115 rfl ?_
  refine g_bipush (v := (9 : Int32)) X dX14_fisherTold_116 (by decide) ?_
  refine g_aload_n X dX14_fisherTold_118 rfl rfl ?_
  refine g_iload_n X dX14_fisherTold_119 rfl rfl ?_
  obtain ⟨r175, M175, hq175, hf⟩ := bd_e hf
  refine g_callV (ci := 12) (b := x0) (As := [vI x1]) (st := [vI (9 : Int32), vR (some (mN M)), vR (some (mN M))]) (v := some (vI r175)) (M1 := M175) X (m_X14_takenBy l hq175) (cwV 1 X.2.2.1 gX14_fisherTold_X14_takenBy rfl rfl rfl (by decide +kernel) ⟨Nat.le_of_ble_eq_true rfl, Nat.le_of_ble_eq_true rfl⟩) rfl rfl rfl hT155 (by decide) rfl (Nat.le_of_ble_eq_true rfl) dX14_fisherTold_120 ⟨by decide, by decide⟩ ?_
  obtain ⟨hT176, hf⟩ := ck_e hf
  obtain ⟨hg177, hf⟩ := ck_e hf
  refine g_iast X dX14_fisherTold_123 rfl hT176 hg177 ?_
  obtain ⟨M178, hM178, hf⟩ := lw_e hf
  rw [← hM178]
  have hT179 : mT M178 (mN M) = 20 := by rw [hM178]; exact hT176
  refine g_astore_n (lv' := [(3, vR (some (mN M))), (0, vR (some x0)), (1, vI x1), (2, vI x2)]) X dX14_fisherTold_124 rfl (by decide) rfl ?_
  refine g_aload_n X dX14_fisherTold_125 rfl rfl ?_
  refine g_iload_n X dX14_fisherTold_126 rfl rfl ?_
  obtain ⟨hg180, hf⟩ := ck_e hf
  refine g_iald X dX14_fisherTold_127 rfl hT179 hg180 ?_
  cases hf
  refine g_eqQ hK ?_
  exact g_iret X hr dX14_fisherTold_128
set_option maxHeartbeats 4000000 in
set_option maxRecDepth 100000 in
theorem m_X14_fisherTold (l : Launch) {D : va_G} {cy : Nat → ClassId} {B : Nat} {H0 : Heap} {Z : Nat → Nat} {M M1 : gMem} {x0 : Nat} {x1 : Int32} {x2 : Int32} {r : Int32} (hf : f_X14_fisherTold M x0 x1 x2 = some (r, M1)) : Met l yX14_fisherTold wsX14_fisherTold rX14_fisherTold (va_Pc (Value.ref x0 :: List.map gv [vI x1, vI x2]) (gPre D cy B H0 (gSt Z B H0) M)) (gQ D cy B H0 (some (vI r)) M1) 1 10 (gA B) := by
  refine Met.ofW (cc := cX14_fisherTold) (maxL := 4) (ret := (some .int)) (by decide) rfl ?_
  intro p e s m args below meth c s₁ Bd hml hv
  obtain ⟨rfl, hW, hKK, hFs⟩ := hv
  have X : gX p s m _ meth c D cy B (gSt Z B H0) RX14 cX14_fisherTold wsX14_fisherTold 4 := ⟨Bd.exec, Bd.bytes, atoms_spec (ws := wsX14_fisherTold) Bd.pre, findClass_of_methodNamed Bd.named, hml, hKK, by rw [hW.1]; exact hW.2.1, Bd.notSynchronized, hFs⟩
  have hr := Bd.returns
  have hl := lv_entry ([.ref x0, .int x1, .int x2]) (n := 4) (Nat.le_of_ble_eq_true rfl)
  show W p l e rX14_fisherTold s m _ below meth c s.heap [] 0 0 _ (entryFrame m ([.ref x0, .int x1, .int x2] : List Value).toArray 4)
  rw [lg_entry_eq]
  generalize (lg_sl ([.ref x0, .int x1, .int x2]) ++ List.replicate (4 - (lg_sl ([.ref x0, .int x1, .int x2])).length) Slot.unset).toArray = ls at hl ⊢
  have hl : lv_has ls 4 (List.map gq [(0, vR (some x0)), (1, vI x1), (2, vI x2)]) := hl
  exact t_X14_fisherTold_0 X hr _ _ _ _ _ hf rfl s.heap [] ls hW va_S.rf (lv_has_sub hl (lvsub_of _ _ [0, 1, 2] rfl))
/-! ## TideLotsModel.fisher(II)I -/
theorem dX14_fisher_0 : decode cX14_fisher 0 = .ok (.aload_n 0, 1) := by decide +kernel
theorem dX14_fisher_1 : decode cX14_fisher 1 = .ok (.iconst 0, 1) := by decide +kernel
theorem dX14_fisher_2 : decode cX14_fisher 2 = .ok (.putfield 57, 3) := by decide +kernel
theorem dX14_fisher_5 : decode cX14_fisher 5 = .ok (.aload_n 0, 1) := by decide +kernel
theorem dX14_fisher_6 : decode cX14_fisher 6 = .ok (.iload_n 1, 1) := by decide +kernel
theorem dX14_fisher_7 : decode cX14_fisher 7 = .ok (.invokevirtual 329, 3) := by decide +kernel
theorem dX14_fisher_10 : decode cX14_fisher 10 = .ok (.ifCond .eq 22, 3) := by decide +kernel
theorem dX14_fisher_13 : decode cX14_fisher 13 = .ok (.iload_n 2, 1) := by decide +kernel
theorem dX14_fisher_14 : decode cX14_fisher 14 = .ok (.iconst 0, 1) := by decide +kernel
theorem dX14_fisher_15 : decode cX14_fisher 15 = .ok (.bipush 9, 2) := by decide +kernel
theorem dX14_fisher_17 : decode cX14_fisher 17 = .ok (.invokestatic 63, 3) := by decide +kernel
theorem dX14_fisher_20 : decode cX14_fisher 20 = .ok (.ifCond .eq 12, 3) := by decide +kernel
theorem dX14_fisher_23 : decode cX14_fisher 23 = .ok (.aload_n 0, 1) := by decide +kernel
theorem dX14_fisher_24 : decode cX14_fisher 24 = .ok (.iload_n 1, 1) := by decide +kernel
theorem dX14_fisher_25 : decode cX14_fisher 25 = .ok (.iload_n 2, 1) := by decide +kernel
theorem dX14_fisher_26 : decode cX14_fisher 26 = .ok (.invokevirtual 332, 3) := by decide +kernel
theorem dX14_fisher_29 : decode cX14_fisher 29 = .ok (.goto 8, 3) := by decide +kernel
theorem dX14_fisher_32 : decode cX14_fisher 32 = .ok (.aload_n 0, 1) := by decide +kernel
theorem dX14_fisher_33 : decode cX14_fisher 33 = .ok (.iconst 1, 1) := by decide +kernel
theorem dX14_fisher_34 : decode cX14_fisher 34 = .ok (.invokevirtual 276, 3) := by decide +kernel
theorem dX14_fisher_37 : decode cX14_fisher 37 = .ok (.ireturn, 1) := by decide +kernel
set_option maxRecDepth 20000 in
theorem ggX14_fisher_X14_no : GoodIn wsX14_fisher wsX14_no := goodIn_rr wsB_X14_fisher_in _ [(1, 23), (1, 0), (2, 0), (2, 1), (2, 2), (2, 3), (2, 4), (2, 5), (2, 6), (2, 7), (2, 8), (2, 9), (2, 10), (2, 11), (2, 12), (2, 13), (2, 14)] (by decide +kernel) (by decide +kernel)
set_option maxRecDepth 20000 in
theorem gX14_fisher_X14_no : GoodIn wsX14_fisher (wsV RX14 276 RX14 yX14_no wsX14_no) := goodIn_app (goodIn_rr wsB_X14_fisher_in _ [(1, 20), (1, 21), (1, 22), (1, 4)] (by decide +kernel) (by decide +kernel)) ggX14_fisher_X14_no
set_option maxRecDepth 20000 in
theorem ggX14_fisher_X14_isFisher : GoodIn wsX14_fisher wsX14_isFisher := goodIn_2 24 (goodIn_rr wsB_X14_fisher_in _ [(1, 5), (1, 6), (1, 7), (1, 8), (1, 4), (1, 9), (2, 0), (2, 1), (2, 2), (2, 3), (2, 4), (2, 5), (2, 6), (2, 7), (2, 8), (2, 9), (2, 10), (2, 11), (2, 12), (2, 13), (2, 14), (3, 0), (3, 1), (3, 2)] (by decide +kernel) (by decide +kernel)) (goodIn_rr wsB_X14_fisher_in _ [(3, 3), (3, 4), (3, 5), (3, 6), (3, 7), (3, 8), (3, 9), (3, 10), (3, 11), (3, 12), (3, 13), (3, 14), (3, 15), (3, 16), (3, 17), (3, 18), (3, 19), (3, 20), (3, 21), (3, 22), (3, 23), (3, 24)] (by decide +kernel) (by decide +kernel))
set_option maxRecDepth 20000 in
theorem gX14_fisher_X14_isFisher : GoodIn wsX14_fisher (wsV RX14 329 RX14 yX14_isFisher wsX14_isFisher) := goodIn_app (goodIn_rr wsB_X14_fisher_in _ [(1, 1), (1, 2), (1, 3), (1, 4)] (by decide +kernel) (by decide +kernel)) ggX14_fisher_X14_isFisher
set_option maxRecDepth 20000 in
theorem ggX14_fisher_X14_isIn : GoodIn wsX14_fisher wsX14_isIn := goodIn_rr wsB_X14_fisher_in _ [(1, 9)] (by decide +kernel) (by decide +kernel)
set_option maxRecDepth 20000 in
theorem gX14_fisher_X14_isIn : GoodIn wsX14_fisher (va_wsS RX14 63 yX14_isIn wsX14_isIn) := goodIn_app (goodIn_rr wsB_X14_fisher_in _ [(1, 7), (1, 8), (1, 4)] (by decide +kernel) (by decide +kernel)) ggX14_fisher_X14_isIn
set_option maxRecDepth 20000 in
theorem ggX14_fisher_X14_fisherTold : GoodIn wsX14_fisher wsX14_fisherTold := goodIn_2 24 (goodIn_rr wsB_X14_fisher_in _ [(1, 13), (1, 14), (1, 15), (1, 6), (1, 16), (1, 17), (1, 18), (1, 4), (1, 19), (2, 0), (2, 1), (2, 2), (2, 3), (2, 4), (2, 5), (2, 6), (2, 7), (2, 8), (2, 9), (2, 10), (2, 11), (2, 12), (2, 13), (2, 14)] (by decide +kernel) (by decide +kernel)) (goodIn_2 24 (goodIn_rr wsB_X14_fisher_in _ [(4, 0), (4, 1), (4, 2), (4, 3), (4, 4), (4, 5), (4, 6), (4, 7), (4, 8), (4, 9), (4, 10), (4, 11), (4, 12), (4, 13), (4, 14), (4, 15), (4, 16), (4, 17), (4, 18), (3, 0), (3, 1), (3, 2), (3, 3), (3, 4)] (by decide +kernel) (by decide +kernel)) (goodIn_rr wsB_X14_fisher_in _ [(3, 5), (3, 6), (3, 7), (3, 8), (3, 9), (3, 10), (3, 11), (3, 12), (3, 13), (3, 14), (3, 15), (3, 16), (3, 17), (3, 18), (3, 19), (3, 20), (3, 21), (3, 22), (3, 23), (3, 24)] (by decide +kernel) (by decide +kernel)))
set_option maxRecDepth 20000 in
theorem gX14_fisher_X14_fisherTold : GoodIn wsX14_fisher (wsV RX14 332 RX14 yX14_fisherTold wsX14_fisherTold) := goodIn_app (goodIn_rr wsB_X14_fisher_in _ [(1, 10), (1, 11), (1, 12), (1, 4)] (by decide +kernel) (by decide +kernel)) ggX14_fisher_X14_fisherTold
theorem k_X14_fisher_f57 : Cond.fieldLink RX14 57 "TideLotsModel" "thrown" "I" ∈ wsX14_fisher := by decide +kernel
theorem i_X14_fisher_X14 : ∀ w ∈ u_ws RX14 TX14 15, w ∈ wsX14_fisher := by decide +kernel
abbrev rX14_fisher : Room := { frames := 2, cells := 1, slots := 10, locals := 46 }
noncomputable def b_X14_fisher_37 (M : gMem) (s0 : Int32) : Option (Int32 × gMem) :=
  some (s0, M)
noncomputable def b_X14_fisher_32 (M : gMem) (x0 : Nat) : Option (Int32 × gMem) :=
  ck (mT M x0 = 13) <| bd (f_X14_no M x0 ((1 : Int32))) fun r1 M1 => b_X14_fisher_37 M1 r1
noncomputable def b_X14_fisher_0 (M : gMem) (x0 : Nat) (x1 : Int32) (x2 : Int32) : Option (Int32 × gMem) :=
  ck (mT M x0 = 13) <| lw (wI M x0 0 ((0 : Int32))) fun M4 => bd (f_X14_isFisher M4 x0 x1) fun r6 M6 => (if r6 = 0 then b_X14_fisher_32 M6 x0 else bd (f_X14_isIn M6 x2 ((0 : Int32)) ((9 : Int32))) fun r7 M7 => (if r7 = 0 then b_X14_fisher_32 M7 x0 else ck (mT M7 x0 = 13) <| bd (f_X14_fisherTold M7 x0 x1 x2) fun r8 M8 => b_X14_fisher_37 M8 r8))
noncomputable def f_X14_fisher (M : gMem) (x0 : Nat) (x1 : Int32) (x2 : Int32) : Option (Int32 × gMem) :=
  b_X14_fisher_0 M x0 x1 x2
set_option maxHeartbeats 4000000 in
set_option maxRecDepth 100000 in
theorem t_X14_fisher_37 (X : gX p s m args meth c D cy B (gSt Z B H0) RX14 cX14_fisher wsX14_fisher 3) (hr : meth.sig.returnType = (some .int)) {Q : State → Prop} : ∀ (M : gMem) (s0 : Int32) (z : Int32 × gMem), b_X14_fisher_37 M s0 = some z → (fun (r : Int32 × gMem) => Q = gMQ below D cy B H0 args s 1 10 (some (vI r.1)) r.2) z → gGo p l e rX14_fisher s m args below meth c D cy B H0 3 1 10 Q 37 [] [vI s0] M := by
  intro M s0 z hf hK
  unfold b_X14_fisher_37 at hf
  cases hf
  refine g_eqQ hK ?_
  exact g_iret X hr dX14_fisher_37
set_option maxHeartbeats 4000000 in
set_option maxRecDepth 100000 in
theorem t_X14_fisher_32 (X : gX p s m args meth c D cy B (gSt Z B H0) RX14 cX14_fisher wsX14_fisher 3) (hr : meth.sig.returnType = (some .int)) {Q : State → Prop} : ∀ (M : gMem) (x0 : Nat) (z : Int32 × gMem), b_X14_fisher_32 M x0 = some z → (fun (r : Int32 × gMem) => Q = gMQ below D cy B H0 args s 1 10 (some (vI r.1)) r.2) z → gGo p l e rX14_fisher s m args below meth c D cy B H0 3 0 0 Q 32 [(0, vR (some x0))] [] M := by
  intro M x0 z hf hK
  unfold b_X14_fisher_32 at hf
  refine g_aload_n X dX14_fisher_32 rfl rfl ?_
  refine g_iconst (v := (1 : Int32)) X dX14_fisher_33 (by decide) ?_
  obtain ⟨hT2, hf⟩ := ck_e hf
  obtain ⟨r1, M1, hq1, hf⟩ := bd_e hf
  refine g_callV (ci := 12) (b := x0) (As := [vI (1 : Int32)]) (st := []) (v := some (vI r1)) (M1 := M1) X (m_X14_no l hq1) (cwV 1 X.2.2.1 gX14_fisher_X14_no rfl rfl rfl (by decide +kernel) ⟨Nat.le_of_ble_eq_true rfl, Nat.le_of_ble_eq_true rfl⟩) rfl rfl rfl hT2 (by decide) rfl (Nat.le_of_ble_eq_true rfl) dX14_fisher_34 ⟨by decide, by decide⟩ ?_
  refine g_sub (lvsub_of _ _ [] rfl) ?_
  refine g_wide (k' := 1) (n' := 10) (by decide) (by decide) ?_
  exact t_X14_fisher_37 X hr _ _ _ hf hK
set_option maxHeartbeats 4000000 in
set_option maxRecDepth 100000 in
theorem t_X14_fisher_0 (X : gX p s m args meth c D cy B (gSt Z B H0) RX14 cX14_fisher wsX14_fisher 3) (hr : meth.sig.returnType = (some .int)) {Q : State → Prop} : ∀ (M : gMem) (x0 : Nat) (x1 : Int32) (x2 : Int32) (z : Int32 × gMem), b_X14_fisher_0 M x0 x1 x2 = some z → (fun (r : Int32 × gMem) => Q = gMQ below D cy B H0 args s 1 10 (some (vI r.1)) r.2) z → gGo p l e rX14_fisher s m args below meth c D cy B H0 3 0 0 Q 0 [(0, vR (some x0)), (1, vI x1), (2, vI x2)] [] M := by
  intro M x0 x1 x2 z hf hK
  unfold b_X14_fisher_0 at hf
  refine g_aload_n X dX14_fisher_0 rfl rfl ?_
  refine g_iconst (v := (0 : Int32)) X dX14_fisher_1 (by decide) ?_
  obtain ⟨hT3, hf⟩ := ck_e hf
  refine g_putI (ci := 12) 0 X cdX14 i_X14_fisher_X14 (by decide) k_X14_fisher_f57 rfl dX14_fisher_2 rfl hT3 (Or.inl rfl) rfl rfl rfl ?_
  obtain ⟨M4, hM4, hf⟩ := lw_e hf
  rw [← hM4]
  have hT5 : mT M4 x0 = 13 := by rw [hM4]; exact hT3
  refine g_aload_n X dX14_fisher_5 rfl rfl ?_
  refine g_iload_n X dX14_fisher_6 rfl rfl ?_
  obtain ⟨r6, M6, hq6, hf⟩ := bd_e hf
  refine g_callV (ci := 12) (b := x0) (As := [vI x1]) (st := []) (v := some (vI r6)) (M1 := M6) X (m_X14_isFisher l hq6) (cwV 1 X.2.2.1 gX14_fisher_X14_isFisher rfl rfl rfl (by decide +kernel) ⟨Nat.le_of_ble_eq_true rfl, Nat.le_of_ble_eq_true rfl⟩) rfl rfl rfl hT5 (by decide) rfl (Nat.le_of_ble_eq_true rfl) dX14_fisher_7 ⟨by decide, by decide⟩ ?_
  refine g_if_eq (tgt := 32) X dX14_fisher_10 (by decide) (fun hc => ?_) (fun hc => ?_)
  · have hf := ife_t hc hf
    refine g_sub (lvsub_of _ _ [0] rfl) ?_
    exact t_X14_fisher_32 X hr _ _ _ hf hK
  · have hf := ife_f hc hf
    refine g_iload_n X dX14_fisher_13 rfl rfl ?_
    refine g_iconst (v := (0 : Int32)) X dX14_fisher_14 (by decide) ?_
    refine g_bipush (v := (9 : Int32)) X dX14_fisher_15 (by decide) ?_
    obtain ⟨r7, M7, hq7, hf⟩ := bd_e hf
    refine g_callS (As := [vI x2, vI (0 : Int32), vI (9 : Int32)]) (st := []) (v := some (vI r7)) (M1 := M7) X (m_X14_isIn l hq7) (va_cwS 3 X.2.2.1 gX14_fisher_X14_isIn rfl rfl rfl (by decide +kernel) ⟨Nat.le_of_ble_eq_true rfl, Nat.le_of_ble_eq_true rfl⟩) rfl rfl (Nat.le_of_ble_eq_true rfl) dX14_fisher_17 ⟨by decide, by decide⟩ ?_
    refine g_if_eq (tgt := 32) X dX14_fisher_20 (by decide) (fun hc => ?_) (fun hc => ?_)
    · have hf := ife_t hc hf
      refine g_sub (lvsub_of _ _ [0] rfl) ?_
      exact t_X14_fisher_32 X hr _ _ _ hf hK
    · have hf := ife_f hc hf
      refine g_aload_n X dX14_fisher_23 rfl rfl ?_
      refine g_iload_n X dX14_fisher_24 rfl rfl ?_
      refine g_iload_n X dX14_fisher_25 rfl rfl ?_
      obtain ⟨hT9, hf⟩ := ck_e hf
      obtain ⟨r8, M8, hq8, hf⟩ := bd_e hf
      refine g_callV (ci := 12) (b := x0) (As := [vI x1, vI x2]) (st := []) (v := some (vI r8)) (M1 := M8) X (m_X14_fisherTold l hq8) (cwV 2 X.2.2.1 gX14_fisher_X14_fisherTold rfl rfl rfl (by decide +kernel) ⟨Nat.le_of_ble_eq_true rfl, Nat.le_of_ble_eq_true rfl⟩) rfl rfl rfl hT9 (by decide) rfl (Nat.le_of_ble_eq_true rfl) dX14_fisher_26 ⟨by decide, by decide⟩ ?_
      refine g_goto (tgt := 37) X dX14_fisher_29 (by decide) ?_
      refine g_sub (lvsub_of _ _ [] rfl) ?_
      exact t_X14_fisher_37 X hr _ _ _ hf hK
set_option maxHeartbeats 4000000 in
set_option maxRecDepth 100000 in
theorem m_X14_fisher (l : Launch) {D : va_G} {cy : Nat → ClassId} {B : Nat} {H0 : Heap} {Z : Nat → Nat} {M M1 : gMem} {x0 : Nat} {x1 : Int32} {x2 : Int32} {r : Int32} (hf : f_X14_fisher M x0 x1 x2 = some (r, M1)) : Met l yX14_fisher wsX14_fisher rX14_fisher (va_Pc (Value.ref x0 :: List.map gv [vI x1, vI x2]) (gPre D cy B H0 (gSt Z B H0) M)) (gQ D cy B H0 (some (vI r)) M1) 1 10 (gA B) := by
  refine Met.ofW (cc := cX14_fisher) (maxL := 3) (ret := (some .int)) (by decide) rfl ?_
  intro p e s m args below meth c s₁ Bd hml hv
  obtain ⟨rfl, hW, hKK, hFs⟩ := hv
  have X : gX p s m _ meth c D cy B (gSt Z B H0) RX14 cX14_fisher wsX14_fisher 3 := ⟨Bd.exec, Bd.bytes, atoms_spec (ws := wsX14_fisher) Bd.pre, findClass_of_methodNamed Bd.named, hml, hKK, by rw [hW.1]; exact hW.2.1, Bd.notSynchronized, hFs⟩
  have hr := Bd.returns
  have hl := lv_entry ([.ref x0, .int x1, .int x2]) (n := 3) (Nat.le_of_ble_eq_true rfl)
  show W p l e rX14_fisher s m _ below meth c s.heap [] 0 0 _ (entryFrame m ([.ref x0, .int x1, .int x2] : List Value).toArray 3)
  rw [lg_entry_eq]
  generalize (lg_sl ([.ref x0, .int x1, .int x2]) ++ List.replicate (3 - (lg_sl ([.ref x0, .int x1, .int x2])).length) Slot.unset).toArray = ls at hl ⊢
  have hl : lv_has ls 3 (List.map gq [(0, vR (some x0)), (1, vI x1), (2, vI x2)]) := hl
  exact t_X14_fisher_0 X hr _ _ _ _ _ hf rfl s.heap [] ls hW va_S.rf (lv_has_sub hl (lvsub_of _ _ [0, 1, 2] rfl))
/-! ## TideLotsModel.pactTold(II)I -/
theorem dX14_pactTold_0 : decode cX14_pactTold 0 = .ok (.bipush 7, 2) := by decide +kernel
theorem dX14_pactTold_2 : decode cX14_pactTold 2 = .ok (.newarray .int, 2) := by decide +kernel
theorem dX14_pactTold_4 : decode cX14_pactTold 4 = .ok (.dup, 1) := by decide +kernel
theorem dX14_pactTold_5 : decode cX14_pactTold 5 = .ok (.iconst 0, 1) := by decide +kernel
theorem dX14_pactTold_6 : decode cX14_pactTold 6 = .ok (.aload_n 0, 1) := by decide +kernel
theorem dX14_pactTold_7 : decode cX14_pactTold 7 = .ok (.getfield 35, 3) := by decide +kernel
theorem dX14_pactTold_10 : decode cX14_pactTold 10 = .ok (.getfield 225, 3) := by decide +kernel
theorem dX14_pactTold_13 : decode cX14_pactTold 13 = .ok (.iload_n 1, 1) := by decide +kernel
theorem dX14_pactTold_14 : decode cX14_pactTold 14 = .ok (.iaload, 1) := by decide +kernel
theorem dX14_pactTold_15 : decode cX14_pactTold 15 = .ok (.iconst (-1), 1) := by decide +kernel
theorem dX14_pactTold_16 : decode cX14_pactTold 16 = .ok (.if_icmp .ne 7, 3) := by decide +kernel
theorem dX14_pactTold_19 : decode cX14_pactTold 19 = .ok (.iconst 0, 1) := by decide +kernel
theorem dX14_pactTold_20 : decode cX14_pactTold 20 = .ok (.goto 4, 3) := by decide +kernel
theorem dX14_pactTold_23 : decode cX14_pactTold 23 = .ok (.iconst 1, 1) := by decide +kernel
theorem dX14_pactTold_24 : decode cX14_pactTold 24 = .ok (.iastore, 1) := by decide +kernel
theorem dX14_pactTold_25 : decode cX14_pactTold 25 = .ok (.dup, 1) := by decide +kernel
theorem dX14_pactTold_26 : decode cX14_pactTold 26 = .ok (.iconst 1, 1) := by decide +kernel
theorem dX14_pactTold_27 : decode cX14_pactTold 27 = .ok (.aload_n 0, 1) := by decide +kernel
theorem dX14_pactTold_28 : decode cX14_pactTold 28 = .ok (.getfield 35, 3) := by decide +kernel
theorem dX14_pactTold_31 : decode cX14_pactTold 31 = .ok (.getfield 225, 3) := by decide +kernel
theorem dX14_pactTold_34 : decode cX14_pactTold 34 = .ok (.iload_n 1, 1) := by decide +kernel
theorem dX14_pactTold_35 : decode cX14_pactTold 35 = .ok (.iaload, 1) := by decide +kernel
theorem dX14_pactTold_36 : decode cX14_pactTold 36 = .ok (.iastore, 1) := by decide +kernel
theorem dX14_pactTold_37 : decode cX14_pactTold 37 = .ok (.dup, 1) := by decide +kernel
theorem dX14_pactTold_38 : decode cX14_pactTold 38 = .ok (.iconst 2, 1) := by decide +kernel
theorem dX14_pactTold_39 : decode cX14_pactTold 39 = .ok (.aload_n 0, 1) := by decide +kernel
theorem dX14_pactTold_40 : decode cX14_pactTold 40 = .ok (.getfield 35, 3) := by decide +kernel
theorem dX14_pactTold_43 : decode cX14_pactTold 43 = .ok (.getfield 262, 3) := by decide +kernel
theorem dX14_pactTold_46 : decode cX14_pactTold 46 = .ok (.iload_n 1, 1) := by decide +kernel
theorem dX14_pactTold_47 : decode cX14_pactTold 47 = .ok (.iaload, 1) := by decide +kernel
theorem dX14_pactTold_48 : decode cX14_pactTold 48 = .ok (.iastore, 1) := by decide +kernel
theorem dX14_pactTold_49 : decode cX14_pactTold 49 = .ok (.dup, 1) := by decide +kernel
theorem dX14_pactTold_50 : decode cX14_pactTold 50 = .ok (.iconst 3, 1) := by decide +kernel
theorem dX14_pactTold_51 : decode cX14_pactTold 51 = .ok (.aload_n 0, 1) := by decide +kernel
theorem dX14_pactTold_52 : decode cX14_pactTold 52 = .ok (.getfield 35, 3) := by decide +kernel
theorem dX14_pactTold_55 : decode cX14_pactTold 55 = .ok (.getfield 265, 3) := by decide +kernel
theorem dX14_pactTold_58 : decode cX14_pactTold 58 = .ok (.bipush 8, 2) := by decide +kernel
theorem dX14_pactTold_60 : decode cX14_pactTold 60 = .ok (.iload_n 1, 1) := by decide +kernel
theorem dX14_pactTold_61 : decode cX14_pactTold 61 = .ok (.imul, 1) := by decide +kernel
theorem dX14_pactTold_62 : decode cX14_pactTold 62 = .ok (.iaload, 1) := by decide +kernel
theorem dX14_pactTold_63 : decode cX14_pactTold 63 = .ok (.iastore, 1) := by decide +kernel
theorem dX14_pactTold_64 : decode cX14_pactTold 64 = .ok (.dup, 1) := by decide +kernel
theorem dX14_pactTold_65 : decode cX14_pactTold 65 = .ok (.iconst 4, 1) := by decide +kernel
theorem dX14_pactTold_66 : decode cX14_pactTold 66 = .ok (.aload_n 0, 1) := by decide +kernel
theorem dX14_pactTold_67 : decode cX14_pactTold 67 = .ok (.getfield 47, 3) := by decide +kernel
theorem dX14_pactTold_70 : decode cX14_pactTold 70 = .ok (.getfield 335, 3) := by decide +kernel
theorem dX14_pactTold_73 : decode cX14_pactTold 73 = .ok (.iload_n 1, 1) := by decide +kernel
theorem dX14_pactTold_74 : decode cX14_pactTold 74 = .ok (.iaload, 1) := by decide +kernel
theorem dX14_pactTold_75 : decode cX14_pactTold 75 = .ok (.iastore, 1) := by decide +kernel
theorem dX14_pactTold_76 : decode cX14_pactTold 76 = .ok (.dup, 1) := by decide +kernel
theorem dX14_pactTold_77 : decode cX14_pactTold 77 = .ok (.iconst 5, 1) := by decide +kernel
theorem dX14_pactTold_78 : decode cX14_pactTold 78 = .ok (.aload_n 0, 1) := by decide +kernel
theorem dX14_pactTold_79 : decode cX14_pactTold 79 = .ok (.getfield 47, 3) := by decide +kernel
theorem dX14_pactTold_82 : decode cX14_pactTold 82 = .ok (.getfield 338, 3) := by decide +kernel
theorem dX14_pactTold_85 : decode cX14_pactTold 85 = .ok (.iload_n 1, 1) := by decide +kernel
theorem dX14_pactTold_86 : decode cX14_pactTold 86 = .ok (.iaload, 1) := by decide +kernel
theorem dX14_pactTold_87 : decode cX14_pactTold 87 = .ok (.iastore, 1) := by decide +kernel
theorem dX14_pactTold_88 : decode cX14_pactTold 88 = .ok (.dup, 1) := by decide +kernel
theorem dX14_pactTold_89 : decode cX14_pactTold 89 = .ok (.bipush 6, 2) := by decide +kernel
theorem dX14_pactTold_91 : decode cX14_pactTold 91 = .ok (.aload_n 0, 1) := by decide +kernel
theorem dX14_pactTold_92 : decode cX14_pactTold 92 = .ok (.getfield 47, 3) := by decide +kernel
theorem dX14_pactTold_95 : decode cX14_pactTold 95 = .ok (.getfield 341, 3) := by decide +kernel
theorem dX14_pactTold_98 : decode cX14_pactTold 98 = .ok (.iload_n 1, 1) := by decide +kernel
theorem dX14_pactTold_99 : decode cX14_pactTold 99 = .ok (.iaload, 1) := by decide +kernel
theorem dX14_pactTold_100 : decode cX14_pactTold 100 = .ok (.iastore, 1) := by decide +kernel
theorem dX14_pactTold_101 : decode cX14_pactTold 101 = .ok (.astore_n 3, 1) := by decide +kernel
theorem dX14_pactTold_102 : decode cX14_pactTold 102 = .ok (.aload_n 3, 1) := by decide +kernel
theorem dX14_pactTold_103 : decode cX14_pactTold 103 = .ok (.iload_n 2, 1) := by decide +kernel
theorem dX14_pactTold_104 : decode cX14_pactTold 104 = .ok (.iaload, 1) := by decide +kernel
theorem dX14_pactTold_105 : decode cX14_pactTold 105 = .ok (.ireturn, 1) := by decide +kernel
theorem k_X14_pactTold_f35 : Cond.fieldLink RX14 35 "TideLotsModel" "told" "LTideLotsModel$Told;" ∈ wsX14_pactTold := by decide +kernel
theorem i_X14_pactTold_X14 : ∀ w ∈ u_ws RX14 TX14 15, w ∈ wsX14_pactTold := by decide +kernel
theorem i_X14_pactTold_X13 : ∀ w ∈ u_ws RX13 TX13 25, w ∈ wsX14_pactTold := by decide +kernel
theorem k_X14_pactTold_f47 : Cond.fieldLink RX14 47 "TideLotsModel" "s" "LTideLotsModel$State;" ∈ wsX14_pactTold := by decide +kernel
theorem kn_X14_335 : Cond.fieldLinkNest "TideLotsModel" (335 : Nat) "TideLotsModel$State" "shown" "[I" "TideLotsModel" ∈ gNs := by decide +kernel
theorem i_X14_pactTold_X12 : ∀ w ∈ u_ws RX12 TX12 19, w ∈ wsX14_pactTold := by decide +kernel
theorem kn_X14_338 : Cond.fieldLinkNest "TideLotsModel" (338 : Nat) "TideLotsModel$State" "hidden" "[I" "TideLotsModel" ∈ gNs := by decide +kernel
theorem kn_X14_341 : Cond.fieldLinkNest "TideLotsModel" (341 : Nat) "TideLotsModel$State" "hid" "[I" "TideLotsModel" ∈ gNs := by decide +kernel
theorem k_X14_pactTold_acint : Cond.arrayClass .int ∈ wsX14_pactTold := by decide +kernel
abbrev rX14_pactTold : Room := { frames := 0, cells := 1, slots := 7, locals := 0 }
noncomputable def b_X14_pactTold_24 (M : gMem) (x0 : Nat) (x1 : Int32) (x2 : Int32) (s0 : Option Nat) (s1 : Option Nat) (s2 : Int32) (s3 : Int32) : Option (Int32 × gMem) :=
  dr s1 fun a1 => ck (mT M a1 = 20) <| ck (inb s2 (mL M a1)) <| lw (wI M a1 s2.toNatClampNeg s3) fun M4 => ck (mT M4 x0 = 13) <| dr ((mR M4 x0 11)) fun a7 => ck (mT M4 a7 = 12) <| dr ((mR M4 a7 12)) fun a9 => ck (mT M4 a9 = 20) <| ck (inb x1 (mL M4 a9)) <| dr s0 fun a12 => ck (mT M4 a12 = 20) <| ck (inb (1 : Int32) (mL M4 a12)) <| lw (wI M4 a12 ((1 : Int32)).toNatClampNeg ((mI M4 a9 x1.toNatClampNeg))) fun M15 => dr ((mR M15 x0 11)) fun a21 => ck (mT M15 a21 = 12) <| dr ((mR M15 a21 13)) fun a23 => ck (mT M15 a23 = 20) <| ck (inb x1 (mL M15 a23)) <| ck (inb (2 : Int32) (mL M15 a12)) <| lw (wI M15 a12 ((2 : Int32)).toNatClampNeg ((mI M15 a23 x1.toNatClampNeg))) fun M27 => dr ((mR M27 x0 11)) fun a35 => ck (mT M27 a35 = 12) <| dr ((mR M27 a35 14)) fun a37 => ck (mT M27 a37 = 20) <| ck (inb ((8 : Int32) * x1) (mL M27 a37)) <| ck (inb (3 : Int32) (mL M27 a12)) <| lw (wI M27 a12 ((3 : Int32)).toNatClampNeg ((mI M27 a37 (((8 : Int32) * x1)).toNatClampNeg))) fun M41 => dr ((mR M41 x0 13)) fun a51 => ck (mT M41 a51 = 11) <| dr ((mR M41 a51 11)) fun a53 => ck (mT M41 a53 = 20) <| ck (inb x1 (mL M41 a53)) <| ck (inb (4 : Int32) (mL M41 a12)) <| lw (wI M41 a12 ((4 : Int32)).toNatClampNeg ((mI M41 a53 x1.toNatClampNeg))) fun M57 => dr ((mR M57 x0 13)) fun a69 => ck (mT M57 a69 = 11) <| dr ((mR M57 a69 12)) fun a71 => ck (mT M57 a71 = 20) <| ck (inb x1 (mL M57 a71)) <| ck (inb (5 : Int32) (mL M57 a12)) <| lw (wI M57 a12 ((5 : Int32)).toNatClampNeg ((mI M57 a71 x1.toNatClampNeg))) fun M75 => dr ((mR M75 x0 13)) fun a89 => ck (mT M75 a89 = 11) <| dr ((mR M75 a89 13)) fun a91 => ck (mT M75 a91 = 20) <| ck (inb x1 (mL M75 a91)) <| ck (inb (6 : Int32) (mL M75 a12)) <| lw (wI M75 a12 ((6 : Int32)).toNatClampNeg ((mI M75 a91 x1.toNatClampNeg))) fun M95 => ck (inb x2 (mL M95 a12)) <| some ((mI M95 a12 x2.toNatClampNeg), M95)
noncomputable def b_X14_pactTold_0 (M : gMem) (x0 : Nat) (x1 : Int32) (x2 : Int32) : Option (Int32 × gMem) :=
  lw (nW M 20 ((7 : Int32)).toNatClampNeg) fun M112 => ck (mT M112 x0 = 13) <| dr ((mR M112 x0 11)) fun a114 => ck (mT M112 a114 = 12) <| dr ((mR M112 a114 12)) fun a116 => ck (mT M112 a116 = 20) <| ck (inb x1 (mL M112 a116)) <| (if (mI M112 a116 x1.toNatClampNeg) = (-1 : Int32) then b_X14_pactTold_24 M112 x0 x1 x2 ((some (mN M))) ((some (mN M))) ((0 : Int32)) ((0 : Int32)) else b_X14_pactTold_24 M112 x0 x1 x2 ((some (mN M))) ((some (mN M))) ((0 : Int32)) ((1 : Int32)))
noncomputable def f_X14_pactTold (M : gMem) (x0 : Nat) (x1 : Int32) (x2 : Int32) : Option (Int32 × gMem) :=
  b_X14_pactTold_0 M x0 x1 x2
set_option maxHeartbeats 4000000 in
set_option maxRecDepth 100000 in
theorem t_X14_pactTold_24 (X : gX p s m args meth c D cy B (gSt Z B H0) RX14 cX14_pactTold wsX14_pactTold 4) (hr : meth.sig.returnType = (some .int)) {Q : State → Prop} : ∀ (M : gMem) (x0 : Nat) (x1 : Int32) (x2 : Int32) (s0 : Option Nat) (s1 : Option Nat) (s2 : Int32) (s3 : Int32) (z : Int32 × gMem), b_X14_pactTold_24 M x0 x1 x2 s0 s1 s2 s3 = some z → (fun (r : Int32 × gMem) => Q = gMQ below D cy B H0 args s 1 7 (some (vI r.1)) r.2) z → gGo p l e rX14_pactTold s m args below meth c D cy B H0 4 1 7 Q 24 [(0, vR (some x0)), (1, vI x1), (2, vI x2)] [vI s3, vI s2, vR s1, vR s0] M := by
  intro M x0 x1 x2 s0 s1 s2 s3 z hf hK
  unfold b_X14_pactTold_24 at hf
  obtain ⟨a1, ha1, hf⟩ := dr_e hf
  obtain ⟨hT2, hf⟩ := ck_e hf
  obtain ⟨hg3, hf⟩ := ck_e hf
  refine g_iast X dX14_pactTold_24 ha1 hT2 hg3 ?_
  obtain ⟨M4, hM4, hf⟩ := lw_e hf
  rw [← hM4]
  have hT5 : mT M4 a1 = 20 := by rw [hM4]; exact hT2
  refine g_dup X dX14_pactTold_25 rfl ?_
  refine g_iconst (v := (1 : Int32)) X dX14_pactTold_26 (by decide) ?_
  refine g_aload_n X dX14_pactTold_27 rfl rfl ?_
  obtain ⟨hT6, hf⟩ := ck_e hf
  refine g_get (ci := 12) (v := vR (mR M4 x0 11)) 11 X cdX14 i_X14_pactTold_X14 (by decide) k_X14_pactTold_f35 rfl dX14_pactTold_28 rfl hT6 rfl ?_
  obtain ⟨a7, ha7, hf⟩ := dr_e hf
  obtain ⟨hT8, hf⟩ := ck_e hf
  refine g_getN (ci := 11) (w := vR (mR M4 a7 12)) 12 X cdX13 i_X14_pactTold_X13 (by decide) (gNw X _ kn_X14_225) rfl dX14_pactTold_31 ha7 hT8 rfl ?_
  refine g_iload_n X dX14_pactTold_34 rfl rfl ?_
  obtain ⟨a9, ha9, hf⟩ := dr_e hf
  obtain ⟨hT10, hf⟩ := ck_e hf
  obtain ⟨hg11, hf⟩ := ck_e hf
  refine g_iald X dX14_pactTold_35 ha9 hT10 hg11 ?_
  obtain ⟨a12, ha12, hf⟩ := dr_e hf
  obtain ⟨hT13, hf⟩ := ck_e hf
  obtain ⟨hg14, hf⟩ := ck_e hf
  refine g_iast X dX14_pactTold_36 ha12 hT13 hg14 ?_
  obtain ⟨M15, hM15, hf⟩ := lw_e hf
  rw [← hM15]
  have hT16 : mT M15 a1 = 20 := by rw [hM15]; exact hT5
  have hT17 : mT M15 x0 = 13 := by rw [hM15]; exact hT6
  have hT18 : mT M15 a7 = 12 := by rw [hM15]; exact hT8
  have hT19 : mT M15 a9 = 20 := by rw [hM15]; exact hT10
  have hT20 : mT M15 a12 = 20 := by rw [hM15]; exact hT13
  refine g_dup X dX14_pactTold_37 rfl ?_
  refine g_iconst (v := (2 : Int32)) X dX14_pactTold_38 (by decide) ?_
  refine g_aload_n X dX14_pactTold_39 rfl rfl ?_
  refine g_get (ci := 12) (v := vR (mR M15 x0 11)) 11 X cdX14 i_X14_pactTold_X14 (by decide) k_X14_pactTold_f35 rfl dX14_pactTold_40 rfl hT17 rfl ?_
  obtain ⟨a21, ha21, hf⟩ := dr_e hf
  obtain ⟨hT22, hf⟩ := ck_e hf
  refine g_getN (ci := 11) (w := vR (mR M15 a21 13)) 13 X cdX13 i_X14_pactTold_X13 (by decide) (gNw X _ kn_X14_262) rfl dX14_pactTold_43 ha21 hT22 rfl ?_
  refine g_iload_n X dX14_pactTold_46 rfl rfl ?_
  obtain ⟨a23, ha23, hf⟩ := dr_e hf
  obtain ⟨hT24, hf⟩ := ck_e hf
  obtain ⟨hg25, hf⟩ := ck_e hf
  refine g_iald X dX14_pactTold_47 ha23 hT24 hg25 ?_
  obtain ⟨hg26, hf⟩ := ck_e hf
  refine g_iast X dX14_pactTold_48 ha12 hT20 hg26 ?_
  obtain ⟨M27, hM27, hf⟩ := lw_e hf
  rw [← hM27]
  have hT28 : mT M27 a1 = 20 := by rw [hM27]; exact hT16
  have hT29 : mT M27 x0 = 13 := by rw [hM27]; exact hT17
  have hT30 : mT M27 a7 = 12 := by rw [hM27]; exact hT18
  have hT31 : mT M27 a9 = 20 := by rw [hM27]; exact hT19
  have hT32 : mT M27 a12 = 20 := by rw [hM27]; exact hT20
  have hT33 : mT M27 a21 = 12 := by rw [hM27]; exact hT22
  have hT34 : mT M27 a23 = 20 := by rw [hM27]; exact hT24
  refine g_dup X dX14_pactTold_49 rfl ?_
  refine g_iconst (v := (3 : Int32)) X dX14_pactTold_50 (by decide) ?_
  refine g_aload_n X dX14_pactTold_51 rfl rfl ?_
  refine g_get (ci := 12) (v := vR (mR M27 x0 11)) 11 X cdX14 i_X14_pactTold_X14 (by decide) k_X14_pactTold_f35 rfl dX14_pactTold_52 rfl hT29 rfl ?_
  obtain ⟨a35, ha35, hf⟩ := dr_e hf
  obtain ⟨hT36, hf⟩ := ck_e hf
  refine g_getN (ci := 11) (w := vR (mR M27 a35 14)) 14 X cdX13 i_X14_pactTold_X13 (by decide) (gNw X _ kn_X14_265) rfl dX14_pactTold_55 ha35 hT36 rfl ?_
  refine g_bipush (v := (8 : Int32)) X dX14_pactTold_58 (by decide) ?_
  refine g_iload_n X dX14_pactTold_60 rfl rfl ?_
  refine g_imul X dX14_pactTold_61 ?_
  obtain ⟨a37, ha37, hf⟩ := dr_e hf
  obtain ⟨hT38, hf⟩ := ck_e hf
  obtain ⟨hg39, hf⟩ := ck_e hf
  refine g_iald X dX14_pactTold_62 ha37 hT38 hg39 ?_
  obtain ⟨hg40, hf⟩ := ck_e hf
  refine g_iast X dX14_pactTold_63 ha12 hT32 hg40 ?_
  obtain ⟨M41, hM41, hf⟩ := lw_e hf
  rw [← hM41]
  have hT42 : mT M41 a1 = 20 := by rw [hM41]; exact hT28
  have hT43 : mT M41 x0 = 13 := by rw [hM41]; exact hT29
  have hT44 : mT M41 a7 = 12 := by rw [hM41]; exact hT30
  have hT45 : mT M41 a9 = 20 := by rw [hM41]; exact hT31
  have hT46 : mT M41 a12 = 20 := by rw [hM41]; exact hT32
  have hT47 : mT M41 a21 = 12 := by rw [hM41]; exact hT33
  have hT48 : mT M41 a23 = 20 := by rw [hM41]; exact hT34
  have hT49 : mT M41 a35 = 12 := by rw [hM41]; exact hT36
  have hT50 : mT M41 a37 = 20 := by rw [hM41]; exact hT38
  refine g_dup X dX14_pactTold_64 rfl ?_
  refine g_iconst (v := (4 : Int32)) X dX14_pactTold_65 (by decide) ?_
  refine g_aload_n X dX14_pactTold_66 rfl rfl ?_
  refine g_get (ci := 12) (v := vR (mR M41 x0 13)) 13 X cdX14 i_X14_pactTold_X14 (by decide) k_X14_pactTold_f47 rfl dX14_pactTold_67 rfl hT43 rfl ?_
  obtain ⟨a51, ha51, hf⟩ := dr_e hf
  obtain ⟨hT52, hf⟩ := ck_e hf
  refine g_getN (ci := 10) (w := vR (mR M41 a51 11)) 11 X cdX12 i_X14_pactTold_X12 (by decide) (gNw X _ kn_X14_335) rfl dX14_pactTold_70 ha51 hT52 rfl ?_
  refine g_iload_n X dX14_pactTold_73 rfl rfl ?_
  obtain ⟨a53, ha53, hf⟩ := dr_e hf
  obtain ⟨hT54, hf⟩ := ck_e hf
  obtain ⟨hg55, hf⟩ := ck_e hf
  refine g_iald X dX14_pactTold_74 ha53 hT54 hg55 ?_
  obtain ⟨hg56, hf⟩ := ck_e hf
  refine g_iast X dX14_pactTold_75 ha12 hT46 hg56 ?_
  obtain ⟨M57, hM57, hf⟩ := lw_e hf
  rw [← hM57]
  have hT58 : mT M57 a1 = 20 := by rw [hM57]; exact hT42
  have hT59 : mT M57 x0 = 13 := by rw [hM57]; exact hT43
  have hT60 : mT M57 a7 = 12 := by rw [hM57]; exact hT44
  have hT61 : mT M57 a9 = 20 := by rw [hM57]; exact hT45
  have hT62 : mT M57 a12 = 20 := by rw [hM57]; exact hT46
  have hT63 : mT M57 a21 = 12 := by rw [hM57]; exact hT47
  have hT64 : mT M57 a23 = 20 := by rw [hM57]; exact hT48
  have hT65 : mT M57 a35 = 12 := by rw [hM57]; exact hT49
  have hT66 : mT M57 a37 = 20 := by rw [hM57]; exact hT50
  have hT67 : mT M57 a51 = 11 := by rw [hM57]; exact hT52
  have hT68 : mT M57 a53 = 20 := by rw [hM57]; exact hT54
  refine g_dup X dX14_pactTold_76 rfl ?_
  refine g_iconst (v := (5 : Int32)) X dX14_pactTold_77 (by decide) ?_
  refine g_aload_n X dX14_pactTold_78 rfl rfl ?_
  refine g_get (ci := 12) (v := vR (mR M57 x0 13)) 13 X cdX14 i_X14_pactTold_X14 (by decide) k_X14_pactTold_f47 rfl dX14_pactTold_79 rfl hT59 rfl ?_
  obtain ⟨a69, ha69, hf⟩ := dr_e hf
  obtain ⟨hT70, hf⟩ := ck_e hf
  refine g_getN (ci := 10) (w := vR (mR M57 a69 12)) 12 X cdX12 i_X14_pactTold_X12 (by decide) (gNw X _ kn_X14_338) rfl dX14_pactTold_82 ha69 hT70 rfl ?_
  refine g_iload_n X dX14_pactTold_85 rfl rfl ?_
  obtain ⟨a71, ha71, hf⟩ := dr_e hf
  obtain ⟨hT72, hf⟩ := ck_e hf
  obtain ⟨hg73, hf⟩ := ck_e hf
  refine g_iald X dX14_pactTold_86 ha71 hT72 hg73 ?_
  obtain ⟨hg74, hf⟩ := ck_e hf
  refine g_iast X dX14_pactTold_87 ha12 hT62 hg74 ?_
  obtain ⟨M75, hM75, hf⟩ := lw_e hf
  rw [← hM75]
  have hT76 : mT M75 a1 = 20 := by rw [hM75]; exact hT58
  have hT77 : mT M75 x0 = 13 := by rw [hM75]; exact hT59
  have hT78 : mT M75 a7 = 12 := by rw [hM75]; exact hT60
  have hT79 : mT M75 a9 = 20 := by rw [hM75]; exact hT61
  have hT80 : mT M75 a12 = 20 := by rw [hM75]; exact hT62
  have hT81 : mT M75 a21 = 12 := by rw [hM75]; exact hT63
  have hT82 : mT M75 a23 = 20 := by rw [hM75]; exact hT64
  have hT83 : mT M75 a35 = 12 := by rw [hM75]; exact hT65
  have hT84 : mT M75 a37 = 20 := by rw [hM75]; exact hT66
  have hT85 : mT M75 a51 = 11 := by rw [hM75]; exact hT67
  have hT86 : mT M75 a53 = 20 := by rw [hM75]; exact hT68
  have hT87 : mT M75 a69 = 11 := by rw [hM75]; exact hT70
  have hT88 : mT M75 a71 = 20 := by rw [hM75]; exact hT72
  refine g_dup X dX14_pactTold_88 rfl ?_
  refine g_bipush (v := (6 : Int32)) X dX14_pactTold_89 (by decide) ?_
  refine g_aload_n X dX14_pactTold_91 rfl rfl ?_
  refine g_get (ci := 12) (v := vR (mR M75 x0 13)) 13 X cdX14 i_X14_pactTold_X14 (by decide) k_X14_pactTold_f47 rfl dX14_pactTold_92 rfl hT77 rfl ?_
  obtain ⟨a89, ha89, hf⟩ := dr_e hf
  obtain ⟨hT90, hf⟩ := ck_e hf
  refine g_getN (ci := 10) (w := vR (mR M75 a89 13)) 13 X cdX12 i_X14_pactTold_X12 (by decide) (gNw X _ kn_X14_341) rfl dX14_pactTold_95 ha89 hT90 rfl ?_
  refine g_iload_n X dX14_pactTold_98 rfl rfl ?_
  obtain ⟨a91, ha91, hf⟩ := dr_e hf
  obtain ⟨hT92, hf⟩ := ck_e hf
  obtain ⟨hg93, hf⟩ := ck_e hf
  refine g_iald X dX14_pactTold_99 ha91 hT92 hg93 ?_
  obtain ⟨hg94, hf⟩ := ck_e hf
  refine g_iast X dX14_pactTold_100 ha12 hT80 hg94 ?_
  obtain ⟨M95, hM95, hf⟩ := lw_e hf
  rw [← hM95]
  have hT96 : mT M95 a1 = 20 := by rw [hM95]; exact hT76
  have hT97 : mT M95 x0 = 13 := by rw [hM95]; exact hT77
  have hT98 : mT M95 a7 = 12 := by rw [hM95]; exact hT78
  have hT99 : mT M95 a9 = 20 := by rw [hM95]; exact hT79
  have hT100 : mT M95 a12 = 20 := by rw [hM95]; exact hT80
  have hT101 : mT M95 a21 = 12 := by rw [hM95]; exact hT81
  have hT102 : mT M95 a23 = 20 := by rw [hM95]; exact hT82
  have hT103 : mT M95 a35 = 12 := by rw [hM95]; exact hT83
  have hT104 : mT M95 a37 = 20 := by rw [hM95]; exact hT84
  have hT105 : mT M95 a51 = 11 := by rw [hM95]; exact hT85
  have hT106 : mT M95 a53 = 20 := by rw [hM95]; exact hT86
  have hT107 : mT M95 a69 = 11 := by rw [hM95]; exact hT87
  have hT108 : mT M95 a71 = 20 := by rw [hM95]; exact hT88
  have hT109 : mT M95 a89 = 11 := by rw [hM95]; exact hT90
  have hT110 : mT M95 a91 = 20 := by rw [hM95]; exact hT92
  refine g_astore_n (lv' := [(3, vR s0), (0, vR (some x0)), (1, vI x1), (2, vI x2)]) X dX14_pactTold_101 rfl (by decide) rfl ?_
  refine g_aload_n X dX14_pactTold_102 rfl rfl ?_
  refine g_iload_n X dX14_pactTold_103 rfl rfl ?_
  obtain ⟨hg111, hf⟩ := ck_e hf
  refine g_iald X dX14_pactTold_104 ha12 hT100 hg111 ?_
  cases hf
  refine g_eqQ hK ?_
  exact g_iret X hr dX14_pactTold_105
set_option maxHeartbeats 4000000 in
set_option maxRecDepth 100000 in
theorem t_X14_pactTold_0 (X : gX p s m args meth c D cy B (gSt Z B H0) RX14 cX14_pactTold wsX14_pactTold 4) (hr : meth.sig.returnType = (some .int)) {Q : State → Prop} : ∀ (M : gMem) (x0 : Nat) (x1 : Int32) (x2 : Int32) (z : Int32 × gMem), b_X14_pactTold_0 M x0 x1 x2 = some z → (fun (r : Int32 × gMem) => Q = gMQ below D cy B H0 args s 1 7 (some (vI r.1)) r.2) z → gGo p l e rX14_pactTold s m args below meth c D cy B H0 4 0 0 Q 0 [(0, vR (some x0)), (1, vI x1), (2, vI x2)] [] M := by
  intro M x0 x1 x2 z hf hK
  unfold b_X14_pactTold_0 at hf
  refine g_bipush (v := (7 : Int32)) X dX14_pactTold_0 (by decide) ?_
  refine g_newa (at' := .int) (t0 := 0) X k_X14_pactTold_acint (by exact Or.inl ⟨rfl, rfl⟩) (by decide) (by decide) ⟨by decide, by decide⟩ dX14_pactTold_2 ?_
  obtain ⟨M112, hM112, hf⟩ := lw_e hf
  rw [← hM112]
  refine g_dup X dX14_pactTold_4 rfl ?_
  refine g_iconst (v := (0 : Int32)) X dX14_pactTold_5 (by decide) ?_
  refine g_aload_n X dX14_pactTold_6 rfl rfl ?_
  obtain ⟨hT113, hf⟩ := ck_e hf
  refine g_get (ci := 12) (v := vR (mR M112 x0 11)) 11 X cdX14 i_X14_pactTold_X14 (by decide) k_X14_pactTold_f35 rfl dX14_pactTold_7 rfl hT113 rfl ?_
  obtain ⟨a114, ha114, hf⟩ := dr_e hf
  obtain ⟨hT115, hf⟩ := ck_e hf
  refine g_getN (ci := 11) (w := vR (mR M112 a114 12)) 12 X cdX13 i_X14_pactTold_X13 (by decide) (gNw X _ kn_X14_225) rfl dX14_pactTold_10 ha114 hT115 rfl ?_
  refine g_iload_n X dX14_pactTold_13 rfl rfl ?_
  obtain ⟨a116, ha116, hf⟩ := dr_e hf
  obtain ⟨hT117, hf⟩ := ck_e hf
  obtain ⟨hg118, hf⟩ := ck_e hf
  refine g_iald X dX14_pactTold_14 ha116 hT117 hg118 ?_
  refine g_iconst (v := (-1 : Int32)) X dX14_pactTold_15 (by decide) ?_
  refine g_icmp_ne (tgt := 23) X dX14_pactTold_16 (by decide) (fun hc => ?_) (fun hc => ?_)
  · have hf := ife_f hc hf
    refine g_iconst (v := (1 : Int32)) X dX14_pactTold_23 (by decide) ?_
    refine g_sub (lvsub_of _ _ [0, 1, 2] rfl) ?_
    exact t_X14_pactTold_24 X hr _ _ _ _ _ _ _ _ _ hf hK
  · have hf := ife_t hc hf
    refine g_iconst (v := (0 : Int32)) X dX14_pactTold_19 (by decide) ?_
    refine g_goto (tgt := 24) X dX14_pactTold_20 (by decide) ?_
    refine g_sub (lvsub_of _ _ [0, 1, 2] rfl) ?_
    exact t_X14_pactTold_24 X hr _ _ _ _ _ _ _ _ _ hf hK
set_option maxHeartbeats 4000000 in
set_option maxRecDepth 100000 in
theorem m_X14_pactTold (l : Launch) {D : va_G} {cy : Nat → ClassId} {B : Nat} {H0 : Heap} {Z : Nat → Nat} {M M1 : gMem} {x0 : Nat} {x1 : Int32} {x2 : Int32} {r : Int32} (hf : f_X14_pactTold M x0 x1 x2 = some (r, M1)) : Met l yX14_pactTold wsX14_pactTold rX14_pactTold (va_Pc (Value.ref x0 :: List.map gv [vI x1, vI x2]) (gPre D cy B H0 (gSt Z B H0) M)) (gQ D cy B H0 (some (vI r)) M1) 1 7 (gA B) := by
  refine Met.ofW (cc := cX14_pactTold) (maxL := 4) (ret := (some .int)) (by decide) rfl ?_
  intro p e s m args below meth c s₁ Bd hml hv
  obtain ⟨rfl, hW, hKK, hFs⟩ := hv
  have X : gX p s m _ meth c D cy B (gSt Z B H0) RX14 cX14_pactTold wsX14_pactTold 4 := ⟨Bd.exec, Bd.bytes, atoms_spec (ws := wsX14_pactTold) Bd.pre, findClass_of_methodNamed Bd.named, hml, hKK, by rw [hW.1]; exact hW.2.1, Bd.notSynchronized, hFs⟩
  have hr := Bd.returns
  have hl := lv_entry ([.ref x0, .int x1, .int x2]) (n := 4) (Nat.le_of_ble_eq_true rfl)
  show W p l e rX14_pactTold s m _ below meth c s.heap [] 0 0 _ (entryFrame m ([.ref x0, .int x1, .int x2] : List Value).toArray 4)
  rw [lg_entry_eq]
  generalize (lg_sl ([.ref x0, .int x1, .int x2]) ++ List.replicate (4 - (lg_sl ([.ref x0, .int x1, .int x2])).length) Slot.unset).toArray = ls at hl ⊢
  have hl : lv_has ls 4 (List.map gq [(0, vR (some x0)), (1, vI x1), (2, vI x2)]) := hl
  exact t_X14_pactTold_0 X hr _ _ _ _ _ hf rfl s.heap [] ls hW va_S.rf (lv_has_sub hl (lvsub_of _ _ [0, 1, 2] rfl))
/-! ## TideLotsModel.pact(II)I -/
theorem dX14_pact_0 : decode cX14_pact 0 = .ok (.aload_n 0, 1) := by decide +kernel
theorem dX14_pact_1 : decode cX14_pact 1 = .ok (.iconst 0, 1) := by decide +kernel
theorem dX14_pact_2 : decode cX14_pact 2 = .ok (.putfield 57, 3) := by decide +kernel
theorem dX14_pact_5 : decode cX14_pact 5 = .ok (.iload_n 1, 1) := by decide +kernel
theorem dX14_pact_6 : decode cX14_pact 6 = .ok (.iconst 0, 1) := by decide +kernel
theorem dX14_pact_7 : decode cX14_pact 7 = .ok (.aload_n 0, 1) := by decide +kernel
theorem dX14_pact_8 : decode cX14_pact 8 = .ok (.getfield 35, 3) := by decide +kernel
theorem dX14_pact_11 : decode cX14_pact 11 = .ok (.getfield 222, 3) := by decide +kernel
theorem dX14_pact_14 : decode cX14_pact 14 = .ok (.iconst 1, 1) := by decide +kernel
theorem dX14_pact_15 : decode cX14_pact 15 = .ok (.isub, 1) := by decide +kernel
theorem dX14_pact_16 : decode cX14_pact 16 = .ok (.invokestatic 63, 3) := by decide +kernel
theorem dX14_pact_19 : decode cX14_pact 19 = .ok (.ifCond .eq 22, 3) := by decide +kernel
theorem dX14_pact_22 : decode cX14_pact 22 = .ok (.iload_n 2, 1) := by decide +kernel
theorem dX14_pact_23 : decode cX14_pact 23 = .ok (.iconst 0, 1) := by decide +kernel
theorem dX14_pact_24 : decode cX14_pact 24 = .ok (.bipush 6, 2) := by decide +kernel
theorem dX14_pact_26 : decode cX14_pact 26 = .ok (.invokestatic 63, 3) := by decide +kernel
theorem dX14_pact_29 : decode cX14_pact 29 = .ok (.ifCond .eq 12, 3) := by decide +kernel
theorem dX14_pact_32 : decode cX14_pact 32 = .ok (.aload_n 0, 1) := by decide +kernel
theorem dX14_pact_33 : decode cX14_pact 33 = .ok (.iload_n 1, 1) := by decide +kernel
theorem dX14_pact_34 : decode cX14_pact 34 = .ok (.iload_n 2, 1) := by decide +kernel
theorem dX14_pact_35 : decode cX14_pact 35 = .ok (.invokevirtual 344, 3) := by decide +kernel
theorem dX14_pact_38 : decode cX14_pact 38 = .ok (.goto 8, 3) := by decide +kernel
theorem dX14_pact_41 : decode cX14_pact 41 = .ok (.aload_n 0, 1) := by decide +kernel
theorem dX14_pact_42 : decode cX14_pact 42 = .ok (.iconst 1, 1) := by decide +kernel
theorem dX14_pact_43 : decode cX14_pact 43 = .ok (.invokevirtual 276, 3) := by decide +kernel
theorem dX14_pact_46 : decode cX14_pact 46 = .ok (.ireturn, 1) := by decide +kernel
set_option maxRecDepth 20000 in
theorem ggX14_pact_X14_no : GoodIn wsX14_pact wsX14_no := goodIn_rr wsB_X14_pact_in _ [(1, 15), (1, 0), (2, 0), (2, 1), (2, 2), (2, 3), (2, 4), (2, 5), (2, 6), (2, 7), (2, 8), (2, 9), (2, 10), (2, 11), (2, 12), (2, 13), (2, 14)] (by decide +kernel) (by decide +kernel)
set_option maxRecDepth 20000 in
theorem gX14_pact_X14_no : GoodIn wsX14_pact (wsV RX14 276 RX14 yX14_no wsX14_no) := goodIn_app (goodIn_rr wsB_X14_pact_in _ [(1, 12), (1, 13), (1, 14), (1, 4)] (by decide +kernel) (by decide +kernel)) ggX14_pact_X14_no
set_option maxRecDepth 20000 in
theorem ggX14_pact_X14_isIn : GoodIn wsX14_pact wsX14_isIn := goodIn_rr wsB_X14_pact_in _ [(1, 5)] (by decide +kernel) (by decide +kernel)
set_option maxRecDepth 20000 in
theorem gX14_pact_X14_isIn : GoodIn wsX14_pact (va_wsS RX14 63 yX14_isIn wsX14_isIn) := goodIn_app (goodIn_rr wsB_X14_pact_in _ [(1, 2), (1, 3), (1, 4)] (by decide +kernel) (by decide +kernel)) ggX14_pact_X14_isIn
set_option maxRecDepth 20000 in
theorem ggX14_pact_X14_pactTold : GoodIn wsX14_pact wsX14_pactTold := goodIn_2 24 (goodIn_rr wsB_X14_pact_in _ [(1, 9), (1, 10), (1, 1), (1, 11), (2, 0), (2, 1), (2, 2), (2, 3), (2, 4), (2, 5), (2, 6), (2, 7), (2, 8), (2, 9), (2, 10), (2, 11), (2, 12), (2, 13), (2, 14), (3, 0), (3, 1), (3, 2), (3, 3), (3, 4)] (by decide +kernel) (by decide +kernel)) (goodIn_2 24 (goodIn_rr wsB_X14_pact_in _ [(3, 5), (3, 6), (3, 7), (3, 8), (3, 9), (3, 10), (3, 11), (3, 12), (3, 13), (3, 14), (3, 15), (3, 16), (3, 17), (3, 18), (3, 19), (3, 20), (3, 21), (3, 22), (3, 23), (3, 24), (4, 0), (4, 1), (4, 2), (4, 3)] (by decide +kernel) (by decide +kernel)) (goodIn_rr wsB_X14_pact_in _ [(4, 4), (4, 5), (4, 6), (4, 7), (4, 8), (4, 9), (4, 10), (4, 11), (4, 12), (4, 13), (4, 14), (4, 15), (4, 16), (4, 17), (4, 18)] (by decide +kernel) (by decide +kernel)))
set_option maxRecDepth 20000 in
theorem gX14_pact_X14_pactTold : GoodIn wsX14_pact (wsV RX14 344 RX14 yX14_pactTold wsX14_pactTold) := goodIn_app (goodIn_rr wsB_X14_pact_in _ [(1, 6), (1, 7), (1, 8), (1, 4)] (by decide +kernel) (by decide +kernel)) ggX14_pact_X14_pactTold
theorem k_X14_pact_f57 : Cond.fieldLink RX14 57 "TideLotsModel" "thrown" "I" ∈ wsX14_pact := by decide +kernel
theorem i_X14_pact_X14 : ∀ w ∈ u_ws RX14 TX14 15, w ∈ wsX14_pact := by decide +kernel
theorem k_X14_pact_f35 : Cond.fieldLink RX14 35 "TideLotsModel" "told" "LTideLotsModel$Told;" ∈ wsX14_pact := by decide +kernel
theorem i_X14_pact_X13 : ∀ w ∈ u_ws RX13 TX13 25, w ∈ wsX14_pact := by decide +kernel
abbrev rX14_pact : Room := { frames := 1, cells := 1, slots := 7, locals := 23 }
noncomputable def b_X14_pact_46 (M : gMem) (s0 : Int32) : Option (Int32 × gMem) :=
  some (s0, M)
noncomputable def b_X14_pact_41 (M : gMem) (x0 : Nat) : Option (Int32 × gMem) :=
  ck (mT M x0 = 13) <| bd (f_X14_no M x0 ((1 : Int32))) fun r1 M1 => b_X14_pact_46 M1 r1
noncomputable def b_X14_pact_0 (M : gMem) (x0 : Nat) (x1 : Int32) (x2 : Int32) : Option (Int32 × gMem) :=
  ck (mT M x0 = 13) <| lw (wI M x0 0 ((0 : Int32))) fun M4 => dr ((mR M4 x0 11)) fun a6 => ck (mT M4 a6 = 12) <| bd (f_X14_isIn M4 x1 ((0 : Int32)) (((mI M4 a6 11) - (1 : Int32)))) fun r8 M8 => (if r8 = 0 then b_X14_pact_41 M8 x0 else bd (f_X14_isIn M8 x2 ((0 : Int32)) ((6 : Int32))) fun r9 M9 => (if r9 = 0 then b_X14_pact_41 M9 x0 else ck (mT M9 x0 = 13) <| bd (f_X14_pactTold M9 x0 x1 x2) fun r10 M10 => b_X14_pact_46 M10 r10))
noncomputable def f_X14_pact (M : gMem) (x0 : Nat) (x1 : Int32) (x2 : Int32) : Option (Int32 × gMem) :=
  b_X14_pact_0 M x0 x1 x2
set_option maxHeartbeats 4000000 in
set_option maxRecDepth 100000 in
theorem t_X14_pact_46 (X : gX p s m args meth c D cy B (gSt Z B H0) RX14 cX14_pact wsX14_pact 3) (hr : meth.sig.returnType = (some .int)) {Q : State → Prop} : ∀ (M : gMem) (s0 : Int32) (z : Int32 × gMem), b_X14_pact_46 M s0 = some z → (fun (r : Int32 × gMem) => Q = gMQ below D cy B H0 args s 1 7 (some (vI r.1)) r.2) z → gGo p l e rX14_pact s m args below meth c D cy B H0 3 1 7 Q 46 [] [vI s0] M := by
  intro M s0 z hf hK
  unfold b_X14_pact_46 at hf
  cases hf
  refine g_eqQ hK ?_
  exact g_iret X hr dX14_pact_46
set_option maxHeartbeats 4000000 in
set_option maxRecDepth 100000 in
theorem t_X14_pact_41 (X : gX p s m args meth c D cy B (gSt Z B H0) RX14 cX14_pact wsX14_pact 3) (hr : meth.sig.returnType = (some .int)) {Q : State → Prop} : ∀ (M : gMem) (x0 : Nat) (z : Int32 × gMem), b_X14_pact_41 M x0 = some z → (fun (r : Int32 × gMem) => Q = gMQ below D cy B H0 args s 1 7 (some (vI r.1)) r.2) z → gGo p l e rX14_pact s m args below meth c D cy B H0 3 0 0 Q 41 [(0, vR (some x0))] [] M := by
  intro M x0 z hf hK
  unfold b_X14_pact_41 at hf
  refine g_aload_n X dX14_pact_41 rfl rfl ?_
  refine g_iconst (v := (1 : Int32)) X dX14_pact_42 (by decide) ?_
  obtain ⟨hT2, hf⟩ := ck_e hf
  obtain ⟨r1, M1, hq1, hf⟩ := bd_e hf
  refine g_callV (ci := 12) (b := x0) (As := [vI (1 : Int32)]) (st := []) (v := some (vI r1)) (M1 := M1) X (m_X14_no l hq1) (cwV 1 X.2.2.1 gX14_pact_X14_no rfl rfl rfl (by decide +kernel) ⟨Nat.le_of_ble_eq_true rfl, Nat.le_of_ble_eq_true rfl⟩) rfl rfl rfl hT2 (by decide) rfl (Nat.le_of_ble_eq_true rfl) dX14_pact_43 ⟨by decide, by decide⟩ ?_
  refine g_sub (lvsub_of _ _ [] rfl) ?_
  refine g_wide (k' := 1) (n' := 7) (by decide) (by decide) ?_
  exact t_X14_pact_46 X hr _ _ _ hf hK
set_option maxHeartbeats 4000000 in
set_option maxRecDepth 100000 in
theorem t_X14_pact_0 (X : gX p s m args meth c D cy B (gSt Z B H0) RX14 cX14_pact wsX14_pact 3) (hr : meth.sig.returnType = (some .int)) {Q : State → Prop} : ∀ (M : gMem) (x0 : Nat) (x1 : Int32) (x2 : Int32) (z : Int32 × gMem), b_X14_pact_0 M x0 x1 x2 = some z → (fun (r : Int32 × gMem) => Q = gMQ below D cy B H0 args s 1 7 (some (vI r.1)) r.2) z → gGo p l e rX14_pact s m args below meth c D cy B H0 3 0 0 Q 0 [(0, vR (some x0)), (1, vI x1), (2, vI x2)] [] M := by
  intro M x0 x1 x2 z hf hK
  unfold b_X14_pact_0 at hf
  refine g_aload_n X dX14_pact_0 rfl rfl ?_
  refine g_iconst (v := (0 : Int32)) X dX14_pact_1 (by decide) ?_
  obtain ⟨hT3, hf⟩ := ck_e hf
  refine g_putI (ci := 12) 0 X cdX14 i_X14_pact_X14 (by decide) k_X14_pact_f57 rfl dX14_pact_2 rfl hT3 (Or.inl rfl) rfl rfl rfl ?_
  obtain ⟨M4, hM4, hf⟩ := lw_e hf
  rw [← hM4]
  have hT5 : mT M4 x0 = 13 := by rw [hM4]; exact hT3
  refine g_iload_n X dX14_pact_5 rfl rfl ?_
  refine g_iconst (v := (0 : Int32)) X dX14_pact_6 (by decide) ?_
  refine g_aload_n X dX14_pact_7 rfl rfl ?_
  refine g_get (ci := 12) (v := vR (mR M4 x0 11)) 11 X cdX14 i_X14_pact_X14 (by decide) k_X14_pact_f35 rfl dX14_pact_8 rfl hT5 rfl ?_
  obtain ⟨a6, ha6, hf⟩ := dr_e hf
  obtain ⟨hT7, hf⟩ := ck_e hf
  refine g_getN (ci := 11) (w := vI (mI M4 a6 11)) 11 X cdX13 i_X14_pact_X13 (by decide) (gNw X _ kn_X14_222) rfl dX14_pact_11 ha6 hT7 rfl ?_
  refine g_iconst (v := (1 : Int32)) X dX14_pact_14 (by decide) ?_
  refine g_isub X dX14_pact_15 ?_
  obtain ⟨r8, M8, hq8, hf⟩ := bd_e hf
  refine g_callS (As := [vI x1, vI (0 : Int32), vI ((mI M4 a6 11) - (1 : Int32))]) (st := []) (v := some (vI r8)) (M1 := M8) X (m_X14_isIn l hq8) (va_cwS 3 X.2.2.1 gX14_pact_X14_isIn rfl rfl rfl (by decide +kernel) ⟨Nat.le_of_ble_eq_true rfl, Nat.le_of_ble_eq_true rfl⟩) rfl rfl (Nat.le_of_ble_eq_true rfl) dX14_pact_16 ⟨by decide, by decide⟩ ?_
  refine g_if_eq (tgt := 41) X dX14_pact_19 (by decide) (fun hc => ?_) (fun hc => ?_)
  · have hf := ife_t hc hf
    refine g_sub (lvsub_of _ _ [0] rfl) ?_
    exact t_X14_pact_41 X hr _ _ _ hf hK
  · have hf := ife_f hc hf
    refine g_iload_n X dX14_pact_22 rfl rfl ?_
    refine g_iconst (v := (0 : Int32)) X dX14_pact_23 (by decide) ?_
    refine g_bipush (v := (6 : Int32)) X dX14_pact_24 (by decide) ?_
    obtain ⟨r9, M9, hq9, hf⟩ := bd_e hf
    refine g_callS (As := [vI x2, vI (0 : Int32), vI (6 : Int32)]) (st := []) (v := some (vI r9)) (M1 := M9) X (m_X14_isIn l hq9) (va_cwS 3 X.2.2.1 gX14_pact_X14_isIn rfl rfl rfl (by decide +kernel) ⟨Nat.le_of_ble_eq_true rfl, Nat.le_of_ble_eq_true rfl⟩) rfl rfl (Nat.le_of_ble_eq_true rfl) dX14_pact_26 ⟨by decide, by decide⟩ ?_
    refine g_if_eq (tgt := 41) X dX14_pact_29 (by decide) (fun hc => ?_) (fun hc => ?_)
    · have hf := ife_t hc hf
      refine g_sub (lvsub_of _ _ [0] rfl) ?_
      exact t_X14_pact_41 X hr _ _ _ hf hK
    · have hf := ife_f hc hf
      refine g_aload_n X dX14_pact_32 rfl rfl ?_
      refine g_iload_n X dX14_pact_33 rfl rfl ?_
      refine g_iload_n X dX14_pact_34 rfl rfl ?_
      obtain ⟨hT11, hf⟩ := ck_e hf
      obtain ⟨r10, M10, hq10, hf⟩ := bd_e hf
      refine g_callV (ci := 12) (b := x0) (As := [vI x1, vI x2]) (st := []) (v := some (vI r10)) (M1 := M10) X (m_X14_pactTold l hq10) (cwV 2 X.2.2.1 gX14_pact_X14_pactTold rfl rfl rfl (by decide +kernel) ⟨Nat.le_of_ble_eq_true rfl, Nat.le_of_ble_eq_true rfl⟩) rfl rfl rfl hT11 (by decide) rfl (Nat.le_of_ble_eq_true rfl) dX14_pact_35 ⟨by decide, by decide⟩ ?_
      refine g_goto (tgt := 46) X dX14_pact_38 (by decide) ?_
      refine g_sub (lvsub_of _ _ [] rfl) ?_
      exact t_X14_pact_46 X hr _ _ _ hf hK
set_option maxHeartbeats 4000000 in
set_option maxRecDepth 100000 in
theorem m_X14_pact (l : Launch) {D : va_G} {cy : Nat → ClassId} {B : Nat} {H0 : Heap} {Z : Nat → Nat} {M M1 : gMem} {x0 : Nat} {x1 : Int32} {x2 : Int32} {r : Int32} (hf : f_X14_pact M x0 x1 x2 = some (r, M1)) : Met l yX14_pact wsX14_pact rX14_pact (va_Pc (Value.ref x0 :: List.map gv [vI x1, vI x2]) (gPre D cy B H0 (gSt Z B H0) M)) (gQ D cy B H0 (some (vI r)) M1) 1 7 (gA B) := by
  refine Met.ofW (cc := cX14_pact) (maxL := 3) (ret := (some .int)) (by decide) rfl ?_
  intro p e s m args below meth c s₁ Bd hml hv
  obtain ⟨rfl, hW, hKK, hFs⟩ := hv
  have X : gX p s m _ meth c D cy B (gSt Z B H0) RX14 cX14_pact wsX14_pact 3 := ⟨Bd.exec, Bd.bytes, atoms_spec (ws := wsX14_pact) Bd.pre, findClass_of_methodNamed Bd.named, hml, hKK, by rw [hW.1]; exact hW.2.1, Bd.notSynchronized, hFs⟩
  have hr := Bd.returns
  have hl := lv_entry ([.ref x0, .int x1, .int x2]) (n := 3) (Nat.le_of_ble_eq_true rfl)
  show W p l e rX14_pact s m _ below meth c s.heap [] 0 0 _ (entryFrame m ([.ref x0, .int x1, .int x2] : List Value).toArray 3)
  rw [lg_entry_eq]
  generalize (lg_sl ([.ref x0, .int x1, .int x2]) ++ List.replicate (3 - (lg_sl ([.ref x0, .int x1, .int x2])).length) Slot.unset).toArray = ls at hl ⊢
  have hl : lv_has ls 3 (List.map gq [(0, vR (some x0)), (1, vI x1), (2, vI x2)]) := hl
  exact t_X14_pact_0 X hr _ _ _ _ _ hf rfl s.heap [] ls hW va_S.rf (lv_has_sub hl (lvsub_of _ _ [0, 1, 2] rfl))
end
