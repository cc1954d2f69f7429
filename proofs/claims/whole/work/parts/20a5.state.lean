section
variable {p : Program} {l : Launch} {e : Env} {s : State} {m : MethodId} {args : Array Value} {below : List Frame} {meth : Method} {c : Code} {D : va_G} {cy : Nat → ClassId} {B : Nat} {H0 : Heap} {Z : Nat → Nat}
/-! ## TideLotsModel$State.canGo(II)Z -/
theorem dX12_canGo_0 : decode cX12_canGo 0 = .ok (.aload_n 0, 1) := by decide +kernel
theorem dX12_canGo_1 : decode cX12_canGo 1 = .ok (.getfield 3, 3) := by decide +kernel
theorem dX12_canGo_4 : decode cX12_canGo 4 = .ok (.getfield 81, 3) := by decide +kernel
theorem dX12_canGo_7 : decode cX12_canGo 7 = .ok (.getfield 138, 3) := by decide +kernel
theorem dX12_canGo_10 : decode cX12_canGo 10 = .ok (.iload_n 2, 1) := by decide +kernel
theorem dX12_canGo_11 : decode cX12_canGo 11 = .ok (.iaload, 1) := by decide +kernel
theorem dX12_canGo_12 : decode cX12_canGo 12 = .ok (.istore_n 3, 1) := by decide +kernel
theorem dX12_canGo_13 : decode cX12_canGo 13 = .ok (.aload_n 0, 1) := by decide +kernel
theorem dX12_canGo_14 : decode cX12_canGo 14 = .ok (.getfield 23, 3) := by decide +kernel
theorem dX12_canGo_17 : decode cX12_canGo 17 = .ok (.iload_n 3, 1) := by decide +kernel
theorem dX12_canGo_18 : decode cX12_canGo 18 = .ok (.iaload, 1) := by decide +kernel
theorem dX12_canGo_19 : decode cX12_canGo 19 = .ok (.aload_n 0, 1) := by decide +kernel
theorem dX12_canGo_20 : decode cX12_canGo 20 = .ok (.getfield 3, 3) := by decide +kernel
theorem dX12_canGo_23 : decode cX12_canGo 23 = .ok (.getfield 81, 3) := by decide +kernel
theorem dX12_canGo_26 : decode cX12_canGo 26 = .ok (.getfield 145, 3) := by decide +kernel
theorem dX12_canGo_29 : decode cX12_canGo 29 = .ok (.iload_n 3, 1) := by decide +kernel
theorem dX12_canGo_30 : decode cX12_canGo 30 = .ok (.iaload, 1) := by decide +kernel
theorem dX12_canGo_31 : decode cX12_canGo 31 = .ok (.if_icmp .lt 5, 3) := by decide +kernel
theorem dX12_canGo_34 : decode cX12_canGo 34 = .ok (.iconst 0, 1) := by decide +kernel
theorem dX12_canGo_35 : decode cX12_canGo 35 = .ok (.ireturn, 1) := by decide +kernel
theorem dX12_canGo_36 : decode cX12_canGo 36 = .ok (.aload_n 0, 1) := by decide +kernel
theorem dX12_canGo_37 : decode cX12_canGo 37 = .ok (.getfield 3, 3) := by decide +kernel
theorem dX12_canGo_40 : decode cX12_canGo 40 = .ok (.getfield 81, 3) := by decide +kernel
theorem dX12_canGo_43 : decode cX12_canGo 43 = .ok (.getfield 148, 3) := by decide +kernel
theorem dX12_canGo_46 : decode cX12_canGo 46 = .ok (.iload_n 2, 1) := by decide +kernel
theorem dX12_canGo_47 : decode cX12_canGo 47 = .ok (.iaload, 1) := by decide +kernel
theorem dX12_canGo_48 : decode cX12_canGo 48 = .ok (.aload_n 0, 1) := by decide +kernel
theorem dX12_canGo_49 : decode cX12_canGo 49 = .ok (.getfield 3, 3) := by decide +kernel
theorem dX12_canGo_52 : decode cX12_canGo 52 = .ok (.getfield 81, 3) := by decide +kernel
theorem dX12_canGo_55 : decode cX12_canGo 55 = .ok (.getfield 151, 3) := by decide +kernel
theorem dX12_canGo_58 : decode cX12_canGo 58 = .ok (.iload_n 2, 1) := by decide +kernel
theorem dX12_canGo_59 : decode cX12_canGo 59 = .ok (.iaload, 1) := by decide +kernel
theorem dX12_canGo_60 : decode cX12_canGo 60 = .ok (.if_icmp .le 36, 3) := by decide +kernel
theorem dX12_canGo_63 : decode cX12_canGo 63 = .ok (.aload_n 0, 1) := by decide +kernel
theorem dX12_canGo_64 : decode cX12_canGo 64 = .ok (.aload_n 0, 1) := by decide +kernel
theorem dX12_canGo_65 : decode cX12_canGo 65 = .ok (.getfield 3, 3) := by decide +kernel
theorem dX12_canGo_68 : decode cX12_canGo 68 = .ok (.getfield 81, 3) := by decide +kernel
theorem dX12_canGo_71 : decode cX12_canGo 71 = .ok (.getfield 151, 3) := by decide +kernel
theorem dX12_canGo_74 : decode cX12_canGo 74 = .ok (.iload_n 2, 1) := by decide +kernel
theorem dX12_canGo_75 : decode cX12_canGo 75 = .ok (.iaload, 1) := by decide +kernel
theorem dX12_canGo_76 : decode cX12_canGo 76 = .ok (.aload_n 0, 1) := by decide +kernel
theorem dX12_canGo_77 : decode cX12_canGo 77 = .ok (.getfield 3, 3) := by decide +kernel
theorem dX12_canGo_80 : decode cX12_canGo 80 = .ok (.getfield 81, 3) := by decide +kernel
theorem dX12_canGo_83 : decode cX12_canGo 83 = .ok (.getfield 148, 3) := by decide +kernel
theorem dX12_canGo_86 : decode cX12_canGo 86 = .ok (.iload_n 2, 1) := by decide +kernel
theorem dX12_canGo_87 : decode cX12_canGo 87 = .ok (.iaload, 1) := by decide +kernel
theorem dX12_canGo_88 : decode cX12_canGo 88 = .ok (.invokevirtual 154, 3) := by decide +kernel
theorem dX12_canGo_91 : decode cX12_canGo 91 = .ok (.ifCond .ne 5, 3) := by decide +kernel
theorem dX12_canGo_94 : decode cX12_canGo 94 = .ok (.iconst 0, 1) := by decide +kernel
theorem dX12_canGo_95 : decode cX12_canGo 95 = .ok (.ireturn, 1) := by decide +kernel
theorem dX12_canGo_96 : decode cX12_canGo 96 = .ok (.aload_n 0, 1) := by decide +kernel
theorem dX12_canGo_97 : decode cX12_canGo 97 = .ok (.getfield 44, 3) := by decide +kernel
theorem dX12_canGo_100 : decode cX12_canGo 100 = .ok (.iload_n 1, 1) := by decide +kernel
theorem dX12_canGo_101 : decode cX12_canGo 101 = .ok (.iaload, 1) := by decide +kernel
theorem dX12_canGo_102 : decode cX12_canGo 102 = .ok (.iconst 1, 1) := by decide +kernel
theorem dX12_canGo_103 : decode cX12_canGo 103 = .ok (.if_icmp .eq 12, 3) := by decide +kernel
theorem dX12_canGo_106 : decode cX12_canGo 106 = .ok (.aload_n 0, 1) := by decide +kernel
theorem dX12_canGo_107 : decode cX12_canGo 107 = .ok (.iload_n 1, 1) := by decide +kernel
theorem dX12_canGo_108 : decode cX12_canGo 108 = .ok (.iload_n 3, 1) := by decide +kernel
theorem dX12_canGo_109 : decode cX12_canGo 109 = .ok (.invokevirtual 157, 3) := by decide +kernel
theorem dX12_canGo_112 : decode cX12_canGo 112 = .ok (.ifCond .ne 7, 3) := by decide +kernel
theorem dX12_canGo_115 : decode cX12_canGo 115 = .ok (.iconst 1, 1) := by decide +kernel
theorem dX12_canGo_116 : decode cX12_canGo 116 = .ok (.goto 4, 3) := by decide +kernel
theorem dX12_canGo_119 : decode cX12_canGo 119 = .ok (.iconst 0, 1) := by decide +kernel
theorem dX12_canGo_120 : decode cX12_canGo 120 = .ok (.ireturn, 1) := by decide +kernel
set_option maxRecDepth 20000 in
theorem ggX12_canGo_X12_isSpared : GoodIn wsX12_canGo wsX12_isSpared := goodIn_2 24 (goodIn_rr wsB_X12_canGo_in _ [(2, 16), (1, 0), (1, 23), (2, 0), (2, 1), (1, 6), (2, 2), (2, 3), (1, 3), (1, 4), (1, 5), (1, 7), (1, 8), (1, 9), (1, 10), (1, 11), (1, 12), (1, 13), (1, 14), (1, 15), (1, 16), (1, 17), (1, 18), (1, 19)] (by decide +kernel) (by decide +kernel)) (goodIn_2 24 (goodIn_rr wsB_X12_canGo_in _ [(1, 20), (1, 21), (1, 22), (1, 1), (1, 2), (2, 4), (2, 5), (2, 6), (2, 7), (2, 8), (2, 9), (2, 10), (2, 11), (2, 12), (3, 0), (3, 1), (3, 2), (3, 3), (3, 4), (3, 5), (3, 6), (3, 7), (3, 8), (3, 9)] (by decide +kernel) (by decide +kernel)) (goodIn_2 24 (goodIn_rr wsB_X12_canGo_in _ [(3, 10), (3, 11), (3, 12), (3, 13), (3, 14), (3, 15), (3, 16), (3, 17), (3, 18), (4, 0), (4, 1), (4, 2), (4, 3), (4, 4), (4, 5), (4, 6), (4, 7), (4, 8), (4, 9), (4, 10), (4, 11), (4, 12), (4, 13), (4, 14)] (by decide +kernel) (by decide +kernel)) (goodIn_2 24 (goodIn_rr wsB_X12_canGo_in _ [(5, 0), (5, 1), (5, 2), (5, 3), (5, 4), (5, 5), (5, 6), (5, 7), (5, 8), (5, 9), (5, 10), (5, 11), (5, 12), (5, 13), (5, 14), (5, 15), (5, 16), (5, 17), (5, 18), (5, 19), (5, 20), (5, 21), (5, 22), (5, 23)] (by decide +kernel) (by decide +kernel)) (goodIn_rr wsB_X12_canGo_in _ [(5, 24)] (by decide +kernel) (by decide +kernel)))))
set_option maxRecDepth 20000 in
theorem gX12_canGo_X12_isSpared : GoodIn wsX12_canGo (wsV RX12 157 RX12 yX12_isSpared wsX12_isSpared) := goodIn_app (goodIn_rr wsB_X12_canGo_in _ [(2, 13), (2, 14), (2, 15), (1, 6)] (by decide +kernel) (by decide +kernel)) ggX12_canGo_X12_isSpared
set_option maxRecDepth 20000 in
theorem ggX12_canGo_X12_carryOut : GoodIn wsX12_canGo wsX12_carryOut := goodIn_2 24 (goodIn_rr wsB_X12_canGo_in _ [(1, 7), (1, 0), (1, 8), (1, 9), (1, 10), (1, 11), (1, 12), (1, 13), (1, 14), (1, 15), (1, 16), (1, 17), (1, 18), (1, 6), (1, 19), (1, 20), (1, 21), (1, 22), (1, 1), (1, 2), (1, 23), (2, 0), (2, 1), (2, 2)] (by decide +kernel) (by decide +kernel)) (goodIn_2 24 (goodIn_rr wsB_X12_canGo_in _ [(2, 3), (2, 4), (2, 5), (2, 6), (2, 7), (2, 8), (2, 9), (2, 10), (2, 11), (2, 12), (3, 0), (3, 1), (3, 2), (3, 3), (3, 4), (3, 5), (3, 6), (3, 7), (3, 8), (3, 9), (3, 10), (3, 11), (3, 12), (3, 13)] (by decide +kernel) (by decide +kernel)) (goodIn_2 24 (goodIn_rr wsB_X12_canGo_in _ [(3, 14), (3, 15), (3, 16), (3, 17), (3, 18), (4, 0), (4, 1), (4, 2), (4, 3), (4, 4), (4, 5), (4, 6), (4, 7), (4, 8), (4, 9), (4, 10), (4, 11), (4, 12), (4, 13), (4, 14), (5, 0), (5, 1), (5, 2), (5, 3)] (by decide +kernel) (by decide +kernel)) (goodIn_rr wsB_X12_canGo_in _ [(5, 4), (5, 5), (5, 6), (5, 7), (5, 8), (5, 9), (5, 10), (5, 11), (5, 12), (5, 13), (5, 14), (5, 15), (5, 16), (5, 17), (5, 18), (5, 19), (5, 20), (5, 21), (5, 22), (5, 23), (5, 24)] (by decide +kernel) (by decide +kernel))))
set_option maxRecDepth 20000 in
theorem gX12_canGo_X12_carryOut : GoodIn wsX12_canGo (wsV RX12 154 RX12 yX12_carryOut wsX12_carryOut) := goodIn_app (goodIn_rr wsB_X12_canGo_in _ [(1, 3), (1, 4), (1, 5), (1, 6)] (by decide +kernel) (by decide +kernel)) ggX12_canGo_X12_carryOut
theorem k_X12_canGo_f44 : Cond.fieldLink RX12 44 "TideLotsModel$State" "cheats" "[I" ∈ wsX12_canGo := by decide +kernel
theorem i_X12_canGo_X12 : ∀ w ∈ u_ws RX12 TX12 19, w ∈ wsX12_canGo := by decide +kernel
theorem k_X12_canGo_f3 : Cond.fieldLink RX12 3 "TideLotsModel$State" "this$0" "LTideLotsModel;" ∈ wsX12_canGo := by decide +kernel
theorem i_X12_canGo_X14 : ∀ w ∈ u_ws RX14 TX14 15, w ∈ wsX12_canGo := by decide +kernel
theorem kn_X12_138 : Cond.fieldLinkNest "TideLotsModel$State" (138 : Nat) "TideLotsModel$Told" "goal" "[I" "TideLotsModel" ∈ gNs := by decide +kernel
theorem i_X12_canGo_X13 : ∀ w ∈ u_ws RX13 TX13 25, w ∈ wsX12_canGo := by decide +kernel
theorem k_X12_canGo_f23 : Cond.fieldLink RX12 23 "TideLotsModel$State" "boats" "[I" ∈ wsX12_canGo := by decide +kernel
theorem kn_X12_145 : Cond.fieldLinkNest "TideLotsModel$State" (145 : Nat) "TideLotsModel$Told" "room" "[I" "TideLotsModel" ∈ gNs := by decide +kernel
theorem kn_X12_148 : Cond.fieldLinkNest "TideLotsModel$State" (148 : Nat) "TideLotsModel$Told" "tested" "[I" "TideLotsModel" ∈ gNs := by decide +kernel
theorem kn_X12_151 : Cond.fieldLinkNest "TideLotsModel$State" (151 : Nat) "TideLotsModel$Told" "test" "[I" "TideLotsModel" ∈ gNs := by decide +kernel
abbrev rX12_canGo : Room := { frames := 4, cells := 0, slots := 0, locals := 95 }
noncomputable def b_X12_canGo_120 (M : gMem) (s0 : Int32) : Option (Int32 × gMem) :=
  ck (s0 = 0 ∨ s0 = 1) <| some (s0, M)
noncomputable def b_X12_canGo_115 (M : gMem)  : Option (Int32 × gMem) :=
  b_X12_canGo_120 M ((1 : Int32))
noncomputable def b_X12_canGo_96 (M : gMem) (x0 : Nat) (x1 : Int32) (x3 : Int32) : Option (Int32 × gMem) :=
  ck (mT M x0 = 11) <| dr ((mR M x0 10)) fun a3 => ck (mT M a3 = 20) <| ck (inb x1 (mL M a3)) <| (if (mI M a3 x1.toNatClampNeg) = (1 : Int32) then b_X12_canGo_115 M  else bd (f_X12_isSpared M x0 x1 x3) fun r6 M6 => (if r6 = 0 then b_X12_canGo_115 M6  else b_X12_canGo_120 M6 ((0 : Int32))))
noncomputable def b_X12_canGo_0 (M : gMem) (x0 : Nat) (x1 : Int32) (x2 : Int32) : Option (Int32 × gMem) :=
  ck (mT M x0 = 11) <| dr ((mR M x0 18)) fun a8 => ck (mT M a8 = 13) <| dr ((mR M a8 11)) fun a10 => ck (mT M a10 = 12) <| dr ((mR M a10 10)) fun a12 => ck (mT M a12 = 20) <| ck (inb x2 (mL M a12)) <| dr ((mR M x0 3)) fun a15 => ck (mT M a15 = 20) <| ck (inb (mI M a12 x2.toNatClampNeg) (mL M a15)) <| dr ((mR M a10 1)) fun a18 => ck (mT M a18 = 20) <| ck (inb (mI M a12 x2.toNatClampNeg) (mL M a18)) <| (if (mI M a15 ((mI M a12 x2.toNatClampNeg)).toNatClampNeg) < (mI M a18 ((mI M a12 x2.toNatClampNeg)).toNatClampNeg) then dr ((mR M a10 18)) fun a21 => ck (mT M a21 = 20) <| ck (inb x2 (mL M a21)) <| dr ((mR M a10 17)) fun a24 => ck (mT M a24 = 20) <| ck (inb x2 (mL M a24)) <| (if (mI M a21 x2.toNatClampNeg) ≤ (mI M a24 x2.toNatClampNeg) then b_X12_canGo_96 M x0 x1 ((mI M a12 x2.toNatClampNeg)) else ck (inb x2 (mL M a24)) <| ck (inb x2 (mL M a21)) <| bd (f_X12_carryOut M x0 ((mI M a24 x2.toNatClampNeg)) ((mI M a21 x2.toNatClampNeg))) fun r29 M29 => (if r29 = 0 then some ((0 : Int32), M29) else b_X12_canGo_96 M29 x0 x1 ((mI M a12 x2.toNatClampNeg)))) else some ((0 : Int32), M))
noncomputable def f_X12_canGo (M : gMem) (x0 : Nat) (x1 : Int32) (x2 : Int32) : Option (Int32 × gMem) :=
  b_X12_canGo_0 M x0 x1 x2
set_option maxHeartbeats 4000000 in
set_option maxRecDepth 100000 in
theorem t_X12_canGo_120 (X : gX p s m args meth c D cy B (gSt Z B H0) RX12 cX12_canGo wsX12_canGo 4) (hr : meth.sig.returnType = (some .boolean)) {Q : State → Prop} : ∀ (M : gMem) (s0 : Int32) (z : Int32 × gMem), b_X12_canGo_120 M s0 = some z → (fun (r : Int32 × gMem) => Q = gMQ below D cy B H0 args s 0 0 (some (vI r.1)) r.2) z → gGo p l e rX12_canGo s m args below meth c D cy B H0 4 0 0 Q 120 [] [vI s0] M := by
  intro M s0 z hf hK
  unfold b_X12_canGo_120 at hf
  obtain ⟨hg1, hf⟩ := ck_e hf
  cases hf
  refine g_eqQ hK ?_
  exact g_zret X hr (gnb hg1) dX12_canGo_120
set_option maxHeartbeats 4000000 in
set_option maxRecDepth 100000 in
theorem t_X12_canGo_115 (X : gX p s m args meth c D cy B (gSt Z B H0) RX12 cX12_canGo wsX12_canGo 4) (hr : meth.sig.returnType = (some .boolean)) {Q : State → Prop} : ∀ (M : gMem)  (z : Int32 × gMem), b_X12_canGo_115 M  = some z → (fun (r : Int32 × gMem) => Q = gMQ below D cy B H0 args s 0 0 (some (vI r.1)) r.2) z → gGo p l e rX12_canGo s m args below meth c D cy B H0 4 0 0 Q 115 [] [] M := by
  intro M  z hf hK
  unfold b_X12_canGo_115 at hf
  refine g_iconst (v := (1 : Int32)) X dX12_canGo_115 (by decide) ?_
  refine g_goto (tgt := 120) X dX12_canGo_116 (by decide) ?_
  refine g_sub (lvsub_of _ _ [] rfl) ?_
  exact t_X12_canGo_120 X hr _ _ _ hf hK
set_option maxHeartbeats 4000000 in
set_option maxRecDepth 100000 in
theorem t_X12_canGo_96 (X : gX p s m args meth c D cy B (gSt Z B H0) RX12 cX12_canGo wsX12_canGo 4) (hr : meth.sig.returnType = (some .boolean)) {Q : State → Prop} : ∀ (M : gMem) (x0 : Nat) (x1 : Int32) (x3 : Int32) (z : Int32 × gMem), b_X12_canGo_96 M x0 x1 x3 = some z → (fun (r : Int32 × gMem) => Q = gMQ below D cy B H0 args s 0 0 (some (vI r.1)) r.2) z → gGo p l e rX12_canGo s m args below meth c D cy B H0 4 0 0 Q 96 [(0, vR (some x0)), (1, vI x1), (3, vI x3)] [] M := by
  intro M x0 x1 x3 z hf hK
  unfold b_X12_canGo_96 at hf
  refine g_aload_n X dX12_canGo_96 rfl rfl ?_
  obtain ⟨hT2, hf⟩ := ck_e hf
  refine g_get (ci := 10) (v := vR (mR M x0 10)) 10 X cdX12 i_X12_canGo_X12 (by decide) k_X12_canGo_f44 rfl dX12_canGo_97 rfl hT2 rfl ?_
  refine g_iload_n X dX12_canGo_100 rfl rfl ?_
  obtain ⟨a3, ha3, hf⟩ := dr_e hf
  obtain ⟨hT4, hf⟩ := ck_e hf
  obtain ⟨hg5, hf⟩ := ck_e hf
  refine g_iald X dX12_canGo_101 ha3 hT4 hg5 ?_
  refine g_iconst (v := (1 : Int32)) X dX12_canGo_102 (by decide) ?_
  refine g_icmp_eq (tgt := 115) X dX12_canGo_103 (by decide) (fun hc => ?_) (fun hc => ?_)
  · have hf := ife_t hc hf
    refine g_sub (lvsub_of _ _ [] rfl) ?_
    exact t_X12_canGo_115 X hr _  _ hf hK
  · have hf := ife_f hc hf
    refine g_aload_n X dX12_canGo_106 rfl rfl ?_
    refine g_iload_n X dX12_canGo_107 rfl rfl ?_
    refine g_iload_n X dX12_canGo_108 rfl rfl ?_
    obtain ⟨r6, M6, hq6, hf⟩ := bd_e hf
    refine g_callV (ci := 10) (b := x0) (As := [vI x1, vI x3]) (st := []) (v := some (vI r6)) (M1 := M6) X (m_X12_isSpared l hq6) (cwV 2 X.2.2.1 gX12_canGo_X12_isSpared rfl rfl rfl (by decide +kernel) ⟨Nat.le_of_ble_eq_true rfl, Nat.le_of_ble_eq_true rfl⟩) rfl rfl rfl hT2 (by decide) rfl (Nat.le_of_ble_eq_true rfl) dX12_canGo_109 ⟨by decide, by decide⟩ ?_
    refine g_if_ne (tgt := 119) X dX12_canGo_112 (by decide) (fun hc => ?_) (fun hc => ?_)
    · have hf := ife_f hc hf
      refine g_iconst (v := (0 : Int32)) X dX12_canGo_119 (by decide) ?_
      refine g_sub (lvsub_of _ _ [] rfl) ?_
      exact t_X12_canGo_120 X hr _ _ _ hf hK
    · have hf := ife_t hc hf
      refine g_sub (lvsub_of _ _ [] rfl) ?_
      exact t_X12_canGo_115 X hr _  _ hf hK
set_option maxHeartbeats 4000000 in
set_option maxRecDepth 100000 in
theorem t_X12_canGo_0 (X : gX p s m args meth c D cy B (gSt Z B H0) RX12 cX12_canGo wsX12_canGo 4) (hr : meth.sig.returnType = (some .boolean)) {Q : State → Prop} : ∀ (M : gMem) (x0 : Nat) (x1 : Int32) (x2 : Int32) (z : Int32 × gMem), b_X12_canGo_0 M x0 x1 x2 = some z → (fun (r : Int32 × gMem) => Q = gMQ below D cy B H0 args s 0 0 (some (vI r.1)) r.2) z → gGo p l e rX12_canGo s m args below meth c D cy B H0 4 0 0 Q 0 [(0, vR (some x0)), (1, vI x1), (2, vI x2)] [] M := by
  intro M x0 x1 x2 z hf hK
  unfold b_X12_canGo_0 at hf
  refine g_aload_n X dX12_canGo_0 rfl rfl ?_
  obtain ⟨hT7, hf⟩ := ck_e hf
  refine g_get (ci := 10) (v := vR (mR M x0 18)) 18 X cdX12 i_X12_canGo_X12 (by decide) k_X12_canGo_f3 rfl dX12_canGo_1 rfl hT7 rfl ?_
  obtain ⟨a8, ha8, hf⟩ := dr_e hf
  obtain ⟨hT9, hf⟩ := ck_e hf
  refine g_getN (ci := 12) (w := vR (mR M a8 11)) 11 X cdX14 i_X12_canGo_X14 (by decide) (gNw X _ kn_X12_81) rfl dX12_canGo_4 ha8 hT9 rfl ?_
  obtain ⟨a10, ha10, hf⟩ := dr_e hf
  obtain ⟨hT11, hf⟩ := ck_e hf
  refine g_getN (ci := 11) (w := vR (mR M a10 10)) 10 X cdX13 i_X12_canGo_X13 (by decide) (gNw X _ kn_X12_138) rfl dX12_canGo_7 ha10 hT11 rfl ?_
  refine g_iload_n X dX12_canGo_10 rfl rfl ?_
  obtain ⟨a12, ha12, hf⟩ := dr_e hf
  obtain ⟨hT13, hf⟩ := ck_e hf
  obtain ⟨hg14, hf⟩ := ck_e hf
  refine g_iald X dX12_canGo_11 ha12 hT13 hg14 ?_
  refine g_istore_n (lv' := [(3, vI (mI M a12 x2.toNatClampNeg)), (0, vR (some x0)), (1, vI x1), (2, vI x2)]) X dX12_canGo_12 rfl (by decide) rfl ?_
  refine g_aload_n X dX12_canGo_13 rfl rfl ?_
  refine g_get (ci := 10) (v := vR (mR M x0 3)) 3 X cdX12 i_X12_canGo_X12 (by decide) k_X12_canGo_f23 rfl dX12_canGo_14 rfl hT7 rfl ?_
  refine g_iload_n X dX12_canGo_17 rfl rfl ?_
  obtain ⟨a15, ha15, hf⟩ := dr_e hf
  obtain ⟨hT16, hf⟩ := ck_e hf
  obtain ⟨hg17, hf⟩ := ck_e hf
  refine g_iald X dX12_canGo_18 ha15 hT16 hg17 ?_
  refine g_aload_n X dX12_canGo_19 rfl rfl ?_
  refine g_get (ci := 10) (v := vR (mR M x0 18)) 18 X cdX12 i_X12_canGo_X12 (by decide) k_X12_canGo_f3 rfl dX12_canGo_20 rfl hT7 rfl ?_
  refine g_getN (ci := 12) (w := vR (mR M a8 11)) 11 X cdX14 i_X12_canGo_X14 (by decide) (gNw X _ kn_X12_81) rfl dX12_canGo_23 ha8 hT9 rfl ?_
  refine g_getN (ci := 11) (w := vR (mR M a10 1)) 1 X cdX13 i_X12_canGo_X13 (by decide) (gNw X _ kn_X12_145) rfl dX12_canGo_26 ha10 hT11 rfl ?_
  refine g_iload_n X dX12_canGo_29 rfl rfl ?_
  obtain ⟨a18, ha18, hf⟩ := dr_e hf
  obtain ⟨hT19, hf⟩ := ck_e hf
  obtain ⟨hg20, hf⟩ := ck_e hf
  refine g_iald X dX12_canGo_30 ha18 hT19 hg20 ?_
  refine g_icmp_lt (tgt := 36) X dX12_canGo_31 (by decide) (fun hc => ?_) (fun hc => ?_)
  · have hf := ife_t hc hf
    refine g_aload_n X dX12_canGo_36 rfl rfl ?_
    refine g_get (ci := 10) (v := vR (mR M x0 18)) 18 X cdX12 i_X12_canGo_X12 (by decide) k_X12_canGo_f3 rfl dX12_canGo_37 rfl hT7 rfl ?_
    refine g_getN (ci := 12) (w := vR (mR M a8 11)) 11 X cdX14 i_X12_canGo_X14 (by decide) (gNw X _ kn_X12_81) rfl dX12_canGo_40 ha8 hT9 rfl ?_
    refine g_getN (ci := 11) (w := vR (mR M a10 18)) 18 X cdX13 i_X12_canGo_X13 (by decide) (gNw X _ kn_X12_148) rfl dX12_canGo_43 ha10 hT11 rfl ?_
    refine g_iload_n X dX12_canGo_46 rfl rfl ?_
    obtain ⟨a21, ha21, hf⟩ := dr_e hf
    obtain ⟨hT22, hf⟩ := ck_e hf
    obtain ⟨hg23, hf⟩ := ck_e hf
    refine g_iald X dX12_canGo_47 ha21 hT22 hg23 ?_
    refine g_aload_n X dX12_canGo_48 rfl rfl ?_
    refine g_get (ci := 10) (v := vR (mR M x0 18)) 18 X cdX12 i_X12_canGo_X12 (by decide) k_X12_canGo_f3 rfl dX12_canGo_49 rfl hT7 rfl ?_
    refine g_getN (ci := 12) (w := vR (mR M a8 11)) 11 X cdX14 i_X12_canGo_X14 (by decide) (gNw X _ kn_X12_81) rfl dX12_canGo_52 ha8 hT9 rfl ?_
    refine g_getN (ci := 11) (w := vR (mR M a10 17)) 17 X cdX13 i_X12_canGo_X13 (by decide) (gNw X _ kn_X12_151) rfl dX12_canGo_55 ha10 hT11 rfl ?_
    refine g_iload_n X dX12_canGo_58 rfl rfl ?_
    obtain ⟨a24, ha24, hf⟩ := dr_e hf
    obtain ⟨hT25, hf⟩ := ck_e hf
    obtain ⟨hg26, hf⟩ := ck_e hf
    refine g_iald X dX12_canGo_59 ha24 hT25 hg26 ?_
    refine g_icmp_le (tgt := 96) X dX12_canGo_60 (by decide) (fun hc => ?_) (fun hc => ?_)
    · have hf := ife_t hc hf
      refine g_sub (lvsub_of _ _ [1, 2, 0] rfl) ?_
      exact t_X12_canGo_96 X hr _ _ _ _ _ hf hK
    · have hf := ife_f hc hf
      refine g_aload_n X dX12_canGo_63 rfl rfl ?_
      refine g_aload_n X dX12_canGo_64 rfl rfl ?_
      refine g_get (ci := 10) (v := vR (mR M x0 18)) 18 X cdX12 i_X12_canGo_X12 (by decide) k_X12_canGo_f3 rfl dX12_canGo_65 rfl hT7 rfl ?_
      refine g_getN (ci := 12) (w := vR (mR M a8 11)) 11 X cdX14 i_X12_canGo_X14 (by decide) (gNw X _ kn_X12_81) rfl dX12_canGo_68 ha8 hT9 rfl ?_
      refine g_getN (ci := 11) (w := vR (mR M a10 17)) 17 X cdX13 i_X12_canGo_X13 (by decide) (gNw X _ kn_X12_151) rfl dX12_canGo_71 ha10 hT11 rfl ?_
      refine g_iload_n X dX12_canGo_74 rfl rfl ?_
      obtain ⟨hg27, hf⟩ := ck_e hf
      refine g_iald X dX12_canGo_75 ha24 hT25 hg27 ?_
      refine g_aload_n X dX12_canGo_76 rfl rfl ?_
      refine g_get (ci := 10) (v := vR (mR M x0 18)) 18 X cdX12 i_X12_canGo_X12 (by decide) k_X12_canGo_f3 rfl dX12_canGo_77 rfl hT7 rfl ?_
      refine g_getN (ci := 12) (w := vR (mR M a8 11)) 11 X cdX14 i_X12_canGo_X14 (by decide) (gNw X _ kn_X12_81) rfl dX12_canGo_80 ha8 hT9 rfl ?_
      refine g_getN (ci := 11) (w := vR (mR M a10 18)) 18 X cdX13 i_X12_canGo_X13 (by decide) (gNw X _ kn_X12_148) rfl dX12_canGo_83 ha10 hT11 rfl ?_
      refine g_iload_n X dX12_canGo_86 rfl rfl ?_
      obtain ⟨hg28, hf⟩ := ck_e hf
      refine g_iald X dX12_canGo_87 ha21 hT22 hg28 ?_
      obtain ⟨r29, M29, hq29, hf⟩ := bd_e hf
      refine g_callV (ci := 10) (b := x0) (As := [vI (mI M a24 x2.toNatClampNeg), vI (mI M a21 x2.toNatClampNeg)]) (st := []) (v := some (vI r29)) (M1 := M29) X (m_X12_carryOut l hq29) (cwV 2 X.2.2.1 gX12_canGo_X12_carryOut rfl rfl rfl (by decide +kernel) ⟨Nat.le_of_ble_eq_true rfl, Nat.le_of_ble_eq_true rfl⟩) rfl rfl rfl hT7 (by decide) rfl (Nat.le_of_ble_eq_true rfl) dX12_canGo_88 ⟨by decide, by decide⟩ ?_
      refine g_if_ne (tgt := 96) X dX12_canGo_91 (by decide) (fun hc => ?_) (fun hc => ?_)
      · have hf := ife_f hc hf
        refine g_sub (lvsub_of _ _ [1, 2, 0] rfl) ?_
        exact t_X12_canGo_96 X hr _ _ _ _ _ hf hK
      · have hf := ife_t hc hf
        refine g_iconst (v := (0 : Int32)) X dX12_canGo_94 (by decide) ?_
        cases hf
        refine g_eqQ hK ?_
        exact g_zret X hr (gnb (Or.inl rfl)) dX12_canGo_95
  · have hf := ife_f hc hf
    refine g_iconst (v := (0 : Int32)) X dX12_canGo_34 (by decide) ?_
    cases hf
    refine g_eqQ hK ?_
    exact g_zret X hr (gnb (Or.inl rfl)) dX12_canGo_35
set_option maxHeartbeats 4000000 in
set_option maxRecDepth 100000 in
theorem m_X12_canGo (l : Launch) {D : va_G} {cy : Nat → ClassId} {B : Nat} {H0 : Heap} {Z : Nat → Nat} {M M1 : gMem} {x0 : Nat} {x1 : Int32} {x2 : Int32} {r : Int32} (hf : f_X12_canGo M x0 x1 x2 = some (r, M1)) : Met l yX12_canGo wsX12_canGo rX12_canGo (va_Pc (Value.ref x0 :: List.map gv [vI x1, vI x2]) (gPre D cy B H0 (gSt Z B H0) M)) (gQ D cy B H0 (some (vI r)) M1) 0 0 (gA B) := by
  refine Met.ofW (cc := cX12_canGo) (maxL := 4) (ret := (some .boolean)) (by decide) rfl ?_
  intro p e s m args below meth c s₁ Bd hml hv
  obtain ⟨rfl, hW, hKK, hFs⟩ := hv
  have X : gX p s m _ meth c D cy B (gSt Z B H0) RX12 cX12_canGo wsX12_canGo 4 := ⟨Bd.exec, Bd.bytes, atoms_spec (ws := wsX12_canGo) Bd.pre, findClass_of_methodNamed Bd.named, hml, hKK, by rw [hW.1]; exact hW.2.1, Bd.notSynchronized, hFs⟩
  have hr := Bd.returns
  have hl := lv_entry ([.ref x0, .int x1, .int x2]) (n := 4) (Nat.le_of_ble_eq_true rfl)
  show W p l e rX12_canGo s m _ below meth c s.heap [] 0 0 _ (entryFrame m ([.ref x0, .int x1, .int x2] : List Value).toArray 4)
  rw [lg_entry_eq]
  generalize (lg_sl ([.ref x0, .int x1, .int x2]) ++ List.replicate (4 - (lg_sl ([.ref x0, .int x1, .int x2])).length) Slot.unset).toArray = ls at hl ⊢
  have hl : lv_has ls 4 (List.map gq [(0, vR (some x0)), (1, vI x1), (2, vI x2)]) := hl
  exact t_X12_canGo_0 X hr _ _ _ _ _ hf rfl s.heap [] ls hW va_S.rf (lv_has_sub hl (lvsub_of _ _ [0, 1, 2] rfl))
/-! ## TideLotsModel$State.fisher(I)V -/
theorem dX12_fisher_0 : decode cX12_fisher 0 = .ok (.aload_n 0, 1) := by decide +kernel
theorem dX12_fisher_1 : decode cX12_fisher 1 = .ok (.getfield 38, 3) := by decide +kernel
theorem dX12_fisher_4 : decode cX12_fisher 4 = .ok (.iload_n 1, 1) := by decide +kernel
theorem dX12_fisher_5 : decode cX12_fisher 5 = .ok (.iconst (-1), 1) := by decide +kernel
theorem dX12_fisher_6 : decode cX12_fisher 6 = .ok (.iastore, 1) := by decide +kernel
theorem dX12_fisher_7 : decode cX12_fisher 7 = .ok (.iconst 0, 1) := by decide +kernel
theorem dX12_fisher_8 : decode cX12_fisher 8 = .ok (.istore_n 2, 1) := by decide +kernel
theorem dX12_fisher_9 : decode cX12_fisher 9 = .ok (.iload_n 2, 1) := by decide +kernel
theorem dX12_fisher_10 : decode cX12_fisher 10 = .ok (.aload_n 0, 1) := by decide +kernel
theorem dX12_fisher_11 : decode cX12_fisher 11 = .ok (.getfield 3, 3) := by decide +kernel
theorem dX12_fisher_14 : decode cX12_fisher 14 = .ok (.getfield 81, 3) := by decide +kernel
theorem dX12_fisher_17 : decode cX12_fisher 17 = .ok (.getfield 128, 3) := by decide +kernel
theorem dX12_fisher_20 : decode cX12_fisher 20 = .ok (.if_icmp .ge 62, 3) := by decide +kernel
theorem dX12_fisher_23 : decode cX12_fisher 23 = .ok (.aload_n 0, 1) := by decide +kernel
theorem dX12_fisher_24 : decode cX12_fisher 24 = .ok (.getfield 38, 3) := by decide +kernel
theorem dX12_fisher_27 : decode cX12_fisher 27 = .ok (.iload_n 1, 1) := by decide +kernel
theorem dX12_fisher_28 : decode cX12_fisher 28 = .ok (.iaload, 1) := by decide +kernel
theorem dX12_fisher_29 : decode cX12_fisher 29 = .ok (.iconst (-1), 1) := by decide +kernel
theorem dX12_fisher_30 : decode cX12_fisher 30 = .ok (.if_icmp .ne 52, 3) := by decide +kernel
theorem dX12_fisher_33 : decode cX12_fisher 33 = .ok (.aload_n 0, 1) := by decide +kernel
theorem dX12_fisher_34 : decode cX12_fisher 34 = .ok (.getfield 3, 3) := by decide +kernel
theorem dX12_fisher_37 : decode cX12_fisher 37 = .ok (.getfield 81, 3) := by decide +kernel
theorem dX12_fisher_40 : decode cX12_fisher 40 = .ok (.getfield 131, 3) := by decide +kernel
theorem dX12_fisher_43 : decode cX12_fisher 43 = .ok (.iload_n 2, 1) := by decide +kernel
theorem dX12_fisher_44 : decode cX12_fisher 44 = .ok (.iaload, 1) := by decide +kernel
theorem dX12_fisher_45 : decode cX12_fisher 45 = .ok (.iload_n 1, 1) := by decide +kernel
theorem dX12_fisher_46 : decode cX12_fisher 46 = .ok (.if_icmp .ne 30, 3) := by decide +kernel
theorem dX12_fisher_49 : decode cX12_fisher 49 = .ok (.aload_n 0, 1) := by decide +kernel
theorem dX12_fisher_50 : decode cX12_fisher 50 = .ok (.iload_n 1, 1) := by decide +kernel
theorem dX12_fisher_51 : decode cX12_fisher 51 = .ok (.iload_n 2, 1) := by decide +kernel
theorem dX12_fisher_52 : decode cX12_fisher 52 = .ok (.invokevirtual 134, 3) := by decide +kernel
theorem dX12_fisher_55 : decode cX12_fisher 55 = .ok (.ifCond .eq 21, 3) := by decide +kernel
theorem dX12_fisher_58 : decode cX12_fisher 58 = .ok (.aload_n 0, 1) := by decide +kernel
theorem dX12_fisher_59 : decode cX12_fisher 59 = .ok (.getfield 38, 3) := by decide +kernel
theorem dX12_fisher_62 : decode cX12_fisher 62 = .ok (.iload_n 1, 1) := by decide +kernel
theorem dX12_fisher_63 : decode cX12_fisher 63 = .ok (.aload_n 0, 1) := by decide +kernel
theorem dX12_fisher_64 : decode cX12_fisher 64 = .ok (.getfield 3, 3) := by decide +kernel
theorem dX12_fisher_67 : decode cX12_fisher 67 = .ok (.getfield 81, 3) := by decide +kernel
theorem dX12_fisher_70 : decode cX12_fisher 70 = .ok (.getfield 138, 3) := by decide +kernel
theorem dX12_fisher_73 : decode cX12_fisher 73 = .ok (.iload_n 2, 1) := by decide +kernel
theorem dX12_fisher_74 : decode cX12_fisher 74 = .ok (.iaload, 1) := by decide +kernel
theorem dX12_fisher_75 : decode cX12_fisher 75 = .ok (.iastore, 1) := by decide +kernel
theorem dX12_fisher_76 : decode cX12_fisher 76 = .ok (.iinc 2 1, 3) := by decide +kernel
theorem dX12_fisher_79 : decode cX12_fisher 79 = .ok (.goto (-70), 3) := by decide +kernel
theorem dX12_fisher_82 : decode cX12_fisher 82 = .ok (.aload_n 0, 1) := by decide +kernel
theorem dX12_fisher_83 : decode cX12_fisher 83 = .ok (.getfield 38, 3) := by decide +kernel
theorem dX12_fisher_86 : decode cX12_fisher 86 = .ok (.iload_n 1, 1) := by decide +kernel
theorem dX12_fisher_87 : decode cX12_fisher 87 = .ok (.iaload, 1) := by decide +kernel
theorem dX12_fisher_88 : decode cX12_fisher 88 = .ok (.iconst (-1), 1) := by decide +kernel
theorem dX12_fisher_89 : decode cX12_fisher 89 = .ok (.if_icmp .ne 11, 3) := by decide +kernel
theorem dX12_fisher_92 : decode cX12_fisher 92 = .ok (.aload_n 0, 1) := by decide +kernel
theorem dX12_fisher_93 : decode cX12_fisher 93 = .ok (.getfield 35, 3) := by decide +kernel
theorem dX12_fisher_96 : decode cX12_fisher 96 = .ok (.iload_n 1, 1) := by decide +kernel
theorem dX12_fisher_97 : decode cX12_fisher 97 = .ok (.iconst 0, 1) := by decide +kernel
theorem dX12_fisher_98 : decode cX12_fisher 98 = .ok (.iastore, 1) := by decide +kernel
theorem dX12_fisher_99 : decode cX12_fisher 99 = .ok (.return_, 1) := by decide +kernel
theorem dX12_fisher_100 : decode cX12_fisher 100 = .ok (.aload_n 0, 1) := by decide +kernel
theorem dX12_fisher_101 : decode cX12_fisher 101 = .ok (.getfield 23, 3) := by decide +kernel
theorem dX12_fisher_104 : decode cX12_fisher 104 = .ok (.aload_n 0, 1) := by decide +kernel
theorem dX12_fisher_105 : decode cX12_fisher 105 = .ok (.getfield 38, 3) := by decide +kernel
theorem dX12_fisher_108 : decode cX12_fisher 108 = .ok (.iload_n 1, 1) := by decide +kernel
theorem dX12_fisher_109 : decode cX12_fisher 109 = .ok (.iaload, 1) := by decide +kernel
theorem dX12_fisher_110 : decode cX12_fisher 110 = .ok (.dup2, 1) := by decide +kernel
theorem dX12_fisher_111 : decode cX12_fisher 111 = .ok (.iaload, 1) := by decide +kernel
theorem dX12_fisher_112 : decode cX12_fisher 112 = .ok (.iconst 1, 1) := by decide +kernel
theorem dX12_fisher_113 : decode cX12_fisher 113 = .ok (.iadd, 1) := by decide +kernel
theorem dX12_fisher_114 : decode cX12_fisher 114 = .ok (.iastore, 1) := by decide +kernel
theorem dX12_fisher_115 : decode cX12_fisher 115 = .ok (.aload_n 0, 1) := by decide +kernel
theorem dX12_fisher_116 : decode cX12_fisher 116 = .ok (.iload_n 1, 1) := by decide +kernel
theorem dX12_fisher_117 : decode cX12_fisher 117 = .ok (.aload_n 0, 1) := by decide +kernel
theorem dX12_fisher_118 : decode cX12_fisher 118 = .ok (.getfield 38, 3) := by decide +kernel
theorem dX12_fisher_121 : decode cX12_fisher 121 = .ok (.iload_n 1, 1) := by decide +kernel
theorem dX12_fisher_122 : decode cX12_fisher 122 = .ok (.iaload, 1) := by decide +kernel
theorem dX12_fisher_123 : decode cX12_fisher 123 = .ok (.invokevirtual 141, 3) := by decide +kernel
theorem dX12_fisher_126 : decode cX12_fisher 126 = .ok (.return_, 1) := by decide +kernel
set_option maxRecDepth 20000 in
theorem ggX12_fisher_X12_fishFor : GoodIn wsX12_fisher wsX12_fishFor := goodIn_2 24 (goodIn_rr wsB_X12_fisher_in _ [(3, 1), (3, 2), (2, 3), (2, 8), (1, 1), (3, 3), (2, 12), (2, 13), (2, 14), (3, 4), (1, 2), (3, 5), (4, 0), (4, 1), (4, 2), (4, 3), (4, 4), (4, 5), (4, 6), (4, 7), (4, 8), (4, 9), (4, 10), (4, 11)] (by decide +kernel) (by decide +kernel)) (goodIn_2 24 (goodIn_rr wsB_X12_fisher_in _ [(4, 12), (4, 13), (4, 14), (4, 15), (4, 16), (4, 17), (4, 18), (5, 0), (5, 1), (5, 2), (5, 3), (5, 4), (5, 5), (5, 6), (5, 7), (5, 8), (5, 9), (5, 10), (5, 11), (5, 12), (5, 13), (5, 14), (6, 0), (6, 1)] (by decide +kernel) (by decide +kernel)) (goodIn_rr wsB_X12_fisher_in _ [(6, 2), (6, 3), (6, 4), (6, 5), (6, 6), (6, 7), (6, 8), (6, 9), (6, 10), (6, 11), (6, 12), (6, 13), (6, 14), (6, 15), (6, 16), (6, 17), (6, 18), (6, 19), (6, 20), (6, 21), (6, 22), (6, 23), (6, 24)] (by decide +kernel) (by decide +kernel)))
set_option maxRecDepth 20000 in
theorem gX12_fisher_X12_fishFor : GoodIn wsX12_fisher (wsV RX12 141 RX12 yX12_fishFor wsX12_fishFor) := goodIn_app (goodIn_rr wsB_X12_fisher_in _ [(2, 22), (2, 23), (3, 0), (1, 7)] (by decide +kernel) (by decide +kernel)) ggX12_fisher_X12_fishFor
set_option maxRecDepth 20000 in
theorem ggX12_fisher_X12_canGo : GoodIn wsX12_fisher wsX12_canGo := goodIn_2 24 (goodIn_rr wsB_X12_fisher_in _ [(1, 8), (1, 1), (1, 3), (1, 9), (1, 10), (1, 11), (1, 12), (1, 7), (1, 13), (1, 14), (1, 15), (1, 16), (1, 17), (1, 18), (1, 19), (1, 20), (1, 21), (1, 22), (1, 23), (2, 0), (2, 1), (2, 2), (1, 2), (2, 3)] (by decide +kernel) (by decide +kernel)) (goodIn_2 24 (goodIn_rr wsB_X12_fisher_in _ [(2, 4), (2, 5), (2, 6), (2, 7), (2, 8), (2, 9), (2, 10), (2, 11), (2, 12), (2, 13), (2, 14), (2, 15), (2, 16), (2, 17), (2, 18), (2, 19), (2, 20), (2, 21), (4, 0), (4, 1), (4, 2), (4, 3), (4, 4), (4, 5)] (by decide +kernel) (by decide +kernel)) (goodIn_2 24 (goodIn_rr wsB_X12_fisher_in _ [(4, 6), (4, 7), (4, 8), (4, 9), (4, 10), (4, 11), (4, 12), (4, 13), (4, 14), (4, 15), (4, 16), (4, 17), (4, 18), (5, 0), (5, 1), (5, 2), (5, 3), (5, 4), (5, 5), (5, 6), (5, 7), (5, 8), (5, 9), (5, 10)] (by decide +kernel) (by decide +kernel)) (goodIn_2 24 (goodIn_rr wsB_X12_fisher_in _ [(5, 11), (5, 12), (5, 13), (5, 14), (6, 0), (6, 1), (6, 2), (6, 3), (6, 4), (6, 5), (6, 6), (6, 7), (6, 8), (6, 9), (6, 10), (6, 11), (6, 12), (6, 13), (6, 14), (6, 15), (6, 16), (6, 17), (6, 18), (6, 19)] (by decide +kernel) (by decide +kernel)) (goodIn_rr wsB_X12_fisher_in _ [(6, 20), (6, 21), (6, 22), (6, 23), (6, 24)] (by decide +kernel) (by decide +kernel)))))
set_option maxRecDepth 20000 in
theorem gX12_fisher_X12_canGo : GoodIn wsX12_fisher (wsV RX12 134 RX12 yX12_canGo wsX12_canGo) := goodIn_app (goodIn_rr wsB_X12_fisher_in _ [(1, 4), (1, 5), (1, 6), (1, 7)] (by decide +kernel) (by decide +kernel)) ggX12_fisher_X12_canGo
theorem k_X12_fisher_f38 : Cond.fieldLink RX12 38 "TideLotsModel$State" "where" "[I" ∈ wsX12_fisher := by decide +kernel
theorem i_X12_fisher_X12 : ∀ w ∈ u_ws RX12 TX12 19, w ∈ wsX12_fisher := by decide +kernel
theorem k_X12_fisher_f23 : Cond.fieldLink RX12 23 "TideLotsModel$State" "boats" "[I" ∈ wsX12_fisher := by decide +kernel
theorem k_X12_fisher_f35 : Cond.fieldLink RX12 35 "TideLotsModel$State" "caught" "[I" ∈ wsX12_fisher := by decide +kernel
theorem k_X12_fisher_f3 : Cond.fieldLink RX12 3 "TideLotsModel$State" "this$0" "LTideLotsModel;" ∈ wsX12_fisher := by decide +kernel
theorem i_X12_fisher_X14 : ∀ w ∈ u_ws RX14 TX14 15, w ∈ wsX12_fisher := by decide +kernel
theorem kn_X12_128 : Cond.fieldLinkNest "TideLotsModel$State" (128 : Nat) "TideLotsModel$Told" "goes" "I" "TideLotsModel" ∈ gNs := by decide +kernel
theorem i_X12_fisher_X13 : ∀ w ∈ u_ws RX13 TX13 25, w ∈ wsX12_fisher := by decide +kernel
theorem kn_X12_131 : Cond.fieldLinkNest "TideLotsModel$State" (131 : Nat) "TideLotsModel$Told" "goer" "[I" "TideLotsModel" ∈ gNs := by decide +kernel
abbrev rX12_fisher : Room := { frames := 5, cells := 0, slots := 0, locals := 118 }
noncomputable def b_X12_fisher_82 (M : gMem) (x0 : Nat) (x1 : Int32) : Option (Unit × gMem) :=
  ck (mT M x0 = 11) <| dr ((mR M x0 8)) fun a2 => ck (mT M a2 = 20) <| ck (inb x1 (mL M a2)) <| (if (mI M a2 x1.toNatClampNeg) = (-1 : Int32) then dr ((mR M x0 7)) fun a18 => ck (mT M a18 = 20) <| ck (inb x1 (mL M a18)) <| lw (wI M a18 x1.toNatClampNeg ((0 : Int32))) fun M21 => some ((), M21) else ck (inb x1 (mL M a2)) <| dr ((mR M x0 3)) fun a6 => ck (mT M a6 = 20) <| ck (inb (mI M a2 x1.toNatClampNeg) (mL M a6)) <| ck (inb (mI M a2 x1.toNatClampNeg) (mL M a6)) <| lw (wI M a6 ((mI M a2 x1.toNatClampNeg)).toNatClampNeg (((mI M a6 ((mI M a2 x1.toNatClampNeg)).toNatClampNeg) + (1 : Int32)))) fun M10 => dr ((mR M10 x0 8)) fun a14 => ck (mT M10 a14 = 20) <| ck (inb x1 (mL M10 a14)) <| bd (f_X12_fishFor M10 x0 x1 ((mI M10 a14 x1.toNatClampNeg))) fun _ M17 => some ((), M17))
noncomputable def b_X12_fisher_76 (M : gMem) (x0 : Nat) (x1 : Int32) (x2 : Int32) : Option ((gMem × Int32) ⊕ (Unit × gMem)) :=
  some (.inl (M, (x2 + (1 : Int32))))
noncomputable def bb_X12_fisher_9 (M : gMem) (x0 : Nat) (x1 : Int32) (x2 : Int32) : Option ((gMem × Int32) ⊕ (Unit × gMem)) :=
  ck (mT M x0 = 11) <| dr ((mR M x0 18)) fun a26 => ck (mT M a26 = 13) <| dr ((mR M a26 11)) fun a28 => ck (mT M a28 = 12) <| (if (mI M a28 8) ≤ x2 then oI (b_X12_fisher_82 M x0 x1) else dr ((mR M x0 8)) fun a31 => ck (mT M a31 = 20) <| ck (inb x1 (mL M a31)) <| (if (mI M a31 x1.toNatClampNeg) = (-1 : Int32) then dr ((mR M a28 9)) fun a35 => ck (mT M a35 = 20) <| ck (inb x2 (mL M a35)) <| (if (mI M a35 x2.toNatClampNeg) = x1 then bd (f_X12_canGo M x0 x1 x2) fun r38 M38 => (if r38 = 0 then b_X12_fisher_76 M38 x0 x1 x2 else ck (mT M38 x0 = 11) <| dr ((mR M38 x0 18)) fun a40 => ck (mT M38 a40 = 13) <| dr ((mR M38 a40 11)) fun a42 => ck (mT M38 a42 = 12) <| dr ((mR M38 a42 10)) fun a44 => ck (mT M38 a44 = 20) <| ck (inb x2 (mL M38 a44)) <| dr ((mR M38 x0 8)) fun a47 => ck (mT M38 a47 = 20) <| ck (inb x1 (mL M38 a47)) <| lw (wI M38 a47 x1.toNatClampNeg ((mI M38 a44 x2.toNatClampNeg))) fun M50 => b_X12_fisher_76 M50 x0 x1 x2) else b_X12_fisher_76 M x0 x1 x2) else oI (b_X12_fisher_82 M x0 x1)))
noncomputable def lp_X12_fisher_9 (M : gMem) (x0 : Nat) (x1 : Int32) (x2 : Int32) : Option (Unit × gMem) :=
  lp (fun (q : gMem × Int32) => bb_X12_fisher_9 q.1 x0 x1 q.2) (M, x2)
noncomputable def b_X12_fisher_0 (M : gMem) (x0 : Nat) (x1 : Int32) : Option (Unit × gMem) :=
  ck (mT M x0 = 11) <| dr ((mR M x0 8)) fun a57 => ck (mT M a57 = 20) <| ck (inb x1 (mL M a57)) <| lw (wI M a57 x1.toNatClampNeg ((-1 : Int32))) fun M60 => lp_X12_fisher_9 M60 x0 x1 ((0 : Int32))
noncomputable def f_X12_fisher (M : gMem) (x0 : Nat) (x1 : Int32) : Option (Unit × gMem) :=
  b_X12_fisher_0 M x0 x1
set_option maxHeartbeats 4000000 in
set_option maxRecDepth 100000 in
theorem t_X12_fisher_82 (X : gX p s m args meth c D cy B (gSt Z B H0) RX12 cX12_fisher wsX12_fisher 3) (hr : meth.sig.returnType = none) {Q : State → Prop} : ∀ (M : gMem) (x0 : Nat) (x1 : Int32) (z : Unit × gMem), b_X12_fisher_82 M x0 x1 = some z → (fun (r : Unit × gMem) => Q = gMQ below D cy B H0 args s 0 0 none r.2) z → gGo p l e rX12_fisher s m args below meth c D cy B H0 3 0 0 Q 82 [(0, vR (some x0)), (1, vI x1)] [] M := by
  intro M x0 x1 z hf hK
  unfold b_X12_fisher_82 at hf
  refine g_aload_n X dX12_fisher_82 rfl rfl ?_
  obtain ⟨hT1, hf⟩ := ck_e hf
  refine g_get (ci := 10) (v := vR (mR M x0 8)) 8 X cdX12 i_X12_fisher_X12 (by decide) k_X12_fisher_f38 rfl dX12_fisher_83 rfl hT1 rfl ?_
  refine g_iload_n X dX12_fisher_86 rfl rfl ?_
  obtain ⟨a2, ha2, hf⟩ := dr_e hf
  obtain ⟨hT3, hf⟩ := ck_e hf
  obtain ⟨hg4, hf⟩ := ck_e hf
  refine g_iald X dX12_fisher_87 ha2 hT3 hg4 ?_
  refine g_iconst (v := (-1 : Int32)) X dX12_fisher_88 (by decide) ?_
  refine g_icmp_ne (tgt := 100) X dX12_fisher_89 (by decide) (fun hc => ?_) (fun hc => ?_)
  · have hf := ife_f hc hf
    refine g_aload_n X dX12_fisher_100 rfl rfl ?_
    refine g_get (ci := 10) (v := vR (mR M x0 3)) 3 X cdX12 i_X12_fisher_X12 (by decide) k_X12_fisher_f23 rfl dX12_fisher_101 rfl hT1 rfl ?_
    refine g_aload_n X dX12_fisher_104 rfl rfl ?_
    refine g_get (ci := 10) (v := vR (mR M x0 8)) 8 X cdX12 i_X12_fisher_X12 (by decide) k_X12_fisher_f38 rfl dX12_fisher_105 rfl hT1 rfl ?_
    refine g_iload_n X dX12_fisher_108 rfl rfl ?_
    obtain ⟨hg5, hf⟩ := ck_e hf
    refine g_iald X dX12_fisher_109 ha2 hT3 hg5 ?_
    refine g_dup2 X dX12_fisher_110 rfl rfl ?_
    obtain ⟨a6, ha6, hf⟩ := dr_e hf
    obtain ⟨hT7, hf⟩ := ck_e hf
    obtain ⟨hg8, hf⟩ := ck_e hf
    refine g_iald X dX12_fisher_111 ha6 hT7 hg8 ?_
    refine g_iconst (v := (1 : Int32)) X dX12_fisher_112 (by decide) ?_
    refine g_iadd X dX12_fisher_113 ?_
    obtain ⟨hg9, hf⟩ := ck_e hf
    refine g_iast X dX12_fisher_114 ha6 hT7 hg9 ?_
    obtain ⟨M10, hM10, hf⟩ := lw_e hf
    rw [← hM10]
    have hT11 : mT M10 x0 = 11 := by rw [hM10]; exact hT1
    have hT12 : mT M10 a2 = 20 := by rw [hM10]; exact hT3
    have hT13 : mT M10 a6 = 20 := by rw [hM10]; exact hT7
    refine g_aload_n X dX12_fisher_115 rfl rfl ?_
    refine g_iload_n X dX12_fisher_116 rfl rfl ?_
    refine g_aload_n X dX12_fisher_117 rfl rfl ?_
    refine g_get (ci := 10) (v := vR (mR M10 x0 8)) 8 X cdX12 i_X12_fisher_X12 (by decide) k_X12_fisher_f38 rfl dX12_fisher_118 rfl hT11 rfl ?_
    refine g_iload_n X dX12_fisher_121 rfl rfl ?_
    obtain ⟨a14, ha14, hf⟩ := dr_e hf
    obtain ⟨hT15, hf⟩ := ck_e hf
    obtain ⟨hg16, hf⟩ := ck_e hf
    refine g_iald X dX12_fisher_122 ha14 hT15 hg16 ?_
    obtain ⟨r17, M17, hq17, hf⟩ := bd_e hf
    refine g_callV (ci := 10) (b := x0) (As := [vI x1, vI (mI M10 a14 x1.toNatClampNeg)]) (st := []) (v := none) (M1 := M17) X (m_X12_fishFor l hq17) (cwV 2 X.2.2.1 gX12_fisher_X12_fishFor rfl rfl rfl (by decide +kernel) ⟨Nat.le_of_ble_eq_true rfl, Nat.le_of_ble_eq_true rfl⟩) rfl rfl rfl hT11 (by decide) rfl (Nat.le_of_ble_eq_true rfl) dX12_fisher_123 ⟨by decide, by decide⟩ ?_
    cases hf
    refine g_eqQ hK ?_
    exact g_vret X hr dX12_fisher_126
  · have hf := ife_t hc hf
    refine g_aload_n X dX12_fisher_92 rfl rfl ?_
    refine g_get (ci := 10) (v := vR (mR M x0 7)) 7 X cdX12 i_X12_fisher_X12 (by decide) k_X12_fisher_f35 rfl dX12_fisher_93 rfl hT1 rfl ?_
    refine g_iload_n X dX12_fisher_96 rfl rfl ?_
    refine g_iconst (v := (0 : Int32)) X dX12_fisher_97 (by decide) ?_
    obtain ⟨a18, ha18, hf⟩ := dr_e hf
    obtain ⟨hT19, hf⟩ := ck_e hf
    obtain ⟨hg20, hf⟩ := ck_e hf
    refine g_iast X dX12_fisher_98 ha18 hT19 hg20 ?_
    obtain ⟨M21, hM21, hf⟩ := lw_e hf
    rw [← hM21]
    have hT22 : mT M21 x0 = 11 := by rw [hM21]; exact hT1
    have hT23 : mT M21 a2 = 20 := by rw [hM21]; exact hT3
    have hT24 : mT M21 a18 = 20 := by rw [hM21]; exact hT19
    cases hf
    refine g_eqQ hK ?_
    exact g_vret X hr dX12_fisher_99
set_option maxHeartbeats 4000000 in
set_option maxRecDepth 100000 in
theorem t_X12_fisher_76 (X : gX p s m args meth c D cy B (gSt Z B H0) RX12 cX12_fisher wsX12_fisher 3) (hr : meth.sig.returnType = none) {Q : State → Prop} : ∀ (M : gMem) (x0 : Nat) (x1 : Int32) (x2 : Int32) (z : (gMem × Int32) ⊕ (Unit × gMem)), b_X12_fisher_76 M x0 x1 x2 = some z → (Sum.elim (fun (q : gMem × Int32) => gGo p l e rX12_fisher s m args below meth c D cy B H0 3 0 0 Q 9 [(0, vR (some x0)), (1, vI x1), (2, vI q.2)] [] q.1) (fun (r : Unit × gMem) => Q = gMQ below D cy B H0 args s 0 0 none r.2)) z → gGo p l e rX12_fisher s m args below meth c D cy B H0 3 0 0 Q 76 [(0, vR (some x0)), (1, vI x1), (2, vI x2)] [] M := by
  intro M x0 x1 x2 z hf hK
  unfold b_X12_fisher_76 at hf
  refine g_iinc (v := (1 : Int32)) (lv' := [(2, vI (x2 + (1 : Int32))), (0, vR (some x0)), (1, vI x1)]) X dX12_fisher_76 rfl (by decide) (by decide) rfl ?_
  refine g_goto (tgt := 9) X dX12_fisher_79 (by decide) ?_
  cases hf
  refine g_sub (lvsub_of _ _ [1, 2, 0] rfl) ?_
  exact hK
set_option maxHeartbeats 4000000 in
set_option maxRecDepth 100000 in
theorem tb_X12_fisher_9 (X : gX p s m args meth c D cy B (gSt Z B H0) RX12 cX12_fisher wsX12_fisher 3) (hr : meth.sig.returnType = none) {Q : State → Prop} : ∀ (M : gMem) (x0 : Nat) (x1 : Int32) (x2 : Int32) (z : (gMem × Int32) ⊕ (Unit × gMem)), bb_X12_fisher_9 M x0 x1 x2 = some z → (Sum.elim (fun (q : gMem × Int32) => gGo p l e rX12_fisher s m args below meth c D cy B H0 3 0 0 Q 9 [(0, vR (some x0)), (1, vI x1), (2, vI q.2)] [] q.1) (fun (r : Unit × gMem) => Q = gMQ below D cy B H0 args s 0 0 none r.2)) z → gGo p l e rX12_fisher s m args below meth c D cy B H0 3 0 0 Q 9 [(0, vR (some x0)), (1, vI x1), (2, vI x2)] [] M := by
  intro M x0 x1 x2 z hf hK
  unfold bb_X12_fisher_9 at hf
  refine g_iload_n X dX12_fisher_9 rfl rfl ?_
  refine g_aload_n X dX12_fisher_10 rfl rfl ?_
  obtain ⟨hT25, hf⟩ := ck_e hf
  refine g_get (ci := 10) (v := vR (mR M x0 18)) 18 X cdX12 i_X12_fisher_X12 (by decide) k_X12_fisher_f3 rfl dX12_fisher_11 rfl hT25 rfl ?_
  obtain ⟨a26, ha26, hf⟩ := dr_e hf
  obtain ⟨hT27, hf⟩ := ck_e hf
  refine g_getN (ci := 12) (w := vR (mR M a26 11)) 11 X cdX14 i_X12_fisher_X14 (by decide) (gNw X _ kn_X12_81) rfl dX12_fisher_14 ha26 hT27 rfl ?_
  obtain ⟨a28, ha28, hf⟩ := dr_e hf
  obtain ⟨hT29, hf⟩ := ck_e hf
  refine g_getN (ci := 11) (w := vI (mI M a28 8)) 8 X cdX13 i_X12_fisher_X13 (by decide) (gNw X _ kn_X12_128) rfl dX12_fisher_17 ha28 hT29 rfl ?_
  refine g_icmp_ge (tgt := 82) X dX12_fisher_20 (by decide) (fun hc => ?_) (fun hc => ?_)
  · have hf := ife_t hc hf
    obtain ⟨w30, hw30, hz30⟩ := oI_e hf
    subst hz30
    have hf := hw30
    refine g_sub (lvsub_of _ _ [0, 1] rfl) ?_
    exact t_X12_fisher_82 X hr _ _ _ _ hf hK
  · have hf := ife_f hc hf
    refine g_aload_n X dX12_fisher_23 rfl rfl ?_
    refine g_get (ci := 10) (v := vR (mR M x0 8)) 8 X cdX12 i_X12_fisher_X12 (by decide) k_X12_fisher_f38 rfl dX12_fisher_24 rfl hT25 rfl ?_
    refine g_iload_n X dX12_fisher_27 rfl rfl ?_
    obtain ⟨a31, ha31, hf⟩ := dr_e hf
    obtain ⟨hT32, hf⟩ := ck_e hf
    obtain ⟨hg33, hf⟩ := ck_e hf
    refine g_iald X dX12_fisher_28 ha31 hT32 hg33 ?_
    refine g_iconst (v := (-1 : Int32)) X dX12_fisher_29 (by decide) ?_
    refine g_icmp_ne (tgt := 82) X dX12_fisher_30 (by decide) (fun hc => ?_) (fun hc => ?_)
    · have hf := ife_f hc hf
      obtain ⟨w34, hw34, hz34⟩ := oI_e hf
      subst hz34
      have hf := hw34
      refine g_sub (lvsub_of _ _ [0, 1] rfl) ?_
      exact t_X12_fisher_82 X hr _ _ _ _ hf hK
    · have hf := ife_t hc hf
      refine g_aload_n X dX12_fisher_33 rfl rfl ?_
      refine g_get (ci := 10) (v := vR (mR M x0 18)) 18 X cdX12 i_X12_fisher_X12 (by decide) k_X12_fisher_f3 rfl dX12_fisher_34 rfl hT25 rfl ?_
      refine g_getN (ci := 12) (w := vR (mR M a26 11)) 11 X cdX14 i_X12_fisher_X14 (by decide) (gNw X _ kn_X12_81) rfl dX12_fisher_37 ha26 hT27 rfl ?_
      refine g_getN (ci := 11) (w := vR (mR M a28 9)) 9 X cdX13 i_X12_fisher_X13 (by decide) (gNw X _ kn_X12_131) rfl dX12_fisher_40 ha28 hT29 rfl ?_
      refine g_iload_n X dX12_fisher_43 rfl rfl ?_
      obtain ⟨a35, ha35, hf⟩ := dr_e hf
      obtain ⟨hT36, hf⟩ := ck_e hf
      obtain ⟨hg37, hf⟩ := ck_e hf
      refine g_iald X dX12_fisher_44 ha35 hT36 hg37 ?_
      refine g_iload_n X dX12_fisher_45 rfl rfl ?_
      refine g_icmp_ne (tgt := 76) X dX12_fisher_46 (by decide) (fun hc => ?_) (fun hc => ?_)
      · have hf := ife_f hc hf
        refine g_sub (lvsub_of _ _ [0, 1, 2] rfl) ?_
        exact t_X12_fisher_76 X hr _ _ _ _ _ hf hK
      · have hf := ife_t hc hf
        refine g_aload_n X dX12_fisher_49 rfl rfl ?_
        refine g_iload_n X dX12_fisher_50 rfl rfl ?_
        refine g_iload_n X dX12_fisher_51 rfl rfl ?_
        obtain ⟨r38, M38, hq38, hf⟩ := bd_e hf
        refine g_callV (ci := 10) (b := x0) (As := [vI x1, vI x2]) (st := []) (v := some (vI r38)) (M1 := M38) X (m_X12_canGo l hq38) (cwV 2 X.2.2.1 gX12_fisher_X12_canGo rfl rfl rfl (by decide +kernel) ⟨Nat.le_of_ble_eq_true rfl, Nat.le_of_ble_eq_true rfl⟩) rfl rfl rfl hT25 (by decide) rfl (Nat.le_of_ble_eq_true rfl) dX12_fisher_52 ⟨by decide, by decide⟩ ?_
        refine g_if_eq (tgt := 76) X dX12_fisher_55 (by decide) (fun hc => ?_) (fun hc => ?_)
        · have hf := ife_t hc hf
          refine g_sub (lvsub_of _ _ [0, 1, 2] rfl) ?_
          exact t_X12_fisher_76 X hr _ _ _ _ _ hf hK
        · have hf := ife_f hc hf
          refine g_aload_n X dX12_fisher_58 rfl rfl ?_
          obtain ⟨hT39, hf⟩ := ck_e hf
          refine g_get (ci := 10) (v := vR (mR M38 x0 8)) 8 X cdX12 i_X12_fisher_X12 (by decide) k_X12_fisher_f38 rfl dX12_fisher_59 rfl hT39 rfl ?_
          refine g_iload_n X dX12_fisher_62 rfl rfl ?_
          refine g_aload_n X dX12_fisher_63 rfl rfl ?_
          refine g_get (ci := 10) (v := vR (mR M38 x0 18)) 18 X cdX12 i_X12_fisher_X12 (by decide) k_X12_fisher_f3 rfl dX12_fisher_64 rfl hT39 rfl ?_
          obtain ⟨a40, ha40, hf⟩ := dr_e hf
          obtain ⟨hT41, hf⟩ := ck_e hf
          refine g_getN (ci := 12) (w := vR (mR M38 a40 11)) 11 X cdX14 i_X12_fisher_X14 (by decide) (gNw X _ kn_X12_81) rfl dX12_fisher_67 ha40 hT41 rfl ?_
          obtain ⟨a42, ha42, hf⟩ := dr_e hf
          obtain ⟨hT43, hf⟩ := ck_e hf
          refine g_getN (ci := 11) (w := vR (mR M38 a42 10)) 10 X cdX13 i_X12_fisher_X13 (by decide) (gNw X _ kn_X12_138) rfl dX12_fisher_70 ha42 hT43 rfl ?_
          refine g_iload_n X dX12_fisher_73 rfl rfl ?_
          obtain ⟨a44, ha44, hf⟩ := dr_e hf
          obtain ⟨hT45, hf⟩ := ck_e hf
          obtain ⟨hg46, hf⟩ := ck_e hf
          refine g_iald X dX12_fisher_74 ha44 hT45 hg46 ?_
          obtain ⟨a47, ha47, hf⟩ := dr_e hf
          obtain ⟨hT48, hf⟩ := ck_e hf
          obtain ⟨hg49, hf⟩ := ck_e hf
          refine g_iast X dX12_fisher_75 ha47 hT48 hg49 ?_
          obtain ⟨M50, hM50, hf⟩ := lw_e hf
          rw [← hM50]
          have hT51 : mT M50 x0 = 11 := by rw [hM50]; exact hT39
          have hT52 : mT M50 a40 = 13 := by rw [hM50]; exact hT41
          have hT53 : mT M50 a42 = 12 := by rw [hM50]; exact hT43
          have hT54 : mT M50 a44 = 20 := by rw [hM50]; exact hT45
          have hT55 : mT M50 a47 = 20 := by rw [hM50]; exact hT48
          refine g_sub (lvsub_of _ _ [0, 1, 2] rfl) ?_
          exact t_X12_fisher_76 X hr _ _ _ _ _ hf hK
set_option maxHeartbeats 4000000 in
set_option maxRecDepth 100000 in
theorem tl_X12_fisher_9 (X : gX p s m args meth c D cy B (gSt Z B H0) RX12 cX12_fisher wsX12_fisher 3) (hr : meth.sig.returnType = none) {Q : State → Prop} : ∀ (M : gMem) (x0 : Nat) (x1 : Int32) (x2 : Int32) (z : Unit × gMem), lp_X12_fisher_9 M x0 x1 x2 = some z → (fun (r : Unit × gMem) => Q = gMQ below D cy B H0 args s 0 0 none r.2) z → gGo p l e rX12_fisher s m args below meth c D cy B H0 3 0 0 Q 9 [(0, vR (some x0)), (1, vI x1), (2, vI x2)] [] M := by
  intro M x0 x1 x2 z hf hK
  refine lp_ind (P := (fun (q : gMem × Int32) (z : Unit × gMem) => (fun (r : Unit × gMem) => Q = gMQ below D cy B H0 args s 0 0 none r.2) z → gGo p l e rX12_fisher s m args below meth c D cy B H0 3 0 0 Q 9 [(0, vR (some x0)), (1, vI x1), (2, vI q.2)] [] q.1)) (fun q z hq => ?_) _ _ hf hK
  intro hK
  obtain ⟨w, hw, hm⟩ := hq
  refine tb_X12_fisher_9 X hr _ _ _ _ w hw ?_
  cases w with
  | inl a => exact hm hK
  | inr b => cases hm; exact hK
set_option maxHeartbeats 4000000 in
set_option maxRecDepth 100000 in
theorem t_X12_fisher_0 (X : gX p s m args meth c D cy B (gSt Z B H0) RX12 cX12_fisher wsX12_fisher 3) (hr : meth.sig.returnType = none) {Q : State → Prop} : ∀ (M : gMem) (x0 : Nat) (x1 : Int32) (z : Unit × gMem), b_X12_fisher_0 M x0 x1 = some z → (fun (r : Unit × gMem) => Q = gMQ below D cy B H0 args s 0 0 none r.2) z → gGo p l e rX12_fisher s m args below meth c D cy B H0 3 0 0 Q 0 [(0, vR (some x0)), (1, vI x1)] [] M := by
  intro M x0 x1 z hf hK
  unfold b_X12_fisher_0 at hf
  refine g_aload_n X dX12_fisher_0 rfl rfl ?_
  obtain ⟨hT56, hf⟩ := ck_e hf
  refine g_get (ci := 10) (v := vR (mR M x0 8)) 8 X cdX12 i_X12_fisher_X12 (by decide) k_X12_fisher_f38 rfl dX12_fisher_1 rfl hT56 rfl ?_
  refine g_iload_n X dX12_fisher_4 rfl rfl ?_
  refine g_iconst (v := (-1 : Int32)) X dX12_fisher_5 (by decide) ?_
  obtain ⟨a57, ha57, hf⟩ := dr_e hf
  obtain ⟨hT58, hf⟩ := ck_e hf
  obtain ⟨hg59, hf⟩ := ck_e hf
  refine g_iast X dX12_fisher_6 ha57 hT58 hg59 ?_
  obtain ⟨M60, hM60, hf⟩ := lw_e hf
  rw [← hM60]
  have hT61 : mT M60 x0 = 11 := by rw [hM60]; exact hT56
  have hT62 : mT M60 a57 = 20 := by rw [hM60]; exact hT58
  refine g_iconst (v := (0 : Int32)) X dX12_fisher_7 (by decide) ?_
  refine g_istore_n (lv' := [(2, vI (0 : Int32)), (0, vR (some x0)), (1, vI x1)]) X dX12_fisher_8 rfl (by decide) rfl ?_
  refine g_sub (lvsub_of _ _ [1, 2, 0] rfl) ?_
  exact tl_X12_fisher_9 X hr _ _ _ _ _ hf hK
set_option maxHeartbeats 4000000 in
set_option maxRecDepth 100000 in
theorem m_X12_fisher (l : Launch) {D : va_G} {cy : Nat → ClassId} {B : Nat} {H0 : Heap} {Z : Nat → Nat} {M M1 : gMem} {x0 : Nat} {x1 : Int32} {r : Unit} (hf : f_X12_fisher M x0 x1 = some (r, M1)) : Met l yX12_fisher wsX12_fisher rX12_fisher (va_Pc (Value.ref x0 :: List.map gv [vI x1]) (gPre D cy B H0 (gSt Z B H0) M)) (gQ D cy B H0 none M1) 0 0 (gA B) := by
  refine Met.ofW (cc := cX12_fisher) (maxL := 3) (ret := none) (by decide) rfl ?_
  intro p e s m args below meth c s₁ Bd hml hv
  obtain ⟨rfl, hW, hKK, hFs⟩ := hv
  have X : gX p s m _ meth c D cy B (gSt Z B H0) RX12 cX12_fisher wsX12_fisher 3 := ⟨Bd.exec, Bd.bytes, atoms_spec (ws := wsX12_fisher) Bd.pre, findClass_of_methodNamed Bd.named, hml, hKK, by rw [hW.1]; exact hW.2.1, Bd.notSynchronized, hFs⟩
  have hr := Bd.returns
  have hl := lv_entry ([.ref x0, .int x1]) (n := 3) (Nat.le_of_ble_eq_true rfl)
  show W p l e rX12_fisher s m _ below meth c s.heap [] 0 0 _ (entryFrame m ([.ref x0, .int x1] : List Value).toArray 3)
  rw [lg_entry_eq]
  generalize (lg_sl ([.ref x0, .int x1]) ++ List.replicate (3 - (lg_sl ([.ref x0, .int x1])).length) Slot.unset).toArray = ls at hl ⊢
  have hl : lv_has ls 3 (List.map gq [(0, vR (some x0)), (1, vI x1)]) := hl
  exact t_X12_fisher_0 X hr _ _ _ _ hf rfl s.heap [] ls hW va_S.rf (lv_has_sub hl (lvsub_of _ _ [0, 1] rfl))
/-! ## TideLotsModel$State.pass()V -/
theorem dX12_pass_0 : decode cX12_pass 0 = .ok (.aload_n 0, 1) := by decide +kernel
theorem dX12_pass_1 : decode cX12_pass 1 = .ok (.invokevirtual 106, 3) := by decide +kernel
theorem dX12_pass_4 : decode cX12_pass 4 = .ok (.iconst 0, 1) := by decide +kernel
theorem dX12_pass_5 : decode cX12_pass 5 = .ok (.istore_n 1, 1) := by decide +kernel
theorem dX12_pass_6 : decode cX12_pass 6 = .ok (.iload_n 1, 1) := by decide +kernel
theorem dX12_pass_7 : decode cX12_pass 7 = .ok (.bipush 8, 2) := by decide +kernel
theorem dX12_pass_9 : decode cX12_pass 9 = .ok (.if_icmp .ge 16, 3) := by decide +kernel
theorem dX12_pass_12 : decode cX12_pass 12 = .ok (.aload_n 0, 1) := by decide +kernel
theorem dX12_pass_13 : decode cX12_pass 13 = .ok (.getfield 23, 3) := by decide +kernel
theorem dX12_pass_16 : decode cX12_pass 16 = .ok (.iload_n 1, 1) := by decide +kernel
theorem dX12_pass_17 : decode cX12_pass 17 = .ok (.iconst 0, 1) := by decide +kernel
theorem dX12_pass_18 : decode cX12_pass 18 = .ok (.iastore, 1) := by decide +kernel
theorem dX12_pass_19 : decode cX12_pass 19 = .ok (.iinc 1 1, 3) := by decide +kernel
theorem dX12_pass_22 : decode cX12_pass 22 = .ok (.goto (-16), 3) := by decide +kernel
theorem dX12_pass_25 : decode cX12_pass 25 = .ok (.iconst 0, 1) := by decide +kernel
theorem dX12_pass_26 : decode cX12_pass 26 = .ok (.istore_n 1, 1) := by decide +kernel
theorem dX12_pass_27 : decode cX12_pass 27 = .ok (.iload_n 1, 1) := by decide +kernel
theorem dX12_pass_28 : decode cX12_pass 28 = .ok (.aload_n 0, 1) := by decide +kernel
theorem dX12_pass_29 : decode cX12_pass 29 = .ok (.getfield 3, 3) := by decide +kernel
theorem dX12_pass_32 : decode cX12_pass 32 = .ok (.getfield 81, 3) := by decide +kernel
theorem dX12_pass_35 : decode cX12_pass 35 = .ok (.getfield 93, 3) := by decide +kernel
theorem dX12_pass_38 : decode cX12_pass 38 = .ok (.if_icmp .ge 19, 3) := by decide +kernel
theorem dX12_pass_41 : decode cX12_pass 41 = .ok (.aload_n 0, 1) := by decide +kernel
theorem dX12_pass_42 : decode cX12_pass 42 = .ok (.aload_n 0, 1) := by decide +kernel
theorem dX12_pass_43 : decode cX12_pass 43 = .ok (.getfield 56, 3) := by decide +kernel
theorem dX12_pass_46 : decode cX12_pass 46 = .ok (.iload_n 1, 1) := by decide +kernel
theorem dX12_pass_47 : decode cX12_pass 47 = .ok (.iaload, 1) := by decide +kernel
theorem dX12_pass_48 : decode cX12_pass 48 = .ok (.invokevirtual 109, 3) := by decide +kernel
theorem dX12_pass_51 : decode cX12_pass 51 = .ok (.iinc 1 1, 3) := by decide +kernel
theorem dX12_pass_54 : decode cX12_pass 54 = .ok (.goto (-27), 3) := by decide +kernel
theorem dX12_pass_57 : decode cX12_pass 57 = .ok (.iconst 0, 1) := by decide +kernel
theorem dX12_pass_58 : decode cX12_pass 58 = .ok (.istore_n 1, 1) := by decide +kernel
theorem dX12_pass_59 : decode cX12_pass 59 = .ok (.iload_n 1, 1) := by decide +kernel
theorem dX12_pass_60 : decode cX12_pass 60 = .ok (.aload_n 0, 1) := by decide +kernel
theorem dX12_pass_61 : decode cX12_pass 61 = .ok (.getfield 3, 3) := by decide +kernel
theorem dX12_pass_64 : decode cX12_pass 64 = .ok (.getfield 81, 3) := by decide +kernel
theorem dX12_pass_67 : decode cX12_pass 67 = .ok (.getfield 113, 3) := by decide +kernel
theorem dX12_pass_70 : decode cX12_pass 70 = .ok (.if_icmp .ge 30, 3) := by decide +kernel
theorem dX12_pass_73 : decode cX12_pass 73 = .ok (.aload_n 0, 1) := by decide +kernel
theorem dX12_pass_74 : decode cX12_pass 74 = .ok (.getfield 3, 3) := by decide +kernel
theorem dX12_pass_77 : decode cX12_pass 77 = .ok (.getfield 81, 3) := by decide +kernel
theorem dX12_pass_80 : decode cX12_pass 80 = .ok (.getfield 116, 3) := by decide +kernel
theorem dX12_pass_83 : decode cX12_pass 83 = .ok (.iload_n 1, 1) := by decide +kernel
theorem dX12_pass_84 : decode cX12_pass 84 = .ok (.iaload, 1) := by decide +kernel
theorem dX12_pass_85 : decode cX12_pass 85 = .ok (.iconst (-1), 1) := by decide +kernel
theorem dX12_pass_86 : decode cX12_pass 86 = .ok (.if_icmp .ne 8, 3) := by decide +kernel
theorem dX12_pass_89 : decode cX12_pass 89 = .ok (.aload_n 0, 1) := by decide +kernel
theorem dX12_pass_90 : decode cX12_pass 90 = .ok (.iload_n 1, 1) := by decide +kernel
theorem dX12_pass_91 : decode cX12_pass 91 = .ok (.invokevirtual 119, 3) := by decide +kernel
theorem dX12_pass_94 : decode cX12_pass 94 = .ok (.iinc 1 1, 3) := by decide +kernel
theorem dX12_pass_97 : decode cX12_pass 97 = .ok (.goto (-38), 3) := by decide +kernel
theorem dX12_pass_100 : decode cX12_pass 100 = .ok (.iconst 0, 1) := by decide +kernel
theorem dX12_pass_101 : decode cX12_pass 101 = .ok (.istore_n 1, 1) := by decide +kernel
theorem dX12_pass_102 : decode cX12_pass 102 = .ok (.iload_n 1, 1) := by decide +kernel
theorem dX12_pass_103 : decode cX12_pass 103 = .ok (.aload_n 0, 1) := by decide +kernel
theorem dX12_pass_104 : decode cX12_pass 104 = .ok (.getfield 3, 3) := by decide +kernel
theorem dX12_pass_107 : decode cX12_pass 107 = .ok (.getfield 81, 3) := by decide +kernel
theorem dX12_pass_110 : decode cX12_pass 110 = .ok (.getfield 93, 3) := by decide +kernel
theorem dX12_pass_113 : decode cX12_pass 113 = .ok (.if_icmp .ge 24, 3) := by decide +kernel
theorem dX12_pass_116 : decode cX12_pass 116 = .ok (.aload_n 0, 1) := by decide +kernel
theorem dX12_pass_117 : decode cX12_pass 117 = .ok (.getfield 32, 3) := by decide +kernel
theorem dX12_pass_120 : decode cX12_pass 120 = .ok (.iload_n 1, 1) := by decide +kernel
theorem dX12_pass_121 : decode cX12_pass 121 = .ok (.dup2, 1) := by decide +kernel
theorem dX12_pass_122 : decode cX12_pass 122 = .ok (.iaload, 1) := by decide +kernel
theorem dX12_pass_123 : decode cX12_pass 123 = .ok (.aload_n 0, 1) := by decide +kernel
theorem dX12_pass_124 : decode cX12_pass 124 = .ok (.getfield 35, 3) := by decide +kernel
theorem dX12_pass_127 : decode cX12_pass 127 = .ok (.iload_n 1, 1) := by decide +kernel
theorem dX12_pass_128 : decode cX12_pass 128 = .ok (.iaload, 1) := by decide +kernel
theorem dX12_pass_129 : decode cX12_pass 129 = .ok (.iadd, 1) := by decide +kernel
theorem dX12_pass_130 : decode cX12_pass 130 = .ok (.iastore, 1) := by decide +kernel
theorem dX12_pass_131 : decode cX12_pass 131 = .ok (.iinc 1 1, 3) := by decide +kernel
theorem dX12_pass_134 : decode cX12_pass 134 = .ok (.goto (-32), 3) := by decide +kernel
theorem dX12_pass_137 : decode cX12_pass 137 = .ok (.iconst 0, 1) := by decide +kernel
theorem dX12_pass_138 : decode cX12_pass 138 = .ok (.istore_n 1, 1) := by decide +kernel
theorem dX12_pass_139 : decode cX12_pass 139 = .ok (.iload_n 1, 1) := by decide +kernel
theorem dX12_pass_140 : decode cX12_pass 140 = .ok (.aload_n 0, 1) := by decide +kernel
theorem dX12_pass_141 : decode cX12_pass 141 = .ok (.getfield 3, 3) := by decide +kernel
theorem dX12_pass_144 : decode cX12_pass 144 = .ok (.getfield 81, 3) := by decide +kernel
theorem dX12_pass_147 : decode cX12_pass 147 = .ok (.getfield 122, 3) := by decide +kernel
theorem dX12_pass_150 : decode cX12_pass 150 = .ok (.if_icmp .ge 14, 3) := by decide +kernel
theorem dX12_pass_153 : decode cX12_pass 153 = .ok (.aload_n 0, 1) := by decide +kernel
theorem dX12_pass_154 : decode cX12_pass 154 = .ok (.iload_n 1, 1) := by decide +kernel
theorem dX12_pass_155 : decode cX12_pass 155 = .ok (.invokevirtual 125, 3) := by decide +kernel
theorem dX12_pass_158 : decode cX12_pass 158 = .ok (.iinc 1 1, 3) := by decide +kernel
theorem dX12_pass_161 : decode cX12_pass 161 = .ok (.goto (-22), 3) := by decide +kernel
theorem dX12_pass_164 : decode cX12_pass 164 = .ok (.aload_n 0, 1) := by decide +kernel
theorem dX12_pass_165 : decode cX12_pass 165 = .ok (.dup, 1) := by decide +kernel
theorem dX12_pass_166 : decode cX12_pass 166 = .ok (.getfield 74, 3) := by decide +kernel
theorem dX12_pass_169 : decode cX12_pass 169 = .ok (.iconst 1, 1) := by decide +kernel
theorem dX12_pass_170 : decode cX12_pass 170 = .ok (.iadd, 1) := by decide +kernel
theorem dX12_pass_171 : decode cX12_pass 171 = .ok (.putfield 74, 3) := by decide +kernel
theorem dX12_pass_174 : decode cX12_pass 174 = .ok (.return_, 1) := by decide +kernel
set_option maxRecDepth 20000 in
theorem ggX12_pass_X12_grow : GoodIn wsX12_pass wsX12_grow := goodIn_rr wsB_X12_pass_in _ [(4, 8), (3, 0), (3, 19), (3, 4), (3, 5), (3, 6), (2, 20), (2, 21), (2, 22), (1, 9), (2, 23), (5, 0), (5, 1), (5, 2), (5, 3), (5, 4), (5, 5), (5, 6), (5, 7), (5, 8), (5, 9), (5, 10), (5, 11), (5, 12), (5, 13), (5, 14), (5, 15), (5, 16), (5, 17), (5, 18)] (by decide +kernel) (by decide +kernel)
set_option maxRecDepth 20000 in
theorem gX12_pass_X12_grow : GoodIn wsX12_pass (wsV RX12 125 RX12 yX12_grow wsX12_grow) := goodIn_app (goodIn_rr wsB_X12_pass_in _ [(4, 5), (4, 6), (4, 7), (1, 9)] (by decide +kernel) (by decide +kernel)) ggX12_pass_X12_grow
set_option maxRecDepth 20000 in
theorem ggX12_pass_X12_split : GoodIn wsX12_pass wsX12_split := goodIn_2 24 (goodIn_rr wsB_X12_pass_in _ [(4, 1), (1, 1), (2, 3), (1, 4), (4, 2), (4, 3), (4, 4), (5, 0), (5, 1), (5, 2), (5, 3), (5, 4), (5, 5), (5, 6), (5, 7), (5, 8), (5, 9), (5, 10), (5, 11), (5, 12), (5, 13), (5, 14), (5, 15), (5, 16)] (by decide +kernel) (by decide +kernel)) (goodIn_2 24 (goodIn_rr wsB_X12_pass_in _ [(5, 17), (5, 18), (6, 0), (6, 1), (6, 2), (6, 3), (6, 4), (6, 5), (6, 6), (6, 7), (6, 8), (6, 9), (6, 10), (6, 11), (6, 12), (6, 13), (6, 14), (7, 0), (7, 1), (7, 2), (7, 3), (7, 4), (7, 5), (7, 6)] (by decide +kernel) (by decide +kernel)) (goodIn_rr wsB_X12_pass_in _ [(7, 7), (7, 8), (7, 9), (7, 10), (7, 11), (7, 12), (7, 13), (7, 14), (7, 15), (7, 16), (7, 17), (7, 18), (7, 19), (7, 20), (7, 21), (7, 22), (7, 23), (7, 24)] (by decide +kernel) (by decide +kernel)))
set_option maxRecDepth 20000 in
theorem gX12_pass_X12_split : GoodIn wsX12_pass (wsV RX12 119 RX12 yX12_split wsX12_split) := goodIn_app (goodIn_rr wsB_X12_pass_in _ [(3, 22), (3, 23), (4, 0), (1, 9)] (by decide +kernel) (by decide +kernel)) ggX12_pass_X12_split
set_option maxRecDepth 20000 in
theorem ggX12_pass_X12_fisher : GoodIn wsX12_pass wsX12_fisher := goodIn_2 24 (goodIn_rr wsB_X12_pass_in _ [(1, 21), (1, 22), (1, 1), (1, 4), (1, 0), (1, 23), (2, 0), (2, 1), (1, 9), (2, 2), (2, 3), (2, 4), (2, 5), (2, 6), (2, 7), (2, 8), (1, 5), (2, 9), (2, 10), (2, 11), (2, 12), (2, 13), (2, 14), (2, 15)] (by decide +kernel) (by decide +kernel)) (goodIn_2 24 (goodIn_rr wsB_X12_pass_in _ [(2, 16), (2, 17), (2, 18), (1, 3), (2, 19), (2, 20), (2, 21), (2, 22), (2, 23), (3, 0), (3, 1), (3, 2), (3, 3), (3, 4), (3, 5), (3, 6), (3, 7), (3, 8), (3, 9), (3, 10), (3, 11), (3, 12), (3, 13), (3, 14)] (by decide +kernel) (by decide +kernel)) (goodIn_2 24 (goodIn_rr wsB_X12_pass_in _ [(3, 15), (3, 16), (3, 17), (3, 18), (3, 19), (3, 20), (3, 21), (5, 0), (5, 1), (5, 2), (5, 3), (5, 4), (5, 5), (5, 6), (5, 7), (5, 8), (5, 9), (5, 10), (5, 11), (5, 12), (5, 13), (5, 14), (5, 15), (5, 16)] (by decide +kernel) (by decide +kernel)) (goodIn_2 24 (goodIn_rr wsB_X12_pass_in _ [(5, 17), (5, 18), (6, 0), (6, 1), (6, 2), (6, 3), (6, 4), (6, 5), (6, 6), (6, 7), (6, 8), (6, 9), (6, 10), (6, 11), (6, 12), (6, 13), (6, 14), (7, 0), (7, 1), (7, 2), (7, 3), (7, 4), (7, 5), (7, 6)] (by decide +kernel) (by decide +kernel)) (goodIn_rr wsB_X12_pass_in _ [(7, 7), (7, 8), (7, 9), (7, 10), (7, 11), (7, 12), (7, 13), (7, 14), (7, 15), (7, 16), (7, 17), (7, 18), (7, 19), (7, 20), (7, 21), (7, 22), (7, 23), (7, 24)] (by decide +kernel) (by decide +kernel)))))
set_option maxRecDepth 20000 in
theorem gX12_pass_X12_fisher : GoodIn wsX12_pass (wsV RX12 109 RX12 yX12_fisher wsX12_fisher) := goodIn_app (goodIn_rr wsB_X12_pass_in _ [(1, 18), (1, 19), (1, 20), (1, 9)] (by decide +kernel) (by decide +kernel)) ggX12_pass_X12_fisher
set_option maxRecDepth 20000 in
theorem ggX12_pass_X12_draw : GoodIn wsX12_pass wsX12_draw := goodIn_2 24 (goodIn_rr wsB_X12_pass_in _ [(1, 10), (1, 1), (1, 11), (1, 12), (1, 13), (1, 2), (1, 14), (1, 15), (1, 16), (1, 17), (5, 0), (5, 1), (5, 2), (5, 3), (5, 4), (5, 5), (5, 6), (5, 7), (5, 8), (5, 9), (5, 10), (5, 11), (5, 12), (5, 13)] (by decide +kernel) (by decide +kernel)) (goodIn_2 24 (goodIn_rr wsB_X12_pass_in _ [(5, 14), (5, 15), (5, 16), (5, 17), (5, 18), (6, 0), (6, 1), (6, 2), (6, 3), (6, 4), (6, 5), (6, 6), (6, 7), (6, 8), (6, 9), (6, 10), (6, 11), (6, 12), (6, 13), (6, 14), (7, 0), (7, 1), (7, 2), (7, 3)] (by decide +kernel) (by decide +kernel)) (goodIn_rr wsB_X12_pass_in _ [(7, 4), (7, 5), (7, 6), (7, 7), (7, 8), (7, 9), (7, 10), (7, 11), (7, 12), (7, 13), (7, 14), (7, 15), (7, 16), (7, 17), (7, 18), (7, 19), (7, 20), (7, 21), (7, 22), (7, 23), (7, 24)] (by decide +kernel) (by decide +kernel)))
set_option maxRecDepth 20000 in
theorem gX12_pass_X12_draw : GoodIn wsX12_pass (wsV RX12 106 RX12 yX12_draw wsX12_draw) := goodIn_app (goodIn_rr wsB_X12_pass_in _ [(1, 6), (1, 7), (1, 8), (1, 9)] (by decide +kernel) (by decide +kernel)) ggX12_pass_X12_draw
theorem k_X12_pass_f3 : Cond.fieldLink RX12 3 "TideLotsModel$State" "this$0" "LTideLotsModel;" ∈ wsX12_pass := by decide +kernel
theorem i_X12_pass_X12 : ∀ w ∈ u_ws RX12 TX12 19, w ∈ wsX12_pass := by decide +kernel
theorem i_X12_pass_X14 : ∀ w ∈ u_ws RX14 TX14 15, w ∈ wsX12_pass := by decide +kernel
theorem kn_X12_122 : Cond.fieldLinkNest "TideLotsModel$State" (122 : Nat) "TideLotsModel$Told" "grounds" "I" "TideLotsModel" ∈ gNs := by decide +kernel
theorem i_X12_pass_X13 : ∀ w ∈ u_ws RX13 TX13 25, w ∈ wsX12_pass := by decide +kernel
theorem k_X12_pass_f74 : Cond.fieldLink RX12 74 "TideLotsModel$State" "tide" "I" ∈ wsX12_pass := by decide +kernel
theorem k_X12_pass_f32 : Cond.fieldLink RX12 32 "TideLotsModel$State" "store" "[I" ∈ wsX12_pass := by decide +kernel
theorem k_X12_pass_f35 : Cond.fieldLink RX12 35 "TideLotsModel$State" "caught" "[I" ∈ wsX12_pass := by decide +kernel
theorem k_X12_pass_f56 : Cond.fieldLink RX12 56 "TideLotsModel$State" "lots" "[I" ∈ wsX12_pass := by decide +kernel
theorem k_X12_pass_f23 : Cond.fieldLink RX12 23 "TideLotsModel$State" "boats" "[I" ∈ wsX12_pass := by decide +kernel
abbrev rX12_pass : Room := { frames := 6, cells := 0, slots := 0, locals := 140 }
noncomputable def bb_X12_pass_139 (M : gMem) (x0 : Nat) (x1 : Int32) : Option ((gMem × Int32) ⊕ (Unit × gMem)) :=
  ck (mT M x0 = 11) <| dr ((mR M x0 18)) fun a2 => ck (mT M a2 = 13) <| dr ((mR M a2 11)) fun a4 => ck (mT M a4 = 12) <| (if (mI M a4 0) ≤ x1 then lw (wI M x0 0 (((mI M x0 0) + (1 : Int32)))) fun M6 => oI (some ((), M6)) else bd (f_X12_grow M x0 x1) fun _ M11 => some (.inl (M11, (x1 + (1 : Int32)))))
noncomputable def lp_X12_pass_139 (M : gMem) (x0 : Nat) (x1 : Int32) : Option (Unit × gMem) :=
  lp (fun (q : gMem × Int32) => bb_X12_pass_139 q.1 x0 q.2) (M, x1)
noncomputable def bb_X12_pass_102 (M : gMem) (x0 : Nat) (x1 : Int32) : Option ((gMem × Int32) ⊕ (Unit × gMem)) :=
  ck (mT M x0 = 11) <| dr ((mR M x0 18)) fun a13 => ck (mT M a13 = 13) <| dr ((mR M a13 11)) fun a15 => ck (mT M a15 = 12) <| (if (mI M a15 4) ≤ x1 then oI (lp_X12_pass_139 M x0 ((0 : Int32))) else dr ((mR M x0 6)) fun a18 => ck (mT M a18 = 20) <| ck (inb x1 (mL M a18)) <| dr ((mR M x0 7)) fun a21 => ck (mT M a21 = 20) <| ck (inb x1 (mL M a21)) <| ck (inb x1 (mL M a18)) <| lw (wI M a18 x1.toNatClampNeg (((mI M a18 x1.toNatClampNeg) + (mI M a21 x1.toNatClampNeg)))) fun M25 => some (.inl (M25, (x1 + (1 : Int32)))))
noncomputable def lp_X12_pass_102 (M : gMem) (x0 : Nat) (x1 : Int32) : Option (Unit × gMem) :=
  lp (fun (q : gMem × Int32) => bb_X12_pass_102 q.1 x0 q.2) (M, x1)
noncomputable def b_X12_pass_94 (M : gMem) (x0 : Nat) (x1 : Int32) : Option ((gMem × Int32) ⊕ (Unit × gMem)) :=
  some (.inl (M, (x1 + (1 : Int32))))
noncomputable def bb_X12_pass_59 (M : gMem) (x0 : Nat) (x1 : Int32) : Option ((gMem × Int32) ⊕ (Unit × gMem)) :=
  ck (mT M x0 = 11) <| dr ((mR M x0 18)) fun a32 => ck (mT M a32 = 13) <| dr ((mR M a32 11)) fun a34 => ck (mT M a34 = 12) <| (if (mI M a34 11) ≤ x1 then oI (lp_X12_pass_102 M x0 ((0 : Int32))) else dr ((mR M a34 12)) fun a37 => ck (mT M a37 = 20) <| ck (inb x1 (mL M a37)) <| (if (mI M a37 x1.toNatClampNeg) = (-1 : Int32) then bd (f_X12_split M x0 x1) fun _ M40 => b_X12_pass_94 M40 x0 x1 else b_X12_pass_94 M x0 x1))
noncomputable def lp_X12_pass_59 (M : gMem) (x0 : Nat) (x1 : Int32) : Option (Unit × gMem) :=
  lp (fun (q : gMem × Int32) => bb_X12_pass_59 q.1 x0 q.2) (M, x1)
noncomputable def bb_X12_pass_27 (M : gMem) (x0 : Nat) (x1 : Int32) : Option ((gMem × Int32) ⊕ (Unit × gMem)) :=
  ck (mT M x0 = 11) <| dr ((mR M x0 18)) fun a42 => ck (mT M a42 = 13) <| dr ((mR M a42 11)) fun a44 => ck (mT M a44 = 12) <| (if (mI M a44 4) ≤ x1 then oI (lp_X12_pass_59 M x0 ((0 : Int32))) else dr ((mR M x0 14)) fun a47 => ck (mT M a47 = 20) <| ck (inb x1 (mL M a47)) <| bd (f_X12_fisher M x0 ((mI M a47 x1.toNatClampNeg))) fun _ M50 => some (.inl (M50, (x1 + (1 : Int32)))))
noncomputable def lp_X12_pass_27 (M : gMem) (x0 : Nat) (x1 : Int32) : Option (Unit × gMem) :=
  lp (fun (q : gMem × Int32) => bb_X12_pass_27 q.1 x0 q.2) (M, x1)
noncomputable def bb_X12_pass_6 (M : gMem) (x0 : Nat) (x1 : Int32) : Option ((gMem × Int32) ⊕ (Unit × gMem)) :=
  (if (8 : Int32) ≤ x1 then oI (lp_X12_pass_27 M x0 ((0 : Int32))) else ck (mT M x0 = 11) <| dr ((mR M x0 3)) fun a53 => ck (mT M a53 = 20) <| ck (inb x1 (mL M a53)) <| lw (wI M a53 x1.toNatClampNeg ((0 : Int32))) fun M56 => some (.inl (M56, (x1 + (1 : Int32)))))
noncomputable def lp_X12_pass_6 (M : gMem) (x0 : Nat) (x1 : Int32) : Option (Unit × gMem) :=
  lp (fun (q : gMem × Int32) => bb_X12_pass_6 q.1 x0 q.2) (M, x1)
noncomputable def b_X12_pass_0 (M : gMem) (x0 : Nat) : Option (Unit × gMem) :=
  ck (mT M x0 = 11) <| bd (f_X12_draw M x0) fun _ M59 => lp_X12_pass_6 M59 x0 ((0 : Int32))
noncomputable def f_X12_pass (M : gMem) (x0 : Nat) : Option (Unit × gMem) :=
  b_X12_pass_0 M x0
set_option maxHeartbeats 4000000 in
set_option maxRecDepth 100000 in
theorem tb_X12_pass_139 (X : gX p s m args meth c D cy B (gSt Z B H0) RX12 cX12_pass wsX12_pass 2) (hr : meth.sig.returnType = none) {Q : State → Prop} : ∀ (M : gMem) (x0 : Nat) (x1 : Int32) (z : (gMem × Int32) ⊕ (Unit × gMem)), bb_X12_pass_139 M x0 x1 = some z → (Sum.elim (fun (q : gMem × Int32) => gGo p l e rX12_pass s m args below meth c D cy B H0 2 0 0 Q 139 [(0, vR (some x0)), (1, vI q.2)] [] q.1) (fun (r : Unit × gMem) => Q = gMQ below D cy B H0 args s 0 0 none r.2)) z → gGo p l e rX12_pass s m args below meth c D cy B H0 2 0 0 Q 139 [(0, vR (some x0)), (1, vI x1)] [] M := by
  intro M x0 x1 z hf hK
  unfold bb_X12_pass_139 at hf
  refine g_iload_n X dX12_pass_139 rfl rfl ?_
  refine g_aload_n X dX12_pass_140 rfl rfl ?_
  obtain ⟨hT1, hf⟩ := ck_e hf
  refine g_get (ci := 10) (v := vR (mR M x0 18)) 18 X cdX12 i_X12_pass_X12 (by decide) k_X12_pass_f3 rfl dX12_pass_141 rfl hT1 rfl ?_
  obtain ⟨a2, ha2, hf⟩ := dr_e hf
  obtain ⟨hT3, hf⟩ := ck_e hf
  refine g_getN (ci := 12) (w := vR (mR M a2 11)) 11 X cdX14 i_X12_pass_X14 (by decide) (gNw X _ kn_X12_81) rfl dX12_pass_144 ha2 hT3 rfl ?_
  obtain ⟨a4, ha4, hf⟩ := dr_e hf
  obtain ⟨hT5, hf⟩ := ck_e hf
  refine g_getN (ci := 11) (w := vI (mI M a4 0)) 0 X cdX13 i_X12_pass_X13 (by decide) (gNw X _ kn_X12_122) rfl dX12_pass_147 ha4 hT5 rfl ?_
  refine g_icmp_ge (tgt := 164) X dX12_pass_150 (by decide) (fun hc => ?_) (fun hc => ?_)
  · have hf := ife_t hc hf
    refine g_aload_n X dX12_pass_164 rfl rfl ?_
    refine g_dup X dX12_pass_165 rfl ?_
    refine g_get (ci := 10) (v := vI (mI M x0 0)) 0 X cdX12 i_X12_pass_X12 (by decide) k_X12_pass_f74 rfl dX12_pass_166 rfl hT1 rfl ?_
    refine g_iconst (v := (1 : Int32)) X dX12_pass_169 (by decide) ?_
    refine g_iadd X dX12_pass_170 ?_
    refine g_putI (ci := 10) 0 X cdX12 i_X12_pass_X12 (by decide) k_X12_pass_f74 rfl dX12_pass_171 rfl hT1 (Or.inl rfl) rfl rfl rfl ?_
    obtain ⟨M6, hM6, hf⟩ := lw_e hf
    rw [← hM6]
    have hT7 : mT M6 x0 = 11 := by rw [hM6]; exact hT1
    have hT8 : mT M6 a2 = 13 := by rw [hM6]; exact hT3
    have hT9 : mT M6 a4 = 12 := by rw [hM6]; exact hT5
    obtain ⟨w10, hw10, hz10⟩ := oI_e hf
    subst hz10
    have hf := hw10
    cases hf
    refine g_eqQ hK ?_
    exact g_vret X hr dX12_pass_174
  · have hf := ife_f hc hf
    refine g_aload_n X dX12_pass_153 rfl rfl ?_
    refine g_iload_n X dX12_pass_154 rfl rfl ?_
    obtain ⟨r11, M11, hq11, hf⟩ := bd_e hf
    refine g_callV (ci := 10) (b := x0) (As := [vI x1]) (st := []) (v := none) (M1 := M11) X (m_X12_grow l hq11) (cwV 1 X.2.2.1 gX12_pass_X12_grow rfl rfl rfl (by decide +kernel) ⟨Nat.le_of_ble_eq_true rfl, Nat.le_of_ble_eq_true rfl⟩) rfl rfl rfl hT1 (by decide) rfl (Nat.le_of_ble_eq_true rfl) dX12_pass_155 ⟨by decide, by decide⟩ ?_
    refine g_iinc (v := (1 : Int32)) (lv' := [(1, vI (x1 + (1 : Int32))), (0, vR (some x0))]) X dX12_pass_158 rfl (by decide) (by decide) rfl ?_
    refine g_goto (tgt := 139) X dX12_pass_161 (by decide) ?_
    cases hf
    refine g_sub (lvsub_of _ _ [1, 0] rfl) ?_
    exact hK
set_option maxHeartbeats 4000000 in
set_option maxRecDepth 100000 in
theorem tl_X12_pass_139 (X : gX p s m args meth c D cy B (gSt Z B H0) RX12 cX12_pass wsX12_pass 2) (hr : meth.sig.returnType = none) {Q : State → Prop} : ∀ (M : gMem) (x0 : Nat) (x1 : Int32) (z : Unit × gMem), lp_X12_pass_139 M x0 x1 = some z → (fun (r : Unit × gMem) => Q = gMQ below D cy B H0 args s 0 0 none r.2) z → gGo p l e rX12_pass s m args below meth c D cy B H0 2 0 0 Q 139 [(0, vR (some x0)), (1, vI x1)] [] M := by
  intro M x0 x1 z hf hK
  refine lp_ind (P := (fun (q : gMem × Int32) (z : Unit × gMem) => (fun (r : Unit × gMem) => Q = gMQ below D cy B H0 args s 0 0 none r.2) z → gGo p l e rX12_pass s m args below meth c D cy B H0 2 0 0 Q 139 [(0, vR (some x0)), (1, vI q.2)] [] q.1)) (fun q z hq => ?_) _ _ hf hK
  intro hK
  obtain ⟨w, hw, hm⟩ := hq
  refine tb_X12_pass_139 X hr _ _ _ w hw ?_
  cases w with
  | inl a => exact hm hK
  | inr b => cases hm; exact hK
set_option maxHeartbeats 4000000 in
set_option maxRecDepth 100000 in
theorem tb_X12_pass_102 (X : gX p s m args meth c D cy B (gSt Z B H0) RX12 cX12_pass wsX12_pass 2) (hr : meth.sig.returnType = none) {Q : State → Prop} : ∀ (M : gMem) (x0 : Nat) (x1 : Int32) (z : (gMem × Int32) ⊕ (Unit × gMem)), bb_X12_pass_102 M x0 x1 = some z → (Sum.elim (fun (q : gMem × Int32) => gGo p l e rX12_pass s m args below meth c D cy B H0 2 0 0 Q 102 [(0, vR (some x0)), (1, vI q.2)] [] q.1) (fun (r : Unit × gMem) => Q = gMQ below D cy B H0 args s 0 0 none r.2)) z → gGo p l e rX12_pass s m args below meth c D cy B H0 2 0 0 Q 102 [(0, vR (some x0)), (1, vI x1)] [] M := by
  intro M x0 x1 z hf hK
  unfold bb_X12_pass_102 at hf
  refine g_iload_n X dX12_pass_102 rfl rfl ?_
  refine g_aload_n X dX12_pass_103 rfl rfl ?_
  obtain ⟨hT12, hf⟩ := ck_e hf
  refine g_get (ci := 10) (v := vR (mR M x0 18)) 18 X cdX12 i_X12_pass_X12 (by decide) k_X12_pass_f3 rfl dX12_pass_104 rfl hT12 rfl ?_
  obtain ⟨a13, ha13, hf⟩ := dr_e hf
  obtain ⟨hT14, hf⟩ := ck_e hf
  refine g_getN (ci := 12) (w := vR (mR M a13 11)) 11 X cdX14 i_X12_pass_X14 (by decide) (gNw X _ kn_X12_81) rfl dX12_pass_107 ha13 hT14 rfl ?_
  obtain ⟨a15, ha15, hf⟩ := dr_e hf
  obtain ⟨hT16, hf⟩ := ck_e hf
  refine g_getN (ci := 11) (w := vI (mI M a15 4)) 4 X cdX13 i_X12_pass_X13 (by decide) (gNw X _ kn_X12_93) rfl dX12_pass_110 ha15 hT16 rfl ?_
  refine g_icmp_ge (tgt := 137) X dX12_pass_113 (by decide) (fun hc => ?_) (fun hc => ?_)
  · have hf := ife_t hc hf
    refine g_iconst (v := (0 : Int32)) X dX12_pass_137 (by decide) ?_
    refine g_istore_n (lv' := [(1, vI (0 : Int32)), (0, vR (some x0))]) X dX12_pass_138 rfl (by decide) rfl ?_
    obtain ⟨w17, hw17, hz17⟩ := oI_e hf
    subst hz17
    have hf := hw17
    refine g_sub (lvsub_of _ _ [1, 0] rfl) ?_
    exact tl_X12_pass_139 X hr _ _ _ _ hf hK
  · have hf := ife_f hc hf
    refine g_aload_n X dX12_pass_116 rfl rfl ?_
    refine g_get (ci := 10) (v := vR (mR M x0 6)) 6 X cdX12 i_X12_pass_X12 (by decide) k_X12_pass_f32 rfl dX12_pass_117 rfl hT12 rfl ?_
    refine g_iload_n X dX12_pass_120 rfl rfl ?_
    refine g_dup2 X dX12_pass_121 rfl rfl ?_
    obtain ⟨a18, ha18, hf⟩ := dr_e hf
    obtain ⟨hT19, hf⟩ := ck_e hf
    obtain ⟨hg20, hf⟩ := ck_e hf
    refine g_iald X dX12_pass_122 ha18 hT19 hg20 ?_
    refine g_aload_n X dX12_pass_123 rfl rfl ?_
    refine g_get (ci := 10) (v := vR (mR M x0 7)) 7 X cdX12 i_X12_pass_X12 (by decide) k_X12_pass_f35 rfl dX12_pass_124 rfl hT12 rfl ?_
    refine g_iload_n X dX12_pass_127 rfl rfl ?_
    obtain ⟨a21, ha21, hf⟩ := dr_e hf
    obtain ⟨hT22, hf⟩ := ck_e hf
    obtain ⟨hg23, hf⟩ := ck_e hf
    refine g_iald X dX12_pass_128 ha21 hT22 hg23 ?_
    refine g_iadd X dX12_pass_129 ?_
    obtain ⟨hg24, hf⟩ := ck_e hf
    refine g_iast X dX12_pass_130 ha18 hT19 hg24 ?_
    obtain ⟨M25, hM25, hf⟩ := lw_e hf
    rw [← hM25]
    have hT26 : mT M25 x0 = 11 := by rw [hM25]; exact hT12
    have hT27 : mT M25 a13 = 13 := by rw [hM25]; exact hT14
    have hT28 : mT M25 a15 = 12 := by rw [hM25]; exact hT16
    have hT29 : mT M25 a18 = 20 := by rw [hM25]; exact hT19
    have hT30 : mT M25 a21 = 20 := by rw [hM25]; exact hT22
    refine g_iinc (v := (1 : Int32)) (lv' := [(1, vI (x1 + (1 : Int32))), (0, vR (some x0))]) X dX12_pass_131 rfl (by decide) (by decide) rfl ?_
    refine g_goto (tgt := 102) X dX12_pass_134 (by decide) ?_
    cases hf
    refine g_sub (lvsub_of _ _ [1, 0] rfl) ?_
    exact hK
set_option maxHeartbeats 4000000 in
set_option maxRecDepth 100000 in
theorem tl_X12_pass_102 (X : gX p s m args meth c D cy B (gSt Z B H0) RX12 cX12_pass wsX12_pass 2) (hr : meth.sig.returnType = none) {Q : State → Prop} : ∀ (M : gMem) (x0 : Nat) (x1 : Int32) (z : Unit × gMem), lp_X12_pass_102 M x0 x1 = some z → (fun (r : Unit × gMem) => Q = gMQ below D cy B H0 args s 0 0 none r.2) z → gGo p l e rX12_pass s m args below meth c D cy B H0 2 0 0 Q 102 [(0, vR (some x0)), (1, vI x1)] [] M := by
  intro M x0 x1 z hf hK
  refine lp_ind (P := (fun (q : gMem × Int32) (z : Unit × gMem) => (fun (r : Unit × gMem) => Q = gMQ below D cy B H0 args s 0 0 none r.2) z → gGo p l e rX12_pass s m args below meth c D cy B H0 2 0 0 Q 102 [(0, vR (some x0)), (1, vI q.2)] [] q.1)) (fun q z hq => ?_) _ _ hf hK
  intro hK
  obtain ⟨w, hw, hm⟩ := hq
  refine tb_X12_pass_102 X hr _ _ _ w hw ?_
  cases w with
  | inl a => exact hm hK
  | inr b => cases hm; exact hK
set_option maxHeartbeats 4000000 in
set_option maxRecDepth 100000 in
theorem t_X12_pass_94 (X : gX p s m args meth c D cy B (gSt Z B H0) RX12 cX12_pass wsX12_pass 2) (hr : meth.sig.returnType = none) {Q : State → Prop} : ∀ (M : gMem) (x0 : Nat) (x1 : Int32) (z : (gMem × Int32) ⊕ (Unit × gMem)), b_X12_pass_94 M x0 x1 = some z → (Sum.elim (fun (q : gMem × Int32) => gGo p l e rX12_pass s m args below meth c D cy B H0 2 0 0 Q 59 [(0, vR (some x0)), (1, vI q.2)] [] q.1) (fun (r : Unit × gMem) => Q = gMQ below D cy B H0 args s 0 0 none r.2)) z → gGo p l e rX12_pass s m args below meth c D cy B H0 2 0 0 Q 94 [(0, vR (some x0)), (1, vI x1)] [] M := by
  intro M x0 x1 z hf hK
  unfold b_X12_pass_94 at hf
  refine g_iinc (v := (1 : Int32)) (lv' := [(1, vI (x1 + (1 : Int32))), (0, vR (some x0))]) X dX12_pass_94 rfl (by decide) (by decide) rfl ?_
  refine g_goto (tgt := 59) X dX12_pass_97 (by decide) ?_
  cases hf
  refine g_sub (lvsub_of _ _ [1, 0] rfl) ?_
  exact hK
set_option maxHeartbeats 4000000 in
set_option maxRecDepth 100000 in
theorem tb_X12_pass_59 (X : gX p s m args meth c D cy B (gSt Z B H0) RX12 cX12_pass wsX12_pass 2) (hr : meth.sig.returnType = none) {Q : State → Prop} : ∀ (M : gMem) (x0 : Nat) (x1 : Int32) (z : (gMem × Int32) ⊕ (Unit × gMem)), bb_X12_pass_59 M x0 x1 = some z → (Sum.elim (fun (q : gMem × Int32) => gGo p l e rX12_pass s m args below meth c D cy B H0 2 0 0 Q 59 [(0, vR (some x0)), (1, vI q.2)] [] q.1) (fun (r : Unit × gMem) => Q = gMQ below D cy B H0 args s 0 0 none r.2)) z → gGo p l e rX12_pass s m args below meth c D cy B H0 2 0 0 Q 59 [(0, vR (some x0)), (1, vI x1)] [] M := by
  intro M x0 x1 z hf hK
  unfold bb_X12_pass_59 at hf
  refine g_iload_n X dX12_pass_59 rfl rfl ?_
  refine g_aload_n X dX12_pass_60 rfl rfl ?_
  obtain ⟨hT31, hf⟩ := ck_e hf
  refine g_get (ci := 10) (v := vR (mR M x0 18)) 18 X cdX12 i_X12_pass_X12 (by decide) k_X12_pass_f3 rfl dX12_pass_61 rfl hT31 rfl ?_
  obtain ⟨a32, ha32, hf⟩ := dr_e hf
  obtain ⟨hT33, hf⟩ := ck_e hf
  refine g_getN (ci := 12) (w := vR (mR M a32 11)) 11 X cdX14 i_X12_pass_X14 (by decide) (gNw X _ kn_X12_81) rfl dX12_pass_64 ha32 hT33 rfl ?_
  obtain ⟨a34, ha34, hf⟩ := dr_e hf
  obtain ⟨hT35, hf⟩ := ck_e hf
  refine g_getN (ci := 11) (w := vI (mI M a34 11)) 11 X cdX13 i_X12_pass_X13 (by decide) (gNw X _ kn_X12_113) rfl dX12_pass_67 ha34 hT35 rfl ?_
  refine g_icmp_ge (tgt := 100) X dX12_pass_70 (by decide) (fun hc => ?_) (fun hc => ?_)
  · have hf := ife_t hc hf
    refine g_iconst (v := (0 : Int32)) X dX12_pass_100 (by decide) ?_
    refine g_istore_n (lv' := [(1, vI (0 : Int32)), (0, vR (some x0))]) X dX12_pass_101 rfl (by decide) rfl ?_
    obtain ⟨w36, hw36, hz36⟩ := oI_e hf
    subst hz36
    have hf := hw36
    refine g_sub (lvsub_of _ _ [1, 0] rfl) ?_
    exact tl_X12_pass_102 X hr _ _ _ _ hf hK
  · have hf := ife_f hc hf
    refine g_aload_n X dX12_pass_73 rfl rfl ?_
    refine g_get (ci := 10) (v := vR (mR M x0 18)) 18 X cdX12 i_X12_pass_X12 (by decide) k_X12_pass_f3 rfl dX12_pass_74 rfl hT31 rfl ?_
    refine g_getN (ci := 12) (w := vR (mR M a32 11)) 11 X cdX14 i_X12_pass_X14 (by decide) (gNw X _ kn_X12_81) rfl dX12_pass_77 ha32 hT33 rfl ?_
    refine g_getN (ci := 11) (w := vR (mR M a34 12)) 12 X cdX13 i_X12_pass_X13 (by decide) (gNw X _ kn_X12_116) rfl dX12_pass_80 ha34 hT35 rfl ?_
    refine g_iload_n X dX12_pass_83 rfl rfl ?_
    obtain ⟨a37, ha37, hf⟩ := dr_e hf
    obtain ⟨hT38, hf⟩ := ck_e hf
    obtain ⟨hg39, hf⟩ := ck_e hf
    refine g_iald X dX12_pass_84 ha37 hT38 hg39 ?_
    refine g_iconst (v := (-1 : Int32)) X dX12_pass_85 (by decide) ?_
    refine g_icmp_ne (tgt := 94) X dX12_pass_86 (by decide) (fun hc => ?_) (fun hc => ?_)
    · have hf := ife_f hc hf
      refine g_sub (lvsub_of _ _ [0, 1] rfl) ?_
      exact t_X12_pass_94 X hr _ _ _ _ hf hK
    · have hf := ife_t hc hf
      refine g_aload_n X dX12_pass_89 rfl rfl ?_
      refine g_iload_n X dX12_pass_90 rfl rfl ?_
      obtain ⟨r40, M40, hq40, hf⟩ := bd_e hf
      refine g_callV (ci := 10) (b := x0) (As := [vI x1]) (st := []) (v := none) (M1 := M40) X (m_X12_split l hq40) (cwV 1 X.2.2.1 gX12_pass_X12_split rfl rfl rfl (by decide +kernel) ⟨Nat.le_of_ble_eq_true rfl, Nat.le_of_ble_eq_true rfl⟩) rfl rfl rfl hT31 (by decide) rfl (Nat.le_of_ble_eq_true rfl) dX12_pass_91 ⟨by decide, by decide⟩ ?_
      refine g_sub (lvsub_of _ _ [0, 1] rfl) ?_
      exact t_X12_pass_94 X hr _ _ _ _ hf hK
set_option maxHeartbeats 4000000 in
set_option maxRecDepth 100000 in
theorem tl_X12_pass_59 (X : gX p s m args meth c D cy B (gSt Z B H0) RX12 cX12_pass wsX12_pass 2) (hr : meth.sig.returnType = none) {Q : State → Prop} : ∀ (M : gMem) (x0 : Nat) (x1 : Int32) (z : Unit × gMem), lp_X12_pass_59 M x0 x1 = some z → (fun (r : Unit × gMem) => Q = gMQ below D cy B H0 args s 0 0 none r.2) z → gGo p l e rX12_pass s m args below meth c D cy B H0 2 0 0 Q 59 [(0, vR (some x0)), (1, vI x1)] [] M := by
  intro M x0 x1 z hf hK
  refine lp_ind (P := (fun (q : gMem × Int32) (z : Unit × gMem) => (fun (r : Unit × gMem) => Q = gMQ below D cy B H0 args s 0 0 none r.2) z → gGo p l e rX12_pass s m args below meth c D cy B H0 2 0 0 Q 59 [(0, vR (some x0)), (1, vI q.2)] [] q.1)) (fun q z hq => ?_) _ _ hf hK
  intro hK
  obtain ⟨w, hw, hm⟩ := hq
  refine tb_X12_pass_59 X hr _ _ _ w hw ?_
  cases w with
  | inl a => exact hm hK
  | inr b => cases hm; exact hK
set_option maxHeartbeats 4000000 in
set_option maxRecDepth 100000 in
theorem tb_X12_pass_27 (X : gX p s m args meth c D cy B (gSt Z B H0) RX12 cX12_pass wsX12_pass 2) (hr : meth.sig.returnType = none) {Q : State → Prop} : ∀ (M : gMem) (x0 : Nat) (x1 : Int32) (z : (gMem × Int32) ⊕ (Unit × gMem)), bb_X12_pass_27 M x0 x1 = some z → (Sum.elim (fun (q : gMem × Int32) => gGo p l e rX12_pass s m args below meth c D cy B H0 2 0 0 Q 27 [(0, vR (some x0)), (1, vI q.2)] [] q.1) (fun (r : Unit × gMem) => Q = gMQ below D cy B H0 args s 0 0 none r.2)) z → gGo p l e rX12_pass s m args below meth c D cy B H0 2 0 0 Q 27 [(0, vR (some x0)), (1, vI x1)] [] M := by
  intro M x0 x1 z hf hK
  unfold bb_X12_pass_27 at hf
  refine g_iload_n X dX12_pass_27 rfl rfl ?_
  refine g_aload_n X dX12_pass_28 rfl rfl ?_
  obtain ⟨hT41, hf⟩ := ck_e hf
  refine g_get (ci := 10) (v := vR (mR M x0 18)) 18 X cdX12 i_X12_pass_X12 (by decide) k_X12_pass_f3 rfl dX12_pass_29 rfl hT41 rfl ?_
  obtain ⟨a42, ha42, hf⟩ := dr_e hf
  obtain ⟨hT43, hf⟩ := ck_e hf
  refine g_getN (ci := 12) (w := vR (mR M a42 11)) 11 X cdX14 i_X12_pass_X14 (by decide) (gNw X _ kn_X12_81) rfl dX12_pass_32 ha42 hT43 rfl ?_
  obtain ⟨a44, ha44, hf⟩ := dr_e hf
  obtain ⟨hT45, hf⟩ := ck_e hf
  refine g_getN (ci := 11) (w := vI (mI M a44 4)) 4 X cdX13 i_X12_pass_X13 (by decide) (gNw X _ kn_X12_93) rfl dX12_pass_35 ha44 hT45 rfl ?_
  refine g_icmp_ge (tgt := 57) X dX12_pass_38 (by decide) (fun hc => ?_) (fun hc => ?_)
  · have hf := ife_t hc hf
    refine g_iconst (v := (0 : Int32)) X dX12_pass_57 (by decide) ?_
    refine g_istore_n (lv' := [(1, vI (0 : Int32)), (0, vR (some x0))]) X dX12_pass_58 rfl (by decide) rfl ?_
    obtain ⟨w46, hw46, hz46⟩ := oI_e hf
    subst hz46
    have hf := hw46
    refine g_sub (lvsub_of _ _ [1, 0] rfl) ?_
    exact tl_X12_pass_59 X hr _ _ _ _ hf hK
  · have hf := ife_f hc hf
    refine g_aload_n X dX12_pass_41 rfl rfl ?_
    refine g_aload_n X dX12_pass_42 rfl rfl ?_
    refine g_get (ci := 10) (v := vR (mR M x0 14)) 14 X cdX12 i_X12_pass_X12 (by decide) k_X12_pass_f56 rfl dX12_pass_43 rfl hT41 rfl ?_
    refine g_iload_n X dX12_pass_46 rfl rfl ?_
    obtain ⟨a47, ha47, hf⟩ := dr_e hf
    obtain ⟨hT48, hf⟩ := ck_e hf
    obtain ⟨hg49, hf⟩ := ck_e hf
    refine g_iald X dX12_pass_47 ha47 hT48 hg49 ?_
    obtain ⟨r50, M50, hq50, hf⟩ := bd_e hf
    refine g_callV (ci := 10) (b := x0) (As := [vI (mI M a47 x1.toNatClampNeg)]) (st := []) (v := none) (M1 := M50) X (m_X12_fisher l hq50) (cwV 1 X.2.2.1 gX12_pass_X12_fisher rfl rfl rfl (by decide +kernel) ⟨Nat.le_of_ble_eq_true rfl, Nat.le_of_ble_eq_true rfl⟩) rfl rfl rfl hT41 (by decide) rfl (Nat.le_of_ble_eq_true rfl) dX12_pass_48 ⟨by decide, by decide⟩ ?_
    refine g_iinc (v := (1 : Int32)) (lv' := [(1, vI (x1 + (1 : Int32))), (0, vR (some x0))]) X dX12_pass_51 rfl (by decide) (by decide) rfl ?_
    refine g_goto (tgt := 27) X dX12_pass_54 (by decide) ?_
    cases hf
    refine g_sub (lvsub_of _ _ [1, 0] rfl) ?_
    exact hK
set_option maxHeartbeats 4000000 in
set_option maxRecDepth 100000 in
theorem tl_X12_pass_27 (X : gX p s m args meth c D cy B (gSt Z B H0) RX12 cX12_pass wsX12_pass 2) (hr : meth.sig.returnType = none) {Q : State → Prop} : ∀ (M : gMem) (x0 : Nat) (x1 : Int32) (z : Unit × gMem), lp_X12_pass_27 M x0 x1 = some z → (fun (r : Unit × gMem) => Q = gMQ below D cy B H0 args s 0 0 none r.2) z → gGo p l e rX12_pass s m args below meth c D cy B H0 2 0 0 Q 27 [(0, vR (some x0)), (1, vI x1)] [] M := by
  intro M x0 x1 z hf hK
  refine lp_ind (P := (fun (q : gMem × Int32) (z : Unit × gMem) => (fun (r : Unit × gMem) => Q = gMQ below D cy B H0 args s 0 0 none r.2) z → gGo p l e rX12_pass s m args below meth c D cy B H0 2 0 0 Q 27 [(0, vR (some x0)), (1, vI q.2)] [] q.1)) (fun q z hq => ?_) _ _ hf hK
  intro hK
  obtain ⟨w, hw, hm⟩ := hq
  refine tb_X12_pass_27 X hr _ _ _ w hw ?_
  cases w with
  | inl a => exact hm hK
  | inr b => cases hm; exact hK
set_option maxHeartbeats 4000000 in
set_option maxRecDepth 100000 in
theorem tb_X12_pass_6 (X : gX p s m args meth c D cy B (gSt Z B H0) RX12 cX12_pass wsX12_pass 2) (hr : meth.sig.returnType = none) {Q : State → Prop} : ∀ (M : gMem) (x0 : Nat) (x1 : Int32) (z : (gMem × Int32) ⊕ (Unit × gMem)), bb_X12_pass_6 M x0 x1 = some z → (Sum.elim (fun (q : gMem × Int32) => gGo p l e rX12_pass s m args below meth c D cy B H0 2 0 0 Q 6 [(0, vR (some x0)), (1, vI q.2)] [] q.1) (fun (r : Unit × gMem) => Q = gMQ below D cy B H0 args s 0 0 none r.2)) z → gGo p l e rX12_pass s m args below meth c D cy B H0 2 0 0 Q 6 [(0, vR (some x0)), (1, vI x1)] [] M := by
  intro M x0 x1 z hf hK
  unfold bb_X12_pass_6 at hf
  refine g_iload_n X dX12_pass_6 rfl rfl ?_
  refine g_bipush (v := (8 : Int32)) X dX12_pass_7 (by decide) ?_
  refine g_icmp_ge (tgt := 25) X dX12_pass_9 (by decide) (fun hc => ?_) (fun hc => ?_)
  · have hf := ife_t hc hf
    refine g_iconst (v := (0 : Int32)) X dX12_pass_25 (by decide) ?_
    refine g_istore_n (lv' := [(1, vI (0 : Int32)), (0, vR (some x0))]) X dX12_pass_26 rfl (by decide) rfl ?_
    obtain ⟨w51, hw51, hz51⟩ := oI_e hf
    subst hz51
    have hf := hw51
    refine g_sub (lvsub_of _ _ [1, 0] rfl) ?_
    exact tl_X12_pass_27 X hr _ _ _ _ hf hK
  · have hf := ife_f hc hf
    refine g_aload_n X dX12_pass_12 rfl rfl ?_
    obtain ⟨hT52, hf⟩ := ck_e hf
    refine g_get (ci := 10) (v := vR (mR M x0 3)) 3 X cdX12 i_X12_pass_X12 (by decide) k_X12_pass_f23 rfl dX12_pass_13 rfl hT52 rfl ?_
    refine g_iload_n X dX12_pass_16 rfl rfl ?_
    refine g_iconst (v := (0 : Int32)) X dX12_pass_17 (by decide) ?_
    obtain ⟨a53, ha53, hf⟩ := dr_e hf
    obtain ⟨hT54, hf⟩ := ck_e hf
    obtain ⟨hg55, hf⟩ := ck_e hf
    refine g_iast X dX12_pass_18 ha53 hT54 hg55 ?_
    obtain ⟨M56, hM56, hf⟩ := lw_e hf
    rw [← hM56]
    have hT57 : mT M56 x0 = 11 := by rw [hM56]; exact hT52
    have hT58 : mT M56 a53 = 20 := by rw [hM56]; exact hT54
    refine g_iinc (v := (1 : Int32)) (lv' := [(1, vI (x1 + (1 : Int32))), (0, vR (some x0))]) X dX12_pass_19 rfl (by decide) (by decide) rfl ?_
    refine g_goto (tgt := 6) X dX12_pass_22 (by decide) ?_
    cases hf
    refine g_sub (lvsub_of _ _ [1, 0] rfl) ?_
    exact hK
set_option maxHeartbeats 4000000 in
set_option maxRecDepth 100000 in
theorem tl_X12_pass_6 (X : gX p s m args meth c D cy B (gSt Z B H0) RX12 cX12_pass wsX12_pass 2) (hr : meth.sig.returnType = none) {Q : State → Prop} : ∀ (M : gMem) (x0 : Nat) (x1 : Int32) (z : Unit × gMem), lp_X12_pass_6 M x0 x1 = some z → (fun (r : Unit × gMem) => Q = gMQ below D cy B H0 args s 0 0 none r.2) z → gGo p l e rX12_pass s m args below meth c D cy B H0 2 0 0 Q 6 [(0, vR (some x0)), (1, vI x1)] [] M := by
  intro M x0 x1 z hf hK
  refine lp_ind (P := (fun (q : gMem × Int32) (z : Unit × gMem) => (fun (r : Unit × gMem) => Q = gMQ below D cy B H0 args s 0 0 none r.2) z → gGo p l e rX12_pass s m args below meth c D cy B H0 2 0 0 Q 6 [(0, vR (some x0)), (1, vI q.2)] [] q.1)) (fun q z hq => ?_) _ _ hf hK
  intro hK
  obtain ⟨w, hw, hm⟩ := hq
  refine tb_X12_pass_6 X hr _ _ _ w hw ?_
  cases w with
  | inl a => exact hm hK
  | inr b => cases hm; exact hK
set_option maxHeartbeats 4000000 in
set_option maxRecDepth 100000 in
theorem t_X12_pass_0 (X : gX p s m args meth c D cy B (gSt Z B H0) RX12 cX12_pass wsX12_pass 2) (hr : meth.sig.returnType = none) {Q : State → Prop} : ∀ (M : gMem) (x0 : Nat) (z : Unit × gMem), b_X12_pass_0 M x0 = some z → (fun (r : Unit × gMem) => Q = gMQ below D cy B H0 args s 0 0 none r.2) z → gGo p l e rX12_pass s m args below meth c D cy B H0 2 0 0 Q 0 [(0, vR (some x0))] [] M := by
  intro M x0 z hf hK
  unfold b_X12_pass_0 at hf
  refine g_aload_n X dX12_pass_0 rfl rfl ?_
  obtain ⟨hT60, hf⟩ := ck_e hf
  obtain ⟨r59, M59, hq59, hf⟩ := bd_e hf
  refine g_callV (ci := 10) (b := x0) (As := []) (st := []) (v := none) (M1 := M59) X (m_X12_draw l hq59) (cwV 0 X.2.2.1 gX12_pass_X12_draw rfl rfl rfl (by decide +kernel) ⟨Nat.le_of_ble_eq_true rfl, Nat.le_of_ble_eq_true rfl⟩) rfl rfl rfl hT60 (by decide) rfl (Nat.le_of_ble_eq_true rfl) dX12_pass_1 ⟨by decide, by decide⟩ ?_
  refine g_iconst (v := (0 : Int32)) X dX12_pass_4 (by decide) ?_
  refine g_istore_n (lv' := [(1, vI (0 : Int32)), (0, vR (some x0))]) X dX12_pass_5 rfl (by decide) rfl ?_
  refine g_sub (lvsub_of _ _ [1, 0] rfl) ?_
  exact tl_X12_pass_6 X hr _ _ _ _ hf hK
set_option maxHeartbeats 4000000 in
set_option maxRecDepth 100000 in
theorem m_X12_pass (l : Launch) {D : va_G} {cy : Nat → ClassId} {B : Nat} {H0 : Heap} {Z : Nat → Nat} {M M1 : gMem} {x0 : Nat} {r : Unit} (hf : f_X12_pass M x0 = some (r, M1)) : Met l yX12_pass wsX12_pass rX12_pass (va_Pc (Value.ref x0 :: List.map gv []) (gPre D cy B H0 (gSt Z B H0) M)) (gQ D cy B H0 none M1) 0 0 (gA B) := by
  refine Met.ofW (cc := cX12_pass) (maxL := 2) (ret := none) (by decide) rfl ?_
  intro p e s m args below meth c s₁ Bd hml hv
  obtain ⟨rfl, hW, hKK, hFs⟩ := hv
  have X : gX p s m _ meth c D cy B (gSt Z B H0) RX12 cX12_pass wsX12_pass 2 := ⟨Bd.exec, Bd.bytes, atoms_spec (ws := wsX12_pass) Bd.pre, findClass_of_methodNamed Bd.named, hml, hKK, by rw [hW.1]; exact hW.2.1, Bd.notSynchronized, hFs⟩
  have hr := Bd.returns
  have hl := lv_entry ([.ref x0]) (n := 2) (Nat.le_of_ble_eq_true rfl)
  show W p l e rX12_pass s m _ below meth c s.heap [] 0 0 _ (entryFrame m ([.ref x0] : List Value).toArray 2)
  rw [lg_entry_eq]
  generalize (lg_sl ([.ref x0]) ++ List.replicate (2 - (lg_sl ([.ref x0])).length) Slot.unset).toArray = ls at hl ⊢
  have hl : lv_has ls 2 (List.map gq [(0, vR (some x0))]) := hl
  exact t_X12_pass_0 X hr _ _ _ hf rfl s.heap [] ls hW va_S.rf (lv_has_sub hl (lvsub_of _ _ [0] rfl))
end
