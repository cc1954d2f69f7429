section
variable {p : Program} {l : Launch} {e : Env} {s : State} {m : MethodId} {args : Array Value} {below : List Frame} {meth : Method} {c : Code} {D : va_G} {cy : Nat → ClassId} {B : Nat} {H0 : Heap} {Z : Nat → Nat}
/-! ## TideLots.count(I)I -/
theorem dX11_count_0 : decode cX11_count 0 = .ok (.iload_n 1, 1) := by decide +kernel
theorem dX11_count_1 : decode cX11_count 1 = .ok (.tableswitch 135 0 9 #[55, 63, 71, 79, 87, 95, 103, 111, 119, 127], 55) := by decide +kernel
theorem dX11_count_56 : decode cX11_count 56 = .ok (.aload_n 0, 1) := by decide +kernel
theorem dX11_count_57 : decode cX11_count 57 = .ok (.getfield 19, 3) := by decide +kernel
theorem dX11_count_60 : decode cX11_count 60 = .ok (.getfield 62, 3) := by decide +kernel
theorem dX11_count_63 : decode cX11_count 63 = .ok (.ireturn, 1) := by decide +kernel
theorem dX11_count_64 : decode cX11_count 64 = .ok (.aload_n 0, 1) := by decide +kernel
theorem dX11_count_65 : decode cX11_count 65 = .ok (.getfield 19, 3) := by decide +kernel
theorem dX11_count_68 : decode cX11_count 68 = .ok (.getfield 68, 3) := by decide +kernel
theorem dX11_count_71 : decode cX11_count 71 = .ok (.ireturn, 1) := by decide +kernel
theorem dX11_count_72 : decode cX11_count 72 = .ok (.aload_n 0, 1) := by decide +kernel
theorem dX11_count_73 : decode cX11_count 73 = .ok (.getfield 19, 3) := by decide +kernel
theorem dX11_count_76 : decode cX11_count 76 = .ok (.getfield 71, 3) := by decide +kernel
theorem dX11_count_79 : decode cX11_count 79 = .ok (.ireturn, 1) := by decide +kernel
theorem dX11_count_80 : decode cX11_count 80 = .ok (.aload_n 0, 1) := by decide +kernel
theorem dX11_count_81 : decode cX11_count 81 = .ok (.getfield 19, 3) := by decide +kernel
theorem dX11_count_84 : decode cX11_count 84 = .ok (.getfield 74, 3) := by decide +kernel
theorem dX11_count_87 : decode cX11_count 87 = .ok (.ireturn, 1) := by decide +kernel
theorem dX11_count_88 : decode cX11_count 88 = .ok (.aload_n 0, 1) := by decide +kernel
theorem dX11_count_89 : decode cX11_count 89 = .ok (.getfield 19, 3) := by decide +kernel
theorem dX11_count_92 : decode cX11_count 92 = .ok (.getfield 77, 3) := by decide +kernel
theorem dX11_count_95 : decode cX11_count 95 = .ok (.ireturn, 1) := by decide +kernel
theorem dX11_count_96 : decode cX11_count 96 = .ok (.aload_n 0, 1) := by decide +kernel
theorem dX11_count_97 : decode cX11_count 97 = .ok (.getfield 19, 3) := by decide +kernel
theorem dX11_count_100 : decode cX11_count 100 = .ok (.invokevirtual 80, 3) := by decide +kernel
theorem dX11_count_103 : decode cX11_count 103 = .ok (.ireturn, 1) := by decide +kernel
theorem dX11_count_104 : decode cX11_count 104 = .ok (.aload_n 0, 1) := by decide +kernel
theorem dX11_count_105 : decode cX11_count 105 = .ok (.getfield 19, 3) := by decide +kernel
theorem dX11_count_108 : decode cX11_count 108 = .ok (.invokevirtual 83, 3) := by decide +kernel
theorem dX11_count_111 : decode cX11_count 111 = .ok (.ireturn, 1) := by decide +kernel
theorem dX11_count_112 : decode cX11_count 112 = .ok (.aload_n 0, 1) := by decide +kernel
theorem dX11_count_113 : decode cX11_count 113 = .ok (.getfield 19, 3) := by decide +kernel
theorem dX11_count_116 : decode cX11_count 116 = .ok (.invokevirtual 86, 3) := by decide +kernel
theorem dX11_count_119 : decode cX11_count 119 = .ok (.ireturn, 1) := by decide +kernel
theorem dX11_count_120 : decode cX11_count 120 = .ok (.aload_n 0, 1) := by decide +kernel
theorem dX11_count_121 : decode cX11_count 121 = .ok (.getfield 19, 3) := by decide +kernel
theorem dX11_count_124 : decode cX11_count 124 = .ok (.invokevirtual 89, 3) := by decide +kernel
theorem dX11_count_127 : decode cX11_count 127 = .ok (.ireturn, 1) := by decide +kernel
theorem dX11_count_128 : decode cX11_count 128 = .ok (.aload_n 0, 1) := by decide +kernel
theorem dX11_count_129 : decode cX11_count 129 = .ok (.getfield 10, 3) := by decide +kernel
theorem dX11_count_132 : decode cX11_count 132 = .ok (.getfield 30, 3) := by decide +kernel
theorem dX11_count_135 : decode cX11_count 135 = .ok (.ireturn, 1) := by decide +kernel
theorem dX11_count_136 : decode cX11_count 136 = .ok (.new 92, 3) := by decide +kernel
theorem dX11_count_139 : decode cX11_count 139 = .ok (.dup, 1) := by decide +kernel
theorem dX11_count_140 : decode cX11_count 140 = .ok (.ldc 94, 2) := by decide +kernel
theorem dX11_count_142 : decode cX11_count 142 = .ok (.invokespecial 96, 3) := by decide +kernel
theorem dX11_count_145 : decode cX11_count 145 = .ok (.athrow, 1) := by decide +kernel
set_option maxRecDepth 20000 in
theorem ggX11_count_X7_allFish : GoodIn wsX11_count wsX7_allFish := goodIn_r _ [15, 16, 17, 18, 19, 20, 21, 22, 23, 46, 47, 48, 49, 50, 51, 52, 53, 54, 55, 56, 57, 58, 59, 60, 61, 62, 69, 70, 71, 72] (by decide +kernel) (by decide +kernel)
set_option maxRecDepth 20000 in
theorem gX11_count_X7_allFish : GoodIn wsX11_count (wsV RX11 80 RX7 yX7_allFish wsX7_allFish) := goodIn_app (goodIn_of _ (by decide +kernel)) ggX11_count_X7_allFish
set_option maxRecDepth 20000 in
theorem ggX11_count_X7_allStores : GoodIn wsX11_count wsX7_allStores := goodIn_r _ [27, 28, 29, 30, 46, 47, 48, 49, 50, 51, 52, 53, 54, 55, 56, 57, 58, 59, 60, 61, 62, 73, 74, 75, 76, 77, 78, 79, 80, 81, 82, 83] (by decide +kernel) (by decide +kernel)
set_option maxRecDepth 20000 in
theorem gX11_count_X7_allStores : GoodIn wsX11_count (wsV RX11 83 RX7 yX7_allStores wsX7_allStores) := goodIn_app (goodIn_of _ (by decide +kernel)) ggX11_count_X7_allStores
set_option maxRecDepth 20000 in
theorem ggX11_count_X7_widenedNets : GoodIn wsX11_count wsX7_widenedNets := goodIn_r _ [34, 28, 29, 35, 36, 46, 47, 48, 49, 50, 51, 52, 53, 54, 55, 56, 57, 58, 59, 60, 61, 62, 73, 74, 75, 76, 77, 78, 79, 80, 81, 82, 83] (by decide +kernel) (by decide +kernel)
set_option maxRecDepth 20000 in
theorem gX11_count_X7_widenedNets : GoodIn wsX11_count (wsV RX11 86 RX7 yX7_widenedNets wsX7_widenedNets) := goodIn_app (goodIn_of _ (by decide +kernel)) ggX11_count_X7_widenedNets
set_option maxRecDepth 20000 in
theorem ggX11_count_X7_allCheats : GoodIn wsX11_count wsX7_allCheats := goodIn_r _ [40, 28, 29, 41, 46, 47, 48, 49, 50, 51, 52, 53, 54, 55, 56, 57, 58, 59, 60, 61, 62, 73, 74, 75, 76, 77, 78, 79, 80, 81, 82, 83] (by decide +kernel) (by decide +kernel)
set_option maxRecDepth 20000 in
theorem gX11_count_X7_allCheats : GoodIn wsX11_count (wsV RX11 89 RX7 yX7_allCheats wsX7_allCheats) := goodIn_app (goodIn_of _ (by decide +kernel)) ggX11_count_X7_allCheats
theorem k_X11_count_f19 : Cond.fieldLink RX11 19 "TideLots" "shore" "LTideLots$Shore;" ∈ wsX11_count := by decide +kernel
theorem i_X11_count_X11 : ∀ w ∈ u_ws RX11 TX11 4, w ∈ wsX11_count := by decide +kernel
theorem k_X11_count_f62 : Cond.fieldLink RX11 62 "TideLots$Shore" "tide" "I" ∈ wsX11_count := by decide +kernel
theorem i_X11_count_X7 : ∀ w ∈ u_ws RX7 TX7 17, w ∈ wsX11_count := by decide +kernel
theorem k_X11_count_f68 : Cond.fieldLink RX11 68 "TideLots$Shore" "groundCount" "I" ∈ wsX11_count := by decide +kernel
theorem k_X11_count_f71 : Cond.fieldLink RX11 71 "TideLots$Shore" "fisherCount" "I" ∈ wsX11_count := by decide +kernel
theorem k_X11_count_f74 : Cond.fieldLink RX11 74 "TideLots$Shore" "goCount" "I" ∈ wsX11_count := by decide +kernel
theorem k_X11_count_f77 : Cond.fieldLink RX11 77 "TideLots$Shore" "pactCount" "I" ∈ wsX11_count := by decide +kernel
theorem k_X11_count_f10 : Cond.fieldLink RX11 10 "TideLots" "tape" "LTideLots$Tape;" ∈ wsX11_count := by decide +kernel
theorem k_X11_count_f30 : Cond.fieldLink RX11 30 "TideLots$Tape" "length" "I" ∈ wsX11_count := by decide +kernel
theorem i_X11_count_X10 : ∀ w ∈ u_ws RX10 TX10 6, w ∈ wsX11_count := by decide +kernel
theorem k_X11_count_hat96 : ∀ w ∈ (vx_atS RX11 96 "java/lang/IndexOutOfBoundsException" ["java/lang/RuntimeException", "java/lang/Exception"]).filter goodWord, w ∈ wsX11_count := by decide +kernel
theorem k_X11_count_cl92 : Cond.classLink RX11 92 "java/lang/IndexOutOfBoundsException" ∈ wsX11_count := by decide +kernel
theorem k_X11_count_ini92 : Cond.initialized "java/lang/IndexOutOfBoundsException" ∈ wsX11_count := by decide +kernel
abbrev rX11_count : Room := { frames := 6, cells := 1, slots := 6, locals := 82 }
noncomputable def b_X11_count_0 (M : gMem) (x0 : Nat) (x1 : Int32) : Option ((Nat ⊕ Int32) × gMem) :=
  (if x1 = (0 : Int32) then ck (mT M x0 = 10) <| dr ((mR M x0 1)) fun a3 => ck (mT M a3 = 7) <| some (.inr (mI M a3 0), M) else (if x1 = (1 : Int32) then ck (mT M x0 = 10) <| dr ((mR M x0 1)) fun a7 => ck (mT M a7 = 7) <| some (.inr (mI M a7 2), M) else (if x1 = (2 : Int32) then ck (mT M x0 = 10) <| dr ((mR M x0 1)) fun a11 => ck (mT M a11 = 7) <| some (.inr (mI M a11 3), M) else (if x1 = (3 : Int32) then ck (mT M x0 = 10) <| dr ((mR M x0 1)) fun a15 => ck (mT M a15 = 7) <| some (.inr (mI M a15 4), M) else (if x1 = (4 : Int32) then ck (mT M x0 = 10) <| dr ((mR M x0 1)) fun a19 => ck (mT M a19 = 7) <| some (.inr (mI M a19 5), M) else (if x1 = (5 : Int32) then ck (mT M x0 = 10) <| dr ((mR M x0 1)) fun a24 => ck (mT M a24 = 7) <| bd (f_X7_allFish M a24) fun r23 M23 => some (.inr r23, M23) else (if x1 = (6 : Int32) then ck (mT M x0 = 10) <| dr ((mR M x0 1)) fun a29 => ck (mT M a29 = 7) <| bd (f_X7_allStores M a29) fun r28 M28 => some (.inr r28, M28) else (if x1 = (7 : Int32) then ck (mT M x0 = 10) <| dr ((mR M x0 1)) fun a34 => ck (mT M a34 = 7) <| bd (f_X7_widenedNets M a34) fun r33 M33 => some (.inr r33, M33) else (if x1 = (8 : Int32) then ck (mT M x0 = 10) <| dr ((mR M x0 1)) fun a39 => ck (mT M a39 = 7) <| bd (f_X7_allCheats M a39) fun r38 M38 => some (.inr r38, M38) else (if x1 = (9 : Int32) then ck (mT M x0 = 10) <| dr ((mR M x0 0)) fun a43 => ck (mT M a43 = 9) <| some (.inr (mI M a43 0), M) else some (.inl 2, M)))))))))))
noncomputable def f_X11_count (M : gMem) (x0 : Nat) (x1 : Int32) : Option ((Nat ⊕ Int32) × gMem) :=
  b_X11_count_0 M x0 x1
set_option maxHeartbeats 4000000 in
set_option maxRecDepth 100000 in
theorem t_X11_count_0 (X2 : gX p s m args meth c D cy B (gSt2 Z B H0) RX11 cX11_count wsX11_count 2) (hr : meth.sig.returnType = (some .int)) (hlx : l.stackTraces = false) (hH : ∀ q : Nat, q < B → s.heap[q]? = H0[q]?) (hne : ∀ x ∈ c.exceptionTable.toList, False) (hH0 : H0.size = B) {Q : State → Prop} : ∀ (M : gMem) (x0 : Nat) (x1 : Int32) (z : (Nat ⊕ Int32) × gMem), b_X11_count_0 M x0 x1 = some z → (fun (r : (Nat ⊕ Int32) × gMem) => Q = gMX below D cy B H0 args s 1 6 (gzI r.1) r.2) z → gGo p l e rX11_count s m args below meth c D cy B H0 2 0 0 Q 0 [(0, vR (some x0)), (1, vI x1)] [] M := by
  intro M x0 x1 z hf hK
  unfold b_X11_count_0 at hf
  have X := gX_w X2
  refine g_iload_n X dX11_count_0 rfl rfl ?_
  by_cases hs1 : x1 = (0 : Int32)
  · have hf := ife_t hs1 hf
    refine g_tabin (tgt := 56) X dX11_count_1 hs1 (by decide) (by decide) rfl (by decide) ?_
    refine g_aload_n X dX11_count_56 rfl rfl ?_
    obtain ⟨hT2, hf⟩ := ck_e hf
    refine g_get (ci := 9) (v := vR (mR M x0 1)) 1 X cdX11 i_X11_count_X11 (by decide) k_X11_count_f19 rfl dX11_count_57 rfl hT2 rfl ?_
    obtain ⟨a3, ha3, hf⟩ := dr_e hf
    obtain ⟨hT4, hf⟩ := ck_e hf
    refine g_get (ci := 6) (v := vI (mI M a3 0)) 0 X cdX7 i_X11_count_X7 (by decide) k_X11_count_f62 rfl dX11_count_60 ha3 hT4 rfl ?_
    cases hf
    refine g_eqQ hK ?_
    refine g_wide (k' := 1) (n' := 6) (by decide) (by decide) ?_
    refine g_xret ?_
    exact g_iret X hr dX11_count_63
  · have hf := ife_f hs1 hf
    by_cases hs5 : x1 = (1 : Int32)
    · have hf := ife_t hs5 hf
      refine g_tabin (tgt := 64) X dX11_count_1 hs5 (by decide) (by decide) rfl (by decide) ?_
      refine g_aload_n X dX11_count_64 rfl rfl ?_
      obtain ⟨hT6, hf⟩ := ck_e hf
      refine g_get (ci := 9) (v := vR (mR M x0 1)) 1 X cdX11 i_X11_count_X11 (by decide) k_X11_count_f19 rfl dX11_count_65 rfl hT6 rfl ?_
      obtain ⟨a7, ha7, hf⟩ := dr_e hf
      obtain ⟨hT8, hf⟩ := ck_e hf
      refine g_get (ci := 6) (v := vI (mI M a7 2)) 2 X cdX7 i_X11_count_X7 (by decide) k_X11_count_f68 rfl dX11_count_68 ha7 hT8 rfl ?_
      cases hf
      refine g_eqQ hK ?_
      refine g_wide (k' := 1) (n' := 6) (by decide) (by decide) ?_
      refine g_xret ?_
      exact g_iret X hr dX11_count_71
    · have hf := ife_f hs5 hf
      by_cases hs9 : x1 = (2 : Int32)
      · have hf := ife_t hs9 hf
        refine g_tabin (tgt := 72) X dX11_count_1 hs9 (by decide) (by decide) rfl (by decide) ?_
        refine g_aload_n X dX11_count_72 rfl rfl ?_
        obtain ⟨hT10, hf⟩ := ck_e hf
        refine g_get (ci := 9) (v := vR (mR M x0 1)) 1 X cdX11 i_X11_count_X11 (by decide) k_X11_count_f19 rfl dX11_count_73 rfl hT10 rfl ?_
        obtain ⟨a11, ha11, hf⟩ := dr_e hf
        obtain ⟨hT12, hf⟩ := ck_e hf
        refine g_get (ci := 6) (v := vI (mI M a11 3)) 3 X cdX7 i_X11_count_X7 (by decide) k_X11_count_f71 rfl dX11_count_76 ha11 hT12 rfl ?_
        cases hf
        refine g_eqQ hK ?_
        refine g_wide (k' := 1) (n' := 6) (by decide) (by decide) ?_
        refine g_xret ?_
        exact g_iret X hr dX11_count_79
      · have hf := ife_f hs9 hf
        by_cases hs13 : x1 = (3 : Int32)
        · have hf := ife_t hs13 hf
          refine g_tabin (tgt := 80) X dX11_count_1 hs13 (by decide) (by decide) rfl (by decide) ?_
          refine g_aload_n X dX11_count_80 rfl rfl ?_
          obtain ⟨hT14, hf⟩ := ck_e hf
          refine g_get (ci := 9) (v := vR (mR M x0 1)) 1 X cdX11 i_X11_count_X11 (by decide) k_X11_count_f19 rfl dX11_count_81 rfl hT14 rfl ?_
          obtain ⟨a15, ha15, hf⟩ := dr_e hf
          obtain ⟨hT16, hf⟩ := ck_e hf
          refine g_get (ci := 6) (v := vI (mI M a15 4)) 4 X cdX7 i_X11_count_X7 (by decide) k_X11_count_f74 rfl dX11_count_84 ha15 hT16 rfl ?_
          cases hf
          refine g_eqQ hK ?_
          refine g_wide (k' := 1) (n' := 6) (by decide) (by decide) ?_
          refine g_xret ?_
          exact g_iret X hr dX11_count_87
        · have hf := ife_f hs13 hf
          by_cases hs17 : x1 = (4 : Int32)
          · have hf := ife_t hs17 hf
            refine g_tabin (tgt := 88) X dX11_count_1 hs17 (by decide) (by decide) rfl (by decide) ?_
            refine g_aload_n X dX11_count_88 rfl rfl ?_
            obtain ⟨hT18, hf⟩ := ck_e hf
            refine g_get (ci := 9) (v := vR (mR M x0 1)) 1 X cdX11 i_X11_count_X11 (by decide) k_X11_count_f19 rfl dX11_count_89 rfl hT18 rfl ?_
            obtain ⟨a19, ha19, hf⟩ := dr_e hf
            obtain ⟨hT20, hf⟩ := ck_e hf
            refine g_get (ci := 6) (v := vI (mI M a19 5)) 5 X cdX7 i_X11_count_X7 (by decide) k_X11_count_f77 rfl dX11_count_92 ha19 hT20 rfl ?_
            cases hf
            refine g_eqQ hK ?_
            refine g_wide (k' := 1) (n' := 6) (by decide) (by decide) ?_
            refine g_xret ?_
            exact g_iret X hr dX11_count_95
          · have hf := ife_f hs17 hf
            by_cases hs21 : x1 = (5 : Int32)
            · have hf := ife_t hs21 hf
              refine g_tabin (tgt := 96) X dX11_count_1 hs21 (by decide) (by decide) rfl (by decide) ?_
              refine g_aload_n X dX11_count_96 rfl rfl ?_
              obtain ⟨hT22, hf⟩ := ck_e hf
              refine g_get (ci := 9) (v := vR (mR M x0 1)) 1 X cdX11 i_X11_count_X11 (by decide) k_X11_count_f19 rfl dX11_count_97 rfl hT22 rfl ?_
              obtain ⟨a24, ha24, hf⟩ := dr_e hf
              obtain ⟨hT25, hf⟩ := ck_e hf
              obtain ⟨r23, M23, hq23, hf⟩ := bd_e hf
              refine g_callV (ci := 6) (b := a24) (As := []) (st := []) (v := some (vI r23)) (M1 := M23) X (m_X7_allFish l hq23) (cwV 0 X.2.2.1 gX11_count_X7_allFish rfl rfl rfl (by decide +kernel) ⟨Nat.le_of_ble_eq_true rfl, Nat.le_of_ble_eq_true rfl⟩) rfl rfl ha24 hT25 (by decide) rfl (Nat.le_of_ble_eq_true rfl) dX11_count_100 ⟨by decide, by decide⟩ ?_
              cases hf
              refine g_eqQ hK ?_
              refine g_wide (k' := 1) (n' := 6) (by decide) (by decide) ?_
              refine g_xret ?_
              exact g_iret X hr dX11_count_103
            · have hf := ife_f hs21 hf
              by_cases hs26 : x1 = (6 : Int32)
              · have hf := ife_t hs26 hf
                refine g_tabin (tgt := 104) X dX11_count_1 hs26 (by decide) (by decide) rfl (by decide) ?_
                refine g_aload_n X dX11_count_104 rfl rfl ?_
                obtain ⟨hT27, hf⟩ := ck_e hf
                refine g_get (ci := 9) (v := vR (mR M x0 1)) 1 X cdX11 i_X11_count_X11 (by decide) k_X11_count_f19 rfl dX11_count_105 rfl hT27 rfl ?_
                obtain ⟨a29, ha29, hf⟩ := dr_e hf
                obtain ⟨hT30, hf⟩ := ck_e hf
                obtain ⟨r28, M28, hq28, hf⟩ := bd_e hf
                refine g_callV (ci := 6) (b := a29) (As := []) (st := []) (v := some (vI r28)) (M1 := M28) X (m_X7_allStores l hq28) (cwV 0 X.2.2.1 gX11_count_X7_allStores rfl rfl rfl (by decide +kernel) ⟨Nat.le_of_ble_eq_true rfl, Nat.le_of_ble_eq_true rfl⟩) rfl rfl ha29 hT30 (by decide) rfl (Nat.le_of_ble_eq_true rfl) dX11_count_108 ⟨by decide, by decide⟩ ?_
                cases hf
                refine g_eqQ hK ?_
                refine g_wide (k' := 1) (n' := 6) (by decide) (by decide) ?_
                refine g_xret ?_
                exact g_iret X hr dX11_count_111
              · have hf := ife_f hs26 hf
                by_cases hs31 : x1 = (7 : Int32)
                · have hf := ife_t hs31 hf
                  refine g_tabin (tgt := 112) X dX11_count_1 hs31 (by decide) (by decide) rfl (by decide) ?_
                  refine g_aload_n X dX11_count_112 rfl rfl ?_
                  obtain ⟨hT32, hf⟩ := ck_e hf
                  refine g_get (ci := 9) (v := vR (mR M x0 1)) 1 X cdX11 i_X11_count_X11 (by decide) k_X11_count_f19 rfl dX11_count_113 rfl hT32 rfl ?_
                  obtain ⟨a34, ha34, hf⟩ := dr_e hf
                  obtain ⟨hT35, hf⟩ := ck_e hf
                  obtain ⟨r33, M33, hq33, hf⟩ := bd_e hf
                  refine g_callV (ci := 6) (b := a34) (As := []) (st := []) (v := some (vI r33)) (M1 := M33) X (m_X7_widenedNets l hq33) (cwV 0 X.2.2.1 gX11_count_X7_widenedNets rfl rfl rfl (by decide +kernel) ⟨Nat.le_of_ble_eq_true rfl, Nat.le_of_ble_eq_true rfl⟩) rfl rfl ha34 hT35 (by decide) rfl (Nat.le_of_ble_eq_true rfl) dX11_count_116 ⟨by decide, by decide⟩ ?_
                  cases hf
                  refine g_eqQ hK ?_
                  refine g_wide (k' := 1) (n' := 6) (by decide) (by decide) ?_
                  refine g_xret ?_
                  exact g_iret X hr dX11_count_119
                · have hf := ife_f hs31 hf
                  by_cases hs36 : x1 = (8 : Int32)
                  · have hf := ife_t hs36 hf
                    refine g_tabin (tgt := 120) X dX11_count_1 hs36 (by decide) (by decide) rfl (by decide) ?_
                    refine g_aload_n X dX11_count_120 rfl rfl ?_
                    obtain ⟨hT37, hf⟩ := ck_e hf
                    refine g_get (ci := 9) (v := vR (mR M x0 1)) 1 X cdX11 i_X11_count_X11 (by decide) k_X11_count_f19 rfl dX11_count_121 rfl hT37 rfl ?_
                    obtain ⟨a39, ha39, hf⟩ := dr_e hf
                    obtain ⟨hT40, hf⟩ := ck_e hf
                    obtain ⟨r38, M38, hq38, hf⟩ := bd_e hf
                    refine g_callV (ci := 6) (b := a39) (As := []) (st := []) (v := some (vI r38)) (M1 := M38) X (m_X7_allCheats l hq38) (cwV 0 X.2.2.1 gX11_count_X7_allCheats rfl rfl rfl (by decide +kernel) ⟨Nat.le_of_ble_eq_true rfl, Nat.le_of_ble_eq_true rfl⟩) rfl rfl ha39 hT40 (by decide) rfl (Nat.le_of_ble_eq_true rfl) dX11_count_124 ⟨by decide, by decide⟩ ?_
                    cases hf
                    refine g_eqQ hK ?_
                    refine g_wide (k' := 1) (n' := 6) (by decide) (by decide) ?_
                    refine g_xret ?_
                    exact g_iret X hr dX11_count_127
                  · have hf := ife_f hs36 hf
                    by_cases hs41 : x1 = (9 : Int32)
                    · have hf := ife_t hs41 hf
                      refine g_tabin (tgt := 128) X dX11_count_1 hs41 (by decide) (by decide) rfl (by decide) ?_
                      refine g_aload_n X dX11_count_128 rfl rfl ?_
                      obtain ⟨hT42, hf⟩ := ck_e hf
                      refine g_get (ci := 9) (v := vR (mR M x0 0)) 0 X cdX11 i_X11_count_X11 (by decide) k_X11_count_f10 rfl dX11_count_129 rfl hT42 rfl ?_
                      obtain ⟨a43, ha43, hf⟩ := dr_e hf
                      obtain ⟨hT44, hf⟩ := ck_e hf
                      refine g_get (ci := 8) (v := vI (mI M a43 0)) 0 X cdX10 i_X11_count_X10 (by decide) k_X11_count_f30 rfl dX11_count_132 ha43 hT44 rfl ?_
                      cases hf
                      refine g_eqQ hK ?_
                      refine g_wide (k' := 1) (n' := 6) (by decide) (by decide) ?_
                      refine g_xret ?_
                      exact g_iret X hr dX11_count_135
                    · have hf := ife_f hs41 hf
                      refine g_tabout (tgt := 136) X dX11_count_1 (gtab_out 10 (0) (by decide) (by decide) (fun i hi => match i, hi with | 0, _ => fun e => hs1 (e.trans (by decide)) | 1, _ => fun e => hs5 (e.trans (by decide)) | 2, _ => fun e => hs9 (e.trans (by decide)) | 3, _ => fun e => hs13 (e.trans (by decide)) | 4, _ => fun e => hs17 (e.trans (by decide)) | 5, _ => fun e => hs21 (e.trans (by decide)) | 6, _ => fun e => hs26 (e.trans (by decide)) | 7, _ => fun e => hs31 (e.trans (by decide)) | 8, _ => fun e => hs36 (e.trans (by decide)) | 9, _ => fun e => hs41 (e.trans (by decide)) | i + 10, h => absurd h (by omega))) (by decide) ?_
                      cases hf
                      refine g_eqQ hK ?_
                      exact g_throwS (text := "nothing of this number is counted") X2 hlx hH hH0 hne (by decide) k_X11_count_cl92 k_X11_count_ini92 (by decide) k_X11_count_hat96 kx_hxw96 kx_hg96_92 rfl dX11_count_136 dX11_count_139 dX11_count_140 dX11_count_142 dX11_count_145 (Nat.le_of_ble_eq_true rfl) (Nat.le_of_ble_eq_true rfl) (by decide) (by decide) (by decide) (by decide)
set_option maxHeartbeats 4000000 in
set_option maxRecDepth 100000 in
theorem m_X11_count (l : Launch) (hlx : l.stackTraces = false) {D : va_G} {cy : Nat → ClassId} {B : Nat} {H0 : Heap} {Z : Nat → Nat} {M M1 : gMem} {x0 : Nat} {x1 : Int32} {r : (Nat ⊕ Int32)} (hH0 : H0.size = B) (hf : f_X11_count M x0 x1 = some (r, M1)) : vx_Met l yX11_count wsX11_count rX11_count (va_Pc (Value.ref x0 :: List.map gv [vI x1]) (gPre D cy B H0 (gSt2 Z B H0) M)) (gQX D cy B H0 (gzI r) M1) (gXC D cy B H0 (gzI r) M1) 1 6 (gA B) := by
  refine vx_ofW (cc := cX11_count) (maxL := 2) (ret := (some .int)) (by decide) rfl ?_
  intro p e s m args below meth c s₁ Bd hml hne hv
  obtain ⟨rfl, hW, hKK, hFs⟩ := hv
  have X2 : gX p s m _ meth c D cy B (gSt2 Z B H0) RX11 cX11_count wsX11_count 2 := ⟨Bd.exec, Bd.bytes, atoms_spec (ws := wsX11_count) Bd.pre, findClass_of_methodNamed Bd.named, hml, hKK, by rw [hW.1]; exact hW.2.1, Bd.notSynchronized, hFs⟩
  have hr := Bd.returns
  have hH : ∀ q : Nat, q < B → s.heap[q]? = H0[q]? := hW.2.2.1
  have hl := lv_entry ([.ref x0, .int x1]) (n := 2) (Nat.le_of_ble_eq_true rfl)
  show W p l e rX11_count s m _ below meth c s.heap [] 0 0 _ (entryFrame m ([.ref x0, .int x1] : List Value).toArray 2)
  rw [lg_entry_eq]
  generalize (lg_sl ([.ref x0, .int x1]) ++ List.replicate (2 - (lg_sl ([.ref x0, .int x1])).length) Slot.unset).toArray = ls at hl ⊢
  have hl : lv_has ls 2 (List.map gq [(0, vR (some x0)), (1, vI x1)]) := hl
  exact t_X11_count_0 X2 hr hlx hH hne hH0 _ _ _ _ hf rfl s.heap [] ls hW va_S.rf (lv_has_sub hl (lvsub_of _ _ [0, 1] rfl))
/-! ## TideLots.ground(II)I -/
theorem dX11_ground_0 : decode cX11_ground 0 = .ok (.aload_n 0, 1) := by decide +kernel
theorem dX11_ground_1 : decode cX11_ground 1 = .ok (.iload_n 1, 1) := by decide +kernel
theorem dX11_ground_2 : decode cX11_ground 2 = .ok (.invokevirtual 97, 3) := by decide +kernel
theorem dX11_ground_5 : decode cX11_ground 5 = .ok (.aload_n 0, 1) := by decide +kernel
theorem dX11_ground_6 : decode cX11_ground 6 = .ok (.getfield 19, 3) := by decide +kernel
theorem dX11_ground_9 : decode cX11_ground 9 = .ok (.getfield 100, 3) := by decide +kernel
theorem dX11_ground_12 : decode cX11_ground 12 = .ok (.iload_n 1, 1) := by decide +kernel
theorem dX11_ground_13 : decode cX11_ground 13 = .ok (.aaload, 1) := by decide +kernel
theorem dX11_ground_14 : decode cX11_ground 14 = .ok (.astore_n 3, 1) := by decide +kernel
theorem dX11_ground_15 : decode cX11_ground 15 = .ok (.iload_n 2, 1) := by decide +kernel
theorem dX11_ground_16 : decode cX11_ground 16 = .ok (.tableswitch 79 0 8 #[52, 57, 57, 57, 57, 57, 64, 69, 74], 52) := by decide +kernel
theorem dX11_ground_68 : decode cX11_ground 68 = .ok (.aload_n 3, 1) := by decide +kernel
theorem dX11_ground_69 : decode cX11_ground 69 = .ok (.invokevirtual 104, 3) := by decide +kernel
theorem dX11_ground_72 : decode cX11_ground 72 = .ok (.ireturn, 1) := by decide +kernel
theorem dX11_ground_73 : decode cX11_ground 73 = .ok (.aload_n 3, 1) := by decide +kernel
theorem dX11_ground_74 : decode cX11_ground 74 = .ok (.getfield 107, 3) := by decide +kernel
theorem dX11_ground_77 : decode cX11_ground 77 = .ok (.iload_n 2, 1) := by decide +kernel
theorem dX11_ground_78 : decode cX11_ground 78 = .ok (.iaload, 1) := by decide +kernel
theorem dX11_ground_79 : decode cX11_ground 79 = .ok (.ireturn, 1) := by decide +kernel
theorem dX11_ground_80 : decode cX11_ground 80 = .ok (.aload_n 3, 1) := by decide +kernel
theorem dX11_ground_81 : decode cX11_ground 81 = .ok (.getfield 111, 3) := by decide +kernel
theorem dX11_ground_84 : decode cX11_ground 84 = .ok (.ireturn, 1) := by decide +kernel
theorem dX11_ground_85 : decode cX11_ground 85 = .ok (.aload_n 3, 1) := by decide +kernel
theorem dX11_ground_86 : decode cX11_ground 86 = .ok (.getfield 114, 3) := by decide +kernel
theorem dX11_ground_89 : decode cX11_ground 89 = .ok (.ireturn, 1) := by decide +kernel
theorem dX11_ground_90 : decode cX11_ground 90 = .ok (.aload_n 3, 1) := by decide +kernel
theorem dX11_ground_91 : decode cX11_ground 91 = .ok (.getfield 117, 3) := by decide +kernel
theorem dX11_ground_94 : decode cX11_ground 94 = .ok (.ireturn, 1) := by decide +kernel
theorem dX11_ground_95 : decode cX11_ground 95 = .ok (.new 92, 3) := by decide +kernel
theorem dX11_ground_98 : decode cX11_ground 98 = .ok (.dup, 1) := by decide +kernel
theorem dX11_ground_99 : decode cX11_ground 99 = .ok (.ldc 120, 2) := by decide +kernel
theorem dX11_ground_101 : decode cX11_ground 101 = .ok (.invokespecial 96, 3) := by decide +kernel
theorem dX11_ground_104 : decode cX11_ground 104 = .ok (.athrow, 1) := by decide +kernel
set_option maxRecDepth 20000 in
theorem ggX11_ground_X11_checkGround : GoodIn wsX11_ground wsX11_checkGround := goodIn_ca (goodIn_r _ [13, 1, 2, 3, 14, 21, 22, 23, 24, 25, 26, 27, 28, 29, 30, 31, 32, 33, 34, 35, 36, 37, 38, 39, 40, 41] (by decide +kernel) (by decide +kernel)) (goodIn_sub (fun _ h => List.mem_cons_of_mem _ (List.mem_append_right _ h)) (by decide +kernel))
set_option maxRecDepth 20000 in
theorem gX11_ground_X11_checkGround : GoodIn wsX11_ground (wsV RX11 97 RX11 yX11_checkGround wsX11_checkGround) := goodIn_app (goodIn_of _ (by decide +kernel)) ggX11_ground_X11_checkGround
set_option maxRecDepth 20000 in
theorem ggX11_ground_X3_allFish : GoodIn wsX11_ground wsX3_allFish := goodIn_r _ [19, 20, 42, 43, 44, 45] (by decide +kernel) (by decide +kernel)
set_option maxRecDepth 20000 in
theorem gX11_ground_X3_allFish : GoodIn wsX11_ground (wsV RX11 104 RX3 yX3_allFish wsX3_allFish) := goodIn_app (goodIn_of _ (by decide +kernel)) ggX11_ground_X3_allFish
theorem k_X11_ground_f107 : Cond.fieldLink RX11 107 "TideLots$Ground" "fish" "[I" ∈ wsX11_ground := by decide +kernel
theorem i_X11_ground_X3 : ∀ w ∈ u_ws RX3 TX3 4, w ∈ wsX11_ground := by decide +kernel
theorem k_X11_ground_f19 : Cond.fieldLink RX11 19 "TideLots" "shore" "LTideLots$Shore;" ∈ wsX11_ground := by decide +kernel
theorem i_X11_ground_X11 : ∀ w ∈ u_ws RX11 TX11 4, w ∈ wsX11_ground := by decide +kernel
theorem k_X11_ground_f100 : Cond.fieldLink RX11 100 "TideLots$Shore" "grounds" "[LTideLots$Ground;" ∈ wsX11_ground := by decide +kernel
theorem i_X11_ground_X7 : ∀ w ∈ u_ws RX7 TX7 17, w ∈ wsX11_ground := by decide +kernel
theorem k_X11_ground_f111 : Cond.fieldLink RX11 111 "TideLots$Ground" "room" "I" ∈ wsX11_ground := by decide +kernel
theorem k_X11_ground_f114 : Cond.fieldLink RX11 114 "TideLots$Ground" "boats" "I" ∈ wsX11_ground := by decide +kernel
theorem k_X11_ground_f117 : Cond.fieldLink RX11 117 "TideLots$Ground" "caught" "I" ∈ wsX11_ground := by decide +kernel
theorem k_X11_ground_hat96 : ∀ w ∈ (vx_atS RX11 96 "java/lang/IndexOutOfBoundsException" ["java/lang/RuntimeException", "java/lang/Exception"]).filter goodWord, w ∈ wsX11_ground := by decide +kernel
theorem k_X11_ground_cl92 : Cond.classLink RX11 92 "java/lang/IndexOutOfBoundsException" ∈ wsX11_ground := by decide +kernel
theorem k_X11_ground_ini92 : Cond.initialized "java/lang/IndexOutOfBoundsException" ∈ wsX11_ground := by decide +kernel
abbrev rX11_ground : Room := { frames := 7, cells := 2, slots := 12, locals := 103 }
noncomputable def b_X11_ground_73 (M : gMem) (x2 : Int32) (x3 : Option Nat) : Option ((Nat ⊕ Int32) × gMem) :=
  dr x3 fun a1 => ck (mT M a1 = 3) <| dr ((mR M a1 3)) fun a3 => ck (mT M a3 = 20) <| ck (inb x2 (mL M a3)) <| some (.inr (mI M a3 x2.toNatClampNeg), M)
noncomputable def b_X11_ground_0 (M : gMem) (x0 : Nat) (x1 : Int32) (x2 : Int32) : Option ((Nat ⊕ Int32) × gMem) :=
  ck (mT M x0 = 10) <| bx (f_X11_checkGround M x0 x1) (fun e6 M6 => some (.inl e6, M6)) fun _ M6 => ck (mT M6 x0 = 10) <| dr ((mR M6 x0 1)) fun a9 => ck (mT M6 a9 = 7) <| dr ((mR M6 a9 6)) fun a11 => ck (mT M6 a11 = 23) <| ck (inb x1 (mL M6 a11)) <| (if x2 = (0 : Int32) then dr ((mR M6 a11 x1.toNatClampNeg)) fun a16 => ck (mT M6 a16 = 3) <| bd (f_X3_allFish M6 a16) fun r15 M15 => some (.inr r15, M15) else (if x2 = (1 : Int32) then b_X11_ground_73 M6 x2 ((mR M6 a11 x1.toNatClampNeg)) else (if x2 = (2 : Int32) then b_X11_ground_73 M6 x2 ((mR M6 a11 x1.toNatClampNeg)) else (if x2 = (3 : Int32) then b_X11_ground_73 M6 x2 ((mR M6 a11 x1.toNatClampNeg)) else (if x2 = (4 : Int32) then b_X11_ground_73 M6 x2 ((mR M6 a11 x1.toNatClampNeg)) else (if x2 = (5 : Int32) then b_X11_ground_73 M6 x2 ((mR M6 a11 x1.toNatClampNeg)) else (if x2 = (6 : Int32) then dr ((mR M6 a11 x1.toNatClampNeg)) fun a24 => ck (mT M6 a24 = 3) <| some (.inr (mI M6 a24 0), M6) else (if x2 = (7 : Int32) then dr ((mR M6 a11 x1.toNatClampNeg)) fun a27 => ck (mT M6 a27 = 3) <| some (.inr (mI M6 a27 1), M6) else (if x2 = (8 : Int32) then dr ((mR M6 a11 x1.toNatClampNeg)) fun a30 => ck (mT M6 a30 = 3) <| some (.inr (mI M6 a30 2), M6) else some (.inl 2, M6))))))))))
noncomputable def f_X11_ground (M : gMem) (x0 : Nat) (x1 : Int32) (x2 : Int32) : Option ((Nat ⊕ Int32) × gMem) :=
  b_X11_ground_0 M x0 x1 x2
set_option maxHeartbeats 4000000 in
set_option maxRecDepth 100000 in
theorem t_X11_ground_73 (X2 : gX p s m args meth c D cy B (gSt2 Z B H0) RX11 cX11_ground wsX11_ground 4) (hr : meth.sig.returnType = (some .int)) (hlx : l.stackTraces = false) (hH : ∀ q : Nat, q < B → s.heap[q]? = H0[q]?) (hne : ∀ x ∈ c.exceptionTable.toList, False) (hH0 : H0.size = B) {Q : State → Prop} : ∀ (M : gMem) (x2 : Int32) (x3 : Option Nat) (z : (Nat ⊕ Int32) × gMem), b_X11_ground_73 M x2 x3 = some z → (fun (r : (Nat ⊕ Int32) × gMem) => Q = gMX below D cy B H0 args s 2 12 (gzI r.1) r.2) z → gGo p l e rX11_ground s m args below meth c D cy B H0 4 1 6 Q 73 [(2, vI x2), (3, vR x3)] [] M := by
  intro M x2 x3 z hf hK
  unfold b_X11_ground_73 at hf
  have X := gX_w X2
  refine g_aload_n X dX11_ground_73 rfl rfl ?_
  obtain ⟨a1, ha1, hf⟩ := dr_e hf
  obtain ⟨hT2, hf⟩ := ck_e hf
  refine g_get (ci := 2) (v := vR (mR M a1 3)) 3 X cdX3 i_X11_ground_X3 (by decide) k_X11_ground_f107 rfl dX11_ground_74 ha1 hT2 rfl ?_
  refine g_iload_n X dX11_ground_77 rfl rfl ?_
  obtain ⟨a3, ha3, hf⟩ := dr_e hf
  obtain ⟨hT4, hf⟩ := ck_e hf
  obtain ⟨hg5, hf⟩ := ck_e hf
  refine g_iald X dX11_ground_78 ha3 hT4 hg5 ?_
  cases hf
  refine g_eqQ hK ?_
  refine g_wide (k' := 2) (n' := 12) (by decide) (by decide) ?_
  refine g_xret ?_
  exact g_iret X hr dX11_ground_79
set_option maxHeartbeats 4000000 in
set_option maxRecDepth 100000 in
theorem t_X11_ground_0 (X2 : gX p s m args meth c D cy B (gSt2 Z B H0) RX11 cX11_ground wsX11_ground 4) (hr : meth.sig.returnType = (some .int)) (hlx : l.stackTraces = false) (hH : ∀ q : Nat, q < B → s.heap[q]? = H0[q]?) (hne : ∀ x ∈ c.exceptionTable.toList, False) (hH0 : H0.size = B) {Q : State → Prop} : ∀ (M : gMem) (x0 : Nat) (x1 : Int32) (x2 : Int32) (z : (Nat ⊕ Int32) × gMem), b_X11_ground_0 M x0 x1 x2 = some z → (fun (r : (Nat ⊕ Int32) × gMem) => Q = gMX below D cy B H0 args s 2 12 (gzI r.1) r.2) z → gGo p l e rX11_ground s m args below meth c D cy B H0 4 0 0 Q 0 [(0, vR (some x0)), (1, vI x1), (2, vI x2)] [] M := by
  intro M x0 x1 x2 z hf hK
  unfold b_X11_ground_0 at hf
  have X := gX_w X2
  refine g_aload_n X dX11_ground_0 rfl rfl ?_
  refine g_iload_n X dX11_ground_1 rfl rfl ?_
  obtain ⟨hT7, hf⟩ := ck_e hf
  rcases bx_e hf with ⟨e6, M6, hq6, hf⟩ | ⟨r6, M6, hq6, hf⟩
  · cases hf
    refine g_eqQ hK ?_
    exact g_callTV (ci := 9) (b := x0) (As := [vI x1]) (st := []) (M1 := M6) X2 hne (m_X11_checkGround l hlx hH0 hq6) (cwV 1 X.2.2.1 gX11_ground_X11_checkGround rfl rfl rfl (by decide +kernel) ⟨Nat.le_of_ble_eq_true rfl, Nat.le_of_ble_eq_true rfl⟩) rfl rfl rfl hT7 (by decide) rfl (Nat.le_of_ble_eq_true rfl) dX11_ground_2 ⟨(by decide), (by decide)⟩ (by decide) (by decide)
  refine g_callXV (ci := 9) (b := x0) (As := [vI x1]) (st := []) (v := none) (M1 := M6) X2 (m_X11_checkGround l hlx hH0 hq6) (cwV 1 X.2.2.1 gX11_ground_X11_checkGround rfl rfl rfl (by decide +kernel) ⟨Nat.le_of_ble_eq_true rfl, Nat.le_of_ble_eq_true rfl⟩) rfl rfl rfl hT7 (by decide) rfl (Nat.le_of_ble_eq_true rfl) dX11_ground_2 ⟨(by decide), (by decide)⟩ ?_
  refine g_aload_n X dX11_ground_5 rfl rfl ?_
  obtain ⟨hT8, hf⟩ := ck_e hf
  refine g_get (ci := 9) (v := vR (mR M6 x0 1)) 1 X cdX11 i_X11_ground_X11 (by decide) k_X11_ground_f19 rfl dX11_ground_6 rfl hT8 rfl ?_
  obtain ⟨a9, ha9, hf⟩ := dr_e hf
  obtain ⟨hT10, hf⟩ := ck_e hf
  refine g_get (ci := 6) (v := vR (mR M6 a9 6)) 6 X cdX7 i_X11_ground_X7 (by decide) k_X11_ground_f100 rfl dX11_ground_9 ha9 hT10 rfl ?_
  refine g_iload_n X dX11_ground_12 rfl rfl ?_
  obtain ⟨a11, ha11, hf⟩ := dr_e hf
  obtain ⟨hT12, hf⟩ := ck_e hf
  obtain ⟨hg13, hf⟩ := ck_e hf
  refine g_aald (t0 := 3) X dX11_ground_13 ha11 hT12 (by decide) rfl hg13 ?_
  refine g_astore_n (lv' := [(3, vR (mR M6 a11 x1.toNatClampNeg)), (0, vR (some x0)), (1, vI x1), (2, vI x2)]) X dX11_ground_14 rfl (by decide) rfl ?_
  refine g_iload_n X dX11_ground_15 rfl rfl ?_
  by_cases hs14 : x2 = (0 : Int32)
  · have hf := ife_t hs14 hf
    refine g_tabin (tgt := 68) X dX11_ground_16 hs14 (by decide) (by decide) rfl (by decide) ?_
    refine g_aload_n X dX11_ground_68 rfl rfl ?_
    obtain ⟨a16, ha16, hf⟩ := dr_e hf
    obtain ⟨hT17, hf⟩ := ck_e hf
    obtain ⟨r15, M15, hq15, hf⟩ := bd_e hf
    refine g_callV (ci := 2) (b := a16) (As := []) (st := []) (v := some (vI r15)) (M1 := M15) X (m_X3_allFish l hq15) (cwV 0 X.2.2.1 gX11_ground_X3_allFish rfl rfl rfl (by decide +kernel) ⟨Nat.le_of_ble_eq_true rfl, Nat.le_of_ble_eq_true rfl⟩) rfl rfl ha16 hT17 (by decide) rfl (Nat.le_of_ble_eq_true rfl) dX11_ground_69 ⟨by decide, by decide⟩ ?_
    cases hf
    refine g_eqQ hK ?_
    refine g_wide (k' := 2) (n' := 12) (by decide) (by decide) ?_
    refine g_xret ?_
    exact g_iret X hr dX11_ground_72
  · have hf := ife_f hs14 hf
    by_cases hs18 : x2 = (1 : Int32)
    · have hf := ife_t hs18 hf
      refine g_tabin (tgt := 73) X dX11_ground_16 hs18 (by decide) (by decide) rfl (by decide) ?_
      refine g_sub (lvsub_of _ _ [3, 0] rfl) ?_
      exact t_X11_ground_73 X2 hr hlx hH hne hH0 _ _ _ _ hf hK
    · have hf := ife_f hs18 hf
      by_cases hs19 : x2 = (2 : Int32)
      · have hf := ife_t hs19 hf
        refine g_tabin (tgt := 73) X dX11_ground_16 hs19 (by decide) (by decide) rfl (by decide) ?_
        refine g_sub (lvsub_of _ _ [3, 0] rfl) ?_
        exact t_X11_ground_73 X2 hr hlx hH hne hH0 _ _ _ _ hf hK
      · have hf := ife_f hs19 hf
        by_cases hs20 : x2 = (3 : Int32)
        · have hf := ife_t hs20 hf
          refine g_tabin (tgt := 73) X dX11_ground_16 hs20 (by decide) (by decide) rfl (by decide) ?_
          refine g_sub (lvsub_of _ _ [3, 0] rfl) ?_
          exact t_X11_ground_73 X2 hr hlx hH hne hH0 _ _ _ _ hf hK
        · have hf := ife_f hs20 hf
          by_cases hs21 : x2 = (4 : Int32)
          · have hf := ife_t hs21 hf
            refine g_tabin (tgt := 73) X dX11_ground_16 hs21 (by decide) (by decide) rfl (by decide) ?_
            refine g_sub (lvsub_of _ _ [3, 0] rfl) ?_
            exact t_X11_ground_73 X2 hr hlx hH hne hH0 _ _ _ _ hf hK
          · have hf := ife_f hs21 hf
            by_cases hs22 : x2 = (5 : Int32)
            · have hf := ife_t hs22 hf
              refine g_tabin (tgt := 73) X dX11_ground_16 hs22 (by decide) (by decide) rfl (by decide) ?_
              refine g_sub (lvsub_of _ _ [3, 0] rfl) ?_
              exact t_X11_ground_73 X2 hr hlx hH hne hH0 _ _ _ _ hf hK
            · have hf := ife_f hs22 hf
              by_cases hs23 : x2 = (6 : Int32)
              · have hf := ife_t hs23 hf
                refine g_tabin (tgt := 80) X dX11_ground_16 hs23 (by decide) (by decide) rfl (by decide) ?_
                refine g_aload_n X dX11_ground_80 rfl rfl ?_
                obtain ⟨a24, ha24, hf⟩ := dr_e hf
                obtain ⟨hT25, hf⟩ := ck_e hf
                refine g_get (ci := 2) (v := vI (mI M6 a24 0)) 0 X cdX3 i_X11_ground_X3 (by decide) k_X11_ground_f111 rfl dX11_ground_81 ha24 hT25 rfl ?_
                cases hf
                refine g_eqQ hK ?_
                refine g_wide (k' := 2) (n' := 12) (by decide) (by decide) ?_
                refine g_xret ?_
                exact g_iret X hr dX11_ground_84
              · have hf := ife_f hs23 hf
                by_cases hs26 : x2 = (7 : Int32)
                · have hf := ife_t hs26 hf
                  refine g_tabin (tgt := 85) X dX11_ground_16 hs26 (by decide) (by decide) rfl (by decide) ?_
                  refine g_aload_n X dX11_ground_85 rfl rfl ?_
                  obtain ⟨a27, ha27, hf⟩ := dr_e hf
                  obtain ⟨hT28, hf⟩ := ck_e hf
                  refine g_get (ci := 2) (v := vI (mI M6 a27 1)) 1 X cdX3 i_X11_ground_X3 (by decide) k_X11_ground_f114 rfl dX11_ground_86 ha27 hT28 rfl ?_
                  cases hf
                  refine g_eqQ hK ?_
                  refine g_wide (k' := 2) (n' := 12) (by decide) (by decide) ?_
                  refine g_xret ?_
                  exact g_iret X hr dX11_ground_89
                · have hf := ife_f hs26 hf
                  by_cases hs29 : x2 = (8 : Int32)
                  · have hf := ife_t hs29 hf
                    refine g_tabin (tgt := 90) X dX11_ground_16 hs29 (by decide) (by decide) rfl (by decide) ?_
                    refine g_aload_n X dX11_ground_90 rfl rfl ?_
                    obtain ⟨a30, ha30, hf⟩ := dr_e hf
                    obtain ⟨hT31, hf⟩ := ck_e hf
                    refine g_get (ci := 2) (v := vI (mI M6 a30 2)) 2 X cdX3 i_X11_ground_X3 (by decide) k_X11_ground_f117 rfl dX11_ground_91 ha30 hT31 rfl ?_
                    cases hf
                    refine g_eqQ hK ?_
                    refine g_wide (k' := 2) (n' := 12) (by decide) (by decide) ?_
                    refine g_xret ?_
                    exact g_iret X hr dX11_ground_94
                  · have hf := ife_f hs29 hf
                    refine g_tabout (tgt := 95) X dX11_ground_16 (gtab_out 9 (0) (by decide) (by decide) (fun i hi => match i, hi with | 0, _ => fun e => hs14 (e.trans (by decide)) | 1, _ => fun e => hs18 (e.trans (by decide)) | 2, _ => fun e => hs19 (e.trans (by decide)) | 3, _ => fun e => hs20 (e.trans (by decide)) | 4, _ => fun e => hs21 (e.trans (by decide)) | 5, _ => fun e => hs22 (e.trans (by decide)) | 6, _ => fun e => hs23 (e.trans (by decide)) | 7, _ => fun e => hs26 (e.trans (by decide)) | 8, _ => fun e => hs29 (e.trans (by decide)) | i + 9, h => absurd h (by omega))) (by decide) ?_
                    cases hf
                    refine g_eqQ hK ?_
                    exact g_throwS (text := "nothing of this number is told of a ground") X2 hlx hH hH0 hne (by decide) k_X11_ground_cl92 k_X11_ground_ini92 (by decide) k_X11_ground_hat96 kx_hxw96 kx_hg96_92 rfl dX11_ground_95 dX11_ground_98 dX11_ground_99 dX11_ground_101 dX11_ground_104 (Nat.le_of_ble_eq_true rfl) (Nat.le_of_ble_eq_true rfl) (by decide) (by decide) (by decide) (by decide)
set_option maxHeartbeats 4000000 in
set_option maxRecDepth 100000 in
theorem m_X11_ground (l : Launch) (hlx : l.stackTraces = false) {D : va_G} {cy : Nat → ClassId} {B : Nat} {H0 : Heap} {Z : Nat → Nat} {M M1 : gMem} {x0 : Nat} {x1 : Int32} {x2 : Int32} {r : (Nat ⊕ Int32)} (hH0 : H0.size = B) (hf : f_X11_ground M x0 x1 x2 = some (r, M1)) : vx_Met l yX11_ground wsX11_ground rX11_ground (va_Pc (Value.ref x0 :: List.map gv [vI x1, vI x2]) (gPre D cy B H0 (gSt2 Z B H0) M)) (gQX D cy B H0 (gzI r) M1) (gXC D cy B H0 (gzI r) M1) 2 12 (gA B) := by
  refine vx_ofW (cc := cX11_ground) (maxL := 4) (ret := (some .int)) (by decide) rfl ?_
  intro p e s m args below meth c s₁ Bd hml hne hv
  obtain ⟨rfl, hW, hKK, hFs⟩ := hv
  have X2 : gX p s m _ meth c D cy B (gSt2 Z B H0) RX11 cX11_ground wsX11_ground 4 := ⟨Bd.exec, Bd.bytes, atoms_spec (ws := wsX11_ground) Bd.pre, findClass_of_methodNamed Bd.named, hml, hKK, by rw [hW.1]; exact hW.2.1, Bd.notSynchronized, hFs⟩
  have hr := Bd.returns
  have hH : ∀ q : Nat, q < B → s.heap[q]? = H0[q]? := hW.2.2.1
  have hl := lv_entry ([.ref x0, .int x1, .int x2]) (n := 4) (Nat.le_of_ble_eq_true rfl)
  show W p l e rX11_ground s m _ below meth c s.heap [] 0 0 _ (entryFrame m ([.ref x0, .int x1, .int x2] : List Value).toArray 4)
  rw [lg_entry_eq]
  generalize (lg_sl ([.ref x0, .int x1, .int x2]) ++ List.replicate (4 - (lg_sl ([.ref x0, .int x1, .int x2])).length) Slot.unset).toArray = ls at hl ⊢
  have hl : lv_has ls 4 (List.map gq [(0, vR (some x0)), (1, vI x1), (2, vI x2)]) := hl
  exact t_X11_ground_0 X2 hr hlx hH hne hH0 _ _ _ _ _ hf rfl s.heap [] ls hW va_S.rf (lv_has_sub hl (lvsub_of _ _ [0, 1, 2] rfl))
/-! ## TideLots.fisher(II)I -/
theorem dX11_fisher_0 : decode cX11_fisher 0 = .ok (.aload_n 0, 1) := by decide +kernel
theorem dX11_fisher_1 : decode cX11_fisher 1 = .ok (.iload_n 1, 1) := by decide +kernel
theorem dX11_fisher_2 : decode cX11_fisher 2 = .ok (.invokevirtual 122, 3) := by decide +kernel
theorem dX11_fisher_5 : decode cX11_fisher 5 = .ok (.aload_n 0, 1) := by decide +kernel
theorem dX11_fisher_6 : decode cX11_fisher 6 = .ok (.getfield 19, 3) := by decide +kernel
theorem dX11_fisher_9 : decode cX11_fisher 9 = .ok (.getfield 125, 3) := by decide +kernel
theorem dX11_fisher_12 : decode cX11_fisher 12 = .ok (.iload_n 1, 1) := by decide +kernel
theorem dX11_fisher_13 : decode cX11_fisher 13 = .ok (.aaload, 1) := by decide +kernel
theorem dX11_fisher_14 : decode cX11_fisher 14 = .ok (.astore_n 3, 1) := by decide +kernel
theorem dX11_fisher_15 : decode cX11_fisher 15 = .ok (.iload_n 2, 1) := by decide +kernel
theorem dX11_fisher_16 : decode cX11_fisher 16 = .ok (.tableswitch 114 0 9 #[56, 61, 66, 71, 76, 81, 86, 91, 96, 109], 56) := by decide +kernel
theorem dX11_fisher_72 : decode cX11_fisher 72 = .ok (.aload_n 3, 1) := by decide +kernel
theorem dX11_fisher_73 : decode cX11_fisher 73 = .ok (.getfield 129, 3) := by decide +kernel
theorem dX11_fisher_76 : decode cX11_fisher 76 = .ok (.ireturn, 1) := by decide +kernel
theorem dX11_fisher_77 : decode cX11_fisher 77 = .ok (.aload_n 3, 1) := by decide +kernel
theorem dX11_fisher_78 : decode cX11_fisher 78 = .ok (.getfield 134, 3) := by decide +kernel
theorem dX11_fisher_81 : decode cX11_fisher 81 = .ok (.ireturn, 1) := by decide +kernel
theorem dX11_fisher_82 : decode cX11_fisher 82 = .ok (.aload_n 3, 1) := by decide +kernel
theorem dX11_fisher_83 : decode cX11_fisher 83 = .ok (.getfield 137, 3) := by decide +kernel
theorem dX11_fisher_86 : decode cX11_fisher 86 = .ok (.ireturn, 1) := by decide +kernel
theorem dX11_fisher_87 : decode cX11_fisher 87 = .ok (.aload_n 3, 1) := by decide +kernel
theorem dX11_fisher_88 : decode cX11_fisher 88 = .ok (.getfield 140, 3) := by decide +kernel
theorem dX11_fisher_91 : decode cX11_fisher 91 = .ok (.ireturn, 1) := by decide +kernel
theorem dX11_fisher_92 : decode cX11_fisher 92 = .ok (.aload_n 3, 1) := by decide +kernel
theorem dX11_fisher_93 : decode cX11_fisher 93 = .ok (.getfield 143, 3) := by decide +kernel
theorem dX11_fisher_96 : decode cX11_fisher 96 = .ok (.ireturn, 1) := by decide +kernel
theorem dX11_fisher_97 : decode cX11_fisher 97 = .ok (.aload_n 3, 1) := by decide +kernel
theorem dX11_fisher_98 : decode cX11_fisher 98 = .ok (.getfield 146, 3) := by decide +kernel
theorem dX11_fisher_101 : decode cX11_fisher 101 = .ok (.ireturn, 1) := by decide +kernel
theorem dX11_fisher_102 : decode cX11_fisher 102 = .ok (.aload_n 3, 1) := by decide +kernel
theorem dX11_fisher_103 : decode cX11_fisher 103 = .ok (.getfield 149, 3) := by decide +kernel
theorem dX11_fisher_106 : decode cX11_fisher 106 = .ok (.ireturn, 1) := by decide +kernel
theorem dX11_fisher_107 : decode cX11_fisher 107 = .ok (.aload_n 3, 1) := by decide +kernel
theorem dX11_fisher_108 : decode cX11_fisher 108 = .ok (.getfield 152, 3) := by decide +kernel
theorem dX11_fisher_111 : decode cX11_fisher 111 = .ok (.ireturn, 1) := by decide +kernel
theorem dX11_fisher_112 : decode cX11_fisher 112 = .ok (.aload_n 3, 1) := by decide +kernel
theorem dX11_fisher_113 : decode cX11_fisher 113 = .ok (.getfield 155, 3) := by decide +kernel
theorem dX11_fisher_116 : decode cX11_fisher 116 = .ok (.ifCond .eq 7, 3) := by decide +kernel
theorem dX11_fisher_119 : decode cX11_fisher 119 = .ok (.iconst 1, 1) := by decide +kernel
theorem dX11_fisher_120 : decode cX11_fisher 120 = .ok (.goto 4, 3) := by decide +kernel
theorem dX11_fisher_123 : decode cX11_fisher 123 = .ok (.iconst 0, 1) := by decide +kernel
theorem dX11_fisher_124 : decode cX11_fisher 124 = .ok (.ireturn, 1) := by decide +kernel
theorem dX11_fisher_125 : decode cX11_fisher 125 = .ok (.aload_n 3, 1) := by decide +kernel
theorem dX11_fisher_126 : decode cX11_fisher 126 = .ok (.getfield 159, 3) := by decide +kernel
theorem dX11_fisher_129 : decode cX11_fisher 129 = .ok (.ireturn, 1) := by decide +kernel
theorem dX11_fisher_130 : decode cX11_fisher 130 = .ok (.new 92, 3) := by decide +kernel
theorem dX11_fisher_133 : decode cX11_fisher 133 = .ok (.dup, 1) := by decide +kernel
theorem dX11_fisher_134 : decode cX11_fisher 134 = .ok (.ldc 160, 2) := by decide +kernel
theorem dX11_fisher_136 : decode cX11_fisher 136 = .ok (.invokespecial 96, 3) := by decide +kernel
theorem dX11_fisher_139 : decode cX11_fisher 139 = .ok (.athrow, 1) := by decide +kernel
set_option maxRecDepth 20000 in
theorem ggX11_fisher_X11_checkFisher : GoodIn wsX11_fisher wsX11_checkFisher := goodIn_ca (goodIn_r _ [19, 1, 2, 3, 20, 21, 22, 23, 24, 25, 26, 27, 28, 29, 30, 31, 32, 33, 34, 35, 36, 37, 38, 39, 40, 41] (by decide +kernel) (by decide +kernel)) (goodIn_sub (fun _ h => List.mem_cons_of_mem _ (List.mem_append_right _ h)) (by decide +kernel))
set_option maxRecDepth 20000 in
theorem gX11_fisher_X11_checkFisher : GoodIn wsX11_fisher (wsV RX11 122 RX11 yX11_checkFisher wsX11_checkFisher) := goodIn_app (goodIn_of _ (by decide +kernel)) ggX11_fisher_X11_checkFisher
theorem k_X11_fisher_f19 : Cond.fieldLink RX11 19 "TideLots" "shore" "LTideLots$Shore;" ∈ wsX11_fisher := by decide +kernel
theorem i_X11_fisher_X11 : ∀ w ∈ u_ws RX11 TX11 4, w ∈ wsX11_fisher := by decide +kernel
theorem k_X11_fisher_f125 : Cond.fieldLink RX11 125 "TideLots$Shore" "fishers" "[LTideLots$Fisher;" ∈ wsX11_fisher := by decide +kernel
theorem i_X11_fisher_X7 : ∀ w ∈ u_ws RX7 TX7 17, w ∈ wsX11_fisher := by decide +kernel
theorem k_X11_fisher_f129 : Cond.fieldLink RX11 129 "TideLots$Fisher" "mesh" "I" ∈ wsX11_fisher := by decide +kernel
theorem i_X11_fisher_X1 : ∀ w ∈ u_ws RX1 TX1 11, w ∈ wsX11_fisher := by decide +kernel
theorem k_X11_fisher_f134 : Cond.fieldLink RX11 134 "TideLots$Fisher" "toldMesh" "I" ∈ wsX11_fisher := by decide +kernel
theorem k_X11_fisher_f137 : Cond.fieldLink RX11 137 "TideLots$Fisher" "net" "I" ∈ wsX11_fisher := by decide +kernel
theorem k_X11_fisher_f140 : Cond.fieldLink RX11 140 "TideLots$Fisher" "hold" "I" ∈ wsX11_fisher := by decide +kernel
theorem k_X11_fisher_f143 : Cond.fieldLink RX11 143 "TideLots$Fisher" "store" "I" ∈ wsX11_fisher := by decide +kernel
theorem k_X11_fisher_f146 : Cond.fieldLink RX11 146 "TideLots$Fisher" "latest" "I" ∈ wsX11_fisher := by decide +kernel
theorem k_X11_fisher_f149 : Cond.fieldLink RX11 149 "TideLots$Fisher" "place" "I" ∈ wsX11_fisher := by decide +kernel
theorem k_X11_fisher_f152 : Cond.fieldLink RX11 152 "TideLots$Fisher" "tears" "I" ∈ wsX11_fisher := by decide +kernel
theorem k_X11_fisher_f155 : Cond.fieldLink RX11 155 "TideLots$Fisher" "isCheat" "Z" ∈ wsX11_fisher := by decide +kernel
theorem k_X11_fisher_f159 : Cond.fieldLink RX11 159 "TideLots$Fisher" "caught" "I" ∈ wsX11_fisher := by decide +kernel
theorem k_X11_fisher_hat96 : ∀ w ∈ (vx_atS RX11 96 "java/lang/IndexOutOfBoundsException" ["java/lang/RuntimeException", "java/lang/Exception"]).filter goodWord, w ∈ wsX11_fisher := by decide +kernel
theorem k_X11_fisher_cl92 : Cond.classLink RX11 92 "java/lang/IndexOutOfBoundsException" ∈ wsX11_fisher := by decide +kernel
theorem k_X11_fisher_ini92 : Cond.initialized "java/lang/IndexOutOfBoundsException" ∈ wsX11_fisher := by decide +kernel
abbrev rX11_fisher : Room := { frames := 7, cells := 2, slots := 12, locals := 103 }
noncomputable def b_X11_fisher_124 (M : gMem) (s0 : Int32) : Option ((Nat ⊕ Int32) × gMem) :=
  some (.inr s0, M)
noncomputable def b_X11_fisher_0 (M : gMem) (x0 : Nat) (x1 : Int32) (x2 : Int32) : Option ((Nat ⊕ Int32) × gMem) :=
  ck (mT M x0 = 10) <| bx (f_X11_checkFisher M x0 x1) (fun e1 M1 => some (.inl e1, M1)) fun _ M1 => ck (mT M1 x0 = 10) <| dr ((mR M1 x0 1)) fun a4 => ck (mT M1 a4 = 7) <| dr ((mR M1 a4 7)) fun a6 => ck (mT M1 a6 = 24) <| ck (inb x1 (mL M1 a6)) <| (if x2 = (0 : Int32) then dr ((mR M1 a6 x1.toNatClampNeg)) fun a10 => ck (mT M1 a10 = 1) <| some (.inr (mI M1 a10 1), M1) else (if x2 = (1 : Int32) then dr ((mR M1 a6 x1.toNatClampNeg)) fun a13 => ck (mT M1 a13 = 1) <| some (.inr (mI M1 a13 0), M1) else (if x2 = (2 : Int32) then dr ((mR M1 a6 x1.toNatClampNeg)) fun a16 => ck (mT M1 a16 = 1) <| some (.inr (mI M1 a16 2), M1) else (if x2 = (3 : Int32) then dr ((mR M1 a6 x1.toNatClampNeg)) fun a19 => ck (mT M1 a19 = 1) <| some (.inr (mI M1 a19 3), M1) else (if x2 = (4 : Int32) then dr ((mR M1 a6 x1.toNatClampNeg)) fun a22 => ck (mT M1 a22 = 1) <| some (.inr (mI M1 a22 4), M1) else (if x2 = (5 : Int32) then dr ((mR M1 a6 x1.toNatClampNeg)) fun a25 => ck (mT M1 a25 = 1) <| some (.inr (mI M1 a25 5), M1) else (if x2 = (6 : Int32) then dr ((mR M1 a6 x1.toNatClampNeg)) fun a28 => ck (mT M1 a28 = 1) <| some (.inr (mI M1 a28 6), M1) else (if x2 = (7 : Int32) then dr ((mR M1 a6 x1.toNatClampNeg)) fun a31 => ck (mT M1 a31 = 1) <| some (.inr (mI M1 a31 7), M1) else (if x2 = (8 : Int32) then dr ((mR M1 a6 x1.toNatClampNeg)) fun a34 => ck (mT M1 a34 = 1) <| (if (mI M1 a34 9) = 0 then b_X11_fisher_124 M1 ((0 : Int32)) else b_X11_fisher_124 M1 ((1 : Int32))) else (if x2 = (9 : Int32) then dr ((mR M1 a6 x1.toNatClampNeg)) fun a37 => ck (mT M1 a37 = 1) <| some (.inr (mI M1 a37 8), M1) else some (.inl 2, M1)))))))))))
noncomputable def f_X11_fisher (M : gMem) (x0 : Nat) (x1 : Int32) (x2 : Int32) : Option ((Nat ⊕ Int32) × gMem) :=
  b_X11_fisher_0 M x0 x1 x2
set_option maxHeartbeats 4000000 in
set_option maxRecDepth 100000 in
theorem t_X11_fisher_124 (X2 : gX p s m args meth c D cy B (gSt2 Z B H0) RX11 cX11_fisher wsX11_fisher 4) (hr : meth.sig.returnType = (some .int)) (hlx : l.stackTraces = false) (hH : ∀ q : Nat, q < B → s.heap[q]? = H0[q]?) (hne : ∀ x ∈ c.exceptionTable.toList, False) (hH0 : H0.size = B) {Q : State → Prop} : ∀ (M : gMem) (s0 : Int32) (z : (Nat ⊕ Int32) × gMem), b_X11_fisher_124 M s0 = some z → (fun (r : (Nat ⊕ Int32) × gMem) => Q = gMX below D cy B H0 args s 2 12 (gzI r.1) r.2) z → gGo p l e rX11_fisher s m args below meth c D cy B H0 4 1 6 Q 124 [] [vI s0] M := by
  intro M s0 z hf hK
  unfold b_X11_fisher_124 at hf
  have X := gX_w X2
  cases hf
  refine g_eqQ hK ?_
  refine g_wide (k' := 2) (n' := 12) (by decide) (by decide) ?_
  refine g_xret ?_
  exact g_iret X hr dX11_fisher_124
set_option maxHeartbeats 4000000 in
set_option maxRecDepth 100000 in
theorem t_X11_fisher_0 (X2 : gX p s m args meth c D cy B (gSt2 Z B H0) RX11 cX11_fisher wsX11_fisher 4) (hr : meth.sig.returnType = (some .int)) (hlx : l.stackTraces = false) (hH : ∀ q : Nat, q < B → s.heap[q]? = H0[q]?) (hne : ∀ x ∈ c.exceptionTable.toList, False) (hH0 : H0.size = B) {Q : State → Prop} : ∀ (M : gMem) (x0 : Nat) (x1 : Int32) (x2 : Int32) (z : (Nat ⊕ Int32) × gMem), b_X11_fisher_0 M x0 x1 x2 = some z → (fun (r : (Nat ⊕ Int32) × gMem) => Q = gMX below D cy B H0 args s 2 12 (gzI r.1) r.2) z → gGo p l e rX11_fisher s m args below meth c D cy B H0 4 0 0 Q 0 [(0, vR (some x0)), (1, vI x1), (2, vI x2)] [] M := by
  intro M x0 x1 x2 z hf hK
  unfold b_X11_fisher_0 at hf
  have X := gX_w X2
  refine g_aload_n X dX11_fisher_0 rfl rfl ?_
  refine g_iload_n X dX11_fisher_1 rfl rfl ?_
  obtain ⟨hT2, hf⟩ := ck_e hf
  rcases bx_e hf with ⟨e1, M1, hq1, hf⟩ | ⟨r1, M1, hq1, hf⟩
  · cases hf
    refine g_eqQ hK ?_
    exact g_callTV (ci := 9) (b := x0) (As := [vI x1]) (st := []) (M1 := M1) X2 hne (m_X11_checkFisher l hlx hH0 hq1) (cwV 1 X.2.2.1 gX11_fisher_X11_checkFisher rfl rfl rfl (by decide +kernel) ⟨Nat.le_of_ble_eq_true rfl, Nat.le_of_ble_eq_true rfl⟩) rfl rfl rfl hT2 (by decide) rfl (Nat.le_of_ble_eq_true rfl) dX11_fisher_2 ⟨(by decide), (by decide)⟩ (by decide) (by decide)
  refine g_callXV (ci := 9) (b := x0) (As := [vI x1]) (st := []) (v := none) (M1 := M1) X2 (m_X11_checkFisher l hlx hH0 hq1) (cwV 1 X.2.2.1 gX11_fisher_X11_checkFisher rfl rfl rfl (by decide +kernel) ⟨Nat.le_of_ble_eq_true rfl, Nat.le_of_ble_eq_true rfl⟩) rfl rfl rfl hT2 (by decide) rfl (Nat.le_of_ble_eq_true rfl) dX11_fisher_2 ⟨(by decide), (by decide)⟩ ?_
  refine g_aload_n X dX11_fisher_5 rfl rfl ?_
  obtain ⟨hT3, hf⟩ := ck_e hf
  refine g_get (ci := 9) (v := vR (mR M1 x0 1)) 1 X cdX11 i_X11_fisher_X11 (by decide) k_X11_fisher_f19 rfl dX11_fisher_6 rfl hT3 rfl ?_
  obtain ⟨a4, ha4, hf⟩ := dr_e hf
  obtain ⟨hT5, hf⟩ := ck_e hf
  refine g_get (ci := 6) (v := vR (mR M1 a4 7)) 7 X cdX7 i_X11_fisher_X7 (by decide) k_X11_fisher_f125 rfl dX11_fisher_9 ha4 hT5 rfl ?_
  refine g_iload_n X dX11_fisher_12 rfl rfl ?_
  obtain ⟨a6, ha6, hf⟩ := dr_e hf
  obtain ⟨hT7, hf⟩ := ck_e hf
  obtain ⟨hg8, hf⟩ := ck_e hf
  refine g_aald (t0 := 4) X dX11_fisher_13 ha6 hT7 (by decide) rfl hg8 ?_
  refine g_astore_n (lv' := [(3, vR (mR M1 a6 x1.toNatClampNeg)), (0, vR (some x0)), (1, vI x1), (2, vI x2)]) X dX11_fisher_14 rfl (by decide) rfl ?_
  refine g_iload_n X dX11_fisher_15 rfl rfl ?_
  by_cases hs9 : x2 = (0 : Int32)
  · have hf := ife_t hs9 hf
    refine g_tabin (tgt := 72) X dX11_fisher_16 hs9 (by decide) (by decide) rfl (by decide) ?_
    refine g_aload_n X dX11_fisher_72 rfl rfl ?_
    obtain ⟨a10, ha10, hf⟩ := dr_e hf
    obtain ⟨hT11, hf⟩ := ck_e hf
    refine g_get (ci := 0) (v := vI (mI M1 a10 1)) 1 X cdX1 i_X11_fisher_X1 (by decide) k_X11_fisher_f129 rfl dX11_fisher_73 ha10 hT11 rfl ?_
    cases hf
    refine g_eqQ hK ?_
    refine g_wide (k' := 2) (n' := 12) (by decide) (by decide) ?_
    refine g_xret ?_
    exact g_iret X hr dX11_fisher_76
  · have hf := ife_f hs9 hf
    by_cases hs12 : x2 = (1 : Int32)
    · have hf := ife_t hs12 hf
      refine g_tabin (tgt := 77) X dX11_fisher_16 hs12 (by decide) (by decide) rfl (by decide) ?_
      refine g_aload_n X dX11_fisher_77 rfl rfl ?_
      obtain ⟨a13, ha13, hf⟩ := dr_e hf
      obtain ⟨hT14, hf⟩ := ck_e hf
      refine g_get (ci := 0) (v := vI (mI M1 a13 0)) 0 X cdX1 i_X11_fisher_X1 (by decide) k_X11_fisher_f134 rfl dX11_fisher_78 ha13 hT14 rfl ?_
      cases hf
      refine g_eqQ hK ?_
      refine g_wide (k' := 2) (n' := 12) (by decide) (by decide) ?_
      refine g_xret ?_
      exact g_iret X hr dX11_fisher_81
    · have hf := ife_f hs12 hf
      by_cases hs15 : x2 = (2 : Int32)
      · have hf := ife_t hs15 hf
        refine g_tabin (tgt := 82) X dX11_fisher_16 hs15 (by decide) (by decide) rfl (by decide) ?_
        refine g_aload_n X dX11_fisher_82 rfl rfl ?_
        obtain ⟨a16, ha16, hf⟩ := dr_e hf
        obtain ⟨hT17, hf⟩ := ck_e hf
        refine g_get (ci := 0) (v := vI (mI M1 a16 2)) 2 X cdX1 i_X11_fisher_X1 (by decide) k_X11_fisher_f137 rfl dX11_fisher_83 ha16 hT17 rfl ?_
        cases hf
        refine g_eqQ hK ?_
        refine g_wide (k' := 2) (n' := 12) (by decide) (by decide) ?_
        refine g_xret ?_
        exact g_iret X hr dX11_fisher_86
      · have hf := ife_f hs15 hf
        by_cases hs18 : x2 = (3 : Int32)
        · have hf := ife_t hs18 hf
          refine g_tabin (tgt := 87) X dX11_fisher_16 hs18 (by decide) (by decide) rfl (by decide) ?_
          refine g_aload_n X dX11_fisher_87 rfl rfl ?_
          obtain ⟨a19, ha19, hf⟩ := dr_e hf
          obtain ⟨hT20, hf⟩ := ck_e hf
          refine g_get (ci := 0) (v := vI (mI M1 a19 3)) 3 X cdX1 i_X11_fisher_X1 (by decide) k_X11_fisher_f140 rfl dX11_fisher_88 ha19 hT20 rfl ?_
          cases hf
          refine g_eqQ hK ?_
          refine g_wide (k' := 2) (n' := 12) (by decide) (by decide) ?_
          refine g_xret ?_
          exact g_iret X hr dX11_fisher_91
        · have hf := ife_f hs18 hf
          by_cases hs21 : x2 = (4 : Int32)
          · have hf := ife_t hs21 hf
            refine g_tabin (tgt := 92) X dX11_fisher_16 hs21 (by decide) (by decide) rfl (by decide) ?_
            refine g_aload_n X dX11_fisher_92 rfl rfl ?_
            obtain ⟨a22, ha22, hf⟩ := dr_e hf
            obtain ⟨hT23, hf⟩ := ck_e hf
            refine g_get (ci := 0) (v := vI (mI M1 a22 4)) 4 X cdX1 i_X11_fisher_X1 (by decide) k_X11_fisher_f143 rfl dX11_fisher_93 ha22 hT23 rfl ?_
            cases hf
            refine g_eqQ hK ?_
            refine g_wide (k' := 2) (n' := 12) (by decide) (by decide) ?_
            refine g_xret ?_
            exact g_iret X hr dX11_fisher_96
          · have hf := ife_f hs21 hf
            by_cases hs24 : x2 = (5 : Int32)
            · have hf := ife_t hs24 hf
              refine g_tabin (tgt := 97) X dX11_fisher_16 hs24 (by decide) (by decide) rfl (by decide) ?_
              refine g_aload_n X dX11_fisher_97 rfl rfl ?_
              obtain ⟨a25, ha25, hf⟩ := dr_e hf
              obtain ⟨hT26, hf⟩ := ck_e hf
              refine g_get (ci := 0) (v := vI (mI M1 a25 5)) 5 X cdX1 i_X11_fisher_X1 (by decide) k_X11_fisher_f146 rfl dX11_fisher_98 ha25 hT26 rfl ?_
              cases hf
              refine g_eqQ hK ?_
              refine g_wide (k' := 2) (n' := 12) (by decide) (by decide) ?_
              refine g_xret ?_
              exact g_iret X hr dX11_fisher_101
            · have hf := ife_f hs24 hf
              by_cases hs27 : x2 = (6 : Int32)
              · have hf := ife_t hs27 hf
                refine g_tabin (tgt := 102) X dX11_fisher_16 hs27 (by decide) (by decide) rfl (by decide) ?_
                refine g_aload_n X dX11_fisher_102 rfl rfl ?_
                obtain ⟨a28, ha28, hf⟩ := dr_e hf
                obtain ⟨hT29, hf⟩ := ck_e hf
                refine g_get (ci := 0) (v := vI (mI M1 a28 6)) 6 X cdX1 i_X11_fisher_X1 (by decide) k_X11_fisher_f149 rfl dX11_fisher_103 ha28 hT29 rfl ?_
                cases hf
                refine g_eqQ hK ?_
                refine g_wide (k' := 2) (n' := 12) (by decide) (by decide) ?_
                refine g_xret ?_
                exact g_iret X hr dX11_fisher_106
              · have hf := ife_f hs27 hf
                by_cases hs30 : x2 = (7 : Int32)
                · have hf := ife_t hs30 hf
                  refine g_tabin (tgt := 107) X dX11_fisher_16 hs30 (by decide) (by decide) rfl (by decide) ?_
                  refine g_aload_n X dX11_fisher_107 rfl rfl ?_
                  obtain ⟨a31, ha31, hf⟩ := dr_e hf
                  obtain ⟨hT32, hf⟩ := ck_e hf
                  refine g_get (ci := 0) (v := vI (mI M1 a31 7)) 7 X cdX1 i_X11_fisher_X1 (by decide) k_X11_fisher_f152 rfl dX11_fisher_108 ha31 hT32 rfl ?_
                  cases hf
                  refine g_eqQ hK ?_
                  refine g_wide (k' := 2) (n' := 12) (by decide) (by decide) ?_
                  refine g_xret ?_
                  exact g_iret X hr dX11_fisher_111
                · have hf := ife_f hs30 hf
                  by_cases hs33 : x2 = (8 : Int32)
                  · have hf := ife_t hs33 hf
                    refine g_tabin (tgt := 112) X dX11_fisher_16 hs33 (by decide) (by decide) rfl (by decide) ?_
                    refine g_aload_n X dX11_fisher_112 rfl rfl ?_
                    obtain ⟨a34, ha34, hf⟩ := dr_e hf
                    obtain ⟨hT35, hf⟩ := ck_e hf
                    refine g_get (ci := 0) (v := vI (mI M1 a34 9)) 9 X cdX1 i_X11_fisher_X1 (by decide) k_X11_fisher_f155 rfl dX11_fisher_113 ha34 hT35 rfl ?_
                    refine g_if_eq (tgt := 123) X dX11_fisher_116 (by decide) (fun hc => ?_) (fun hc => ?_)
                    · have hf := ife_t hc hf
                      refine g_iconst (v := (0 : Int32)) X dX11_fisher_123 (by decide) ?_
                      refine g_sub (lvsub_of _ _ [] rfl) ?_
                      exact t_X11_fisher_124 X2 hr hlx hH hne hH0 _ _ _ hf hK
                    · have hf := ife_f hc hf
                      refine g_iconst (v := (1 : Int32)) X dX11_fisher_119 (by decide) ?_
                      refine g_goto (tgt := 124) X dX11_fisher_120 (by decide) ?_
                      refine g_sub (lvsub_of _ _ [] rfl) ?_
                      exact t_X11_fisher_124 X2 hr hlx hH hne hH0 _ _ _ hf hK
                  · have hf := ife_f hs33 hf
                    by_cases hs36 : x2 = (9 : Int32)
                    · have hf := ife_t hs36 hf
                      refine g_tabin (tgt := 125) X dX11_fisher_16 hs36 (by decide) (by decide) rfl (by decide) ?_
                      refine g_aload_n X dX11_fisher_125 rfl rfl ?_
                      obtain ⟨a37, ha37, hf⟩ := dr_e hf
                      obtain ⟨hT38, hf⟩ := ck_e hf
                      refine g_get (ci := 0) (v := vI (mI M1 a37 8)) 8 X cdX1 i_X11_fisher_X1 (by decide) k_X11_fisher_f159 rfl dX11_fisher_126 ha37 hT38 rfl ?_
                      cases hf
                      refine g_eqQ hK ?_
                      refine g_wide (k' := 2) (n' := 12) (by decide) (by decide) ?_
                      refine g_xret ?_
                      exact g_iret X hr dX11_fisher_129
                    · have hf := ife_f hs36 hf
                      refine g_tabout (tgt := 130) X dX11_fisher_16 (gtab_out 10 (0) (by decide) (by decide) (fun i hi => match i, hi with | 0, _ => fun e => hs9 (e.trans (by decide)) | 1, _ => fun e => hs12 (e.trans (by decide)) | 2, _ => fun e => hs15 (e.trans (by decide)) | 3, _ => fun e => hs18 (e.trans (by decide)) | 4, _ => fun e => hs21 (e.trans (by decide)) | 5, _ => fun e => hs24 (e.trans (by decide)) | 6, _ => fun e => hs27 (e.trans (by decide)) | 7, _ => fun e => hs30 (e.trans (by decide)) | 8, _ => fun e => hs33 (e.trans (by decide)) | 9, _ => fun e => hs36 (e.trans (by decide)) | i + 10, h => absurd h (by omega))) (by decide) ?_
                      cases hf
                      refine g_eqQ hK ?_
                      exact g_throwS (text := "nothing of this number is told of a fisher") X2 hlx hH hH0 hne (by decide) k_X11_fisher_cl92 k_X11_fisher_ini92 (by decide) k_X11_fisher_hat96 kx_hxw96 kx_hg96_92 rfl dX11_fisher_130 dX11_fisher_133 dX11_fisher_134 dX11_fisher_136 dX11_fisher_139 (Nat.le_of_ble_eq_true rfl) (Nat.le_of_ble_eq_true rfl) (by decide) (by decide) (by decide) (by decide)
set_option maxHeartbeats 4000000 in
set_option maxRecDepth 100000 in
theorem m_X11_fisher (l : Launch) (hlx : l.stackTraces = false) {D : va_G} {cy : Nat → ClassId} {B : Nat} {H0 : Heap} {Z : Nat → Nat} {M M1 : gMem} {x0 : Nat} {x1 : Int32} {x2 : Int32} {r : (Nat ⊕ Int32)} (hH0 : H0.size = B) (hf : f_X11_fisher M x0 x1 x2 = some (r, M1)) : vx_Met l yX11_fisher wsX11_fisher rX11_fisher (va_Pc (Value.ref x0 :: List.map gv [vI x1, vI x2]) (gPre D cy B H0 (gSt2 Z B H0) M)) (gQX D cy B H0 (gzI r) M1) (gXC D cy B H0 (gzI r) M1) 2 12 (gA B) := by
  refine vx_ofW (cc := cX11_fisher) (maxL := 4) (ret := (some .int)) (by decide) rfl ?_
  intro p e s m args below meth c s₁ Bd hml hne hv
  obtain ⟨rfl, hW, hKK, hFs⟩ := hv
  have X2 : gX p s m _ meth c D cy B (gSt2 Z B H0) RX11 cX11_fisher wsX11_fisher 4 := ⟨Bd.exec, Bd.bytes, atoms_spec (ws := wsX11_fisher) Bd.pre, findClass_of_methodNamed Bd.named, hml, hKK, by rw [hW.1]; exact hW.2.1, Bd.notSynchronized, hFs⟩
  have hr := Bd.returns
  have hH : ∀ q : Nat, q < B → s.heap[q]? = H0[q]? := hW.2.2.1
  have hl := lv_entry ([.ref x0, .int x1, .int x2]) (n := 4) (Nat.le_of_ble_eq_true rfl)
  show W p l e rX11_fisher s m _ below meth c s.heap [] 0 0 _ (entryFrame m ([.ref x0, .int x1, .int x2] : List Value).toArray 4)
  rw [lg_entry_eq]
  generalize (lg_sl ([.ref x0, .int x1, .int x2]) ++ List.replicate (4 - (lg_sl ([.ref x0, .int x1, .int x2])).length) Slot.unset).toArray = ls at hl ⊢
  have hl : lv_has ls 4 (List.map gq [(0, vR (some x0)), (1, vI x1), (2, vI x2)]) := hl
  exact t_X11_fisher_0 X2 hr hlx hH hne hH0 _ _ _ _ _ hf rfl s.heap [] ls hW va_S.rf (lv_has_sub hl (lvsub_of _ _ [0, 1, 2] rfl))
end
