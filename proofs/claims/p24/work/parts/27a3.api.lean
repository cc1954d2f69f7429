section
variable {p : Program} {l : Launch} {e : Env} {s : State} {m : MethodId} {args : Array Value} {below : List Frame} {meth : Method} {c : Code} {D : va_G} {cy : Nat → ClassId} {B : Nat} {H0 : Heap} {Z : Nat → Nat}
/-! ## TideLots.pact(II)I -/
theorem dX11_pact_0 : decode cX11_pact 0 = .ok (.iload_n 1, 1) := by decide +kernel
theorem dX11_pact_1 : decode cX11_pact 1 = .ok (.ifCond .lt 14, 3) := by decide +kernel
theorem dX11_pact_4 : decode cX11_pact 4 = .ok (.iload_n 1, 1) := by decide +kernel
theorem dX11_pact_5 : decode cX11_pact 5 = .ok (.aload_n 0, 1) := by decide +kernel
theorem dX11_pact_6 : decode cX11_pact 6 = .ok (.getfield 19, 3) := by decide +kernel
theorem dX11_pact_9 : decode cX11_pact 9 = .ok (.getfield 77, 3) := by decide +kernel
theorem dX11_pact_12 : decode cX11_pact 12 = .ok (.if_icmp .lt 13, 3) := by decide +kernel
theorem dX11_pact_15 : decode cX11_pact 15 = .ok (.new 92, 3) := by decide +kernel
theorem dX11_pact_18 : decode cX11_pact 18 = .ok (.dup, 1) := by decide +kernel
theorem dX11_pact_19 : decode cX11_pact 19 = .ok (.ldc 162, 2) := by decide +kernel
theorem dX11_pact_21 : decode cX11_pact 21 = .ok (.invokespecial 96, 3) := by decide +kernel
theorem dX11_pact_24 : decode cX11_pact 24 = .ok (.athrow, 1) := by decide +kernel
theorem dX11_pact_25 : decode cX11_pact 25 = .ok (.aload_n 0, 1) := by decide +kernel
theorem dX11_pact_26 : decode cX11_pact 26 = .ok (.getfield 19, 3) := by decide +kernel
theorem dX11_pact_29 : decode cX11_pact 29 = .ok (.getfield 164, 3) := by decide +kernel
theorem dX11_pact_32 : decode cX11_pact 32 = .ok (.iload_n 1, 1) := by decide +kernel
theorem dX11_pact_33 : decode cX11_pact 33 = .ok (.aaload, 1) := by decide +kernel
theorem dX11_pact_34 : decode cX11_pact 34 = .ok (.astore_n 3, 1) := by decide +kernel
theorem dX11_pact_35 : decode cX11_pact 35 = .ok (.iload_n 2, 1) := by decide +kernel
theorem dX11_pact_36 : decode cX11_pact 36 = .ok (.tableswitch 89 0 6 #[44, 57, 62, 67, 74, 79, 84], 44) := by decide +kernel
theorem dX11_pact_80 : decode cX11_pact 80 = .ok (.aload_n 3, 1) := by decide +kernel
theorem dX11_pact_81 : decode cX11_pact 81 = .ok (.invokevirtual 168, 3) := by decide +kernel
theorem dX11_pact_84 : decode cX11_pact 84 = .ok (.ifCond .eq 7, 3) := by decide +kernel
theorem dX11_pact_87 : decode cX11_pact 87 = .ok (.iconst 0, 1) := by decide +kernel
theorem dX11_pact_88 : decode cX11_pact 88 = .ok (.goto 4, 3) := by decide +kernel
theorem dX11_pact_91 : decode cX11_pact 91 = .ok (.iconst 1, 1) := by decide +kernel
theorem dX11_pact_92 : decode cX11_pact 92 = .ok (.ireturn, 1) := by decide +kernel
theorem dX11_pact_93 : decode cX11_pact 93 = .ok (.aload_n 3, 1) := by decide +kernel
theorem dX11_pact_94 : decode cX11_pact 94 = .ok (.getfield 174, 3) := by decide +kernel
theorem dX11_pact_97 : decode cX11_pact 97 = .ok (.ireturn, 1) := by decide +kernel
theorem dX11_pact_98 : decode cX11_pact 98 = .ok (.aload_n 3, 1) := by decide +kernel
theorem dX11_pact_99 : decode cX11_pact 99 = .ok (.getfield 177, 3) := by decide +kernel
theorem dX11_pact_102 : decode cX11_pact 102 = .ok (.ireturn, 1) := by decide +kernel
theorem dX11_pact_103 : decode cX11_pact 103 = .ok (.aload_n 3, 1) := by decide +kernel
theorem dX11_pact_104 : decode cX11_pact 104 = .ok (.getfield 180, 3) := by decide +kernel
theorem dX11_pact_107 : decode cX11_pact 107 = .ok (.iconst 0, 1) := by decide +kernel
theorem dX11_pact_108 : decode cX11_pact 108 = .ok (.iaload, 1) := by decide +kernel
theorem dX11_pact_109 : decode cX11_pact 109 = .ok (.ireturn, 1) := by decide +kernel
theorem dX11_pact_110 : decode cX11_pact 110 = .ok (.aload_n 3, 1) := by decide +kernel
theorem dX11_pact_111 : decode cX11_pact 111 = .ok (.getfield 182, 3) := by decide +kernel
theorem dX11_pact_114 : decode cX11_pact 114 = .ok (.ireturn, 1) := by decide +kernel
theorem dX11_pact_115 : decode cX11_pact 115 = .ok (.aload_n 3, 1) := by decide +kernel
theorem dX11_pact_116 : decode cX11_pact 116 = .ok (.getfield 185, 3) := by decide +kernel
theorem dX11_pact_119 : decode cX11_pact 119 = .ok (.ireturn, 1) := by decide +kernel
theorem dX11_pact_120 : decode cX11_pact 120 = .ok (.aload_n 3, 1) := by decide +kernel
theorem dX11_pact_121 : decode cX11_pact 121 = .ok (.getfield 188, 3) := by decide +kernel
theorem dX11_pact_124 : decode cX11_pact 124 = .ok (.ireturn, 1) := by decide +kernel
theorem dX11_pact_125 : decode cX11_pact 125 = .ok (.new 92, 3) := by decide +kernel
theorem dX11_pact_128 : decode cX11_pact 128 = .ok (.dup, 1) := by decide +kernel
theorem dX11_pact_129 : decode cX11_pact 129 = .ok (.ldc 191, 2) := by decide +kernel
theorem dX11_pact_131 : decode cX11_pact 131 = .ok (.invokespecial 96, 3) := by decide +kernel
theorem dX11_pact_134 : decode cX11_pact 134 = .ok (.athrow, 1) := by decide +kernel
set_option maxRecDepth 20000 in
theorem ggX11_pact_X5_splits : GoodIn wsX11_pact wsX5_splits := goodIn_r _ [16, 17, 39, 40, 41, 42, 43, 44, 45, 46] (by decide +kernel) (by decide +kernel)
set_option maxRecDepth 20000 in
theorem gX11_pact_X5_splits : GoodIn wsX11_pact (wsV RX11 168 RX5 yX5_splits wsX5_splits) := goodIn_app (goodIn_of _ (by decide +kernel)) ggX11_pact_X5_splits
theorem k_X11_pact_hat96 : ∀ w ∈ (vx_atS RX11 96 "java/lang/IndexOutOfBoundsException" ["java/lang/RuntimeException", "java/lang/Exception"]).filter goodWord, w ∈ wsX11_pact := by decide +kernel
theorem k_X11_pact_cl92 : Cond.classLink RX11 92 "java/lang/IndexOutOfBoundsException" ∈ wsX11_pact := by decide +kernel
theorem k_X11_pact_ini92 : Cond.initialized "java/lang/IndexOutOfBoundsException" ∈ wsX11_pact := by decide +kernel
theorem k_X11_pact_f19 : Cond.fieldLink RX11 19 "TideLots" "shore" "LTideLots$Shore;" ∈ wsX11_pact := by decide +kernel
theorem i_X11_pact_X11 : ∀ w ∈ u_ws RX11 TX11 4, w ∈ wsX11_pact := by decide +kernel
theorem k_X11_pact_f77 : Cond.fieldLink RX11 77 "TideLots$Shore" "pactCount" "I" ∈ wsX11_pact := by decide +kernel
theorem i_X11_pact_X7 : ∀ w ∈ u_ws RX7 TX7 17, w ∈ wsX11_pact := by decide +kernel
theorem k_X11_pact_f164 : Cond.fieldLink RX11 164 "TideLots$Shore" "pacts" "[LTideLots$Pact;" ∈ wsX11_pact := by decide +kernel
theorem k_X11_pact_f174 : Cond.fieldLink RX11 174 "TideLots$Pact" "ground" "I" ∈ wsX11_pact := by decide +kernel
theorem i_X11_pact_X5 : ∀ w ∈ u_ws RX5 TX5 8, w ∈ wsX11_pact := by decide +kernel
theorem k_X11_pact_f177 : Cond.fieldLink RX11 177 "TideLots$Pact" "size" "I" ∈ wsX11_pact := by decide +kernel
theorem k_X11_pact_f180 : Cond.fieldLink RX11 180 "TideLots$Pact" "fishers" "[I" ∈ wsX11_pact := by decide +kernel
theorem k_X11_pact_f182 : Cond.fieldLink RX11 182 "TideLots$Pact" "shown" "I" ∈ wsX11_pact := by decide +kernel
theorem k_X11_pact_f185 : Cond.fieldLink RX11 185 "TideLots$Pact" "hidden" "I" ∈ wsX11_pact := by decide +kernel
theorem k_X11_pact_f188 : Cond.fieldLink RX11 188 "TideLots$Pact" "hidingTides" "I" ∈ wsX11_pact := by decide +kernel
abbrev rX11_pact : Room := { frames := 6, cells := 1, slots := 6, locals := 82 }
noncomputable def b_X11_pact_92 (M : gMem) (s0 : Int32) : Option ((Nat ⊕ Int32) × gMem) :=
  some (.inr s0, M)
noncomputable def b_X11_pact_15 (M : gMem)  : Option ((Nat ⊕ Int32) × gMem) :=
  some (.inl 2, M)
noncomputable def b_X11_pact_0 (M : gMem) (x0 : Nat) (x1 : Int32) (x2 : Int32) : Option ((Nat ⊕ Int32) × gMem) :=
  (if x1 < 0 then b_X11_pact_15 M  else ck (mT M x0 = 10) <| dr ((mR M x0 1)) fun a2 => ck (mT M a2 = 7) <| (if x1 < (mI M a2 5) then dr ((mR M a2 9)) fun a4 => ck (mT M a4 = 26) <| ck (inb x1 (mL M a4)) <| (if x2 = (0 : Int32) then dr ((mR M a4 x1.toNatClampNeg)) fun a9 => ck (mT M a9 = 5) <| bd (f_X5_splits M a9) fun r8 M8 => (if r8 = 0 then b_X11_pact_92 M8 ((1 : Int32)) else b_X11_pact_92 M8 ((0 : Int32))) else (if x2 = (1 : Int32) then dr ((mR M a4 x1.toNatClampNeg)) fun a12 => ck (mT M a12 = 5) <| some (.inr (mI M a12 0), M) else (if x2 = (2 : Int32) then dr ((mR M a4 x1.toNatClampNeg)) fun a15 => ck (mT M a15 = 5) <| some (.inr (mI M a15 3), M) else (if x2 = (3 : Int32) then dr ((mR M a4 x1.toNatClampNeg)) fun a18 => ck (mT M a18 = 5) <| dr ((mR M a18 4)) fun a20 => ck (mT M a20 = 20) <| ck (inb (0 : Int32) (mL M a20)) <| some (.inr (mI M a20 ((0 : Int32)).toNatClampNeg), M) else (if x2 = (4 : Int32) then dr ((mR M a4 x1.toNatClampNeg)) fun a24 => ck (mT M a24 = 5) <| some (.inr (mI M a24 5), M) else (if x2 = (5 : Int32) then dr ((mR M a4 x1.toNatClampNeg)) fun a27 => ck (mT M a27 = 5) <| some (.inr (mI M a27 6), M) else (if x2 = (6 : Int32) then dr ((mR M a4 x1.toNatClampNeg)) fun a30 => ck (mT M a30 = 5) <| some (.inr (mI M a30 7), M) else some (.inl 2, M)))))))) else b_X11_pact_15 M ))
noncomputable def f_X11_pact (M : gMem) (x0 : Nat) (x1 : Int32) (x2 : Int32) : Option ((Nat ⊕ Int32) × gMem) :=
  b_X11_pact_0 M x0 x1 x2
set_option maxHeartbeats 4000000 in
set_option maxRecDepth 100000 in
theorem t_X11_pact_92 (X2 : gX p s m args meth c D cy B (gSt2 Z B H0) RX11 cX11_pact wsX11_pact 4) (hr : meth.sig.returnType = (some .int)) (hlx : l.stackTraces = false) (hH : ∀ q : Nat, q < B → s.heap[q]? = H0[q]?) (hne : ∀ x ∈ c.exceptionTable.toList, False) (hH0 : H0.size = B) {Q : State → Prop} : ∀ (M : gMem) (s0 : Int32) (z : (Nat ⊕ Int32) × gMem), b_X11_pact_92 M s0 = some z → (fun (r : (Nat ⊕ Int32) × gMem) => Q = gMX below D cy B H0 args s 1 6 (gzI r.1) r.2) z → gGo p l e rX11_pact s m args below meth c D cy B H0 4 0 0 Q 92 [] [vI s0] M := by
  intro M s0 z hf hK
  unfold b_X11_pact_92 at hf
  have X := gX_w X2
  cases hf
  refine g_eqQ hK ?_
  refine g_wide (k' := 1) (n' := 6) (by decide) (by decide) ?_
  refine g_xret ?_
  exact g_iret X hr dX11_pact_92
set_option maxHeartbeats 4000000 in
set_option maxRecDepth 100000 in
theorem t_X11_pact_15 (X2 : gX p s m args meth c D cy B (gSt2 Z B H0) RX11 cX11_pact wsX11_pact 4) (hr : meth.sig.returnType = (some .int)) (hlx : l.stackTraces = false) (hH : ∀ q : Nat, q < B → s.heap[q]? = H0[q]?) (hne : ∀ x ∈ c.exceptionTable.toList, False) (hH0 : H0.size = B) {Q : State → Prop} : ∀ (M : gMem)  (z : (Nat ⊕ Int32) × gMem), b_X11_pact_15 M  = some z → (fun (r : (Nat ⊕ Int32) × gMem) => Q = gMX below D cy B H0 args s 1 6 (gzI r.1) r.2) z → gGo p l e rX11_pact s m args below meth c D cy B H0 4 0 0 Q 15 [] [] M := by
  intro M  z hf hK
  unfold b_X11_pact_15 at hf
  have X := gX_w X2
  cases hf
  refine g_eqQ hK ?_
  exact g_throwS (text := "no such pact") X2 hlx hH hH0 hne (by decide) k_X11_pact_cl92 k_X11_pact_ini92 (by decide) k_X11_pact_hat96 kx_hxw96 kx_hg96_92 rfl dX11_pact_15 dX11_pact_18 dX11_pact_19 dX11_pact_21 dX11_pact_24 (Nat.le_of_ble_eq_true rfl) (Nat.le_of_ble_eq_true rfl) (by decide) (by decide) (by decide) (by decide)
set_option maxHeartbeats 4000000 in
set_option maxRecDepth 100000 in
theorem t_X11_pact_0 (X2 : gX p s m args meth c D cy B (gSt2 Z B H0) RX11 cX11_pact wsX11_pact 4) (hr : meth.sig.returnType = (some .int)) (hlx : l.stackTraces = false) (hH : ∀ q : Nat, q < B → s.heap[q]? = H0[q]?) (hne : ∀ x ∈ c.exceptionTable.toList, False) (hH0 : H0.size = B) {Q : State → Prop} : ∀ (M : gMem) (x0 : Nat) (x1 : Int32) (x2 : Int32) (z : (Nat ⊕ Int32) × gMem), b_X11_pact_0 M x0 x1 x2 = some z → (fun (r : (Nat ⊕ Int32) × gMem) => Q = gMX below D cy B H0 args s 1 6 (gzI r.1) r.2) z → gGo p l e rX11_pact s m args below meth c D cy B H0 4 0 0 Q 0 [(0, vR (some x0)), (1, vI x1), (2, vI x2)] [] M := by
  intro M x0 x1 x2 z hf hK
  unfold b_X11_pact_0 at hf
  have X := gX_w X2
  refine g_iload_n X dX11_pact_0 rfl rfl ?_
  refine g_if_lt (tgt := 15) X dX11_pact_1 (by decide) (fun hc => ?_) (fun hc => ?_)
  · have hf := ife_t hc hf
    refine g_sub (lvsub_of _ _ [] rfl) ?_
    exact t_X11_pact_15 X2 hr hlx hH hne hH0 _  _ hf hK
  · have hf := ife_f hc hf
    refine g_iload_n X dX11_pact_4 rfl rfl ?_
    refine g_aload_n X dX11_pact_5 rfl rfl ?_
    obtain ⟨hT1, hf⟩ := ck_e hf
    refine g_get (ci := 9) (v := vR (mR M x0 1)) 1 X cdX11 i_X11_pact_X11 (by decide) k_X11_pact_f19 rfl dX11_pact_6 rfl hT1 rfl ?_
    obtain ⟨a2, ha2, hf⟩ := dr_e hf
    obtain ⟨hT3, hf⟩ := ck_e hf
    refine g_get (ci := 6) (v := vI (mI M a2 5)) 5 X cdX7 i_X11_pact_X7 (by decide) k_X11_pact_f77 rfl dX11_pact_9 ha2 hT3 rfl ?_
    refine g_icmp_lt (tgt := 25) X dX11_pact_12 (by decide) (fun hc => ?_) (fun hc => ?_)
    · have hf := ife_t hc hf
      refine g_aload_n X dX11_pact_25 rfl rfl ?_
      refine g_get (ci := 9) (v := vR (mR M x0 1)) 1 X cdX11 i_X11_pact_X11 (by decide) k_X11_pact_f19 rfl dX11_pact_26 rfl hT1 rfl ?_
      refine g_get (ci := 6) (v := vR (mR M a2 9)) 9 X cdX7 i_X11_pact_X7 (by decide) k_X11_pact_f164 rfl dX11_pact_29 ha2 hT3 rfl ?_
      refine g_iload_n X dX11_pact_32 rfl rfl ?_
      obtain ⟨a4, ha4, hf⟩ := dr_e hf
      obtain ⟨hT5, hf⟩ := ck_e hf
      obtain ⟨hg6, hf⟩ := ck_e hf
      refine g_aald (t0 := 6) X dX11_pact_33 ha4 hT5 (by decide) rfl hg6 ?_
      refine g_astore_n (lv' := [(3, vR (mR M a4 x1.toNatClampNeg)), (0, vR (some x0)), (1, vI x1), (2, vI x2)]) X dX11_pact_34 rfl (by decide) rfl ?_
      refine g_iload_n X dX11_pact_35 rfl rfl ?_
      by_cases hs7 : x2 = (0 : Int32)
      · have hf := ife_t hs7 hf
        refine g_tabin (tgt := 80) X dX11_pact_36 hs7 (by decide) (by decide) rfl (by decide) ?_
        refine g_aload_n X dX11_pact_80 rfl rfl ?_
        obtain ⟨a9, ha9, hf⟩ := dr_e hf
        obtain ⟨hT10, hf⟩ := ck_e hf
        obtain ⟨r8, M8, hq8, hf⟩ := bd_e hf
        refine g_callV (ci := 4) (b := a9) (As := []) (st := []) (v := some (vI r8)) (M1 := M8) X (m_X5_splits l hq8) (cwV 0 X.2.2.1 gX11_pact_X5_splits rfl rfl rfl (by decide +kernel) ⟨Nat.le_of_ble_eq_true rfl, Nat.le_of_ble_eq_true rfl⟩) rfl rfl ha9 hT10 (by decide) rfl (Nat.le_of_ble_eq_true rfl) dX11_pact_81 ⟨by decide, by decide⟩ ?_
        refine g_if_eq (tgt := 91) X dX11_pact_84 (by decide) (fun hc => ?_) (fun hc => ?_)
        · have hf := ife_t hc hf
          refine g_iconst (v := (1 : Int32)) X dX11_pact_91 (by decide) ?_
          refine g_sub (lvsub_of _ _ [] rfl) ?_
          exact t_X11_pact_92 X2 hr hlx hH hne hH0 _ _ _ hf hK
        · have hf := ife_f hc hf
          refine g_iconst (v := (0 : Int32)) X dX11_pact_87 (by decide) ?_
          refine g_goto (tgt := 92) X dX11_pact_88 (by decide) ?_
          refine g_sub (lvsub_of _ _ [] rfl) ?_
          exact t_X11_pact_92 X2 hr hlx hH hne hH0 _ _ _ hf hK
      · have hf := ife_f hs7 hf
        by_cases hs11 : x2 = (1 : Int32)
        · have hf := ife_t hs11 hf
          refine g_tabin (tgt := 93) X dX11_pact_36 hs11 (by decide) (by decide) rfl (by decide) ?_
          refine g_aload_n X dX11_pact_93 rfl rfl ?_
          obtain ⟨a12, ha12, hf⟩ := dr_e hf
          obtain ⟨hT13, hf⟩ := ck_e hf
          refine g_get (ci := 4) (v := vI (mI M a12 0)) 0 X cdX5 i_X11_pact_X5 (by decide) k_X11_pact_f174 rfl dX11_pact_94 ha12 hT13 rfl ?_
          cases hf
          refine g_eqQ hK ?_
          refine g_wide (k' := 1) (n' := 6) (by decide) (by decide) ?_
          refine g_xret ?_
          exact g_iret X hr dX11_pact_97
        · have hf := ife_f hs11 hf
          by_cases hs14 : x2 = (2 : Int32)
          · have hf := ife_t hs14 hf
            refine g_tabin (tgt := 98) X dX11_pact_36 hs14 (by decide) (by decide) rfl (by decide) ?_
            refine g_aload_n X dX11_pact_98 rfl rfl ?_
            obtain ⟨a15, ha15, hf⟩ := dr_e hf
            obtain ⟨hT16, hf⟩ := ck_e hf
            refine g_get (ci := 4) (v := vI (mI M a15 3)) 3 X cdX5 i_X11_pact_X5 (by decide) k_X11_pact_f177 rfl dX11_pact_99 ha15 hT16 rfl ?_
            cases hf
            refine g_eqQ hK ?_
            refine g_wide (k' := 1) (n' := 6) (by decide) (by decide) ?_
            refine g_xret ?_
            exact g_iret X hr dX11_pact_102
          · have hf := ife_f hs14 hf
            by_cases hs17 : x2 = (3 : Int32)
            · have hf := ife_t hs17 hf
              refine g_tabin (tgt := 103) X dX11_pact_36 hs17 (by decide) (by decide) rfl (by decide) ?_
              refine g_aload_n X dX11_pact_103 rfl rfl ?_
              obtain ⟨a18, ha18, hf⟩ := dr_e hf
              obtain ⟨hT19, hf⟩ := ck_e hf
              refine g_get (ci := 4) (v := vR (mR M a18 4)) 4 X cdX5 i_X11_pact_X5 (by decide) k_X11_pact_f180 rfl dX11_pact_104 ha18 hT19 rfl ?_
              refine g_iconst (v := (0 : Int32)) X dX11_pact_107 (by decide) ?_
              obtain ⟨a20, ha20, hf⟩ := dr_e hf
              obtain ⟨hT21, hf⟩ := ck_e hf
              obtain ⟨hg22, hf⟩ := ck_e hf
              refine g_iald X dX11_pact_108 ha20 hT21 hg22 ?_
              cases hf
              refine g_eqQ hK ?_
              refine g_wide (k' := 1) (n' := 6) (by decide) (by decide) ?_
              refine g_xret ?_
              exact g_iret X hr dX11_pact_109
            · have hf := ife_f hs17 hf
              by_cases hs23 : x2 = (4 : Int32)
              · have hf := ife_t hs23 hf
                refine g_tabin (tgt := 110) X dX11_pact_36 hs23 (by decide) (by decide) rfl (by decide) ?_
                refine g_aload_n X dX11_pact_110 rfl rfl ?_
                obtain ⟨a24, ha24, hf⟩ := dr_e hf
                obtain ⟨hT25, hf⟩ := ck_e hf
                refine g_get (ci := 4) (v := vI (mI M a24 5)) 5 X cdX5 i_X11_pact_X5 (by decide) k_X11_pact_f182 rfl dX11_pact_111 ha24 hT25 rfl ?_
                cases hf
                refine g_eqQ hK ?_
                refine g_wide (k' := 1) (n' := 6) (by decide) (by decide) ?_
                refine g_xret ?_
                exact g_iret X hr dX11_pact_114
              · have hf := ife_f hs23 hf
                by_cases hs26 : x2 = (5 : Int32)
                · have hf := ife_t hs26 hf
                  refine g_tabin (tgt := 115) X dX11_pact_36 hs26 (by decide) (by decide) rfl (by decide) ?_
                  refine g_aload_n X dX11_pact_115 rfl rfl ?_
                  obtain ⟨a27, ha27, hf⟩ := dr_e hf
                  obtain ⟨hT28, hf⟩ := ck_e hf
                  refine g_get (ci := 4) (v := vI (mI M a27 6)) 6 X cdX5 i_X11_pact_X5 (by decide) k_X11_pact_f185 rfl dX11_pact_116 ha27 hT28 rfl ?_
                  cases hf
                  refine g_eqQ hK ?_
                  refine g_wide (k' := 1) (n' := 6) (by decide) (by decide) ?_
                  refine g_xret ?_
                  exact g_iret X hr dX11_pact_119
                · have hf := ife_f hs26 hf
                  by_cases hs29 : x2 = (6 : Int32)
                  · have hf := ife_t hs29 hf
                    refine g_tabin (tgt := 120) X dX11_pact_36 hs29 (by decide) (by decide) rfl (by decide) ?_
                    refine g_aload_n X dX11_pact_120 rfl rfl ?_
                    obtain ⟨a30, ha30, hf⟩ := dr_e hf
                    obtain ⟨hT31, hf⟩ := ck_e hf
                    refine g_get (ci := 4) (v := vI (mI M a30 7)) 7 X cdX5 i_X11_pact_X5 (by decide) k_X11_pact_f188 rfl dX11_pact_121 ha30 hT31 rfl ?_
                    cases hf
                    refine g_eqQ hK ?_
                    refine g_wide (k' := 1) (n' := 6) (by decide) (by decide) ?_
                    refine g_xret ?_
                    exact g_iret X hr dX11_pact_124
                  · have hf := ife_f hs29 hf
                    refine g_tabout (tgt := 125) X dX11_pact_36 (gtab_out 7 (0) (by decide) (by decide) (fun i hi => match i, hi with | 0, _ => fun e => hs7 (e.trans (by decide)) | 1, _ => fun e => hs11 (e.trans (by decide)) | 2, _ => fun e => hs14 (e.trans (by decide)) | 3, _ => fun e => hs17 (e.trans (by decide)) | 4, _ => fun e => hs23 (e.trans (by decide)) | 5, _ => fun e => hs26 (e.trans (by decide)) | 6, _ => fun e => hs29 (e.trans (by decide)) | i + 7, h => absurd h (by omega))) (by decide) ?_
                    cases hf
                    refine g_eqQ hK ?_
                    exact g_throwS (text := "nothing of this number is told of a pact") X2 hlx hH hH0 hne (by decide) k_X11_pact_cl92 k_X11_pact_ini92 (by decide) k_X11_pact_hat96 kx_hxw96 kx_hg96_92 rfl dX11_pact_125 dX11_pact_128 dX11_pact_129 dX11_pact_131 dX11_pact_134 (Nat.le_of_ble_eq_true rfl) (Nat.le_of_ble_eq_true rfl) (by decide) (by decide) (by decide) (by decide)
    · have hf := ife_f hc hf
      refine g_sub (lvsub_of _ _ [] rfl) ?_
      exact t_X11_pact_15 X2 hr hlx hH hne hH0 _  _ hf hK
set_option maxHeartbeats 4000000 in
set_option maxRecDepth 100000 in
theorem m_X11_pact (l : Launch) (hlx : l.stackTraces = false) {D : va_G} {cy : Nat → ClassId} {B : Nat} {H0 : Heap} {Z : Nat → Nat} {M M1 : gMem} {x0 : Nat} {x1 : Int32} {x2 : Int32} {r : (Nat ⊕ Int32)} (hH0 : H0.size = B) (hf : f_X11_pact M x0 x1 x2 = some (r, M1)) : vx_Met l yX11_pact wsX11_pact rX11_pact (va_Pc (Value.ref x0 :: List.map gv [vI x1, vI x2]) (gPre D cy B H0 (gSt2 Z B H0) M)) (gQX D cy B H0 (gzI r) M1) (gXC D cy B H0 (gzI r) M1) 1 6 (gA B) := by
  refine vx_ofW (cc := cX11_pact) (maxL := 4) (ret := (some .int)) (by decide) rfl ?_
  intro p e s m args below meth c s₁ Bd hml hne hv
  obtain ⟨rfl, hW, hKK, hFs⟩ := hv
  have X2 : gX p s m _ meth c D cy B (gSt2 Z B H0) RX11 cX11_pact wsX11_pact 4 := ⟨Bd.exec, Bd.bytes, atoms_spec (ws := wsX11_pact) Bd.pre, findClass_of_methodNamed Bd.named, hml, hKK, by rw [hW.1]; exact hW.2.1, Bd.notSynchronized, hFs⟩
  have hr := Bd.returns
  have hH : ∀ q : Nat, q < B → s.heap[q]? = H0[q]? := hW.2.2.1
  have hl := lv_entry ([.ref x0, .int x1, .int x2]) (n := 4) (Nat.le_of_ble_eq_true rfl)
  show W p l e rX11_pact s m _ below meth c s.heap [] 0 0 _ (entryFrame m ([.ref x0, .int x1, .int x2] : List Value).toArray 4)
  rw [lg_entry_eq]
  generalize (lg_sl ([.ref x0, .int x1, .int x2]) ++ List.replicate (4 - (lg_sl ([.ref x0, .int x1, .int x2])).length) Slot.unset).toArray = ls at hl ⊢
  have hl : lv_has ls 4 (List.map gq [(0, vR (some x0)), (1, vI x1), (2, vI x2)]) := hl
  exact t_X11_pact_0 X2 hr hlx hH hne hH0 _ _ _ _ _ hf rfl s.heap [] ls hW va_S.rf (lv_has_sub hl (lvsub_of _ _ [0, 1, 2] rfl))
/-! ## TideLots.cheat(IZ)I -/
theorem dX11_cheat_0 : decode cX11_cheat 0 = .ok (.aload_n 0, 1) := by decide +kernel
theorem dX11_cheat_1 : decode cX11_cheat 1 = .ok (.iload_n 1, 1) := by decide +kernel
theorem dX11_cheat_2 : decode cX11_cheat 2 = .ok (.invokevirtual 122, 3) := by decide +kernel
theorem dX11_cheat_5 : decode cX11_cheat 5 = .ok (.aload_n 0, 1) := by decide +kernel
theorem dX11_cheat_6 : decode cX11_cheat 6 = .ok (.getfield 19, 3) := by decide +kernel
theorem dX11_cheat_9 : decode cX11_cheat 9 = .ok (.getfield 125, 3) := by decide +kernel
theorem dX11_cheat_12 : decode cX11_cheat 12 = .ok (.iload_n 1, 1) := by decide +kernel
theorem dX11_cheat_13 : decode cX11_cheat 13 = .ok (.aaload, 1) := by decide +kernel
theorem dX11_cheat_14 : decode cX11_cheat 14 = .ok (.iload_n 2, 1) := by decide +kernel
theorem dX11_cheat_15 : decode cX11_cheat 15 = .ok (.putfield 155, 3) := by decide +kernel
theorem dX11_cheat_18 : decode cX11_cheat 18 = .ok (.aload_n 0, 1) := by decide +kernel
theorem dX11_cheat_19 : decode cX11_cheat 19 = .ok (.getfield 19, 3) := by decide +kernel
theorem dX11_cheat_22 : decode cX11_cheat 22 = .ok (.invokevirtual 89, 3) := by decide +kernel
theorem dX11_cheat_25 : decode cX11_cheat 25 = .ok (.ireturn, 1) := by decide +kernel
set_option maxRecDepth 20000 in
theorem ggX11_cheat_X11_checkFisher : GoodIn wsX11_cheat wsX11_checkFisher := goodIn_ca (goodIn_r _ [8, 9, 10, 1, 11, 20, 21, 22, 23, 24, 25, 26, 27, 28, 29, 30, 31, 32, 33, 34, 35, 36, 37, 38, 39, 40] (by decide +kernel) (by decide +kernel)) (goodIn_sub (fun _ h => List.mem_cons_of_mem _ (List.mem_append_right _ h)) (by decide +kernel))
set_option maxRecDepth 20000 in
theorem gX11_cheat_X11_checkFisher : GoodIn wsX11_cheat (wsV RX11 122 RX11 yX11_checkFisher wsX11_checkFisher) := goodIn_app (goodIn_of _ (by decide +kernel)) ggX11_cheat_X11_checkFisher
set_option maxRecDepth 20000 in
theorem ggX11_cheat_X7_allCheats : GoodIn wsX11_cheat wsX7_allCheats := goodIn_r _ [16, 17, 18, 19, 24, 25, 26, 27, 28, 29, 30, 31, 32, 33, 34, 35, 36, 37, 38, 39, 40, 41, 42, 43, 44, 45, 46, 47, 48, 49, 50, 51] (by decide +kernel) (by decide +kernel)
set_option maxRecDepth 20000 in
theorem gX11_cheat_X7_allCheats : GoodIn wsX11_cheat (wsV RX11 89 RX7 yX7_allCheats wsX7_allCheats) := goodIn_app (goodIn_of _ (by decide +kernel)) ggX11_cheat_X7_allCheats
theorem k_X11_cheat_f19 : Cond.fieldLink RX11 19 "TideLots" "shore" "LTideLots$Shore;" ∈ wsX11_cheat := by decide +kernel
theorem i_X11_cheat_X11 : ∀ w ∈ u_ws RX11 TX11 4, w ∈ wsX11_cheat := by decide +kernel
theorem k_X11_cheat_f125 : Cond.fieldLink RX11 125 "TideLots$Shore" "fishers" "[LTideLots$Fisher;" ∈ wsX11_cheat := by decide +kernel
theorem i_X11_cheat_X7 : ∀ w ∈ u_ws RX7 TX7 17, w ∈ wsX11_cheat := by decide +kernel
theorem k_X11_cheat_f155 : Cond.fieldLink RX11 155 "TideLots$Fisher" "isCheat" "Z" ∈ wsX11_cheat := by decide +kernel
theorem i_X11_cheat_X1 : ∀ w ∈ u_ws RX1 TX1 11, w ∈ wsX11_cheat := by decide +kernel
abbrev rX11_cheat : Room := { frames := 7, cells := 1, slots := 6, locals := 103 }
noncomputable def b_X11_cheat_0 (M : gMem) (x0 : Nat) (x1 : Int32) (x2 : Int32) : Option ((Nat ⊕ Int32) × gMem) :=
  ck (mT M x0 = 10) <| bx (f_X11_checkFisher M x0 x1) (fun e1 M1 => some (.inl e1, M1)) fun _ M1 => ck (mT M1 x0 = 10) <| dr ((mR M1 x0 1)) fun a4 => ck (mT M1 a4 = 7) <| dr ((mR M1 a4 7)) fun a6 => ck (mT M1 a6 = 24) <| ck (inb x1 (mL M1 a6)) <| dr ((mR M1 a6 x1.toNatClampNeg)) fun a9 => ck (mT M1 a9 = 1) <| ck (x2 = 0 ∨ x2 = 1) <| lw (wI M1 a9 9 x2) fun M12 => dr ((mR M12 x0 1)) fun a18 => ck (mT M12 a18 = 7) <| bd (f_X7_allCheats M12 a18) fun r17 M17 => some (.inr r17, M17)
noncomputable def f_X11_cheat (M : gMem) (x0 : Nat) (x1 : Int32) (x2 : Int32) : Option ((Nat ⊕ Int32) × gMem) :=
  b_X11_cheat_0 M x0 x1 x2
set_option maxHeartbeats 4000000 in
set_option maxRecDepth 100000 in
theorem t_X11_cheat_0 (X2 : gX p s m args meth c D cy B (gSt2 Z B H0) RX11 cX11_cheat wsX11_cheat 3) (hr : meth.sig.returnType = (some .int)) (hlx : l.stackTraces = false) (hH : ∀ q : Nat, q < B → s.heap[q]? = H0[q]?) (hne : ∀ x ∈ c.exceptionTable.toList, False) (hH0 : H0.size = B) {Q : State → Prop} : ∀ (M : gMem) (x0 : Nat) (x1 : Int32) (x2 : Int32) (z : (Nat ⊕ Int32) × gMem), b_X11_cheat_0 M x0 x1 x2 = some z → (fun (r : (Nat ⊕ Int32) × gMem) => Q = gMX below D cy B H0 args s 1 6 (gzI r.1) r.2) z → gGo p l e rX11_cheat s m args below meth c D cy B H0 3 0 0 Q 0 [(0, vR (some x0)), (1, vI x1), (2, vI x2)] [] M := by
  intro M x0 x1 x2 z hf hK
  unfold b_X11_cheat_0 at hf
  have X := gX_w X2
  refine g_aload_n X dX11_cheat_0 rfl rfl ?_
  refine g_iload_n X dX11_cheat_1 rfl rfl ?_
  obtain ⟨hT2, hf⟩ := ck_e hf
  rcases bx_e hf with ⟨e1, M1, hq1, hf⟩ | ⟨r1, M1, hq1, hf⟩
  · cases hf
    refine g_eqQ hK ?_
    exact g_callTV (ci := 9) (b := x0) (As := [vI x1]) (st := []) (M1 := M1) X2 hne (m_X11_checkFisher l hlx hH0 hq1) (cwV 1 X.2.2.1 gX11_cheat_X11_checkFisher rfl rfl rfl (by decide +kernel) ⟨Nat.le_of_ble_eq_true rfl, Nat.le_of_ble_eq_true rfl⟩) rfl rfl rfl hT2 (by decide) rfl (Nat.le_of_ble_eq_true rfl) dX11_cheat_2 ⟨(by decide), (by decide)⟩ (by decide) (by decide)
  refine g_callXV (ci := 9) (b := x0) (As := [vI x1]) (st := []) (v := none) (M1 := M1) X2 (m_X11_checkFisher l hlx hH0 hq1) (cwV 1 X.2.2.1 gX11_cheat_X11_checkFisher rfl rfl rfl (by decide +kernel) ⟨Nat.le_of_ble_eq_true rfl, Nat.le_of_ble_eq_true rfl⟩) rfl rfl rfl hT2 (by decide) rfl (Nat.le_of_ble_eq_true rfl) dX11_cheat_2 ⟨(by decide), (by decide)⟩ ?_
  refine g_aload_n X dX11_cheat_5 rfl rfl ?_
  obtain ⟨hT3, hf⟩ := ck_e hf
  refine g_get (ci := 9) (v := vR (mR M1 x0 1)) 1 X cdX11 i_X11_cheat_X11 (by decide) k_X11_cheat_f19 rfl dX11_cheat_6 rfl hT3 rfl ?_
  obtain ⟨a4, ha4, hf⟩ := dr_e hf
  obtain ⟨hT5, hf⟩ := ck_e hf
  refine g_get (ci := 6) (v := vR (mR M1 a4 7)) 7 X cdX7 i_X11_cheat_X7 (by decide) k_X11_cheat_f125 rfl dX11_cheat_9 ha4 hT5 rfl ?_
  refine g_iload_n X dX11_cheat_12 rfl rfl ?_
  obtain ⟨a6, ha6, hf⟩ := dr_e hf
  obtain ⟨hT7, hf⟩ := ck_e hf
  obtain ⟨hg8, hf⟩ := ck_e hf
  refine g_aald (t0 := 4) X dX11_cheat_13 ha6 hT7 (by decide) rfl hg8 ?_
  refine g_iload_n X dX11_cheat_14 rfl rfl ?_
  obtain ⟨a9, ha9, hf⟩ := dr_e hf
  obtain ⟨hT10, hf⟩ := ck_e hf
  obtain ⟨hg11, hf⟩ := ck_e hf
  refine g_putI (ci := 0) 9 X cdX1 i_X11_cheat_X1 (by decide) k_X11_cheat_f155 rfl dX11_cheat_15 ha9 hT10 (Or.inl rfl) (gnb hg11) (gfb hg11) rfl ?_
  obtain ⟨M12, hM12, hf⟩ := lw_e hf
  rw [← hM12]
  have hT13 : mT M12 x0 = 10 := by rw [hM12]; exact hT3
  have hT14 : mT M12 a4 = 7 := by rw [hM12]; exact hT5
  have hT15 : mT M12 a6 = 24 := by rw [hM12]; exact hT7
  have hT16 : mT M12 a9 = 1 := by rw [hM12]; exact hT10
  refine g_aload_n X dX11_cheat_18 rfl rfl ?_
  refine g_get (ci := 9) (v := vR (mR M12 x0 1)) 1 X cdX11 i_X11_cheat_X11 (by decide) k_X11_cheat_f19 rfl dX11_cheat_19 rfl hT13 rfl ?_
  obtain ⟨a18, ha18, hf⟩ := dr_e hf
  obtain ⟨hT19, hf⟩ := ck_e hf
  obtain ⟨r17, M17, hq17, hf⟩ := bd_e hf
  refine g_callV (ci := 6) (b := a18) (As := []) (st := []) (v := some (vI r17)) (M1 := M17) X (m_X7_allCheats l hq17) (cwV 0 X.2.2.1 gX11_cheat_X7_allCheats rfl rfl rfl (by decide +kernel) ⟨Nat.le_of_ble_eq_true rfl, Nat.le_of_ble_eq_true rfl⟩) rfl rfl ha18 hT19 (by decide) rfl (Nat.le_of_ble_eq_true rfl) dX11_cheat_22 ⟨by decide, by decide⟩ ?_
  cases hf
  refine g_eqQ hK ?_
  refine g_xret ?_
  exact g_iret X hr dX11_cheat_25
set_option maxHeartbeats 4000000 in
set_option maxRecDepth 100000 in
theorem m_X11_cheat (l : Launch) (hlx : l.stackTraces = false) {D : va_G} {cy : Nat → ClassId} {B : Nat} {H0 : Heap} {Z : Nat → Nat} {M M1 : gMem} {x0 : Nat} {x1 : Int32} {x2 : Int32} {r : (Nat ⊕ Int32)} (hH0 : H0.size = B) (hf : f_X11_cheat M x0 x1 x2 = some (r, M1)) : vx_Met l yX11_cheat wsX11_cheat rX11_cheat (va_Pc (Value.ref x0 :: List.map gv [vI x1, vI x2]) (gPre D cy B H0 (gSt2 Z B H0) M)) (gQX D cy B H0 (gzI r) M1) (gXC D cy B H0 (gzI r) M1) 1 6 (gA B) := by
  refine vx_ofW (cc := cX11_cheat) (maxL := 3) (ret := (some .int)) (by decide) rfl ?_
  intro p e s m args below meth c s₁ Bd hml hne hv
  obtain ⟨rfl, hW, hKK, hFs⟩ := hv
  have X2 : gX p s m _ meth c D cy B (gSt2 Z B H0) RX11 cX11_cheat wsX11_cheat 3 := ⟨Bd.exec, Bd.bytes, atoms_spec (ws := wsX11_cheat) Bd.pre, findClass_of_methodNamed Bd.named, hml, hKK, by rw [hW.1]; exact hW.2.1, Bd.notSynchronized, hFs⟩
  have hr := Bd.returns
  have hH : ∀ q : Nat, q < B → s.heap[q]? = H0[q]? := hW.2.2.1
  have hl := lv_entry ([.ref x0, .int x1, .int x2]) (n := 3) (Nat.le_of_ble_eq_true rfl)
  show W p l e rX11_cheat s m _ below meth c s.heap [] 0 0 _ (entryFrame m ([.ref x0, .int x1, .int x2] : List Value).toArray 3)
  rw [lg_entry_eq]
  generalize (lg_sl ([.ref x0, .int x1, .int x2]) ++ List.replicate (3 - (lg_sl ([.ref x0, .int x1, .int x2])).length) Slot.unset).toArray = ls at hl ⊢
  have hl : lv_has ls 3 (List.map gq [(0, vR (some x0)), (1, vI x1), (2, vI x2)]) := hl
  exact t_X11_cheat_0 X2 hr hlx hH hne hH0 _ _ _ _ _ hf rfl s.heap [] ls hW va_S.rf (lv_has_sub hl (lvsub_of _ _ [0, 1, 2] rfl))
/-! ## TideLots.lot(I)I -/
theorem dX11_lot_0 : decode cX11_lot 0 = .ok (.iload_n 1, 1) := by decide +kernel
theorem dX11_lot_1 : decode cX11_lot 1 = .ok (.ifCond .lt 14, 3) := by decide +kernel
theorem dX11_lot_4 : decode cX11_lot 4 = .ok (.iload_n 1, 1) := by decide +kernel
theorem dX11_lot_5 : decode cX11_lot 5 = .ok (.aload_n 0, 1) := by decide +kernel
theorem dX11_lot_6 : decode cX11_lot 6 = .ok (.getfield 19, 3) := by decide +kernel
theorem dX11_lot_9 : decode cX11_lot 9 = .ok (.getfield 71, 3) := by decide +kernel
theorem dX11_lot_12 : decode cX11_lot 12 = .ok (.if_icmp .lt 13, 3) := by decide +kernel
theorem dX11_lot_15 : decode cX11_lot 15 = .ok (.new 92, 3) := by decide +kernel
theorem dX11_lot_18 : decode cX11_lot 18 = .ok (.dup, 1) := by decide +kernel
theorem dX11_lot_19 : decode cX11_lot 19 = .ok (.ldc 195, 2) := by decide +kernel
theorem dX11_lot_21 : decode cX11_lot 21 = .ok (.invokespecial 96, 3) := by decide +kernel
theorem dX11_lot_24 : decode cX11_lot 24 = .ok (.athrow, 1) := by decide +kernel
theorem dX11_lot_25 : decode cX11_lot 25 = .ok (.aload_n 0, 1) := by decide +kernel
theorem dX11_lot_26 : decode cX11_lot 26 = .ok (.getfield 19, 3) := by decide +kernel
theorem dX11_lot_29 : decode cX11_lot 29 = .ok (.invokevirtual 197, 3) := by decide +kernel
theorem dX11_lot_32 : decode cX11_lot 32 = .ok (.pop, 1) := by decide +kernel
theorem dX11_lot_33 : decode cX11_lot 33 = .ok (.aload_n 0, 1) := by decide +kernel
theorem dX11_lot_34 : decode cX11_lot 34 = .ok (.getfield 19, 3) := by decide +kernel
theorem dX11_lot_37 : decode cX11_lot 37 = .ok (.getfield 200, 3) := by decide +kernel
theorem dX11_lot_40 : decode cX11_lot 40 = .ok (.iload_n 1, 1) := by decide +kernel
theorem dX11_lot_41 : decode cX11_lot 41 = .ok (.iaload, 1) := by decide +kernel
theorem dX11_lot_42 : decode cX11_lot 42 = .ok (.ireturn, 1) := by decide +kernel
set_option maxRecDepth 20000 in
theorem ggX11_lot_X7_drawLots : GoodIn wsX11_lot wsX7_drawLots := goodIn_r _ [10, 11, 12, 13, 14, 15, 20, 21, 22, 23, 24, 25, 26, 27, 28, 29, 30, 31, 32, 33, 34, 35, 36] (by decide +kernel) (by decide +kernel)
set_option maxRecDepth 20000 in
theorem gX11_lot_X7_drawLots : GoodIn wsX11_lot (wsV RX11 197 RX7 yX7_drawLots wsX7_drawLots) := goodIn_app (goodIn_of _ (by decide +kernel)) ggX11_lot_X7_drawLots
theorem k_X11_lot_hat96 : ∀ w ∈ (vx_atS RX11 96 "java/lang/IndexOutOfBoundsException" ["java/lang/RuntimeException", "java/lang/Exception"]).filter goodWord, w ∈ wsX11_lot := by decide +kernel
theorem k_X11_lot_cl92 : Cond.classLink RX11 92 "java/lang/IndexOutOfBoundsException" ∈ wsX11_lot := by decide +kernel
theorem k_X11_lot_ini92 : Cond.initialized "java/lang/IndexOutOfBoundsException" ∈ wsX11_lot := by decide +kernel
theorem k_X11_lot_f19 : Cond.fieldLink RX11 19 "TideLots" "shore" "LTideLots$Shore;" ∈ wsX11_lot := by decide +kernel
theorem i_X11_lot_X11 : ∀ w ∈ u_ws RX11 TX11 4, w ∈ wsX11_lot := by decide +kernel
theorem k_X11_lot_f71 : Cond.fieldLink RX11 71 "TideLots$Shore" "fisherCount" "I" ∈ wsX11_lot := by decide +kernel
theorem i_X11_lot_X7 : ∀ w ∈ u_ws RX7 TX7 17, w ∈ wsX11_lot := by decide +kernel
theorem k_X11_lot_f200 : Cond.fieldLink RX11 200 "TideLots$Shore" "lots" "[I" ∈ wsX11_lot := by decide +kernel
abbrev rX11_lot : Room := { frames := 6, cells := 1, slots := 6, locals := 82 }
noncomputable def b_X11_lot_15 (M : gMem)  : Option ((Nat ⊕ Int32) × gMem) :=
  some (.inl 2, M)
noncomputable def b_X11_lot_0 (M : gMem) (x0 : Nat) (x1 : Int32) : Option ((Nat ⊕ Int32) × gMem) :=
  (if x1 < 0 then b_X11_lot_15 M  else ck (mT M x0 = 10) <| dr ((mR M x0 1)) fun a2 => ck (mT M a2 = 7) <| (if x1 < (mI M a2 3) then bd (f_X7_drawLots M a2) fun r4 M4 => ck (mT M4 x0 = 10) <| dr ((mR M4 x0 1)) fun a6 => ck (mT M4 a6 = 7) <| dr ((mR M4 a6 11)) fun a8 => ck (mT M4 a8 = 20) <| ck (inb x1 (mL M4 a8)) <| some (.inr (mI M4 a8 x1.toNatClampNeg), M4) else b_X11_lot_15 M ))
noncomputable def f_X11_lot (M : gMem) (x0 : Nat) (x1 : Int32) : Option ((Nat ⊕ Int32) × gMem) :=
  b_X11_lot_0 M x0 x1
set_option maxHeartbeats 4000000 in
set_option maxRecDepth 100000 in
theorem t_X11_lot_15 (X2 : gX p s m args meth c D cy B (gSt2 Z B H0) RX11 cX11_lot wsX11_lot 2) (hr : meth.sig.returnType = (some .int)) (hlx : l.stackTraces = false) (hH : ∀ q : Nat, q < B → s.heap[q]? = H0[q]?) (hne : ∀ x ∈ c.exceptionTable.toList, False) (hH0 : H0.size = B) {Q : State → Prop} : ∀ (M : gMem)  (z : (Nat ⊕ Int32) × gMem), b_X11_lot_15 M  = some z → (fun (r : (Nat ⊕ Int32) × gMem) => Q = gMX below D cy B H0 args s 1 6 (gzI r.1) r.2) z → gGo p l e rX11_lot s m args below meth c D cy B H0 2 0 0 Q 15 [] [] M := by
  intro M  z hf hK
  unfold b_X11_lot_15 at hf
  have X := gX_w X2
  cases hf
  refine g_eqQ hK ?_
  exact g_throwS (text := "no such lot") X2 hlx hH hH0 hne (by decide) k_X11_lot_cl92 k_X11_lot_ini92 (by decide) k_X11_lot_hat96 kx_hxw96 kx_hg96_92 rfl dX11_lot_15 dX11_lot_18 dX11_lot_19 dX11_lot_21 dX11_lot_24 (Nat.le_of_ble_eq_true rfl) (Nat.le_of_ble_eq_true rfl) (by decide) (by decide) (by decide) (by decide)
set_option maxHeartbeats 4000000 in
set_option maxRecDepth 100000 in
theorem t_X11_lot_0 (X2 : gX p s m args meth c D cy B (gSt2 Z B H0) RX11 cX11_lot wsX11_lot 2) (hr : meth.sig.returnType = (some .int)) (hlx : l.stackTraces = false) (hH : ∀ q : Nat, q < B → s.heap[q]? = H0[q]?) (hne : ∀ x ∈ c.exceptionTable.toList, False) (hH0 : H0.size = B) {Q : State → Prop} : ∀ (M : gMem) (x0 : Nat) (x1 : Int32) (z : (Nat ⊕ Int32) × gMem), b_X11_lot_0 M x0 x1 = some z → (fun (r : (Nat ⊕ Int32) × gMem) => Q = gMX below D cy B H0 args s 1 6 (gzI r.1) r.2) z → gGo p l e rX11_lot s m args below meth c D cy B H0 2 0 0 Q 0 [(0, vR (some x0)), (1, vI x1)] [] M := by
  intro M x0 x1 z hf hK
  unfold b_X11_lot_0 at hf
  have X := gX_w X2
  refine g_iload_n X dX11_lot_0 rfl rfl ?_
  refine g_if_lt (tgt := 15) X dX11_lot_1 (by decide) (fun hc => ?_) (fun hc => ?_)
  · have hf := ife_t hc hf
    refine g_sub (lvsub_of _ _ [] rfl) ?_
    exact t_X11_lot_15 X2 hr hlx hH hne hH0 _  _ hf hK
  · have hf := ife_f hc hf
    refine g_iload_n X dX11_lot_4 rfl rfl ?_
    refine g_aload_n X dX11_lot_5 rfl rfl ?_
    obtain ⟨hT1, hf⟩ := ck_e hf
    refine g_get (ci := 9) (v := vR (mR M x0 1)) 1 X cdX11 i_X11_lot_X11 (by decide) k_X11_lot_f19 rfl dX11_lot_6 rfl hT1 rfl ?_
    obtain ⟨a2, ha2, hf⟩ := dr_e hf
    obtain ⟨hT3, hf⟩ := ck_e hf
    refine g_get (ci := 6) (v := vI (mI M a2 3)) 3 X cdX7 i_X11_lot_X7 (by decide) k_X11_lot_f71 rfl dX11_lot_9 ha2 hT3 rfl ?_
    refine g_icmp_lt (tgt := 25) X dX11_lot_12 (by decide) (fun hc => ?_) (fun hc => ?_)
    · have hf := ife_t hc hf
      refine g_aload_n X dX11_lot_25 rfl rfl ?_
      refine g_get (ci := 9) (v := vR (mR M x0 1)) 1 X cdX11 i_X11_lot_X11 (by decide) k_X11_lot_f19 rfl dX11_lot_26 rfl hT1 rfl ?_
      obtain ⟨r4, M4, hq4, hf⟩ := bd_e hf
      refine g_callV (ci := 6) (b := a2) (As := []) (st := []) (v := some (vI r4)) (M1 := M4) X (m_X7_drawLots l hq4) (cwV 0 X.2.2.1 gX11_lot_X7_drawLots rfl rfl rfl (by decide +kernel) ⟨Nat.le_of_ble_eq_true rfl, Nat.le_of_ble_eq_true rfl⟩) rfl rfl ha2 hT3 (by decide) rfl (Nat.le_of_ble_eq_true rfl) dX11_lot_29 ⟨by decide, by decide⟩ ?_
      refine g_pop X dX11_lot_32 rfl ?_
      refine g_aload_n X dX11_lot_33 rfl rfl ?_
      obtain ⟨hT5, hf⟩ := ck_e hf
      refine g_get (ci := 9) (v := vR (mR M4 x0 1)) 1 X cdX11 i_X11_lot_X11 (by decide) k_X11_lot_f19 rfl dX11_lot_34 rfl hT5 rfl ?_
      obtain ⟨a6, ha6, hf⟩ := dr_e hf
      obtain ⟨hT7, hf⟩ := ck_e hf
      refine g_get (ci := 6) (v := vR (mR M4 a6 11)) 11 X cdX7 i_X11_lot_X7 (by decide) k_X11_lot_f200 rfl dX11_lot_37 ha6 hT7 rfl ?_
      refine g_iload_n X dX11_lot_40 rfl rfl ?_
      obtain ⟨a8, ha8, hf⟩ := dr_e hf
      obtain ⟨hT9, hf⟩ := ck_e hf
      obtain ⟨hg10, hf⟩ := ck_e hf
      refine g_iald X dX11_lot_41 ha8 hT9 hg10 ?_
      cases hf
      refine g_eqQ hK ?_
      refine g_wide (k' := 1) (n' := 6) (by decide) (by decide) ?_
      refine g_xret ?_
      exact g_iret X hr dX11_lot_42
    · have hf := ife_f hc hf
      refine g_sub (lvsub_of _ _ [] rfl) ?_
      exact t_X11_lot_15 X2 hr hlx hH hne hH0 _  _ hf hK
set_option maxHeartbeats 4000000 in
set_option maxRecDepth 100000 in
theorem m_X11_lot (l : Launch) (hlx : l.stackTraces = false) {D : va_G} {cy : Nat → ClassId} {B : Nat} {H0 : Heap} {Z : Nat → Nat} {M M1 : gMem} {x0 : Nat} {x1 : Int32} {r : (Nat ⊕ Int32)} (hH0 : H0.size = B) (hf : f_X11_lot M x0 x1 = some (r, M1)) : vx_Met l yX11_lot wsX11_lot rX11_lot (va_Pc (Value.ref x0 :: List.map gv [vI x1]) (gPre D cy B H0 (gSt2 Z B H0) M)) (gQX D cy B H0 (gzI r) M1) (gXC D cy B H0 (gzI r) M1) 1 6 (gA B) := by
  refine vx_ofW (cc := cX11_lot) (maxL := 2) (ret := (some .int)) (by decide) rfl ?_
  intro p e s m args below meth c s₁ Bd hml hne hv
  obtain ⟨rfl, hW, hKK, hFs⟩ := hv
  have X2 : gX p s m _ meth c D cy B (gSt2 Z B H0) RX11 cX11_lot wsX11_lot 2 := ⟨Bd.exec, Bd.bytes, atoms_spec (ws := wsX11_lot) Bd.pre, findClass_of_methodNamed Bd.named, hml, hKK, by rw [hW.1]; exact hW.2.1, Bd.notSynchronized, hFs⟩
  have hr := Bd.returns
  have hH : ∀ q : Nat, q < B → s.heap[q]? = H0[q]? := hW.2.2.1
  have hl := lv_entry ([.ref x0, .int x1]) (n := 2) (Nat.le_of_ble_eq_true rfl)
  show W p l e rX11_lot s m _ below meth c s.heap [] 0 0 _ (entryFrame m ([.ref x0, .int x1] : List Value).toArray 2)
  rw [lg_entry_eq]
  generalize (lg_sl ([.ref x0, .int x1]) ++ List.replicate (2 - (lg_sl ([.ref x0, .int x1])).length) Slot.unset).toArray = ls at hl ⊢
  have hl : lv_has ls 2 (List.map gq [(0, vR (some x0)), (1, vI x1)]) := hl
  exact t_X11_lot_0 X2 hr hlx hH hne hH0 _ _ _ _ hf rfl s.heap [] ls hW va_S.rf (lv_has_sub hl (lvsub_of _ _ [0, 1] rfl))
/-! ## TideLots.took(II)I -/
theorem dX11_took_0 : decode cX11_took 0 = .ok (.aload_n 0, 1) := by decide +kernel
theorem dX11_took_1 : decode cX11_took 1 = .ok (.iload_n 1, 1) := by decide +kernel
theorem dX11_took_2 : decode cX11_took 2 = .ok (.invokevirtual 97, 3) := by decide +kernel
theorem dX11_took_5 : decode cX11_took 5 = .ok (.aload_n 0, 1) := by decide +kernel
theorem dX11_took_6 : decode cX11_took 6 = .ok (.iload_n 2, 1) := by decide +kernel
theorem dX11_took_7 : decode cX11_took 7 = .ok (.invokevirtual 122, 3) := by decide +kernel
theorem dX11_took_10 : decode cX11_took 10 = .ok (.aload_n 0, 1) := by decide +kernel
theorem dX11_took_11 : decode cX11_took 11 = .ok (.getfield 19, 3) := by decide +kernel
theorem dX11_took_14 : decode cX11_took 14 = .ok (.getfield 125, 3) := by decide +kernel
theorem dX11_took_17 : decode cX11_took 17 = .ok (.iload_n 2, 1) := by decide +kernel
theorem dX11_took_18 : decode cX11_took 18 = .ok (.aaload, 1) := by decide +kernel
theorem dX11_took_19 : decode cX11_took 19 = .ok (.getfield 203, 3) := by decide +kernel
theorem dX11_took_22 : decode cX11_took 22 = .ok (.iload_n 1, 1) := by decide +kernel
theorem dX11_took_23 : decode cX11_took 23 = .ok (.iaload, 1) := by decide +kernel
theorem dX11_took_24 : decode cX11_took 24 = .ok (.ireturn, 1) := by decide +kernel
set_option maxRecDepth 20000 in
theorem ggX11_took_X11_checkGround : GoodIn wsX11_took wsX11_checkGround := goodIn_ca (goodIn_r _ [8, 9, 10, 1, 11, 17, 18, 19, 20, 21, 22, 23, 24, 25, 26, 27, 28, 29, 30, 31, 32, 33, 34, 35, 36, 37] (by decide +kernel) (by decide +kernel)) (goodIn_sub (fun _ h => List.mem_cons_of_mem _ (List.mem_append_right _ h)) (by decide +kernel))
set_option maxRecDepth 20000 in
theorem gX11_took_X11_checkGround : GoodIn wsX11_took (wsV RX11 97 RX11 yX11_checkGround wsX11_checkGround) := goodIn_app (goodIn_of _ (by decide +kernel)) ggX11_took_X11_checkGround
set_option maxRecDepth 20000 in
theorem ggX11_took_X11_checkFisher : GoodIn wsX11_took wsX11_checkFisher := goodIn_ca (goodIn_r _ [15, 9, 10, 1, 16, 17, 18, 19, 20, 21, 22, 23, 24, 25, 26, 27, 28, 29, 30, 31, 32, 33, 34, 35, 36, 37] (by decide +kernel) (by decide +kernel)) (goodIn_sub (fun _ h => List.mem_cons_of_mem _ (List.mem_append_right _ h)) (by decide +kernel))
set_option maxRecDepth 20000 in
theorem gX11_took_X11_checkFisher : GoodIn wsX11_took (wsV RX11 122 RX11 yX11_checkFisher wsX11_checkFisher) := goodIn_app (goodIn_of _ (by decide +kernel)) ggX11_took_X11_checkFisher
theorem k_X11_took_f19 : Cond.fieldLink RX11 19 "TideLots" "shore" "LTideLots$Shore;" ∈ wsX11_took := by decide +kernel
theorem i_X11_took_X11 : ∀ w ∈ u_ws RX11 TX11 4, w ∈ wsX11_took := by decide +kernel
theorem k_X11_took_f125 : Cond.fieldLink RX11 125 "TideLots$Shore" "fishers" "[LTideLots$Fisher;" ∈ wsX11_took := by decide +kernel
theorem i_X11_took_X7 : ∀ w ∈ u_ws RX7 TX7 17, w ∈ wsX11_took := by decide +kernel
theorem k_X11_took_f203 : Cond.fieldLink RX11 203 "TideLots$Fisher" "took" "[I" ∈ wsX11_took := by decide +kernel
theorem i_X11_took_X1 : ∀ w ∈ u_ws RX1 TX1 11, w ∈ wsX11_took := by decide +kernel
abbrev rX11_took : Room := { frames := 7, cells := 2, slots := 12, locals := 103 }
noncomputable def b_X11_took_0 (M : gMem) (x0 : Nat) (x1 : Int32) (x2 : Int32) : Option ((Nat ⊕ Int32) × gMem) :=
  ck (mT M x0 = 10) <| bx (f_X11_checkGround M x0 x1) (fun e1 M1 => some (.inl e1, M1)) fun _ M1 => ck (mT M1 x0 = 10) <| bx (f_X11_checkFisher M1 x0 x2) (fun e3 M3 => some (.inl e3, M3)) fun _ M3 => ck (mT M3 x0 = 10) <| dr ((mR M3 x0 1)) fun a6 => ck (mT M3 a6 = 7) <| dr ((mR M3 a6 7)) fun a8 => ck (mT M3 a8 = 24) <| ck (inb x2 (mL M3 a8)) <| dr ((mR M3 a8 x2.toNatClampNeg)) fun a11 => ck (mT M3 a11 = 1) <| dr ((mR M3 a11 10)) fun a13 => ck (mT M3 a13 = 20) <| ck (inb x1 (mL M3 a13)) <| some (.inr (mI M3 a13 x1.toNatClampNeg), M3)
noncomputable def f_X11_took (M : gMem) (x0 : Nat) (x1 : Int32) (x2 : Int32) : Option ((Nat ⊕ Int32) × gMem) :=
  b_X11_took_0 M x0 x1 x2
set_option maxHeartbeats 4000000 in
set_option maxRecDepth 100000 in
theorem t_X11_took_0 (X2 : gX p s m args meth c D cy B (gSt2 Z B H0) RX11 cX11_took wsX11_took 3) (hr : meth.sig.returnType = (some .int)) (hlx : l.stackTraces = false) (hH : ∀ q : Nat, q < B → s.heap[q]? = H0[q]?) (hne : ∀ x ∈ c.exceptionTable.toList, False) (hH0 : H0.size = B) {Q : State → Prop} : ∀ (M : gMem) (x0 : Nat) (x1 : Int32) (x2 : Int32) (z : (Nat ⊕ Int32) × gMem), b_X11_took_0 M x0 x1 x2 = some z → (fun (r : (Nat ⊕ Int32) × gMem) => Q = gMX below D cy B H0 args s 2 12 (gzI r.1) r.2) z → gGo p l e rX11_took s m args below meth c D cy B H0 3 0 0 Q 0 [(0, vR (some x0)), (1, vI x1), (2, vI x2)] [] M := by
  intro M x0 x1 x2 z hf hK
  unfold b_X11_took_0 at hf
  have X := gX_w X2
  refine g_aload_n X dX11_took_0 rfl rfl ?_
  refine g_iload_n X dX11_took_1 rfl rfl ?_
  obtain ⟨hT2, hf⟩ := ck_e hf
  rcases bx_e hf with ⟨e1, M1, hq1, hf⟩ | ⟨r1, M1, hq1, hf⟩
  · cases hf
    refine g_eqQ hK ?_
    exact g_callTV (ci := 9) (b := x0) (As := [vI x1]) (st := []) (M1 := M1) X2 hne (m_X11_checkGround l hlx hH0 hq1) (cwV 1 X.2.2.1 gX11_took_X11_checkGround rfl rfl rfl (by decide +kernel) ⟨Nat.le_of_ble_eq_true rfl, Nat.le_of_ble_eq_true rfl⟩) rfl rfl rfl hT2 (by decide) rfl (Nat.le_of_ble_eq_true rfl) dX11_took_2 ⟨(by decide), (by decide)⟩ (by decide) (by decide)
  refine g_callXV (ci := 9) (b := x0) (As := [vI x1]) (st := []) (v := none) (M1 := M1) X2 (m_X11_checkGround l hlx hH0 hq1) (cwV 1 X.2.2.1 gX11_took_X11_checkGround rfl rfl rfl (by decide +kernel) ⟨Nat.le_of_ble_eq_true rfl, Nat.le_of_ble_eq_true rfl⟩) rfl rfl rfl hT2 (by decide) rfl (Nat.le_of_ble_eq_true rfl) dX11_took_2 ⟨(by decide), (by decide)⟩ ?_
  refine g_aload_n X dX11_took_5 rfl rfl ?_
  refine g_iload_n X dX11_took_6 rfl rfl ?_
  obtain ⟨hT4, hf⟩ := ck_e hf
  rcases bx_e hf with ⟨e3, M3, hq3, hf⟩ | ⟨r3, M3, hq3, hf⟩
  · cases hf
    refine g_eqQ hK ?_
    exact g_callTV (ci := 9) (b := x0) (As := [vI x2]) (st := []) (M1 := M3) X2 hne (m_X11_checkFisher l hlx hH0 hq3) (cwV 1 X.2.2.1 gX11_took_X11_checkFisher rfl rfl rfl (by decide +kernel) ⟨Nat.le_of_ble_eq_true rfl, Nat.le_of_ble_eq_true rfl⟩) rfl rfl rfl hT4 (by decide) rfl (Nat.le_of_ble_eq_true rfl) dX11_took_7 ⟨(by decide), (by decide)⟩ (by decide) (by decide)
  refine g_callXV (ci := 9) (b := x0) (As := [vI x2]) (st := []) (v := none) (M1 := M3) X2 (m_X11_checkFisher l hlx hH0 hq3) (cwV 1 X.2.2.1 gX11_took_X11_checkFisher rfl rfl rfl (by decide +kernel) ⟨Nat.le_of_ble_eq_true rfl, Nat.le_of_ble_eq_true rfl⟩) rfl rfl rfl hT4 (by decide) rfl (Nat.le_of_ble_eq_true rfl) dX11_took_7 ⟨(by decide), (by decide)⟩ ?_
  refine g_aload_n X dX11_took_10 rfl rfl ?_
  obtain ⟨hT5, hf⟩ := ck_e hf
  refine g_get (ci := 9) (v := vR (mR M3 x0 1)) 1 X cdX11 i_X11_took_X11 (by decide) k_X11_took_f19 rfl dX11_took_11 rfl hT5 rfl ?_
  obtain ⟨a6, ha6, hf⟩ := dr_e hf
  obtain ⟨hT7, hf⟩ := ck_e hf
  refine g_get (ci := 6) (v := vR (mR M3 a6 7)) 7 X cdX7 i_X11_took_X7 (by decide) k_X11_took_f125 rfl dX11_took_14 ha6 hT7 rfl ?_
  refine g_iload_n X dX11_took_17 rfl rfl ?_
  obtain ⟨a8, ha8, hf⟩ := dr_e hf
  obtain ⟨hT9, hf⟩ := ck_e hf
  obtain ⟨hg10, hf⟩ := ck_e hf
  refine g_aald (t0 := 4) X dX11_took_18 ha8 hT9 (by decide) rfl hg10 ?_
  obtain ⟨a11, ha11, hf⟩ := dr_e hf
  obtain ⟨hT12, hf⟩ := ck_e hf
  refine g_get (ci := 0) (v := vR (mR M3 a11 10)) 10 X cdX1 i_X11_took_X1 (by decide) k_X11_took_f203 rfl dX11_took_19 ha11 hT12 rfl ?_
  refine g_iload_n X dX11_took_22 rfl rfl ?_
  obtain ⟨a13, ha13, hf⟩ := dr_e hf
  obtain ⟨hT14, hf⟩ := ck_e hf
  obtain ⟨hg15, hf⟩ := ck_e hf
  refine g_iald X dX11_took_23 ha13 hT14 hg15 ?_
  cases hf
  refine g_eqQ hK ?_
  refine g_xret ?_
  exact g_iret X hr dX11_took_24
set_option maxHeartbeats 4000000 in
set_option maxRecDepth 100000 in
theorem m_X11_took (l : Launch) (hlx : l.stackTraces = false) {D : va_G} {cy : Nat → ClassId} {B : Nat} {H0 : Heap} {Z : Nat → Nat} {M M1 : gMem} {x0 : Nat} {x1 : Int32} {x2 : Int32} {r : (Nat ⊕ Int32)} (hH0 : H0.size = B) (hf : f_X11_took M x0 x1 x2 = some (r, M1)) : vx_Met l yX11_took wsX11_took rX11_took (va_Pc (Value.ref x0 :: List.map gv [vI x1, vI x2]) (gPre D cy B H0 (gSt2 Z B H0) M)) (gQX D cy B H0 (gzI r) M1) (gXC D cy B H0 (gzI r) M1) 2 12 (gA B) := by
  refine vx_ofW (cc := cX11_took) (maxL := 3) (ret := (some .int)) (by decide) rfl ?_
  intro p e s m args below meth c s₁ Bd hml hne hv
  obtain ⟨rfl, hW, hKK, hFs⟩ := hv
  have X2 : gX p s m _ meth c D cy B (gSt2 Z B H0) RX11 cX11_took wsX11_took 3 := ⟨Bd.exec, Bd.bytes, atoms_spec (ws := wsX11_took) Bd.pre, findClass_of_methodNamed Bd.named, hml, hKK, by rw [hW.1]; exact hW.2.1, Bd.notSynchronized, hFs⟩
  have hr := Bd.returns
  have hH : ∀ q : Nat, q < B → s.heap[q]? = H0[q]? := hW.2.2.1
  have hl := lv_entry ([.ref x0, .int x1, .int x2]) (n := 3) (Nat.le_of_ble_eq_true rfl)
  show W p l e rX11_took s m _ below meth c s.heap [] 0 0 _ (entryFrame m ([.ref x0, .int x1, .int x2] : List Value).toArray 3)
  rw [lg_entry_eq]
  generalize (lg_sl ([.ref x0, .int x1, .int x2]) ++ List.replicate (3 - (lg_sl ([.ref x0, .int x1, .int x2])).length) Slot.unset).toArray = ls at hl ⊢
  have hl : lv_has ls 3 (List.map gq [(0, vR (some x0)), (1, vI x1), (2, vI x2)]) := hl
  exact t_X11_took_0 X2 hr hlx hH hne hH0 _ _ _ _ _ hf rfl s.heap [] ls hW va_S.rf (lv_has_sub hl (lvsub_of _ _ [0, 1, 2] rfl))
/-! ## TideLots.blame(I)I -/
theorem dX11_blame_0 : decode cX11_blame 0 = .ok (.aload_n 0, 1) := by decide +kernel
theorem dX11_blame_1 : decode cX11_blame 1 = .ok (.iload_n 1, 1) := by decide +kernel
theorem dX11_blame_2 : decode cX11_blame 2 = .ok (.invokevirtual 97, 3) := by decide +kernel
theorem dX11_blame_5 : decode cX11_blame 5 = .ok (.iconst (-1), 1) := by decide +kernel
theorem dX11_blame_6 : decode cX11_blame 6 = .ok (.istore_n 2, 1) := by decide +kernel
theorem dX11_blame_7 : decode cX11_blame 7 = .ok (.iconst 0, 1) := by decide +kernel
theorem dX11_blame_8 : decode cX11_blame 8 = .ok (.istore_n 3, 1) := by decide +kernel
theorem dX11_blame_9 : decode cX11_blame 9 = .ok (.iconst 0, 1) := by decide +kernel
theorem dX11_blame_10 : decode cX11_blame 10 = .ok (.istore 4, 2) := by decide +kernel
theorem dX11_blame_12 : decode cX11_blame 12 = .ok (.iload 4, 2) := by decide +kernel
theorem dX11_blame_14 : decode cX11_blame 14 = .ok (.aload_n 0, 1) := by decide +kernel
theorem dX11_blame_15 : decode cX11_blame 15 = .ok (.getfield 19, 3) := by decide +kernel
theorem dX11_blame_18 : decode cX11_blame 18 = .ok (.getfield 71, 3) := by decide +kernel
theorem dX11_blame_21 : decode cX11_blame 21 = .ok (.if_icmp .ge 38, 3) := by decide +kernel
theorem dX11_blame_24 : decode cX11_blame 24 = .ok (.aload_n 0, 1) := by decide +kernel
theorem dX11_blame_25 : decode cX11_blame 25 = .ok (.getfield 19, 3) := by decide +kernel
theorem dX11_blame_28 : decode cX11_blame 28 = .ok (.getfield 125, 3) := by decide +kernel
theorem dX11_blame_31 : decode cX11_blame 31 = .ok (.iload 4, 2) := by decide +kernel
theorem dX11_blame_33 : decode cX11_blame 33 = .ok (.aaload, 1) := by decide +kernel
theorem dX11_blame_34 : decode cX11_blame 34 = .ok (.getfield 203, 3) := by decide +kernel
theorem dX11_blame_37 : decode cX11_blame 37 = .ok (.iload_n 1, 1) := by decide +kernel
theorem dX11_blame_38 : decode cX11_blame 38 = .ok (.iaload, 1) := by decide +kernel
theorem dX11_blame_39 : decode cX11_blame 39 = .ok (.istore 5, 2) := by decide +kernel
theorem dX11_blame_41 : decode cX11_blame 41 = .ok (.iload 5, 2) := by decide +kernel
theorem dX11_blame_43 : decode cX11_blame 43 = .ok (.iload_n 3, 1) := by decide +kernel
theorem dX11_blame_44 : decode cX11_blame 44 = .ok (.if_icmp .le 9, 3) := by decide +kernel
theorem dX11_blame_47 : decode cX11_blame 47 = .ok (.iload 5, 2) := by decide +kernel
theorem dX11_blame_49 : decode cX11_blame 49 = .ok (.istore_n 3, 1) := by decide +kernel
theorem dX11_blame_50 : decode cX11_blame 50 = .ok (.iload 4, 2) := by decide +kernel
theorem dX11_blame_52 : decode cX11_blame 52 = .ok (.istore_n 2, 1) := by decide +kernel
theorem dX11_blame_53 : decode cX11_blame 53 = .ok (.iinc 4 1, 3) := by decide +kernel
theorem dX11_blame_56 : decode cX11_blame 56 = .ok (.goto (-44), 3) := by decide +kernel
theorem dX11_blame_59 : decode cX11_blame 59 = .ok (.iload_n 2, 1) := by decide +kernel
theorem dX11_blame_60 : decode cX11_blame 60 = .ok (.ireturn, 1) := by decide +kernel
set_option maxRecDepth 20000 in
theorem ggX11_blame_X11_checkGround : GoodIn wsX11_blame wsX11_checkGround := goodIn_ca (goodIn_r _ [9, 10, 11, 1, 12, 13, 14, 15, 16, 17, 18, 19, 20, 21, 22, 23, 24, 25, 26, 27, 28, 29, 30, 31, 32, 33] (by decide +kernel) (by decide +kernel)) (goodIn_sub (fun _ h => List.mem_cons_of_mem _ (List.mem_append_right _ h)) (by decide +kernel))
set_option maxRecDepth 20000 in
theorem gX11_blame_X11_checkGround : GoodIn wsX11_blame (wsV RX11 97 RX11 yX11_checkGround wsX11_checkGround) := goodIn_app (goodIn_of _ (by decide +kernel)) ggX11_blame_X11_checkGround
theorem k_X11_blame_f19 : Cond.fieldLink RX11 19 "TideLots" "shore" "LTideLots$Shore;" ∈ wsX11_blame := by decide +kernel
theorem i_X11_blame_X11 : ∀ w ∈ u_ws RX11 TX11 4, w ∈ wsX11_blame := by decide +kernel
theorem k_X11_blame_f71 : Cond.fieldLink RX11 71 "TideLots$Shore" "fisherCount" "I" ∈ wsX11_blame := by decide +kernel
theorem i_X11_blame_X7 : ∀ w ∈ u_ws RX7 TX7 17, w ∈ wsX11_blame := by decide +kernel
theorem k_X11_blame_f125 : Cond.fieldLink RX11 125 "TideLots$Shore" "fishers" "[LTideLots$Fisher;" ∈ wsX11_blame := by decide +kernel
theorem k_X11_blame_f203 : Cond.fieldLink RX11 203 "TideLots$Fisher" "took" "[I" ∈ wsX11_blame := by decide +kernel
theorem i_X11_blame_X1 : ∀ w ∈ u_ws RX1 TX1 11, w ∈ wsX11_blame := by decide +kernel
abbrev rX11_blame : Room := { frames := 7, cells := 1, slots := 6, locals := 103 }
noncomputable def b_X11_blame_53 (M : gMem) (x0 : Nat) (x1 : Int32) (x2 : Int32) (x3 : Int32) (x4 : Int32) : Option ((gMem × Int32 × Int32 × Int32) ⊕ ((Nat ⊕ Int32) × gMem)) :=
  some (.inl (M, x2, x3, (x4 + (1 : Int32))))
noncomputable def bb_X11_blame_12 (M : gMem) (x0 : Nat) (x1 : Int32) (x2 : Int32) (x3 : Int32) (x4 : Int32) : Option ((gMem × Int32 × Int32 × Int32) ⊕ ((Nat ⊕ Int32) × gMem)) :=
  ck (mT M x0 = 10) <| dr ((mR M x0 1)) fun a2 => ck (mT M a2 = 7) <| (if (mI M a2 3) ≤ x4 then oI (some (.inr x2, M)) else dr ((mR M a2 7)) fun a5 => ck (mT M a5 = 24) <| ck (inb x4 (mL M a5)) <| dr ((mR M a5 x4.toNatClampNeg)) fun a8 => ck (mT M a8 = 1) <| dr ((mR M a8 10)) fun a10 => ck (mT M a10 = 20) <| ck (inb x1 (mL M a10)) <| (if (mI M a10 x1.toNatClampNeg) ≤ x3 then b_X11_blame_53 M x0 x1 x2 x3 x4 else b_X11_blame_53 M x0 x1 x4 ((mI M a10 x1.toNatClampNeg)) x4))
noncomputable def lp_X11_blame_12 (M : gMem) (x0 : Nat) (x1 : Int32) (x2 : Int32) (x3 : Int32) (x4 : Int32) : Option ((Nat ⊕ Int32) × gMem) :=
  lp (fun (q : gMem × Int32 × Int32 × Int32) => bb_X11_blame_12 q.1 x0 x1 q.2.1 q.2.2.1 q.2.2.2) (M, x2, x3, x4)
noncomputable def b_X11_blame_0 (M : gMem) (x0 : Nat) (x1 : Int32) : Option ((Nat ⊕ Int32) × gMem) :=
  ck (mT M x0 = 10) <| bx (f_X11_checkGround M x0 x1) (fun e13 M13 => some (.inl e13, M13)) fun _ M13 => lp_X11_blame_12 M13 x0 x1 ((-1 : Int32)) ((0 : Int32)) ((0 : Int32))
noncomputable def f_X11_blame (M : gMem) (x0 : Nat) (x1 : Int32) : Option ((Nat ⊕ Int32) × gMem) :=
  b_X11_blame_0 M x0 x1
set_option maxHeartbeats 4000000 in
set_option maxRecDepth 100000 in
theorem t_X11_blame_53 (X2 : gX p s m args meth c D cy B (gSt2 Z B H0) RX11 cX11_blame wsX11_blame 6) (hr : meth.sig.returnType = (some .int)) (hlx : l.stackTraces = false) (hH : ∀ q : Nat, q < B → s.heap[q]? = H0[q]?) (hne : ∀ x ∈ c.exceptionTable.toList, False) (hH0 : H0.size = B) {Q : State → Prop} : ∀ (M : gMem) (x0 : Nat) (x1 : Int32) (x2 : Int32) (x3 : Int32) (x4 : Int32) (z : (gMem × Int32 × Int32 × Int32) ⊕ ((Nat ⊕ Int32) × gMem)), b_X11_blame_53 M x0 x1 x2 x3 x4 = some z → (Sum.elim (fun (q : gMem × Int32 × Int32 × Int32) => gGo p l e rX11_blame s m args below meth c D cy B H0 6 1 6 Q 12 [(0, vR (some x0)), (1, vI x1), (2, vI q.2.1), (3, vI q.2.2.1), (4, vI q.2.2.2)] [] q.1) (fun (r : (Nat ⊕ Int32) × gMem) => Q = gMX below D cy B H0 args s 1 6 (gzI r.1) r.2)) z → gGo p l e rX11_blame s m args below meth c D cy B H0 6 1 6 Q 53 [(0, vR (some x0)), (1, vI x1), (2, vI x2), (3, vI x3), (4, vI x4)] [] M := by
  intro M x0 x1 x2 x3 x4 z hf hK
  unfold b_X11_blame_53 at hf
  have X := gX_w X2
  refine g_iinc (v := (1 : Int32)) (lv' := [(4, vI (x4 + (1 : Int32))), (0, vR (some x0)), (1, vI x1), (2, vI x2), (3, vI x3)]) X dX11_blame_53 rfl (by decide) (by decide) rfl ?_
  refine g_goto (tgt := 12) X dX11_blame_56 (by decide) ?_
  cases hf
  refine g_sub (lvsub_of _ _ [1, 2, 3, 4, 0] rfl) ?_
  exact hK
set_option maxHeartbeats 4000000 in
set_option maxRecDepth 100000 in
theorem tb_X11_blame_12 (X2 : gX p s m args meth c D cy B (gSt2 Z B H0) RX11 cX11_blame wsX11_blame 6) (hr : meth.sig.returnType = (some .int)) (hlx : l.stackTraces = false) (hH : ∀ q : Nat, q < B → s.heap[q]? = H0[q]?) (hne : ∀ x ∈ c.exceptionTable.toList, False) (hH0 : H0.size = B) {Q : State → Prop} : ∀ (M : gMem) (x0 : Nat) (x1 : Int32) (x2 : Int32) (x3 : Int32) (x4 : Int32) (z : (gMem × Int32 × Int32 × Int32) ⊕ ((Nat ⊕ Int32) × gMem)), bb_X11_blame_12 M x0 x1 x2 x3 x4 = some z → (Sum.elim (fun (q : gMem × Int32 × Int32 × Int32) => gGo p l e rX11_blame s m args below meth c D cy B H0 6 1 6 Q 12 [(0, vR (some x0)), (1, vI x1), (2, vI q.2.1), (3, vI q.2.2.1), (4, vI q.2.2.2)] [] q.1) (fun (r : (Nat ⊕ Int32) × gMem) => Q = gMX below D cy B H0 args s 1 6 (gzI r.1) r.2)) z → gGo p l e rX11_blame s m args below meth c D cy B H0 6 1 6 Q 12 [(0, vR (some x0)), (1, vI x1), (2, vI x2), (3, vI x3), (4, vI x4)] [] M := by
  intro M x0 x1 x2 x3 x4 z hf hK
  unfold bb_X11_blame_12 at hf
  have X := gX_w X2
  refine g_iload X dX11_blame_12 rfl ?_
  refine g_aload_n X dX11_blame_14 rfl rfl ?_
  obtain ⟨hT1, hf⟩ := ck_e hf
  refine g_get (ci := 9) (v := vR (mR M x0 1)) 1 X cdX11 i_X11_blame_X11 (by decide) k_X11_blame_f19 rfl dX11_blame_15 rfl hT1 rfl ?_
  obtain ⟨a2, ha2, hf⟩ := dr_e hf
  obtain ⟨hT3, hf⟩ := ck_e hf
  refine g_get (ci := 6) (v := vI (mI M a2 3)) 3 X cdX7 i_X11_blame_X7 (by decide) k_X11_blame_f71 rfl dX11_blame_18 ha2 hT3 rfl ?_
  refine g_icmp_ge (tgt := 59) X dX11_blame_21 (by decide) (fun hc => ?_) (fun hc => ?_)
  · have hf := ife_t hc hf
    refine g_iload_n X dX11_blame_59 rfl rfl ?_
    obtain ⟨w4, hw4, hz4⟩ := oI_e hf
    subst hz4
    have hf := hw4
    cases hf
    refine g_eqQ hK ?_
    refine g_xret ?_
    exact g_iret X hr dX11_blame_60
  · have hf := ife_f hc hf
    refine g_aload_n X dX11_blame_24 rfl rfl ?_
    refine g_get (ci := 9) (v := vR (mR M x0 1)) 1 X cdX11 i_X11_blame_X11 (by decide) k_X11_blame_f19 rfl dX11_blame_25 rfl hT1 rfl ?_
    refine g_get (ci := 6) (v := vR (mR M a2 7)) 7 X cdX7 i_X11_blame_X7 (by decide) k_X11_blame_f125 rfl dX11_blame_28 ha2 hT3 rfl ?_
    refine g_iload X dX11_blame_31 rfl ?_
    obtain ⟨a5, ha5, hf⟩ := dr_e hf
    obtain ⟨hT6, hf⟩ := ck_e hf
    obtain ⟨hg7, hf⟩ := ck_e hf
    refine g_aald (t0 := 4) X dX11_blame_33 ha5 hT6 (by decide) rfl hg7 ?_
    obtain ⟨a8, ha8, hf⟩ := dr_e hf
    obtain ⟨hT9, hf⟩ := ck_e hf
    refine g_get (ci := 0) (v := vR (mR M a8 10)) 10 X cdX1 i_X11_blame_X1 (by decide) k_X11_blame_f203 rfl dX11_blame_34 ha8 hT9 rfl ?_
    refine g_iload_n X dX11_blame_37 rfl rfl ?_
    obtain ⟨a10, ha10, hf⟩ := dr_e hf
    obtain ⟨hT11, hf⟩ := ck_e hf
    obtain ⟨hg12, hf⟩ := ck_e hf
    refine g_iald X dX11_blame_38 ha10 hT11 hg12 ?_
    refine g_istore (lv' := [(5, vI (mI M a10 x1.toNatClampNeg)), (0, vR (some x0)), (1, vI x1), (2, vI x2), (3, vI x3), (4, vI x4)]) X dX11_blame_39 (by decide) rfl ?_
    refine g_iload X dX11_blame_41 rfl ?_
    refine g_iload_n X dX11_blame_43 rfl rfl ?_
    refine g_icmp_le (tgt := 53) X dX11_blame_44 (by decide) (fun hc => ?_) (fun hc => ?_)
    · have hf := ife_t hc hf
      refine g_sub (lvsub_of _ _ [1, 2, 3, 4, 5] rfl) ?_
      exact t_X11_blame_53 X2 hr hlx hH hne hH0 _ _ _ _ _ _ _ hf hK
    · have hf := ife_f hc hf
      refine g_iload X dX11_blame_47 rfl ?_
      refine g_istore_n (lv' := [(3, vI (mI M a10 x1.toNatClampNeg)), (5, vI (mI M a10 x1.toNatClampNeg)), (0, vR (some x0)), (1, vI x1), (2, vI x2), (4, vI x4)]) X dX11_blame_49 rfl (by decide) rfl ?_
      refine g_iload X dX11_blame_50 rfl ?_
      refine g_istore_n (lv' := [(2, vI x4), (3, vI (mI M a10 x1.toNatClampNeg)), (5, vI (mI M a10 x1.toNatClampNeg)), (0, vR (some x0)), (1, vI x1), (4, vI x4)]) X dX11_blame_52 rfl (by decide) rfl ?_
      refine g_sub (lvsub_of _ _ [3, 4, 0, 1, 5] rfl) ?_
      exact t_X11_blame_53 X2 hr hlx hH hne hH0 _ _ _ _ _ _ _ hf hK
set_option maxHeartbeats 4000000 in
set_option maxRecDepth 100000 in
theorem tl_X11_blame_12 (X2 : gX p s m args meth c D cy B (gSt2 Z B H0) RX11 cX11_blame wsX11_blame 6) (hr : meth.sig.returnType = (some .int)) (hlx : l.stackTraces = false) (hH : ∀ q : Nat, q < B → s.heap[q]? = H0[q]?) (hne : ∀ x ∈ c.exceptionTable.toList, False) (hH0 : H0.size = B) {Q : State → Prop} : ∀ (M : gMem) (x0 : Nat) (x1 : Int32) (x2 : Int32) (x3 : Int32) (x4 : Int32) (z : (Nat ⊕ Int32) × gMem), lp_X11_blame_12 M x0 x1 x2 x3 x4 = some z → (fun (r : (Nat ⊕ Int32) × gMem) => Q = gMX below D cy B H0 args s 1 6 (gzI r.1) r.2) z → gGo p l e rX11_blame s m args below meth c D cy B H0 6 1 6 Q 12 [(0, vR (some x0)), (1, vI x1), (2, vI x2), (3, vI x3), (4, vI x4)] [] M := by
  intro M x0 x1 x2 x3 x4 z hf hK
  refine lp_ind (P := (fun (q : gMem × Int32 × Int32 × Int32) (z : (Nat ⊕ Int32) × gMem) => (fun (r : (Nat ⊕ Int32) × gMem) => Q = gMX below D cy B H0 args s 1 6 (gzI r.1) r.2) z → gGo p l e rX11_blame s m args below meth c D cy B H0 6 1 6 Q 12 [(0, vR (some x0)), (1, vI x1), (2, vI q.2.1), (3, vI q.2.2.1), (4, vI q.2.2.2)] [] q.1)) (fun q z hq => ?_) _ _ hf hK
  intro hK
  obtain ⟨w, hw, hm⟩ := hq
  refine tb_X11_blame_12 X2 hr hlx hH hne hH0 _ _ _ _ _ _ w hw ?_
  cases w with
  | inl a => exact hm hK
  | inr b => cases hm; exact hK
set_option maxHeartbeats 4000000 in
set_option maxRecDepth 100000 in
theorem t_X11_blame_0 (X2 : gX p s m args meth c D cy B (gSt2 Z B H0) RX11 cX11_blame wsX11_blame 6) (hr : meth.sig.returnType = (some .int)) (hlx : l.stackTraces = false) (hH : ∀ q : Nat, q < B → s.heap[q]? = H0[q]?) (hne : ∀ x ∈ c.exceptionTable.toList, False) (hH0 : H0.size = B) {Q : State → Prop} : ∀ (M : gMem) (x0 : Nat) (x1 : Int32) (z : (Nat ⊕ Int32) × gMem), b_X11_blame_0 M x0 x1 = some z → (fun (r : (Nat ⊕ Int32) × gMem) => Q = gMX below D cy B H0 args s 1 6 (gzI r.1) r.2) z → gGo p l e rX11_blame s m args below meth c D cy B H0 6 0 0 Q 0 [(0, vR (some x0)), (1, vI x1)] [] M := by
  intro M x0 x1 z hf hK
  unfold b_X11_blame_0 at hf
  have X := gX_w X2
  refine g_aload_n X dX11_blame_0 rfl rfl ?_
  refine g_iload_n X dX11_blame_1 rfl rfl ?_
  obtain ⟨hT14, hf⟩ := ck_e hf
  rcases bx_e hf with ⟨e13, M13, hq13, hf⟩ | ⟨r13, M13, hq13, hf⟩
  · cases hf
    refine g_eqQ hK ?_
    exact g_callTV (ci := 9) (b := x0) (As := [vI x1]) (st := []) (M1 := M13) X2 hne (m_X11_checkGround l hlx hH0 hq13) (cwV 1 X.2.2.1 gX11_blame_X11_checkGround rfl rfl rfl (by decide +kernel) ⟨Nat.le_of_ble_eq_true rfl, Nat.le_of_ble_eq_true rfl⟩) rfl rfl rfl hT14 (by decide) rfl (Nat.le_of_ble_eq_true rfl) dX11_blame_2 ⟨(by decide), (by decide)⟩ (by decide) (by decide)
  refine g_callXV (ci := 9) (b := x0) (As := [vI x1]) (st := []) (v := none) (M1 := M13) X2 (m_X11_checkGround l hlx hH0 hq13) (cwV 1 X.2.2.1 gX11_blame_X11_checkGround rfl rfl rfl (by decide +kernel) ⟨Nat.le_of_ble_eq_true rfl, Nat.le_of_ble_eq_true rfl⟩) rfl rfl rfl hT14 (by decide) rfl (Nat.le_of_ble_eq_true rfl) dX11_blame_2 ⟨(by decide), (by decide)⟩ ?_
  refine g_iconst (v := (-1 : Int32)) X dX11_blame_5 (by decide) ?_
  refine g_istore_n (lv' := [(2, vI (-1 : Int32)), (0, vR (some x0)), (1, vI x1)]) X dX11_blame_6 rfl (by decide) rfl ?_
  refine g_iconst (v := (0 : Int32)) X dX11_blame_7 (by decide) ?_
  refine g_istore_n (lv' := [(3, vI (0 : Int32)), (2, vI (-1 : Int32)), (0, vR (some x0)), (1, vI x1)]) X dX11_blame_8 rfl (by decide) rfl ?_
  refine g_iconst (v := (0 : Int32)) X dX11_blame_9 (by decide) ?_
  refine g_istore (lv' := [(4, vI (0 : Int32)), (3, vI (0 : Int32)), (2, vI (-1 : Int32)), (0, vR (some x0)), (1, vI x1)]) X dX11_blame_10 (by decide) rfl ?_
  refine g_sub (lvsub_of _ _ [3, 4, 2, 1, 0] rfl) ?_
  exact tl_X11_blame_12 X2 hr hlx hH hne hH0 _ _ _ _ _ _ _ hf hK
set_option maxHeartbeats 4000000 in
set_option maxRecDepth 100000 in
theorem m_X11_blame (l : Launch) (hlx : l.stackTraces = false) {D : va_G} {cy : Nat → ClassId} {B : Nat} {H0 : Heap} {Z : Nat → Nat} {M M1 : gMem} {x0 : Nat} {x1 : Int32} {r : (Nat ⊕ Int32)} (hH0 : H0.size = B) (hf : f_X11_blame M x0 x1 = some (r, M1)) : vx_Met l yX11_blame wsX11_blame rX11_blame (va_Pc (Value.ref x0 :: List.map gv [vI x1]) (gPre D cy B H0 (gSt2 Z B H0) M)) (gQX D cy B H0 (gzI r) M1) (gXC D cy B H0 (gzI r) M1) 1 6 (gA B) := by
  refine vx_ofW (cc := cX11_blame) (maxL := 6) (ret := (some .int)) (by decide) rfl ?_
  intro p e s m args below meth c s₁ Bd hml hne hv
  obtain ⟨rfl, hW, hKK, hFs⟩ := hv
  have X2 : gX p s m _ meth c D cy B (gSt2 Z B H0) RX11 cX11_blame wsX11_blame 6 := ⟨Bd.exec, Bd.bytes, atoms_spec (ws := wsX11_blame) Bd.pre, findClass_of_methodNamed Bd.named, hml, hKK, by rw [hW.1]; exact hW.2.1, Bd.notSynchronized, hFs⟩
  have hr := Bd.returns
  have hH : ∀ q : Nat, q < B → s.heap[q]? = H0[q]? := hW.2.2.1
  have hl := lv_entry ([.ref x0, .int x1]) (n := 6) (Nat.le_of_ble_eq_true rfl)
  show W p l e rX11_blame s m _ below meth c s.heap [] 0 0 _ (entryFrame m ([.ref x0, .int x1] : List Value).toArray 6)
  rw [lg_entry_eq]
  generalize (lg_sl ([.ref x0, .int x1]) ++ List.replicate (6 - (lg_sl ([.ref x0, .int x1])).length) Slot.unset).toArray = ls at hl ⊢
  have hl : lv_has ls 6 (List.map gq [(0, vR (some x0)), (1, vI x1)]) := hl
  exact t_X11_blame_0 X2 hr hlx hH hne hH0 _ _ _ _ hf rfl s.heap [] ls hW va_S.rf (lv_has_sub hl (lvsub_of _ _ [0, 1] rfl))
/-! ## TideLots.pass(I)I -/
theorem dX11_pass_0 : decode cX11_pass 0 = .ok (.iload_n 1, 1) := by decide +kernel
theorem dX11_pass_1 : decode cX11_pass 1 = .ok (.bipush 60, 2) := by decide +kernel
theorem dX11_pass_3 : decode cX11_pass 3 = .ok (.invokestatic 209, 3) := by decide +kernel
theorem dX11_pass_6 : decode cX11_pass 6 = .ok (.aload_n 0, 1) := by decide +kernel
theorem dX11_pass_7 : decode cX11_pass 7 = .ok (.getfield 19, 3) := by decide +kernel
theorem dX11_pass_10 : decode cX11_pass 10 = .ok (.iload_n 1, 1) := by decide +kernel
theorem dX11_pass_11 : decode cX11_pass 11 = .ok (.invokevirtual 213, 3) := by decide +kernel
theorem dX11_pass_14 : decode cX11_pass 14 = .ok (.ireturn, 1) := by decide +kernel
set_option maxRecDepth 20000 in
theorem ggX11_pass_X11_checkTides : GoodIn wsX11_pass wsX11_checkTides := goodIn_ca (goodIn_r _ [5, 6, 7] (by decide +kernel) (by decide +kernel)) (goodIn_sub (fun _ h => List.mem_cons_of_mem _ (List.mem_append_right _ h)) (by decide +kernel))
set_option maxRecDepth 20000 in
theorem gX11_pass_X11_checkTides : GoodIn wsX11_pass (va_wsS RX11 209 yX11_checkTides wsX11_checkTides) := goodIn_app (goodIn_of _ (by decide +kernel)) ggX11_pass_X11_checkTides
set_option maxRecDepth 20000 in
theorem ggX11_pass_X7_passTides : GoodIn wsX11_pass wsX7_passTides := goodIn_2 24 (goodIn_r _ [12, 13, 14, 15, 16, 17, 18, 19, 20, 21, 22, 23, 11, 24, 25, 26, 27, 28, 29, 30, 31, 32, 33, 34] (by decide +kernel) (by decide +kernel)) (goodIn_2 24 (goodIn_r _ [35, 36, 37, 38, 39, 40, 41, 42, 43, 44, 45, 46, 47, 48, 49, 50, 51, 52, 53, 54, 55, 56, 57, 58] (by decide +kernel) (by decide +kernel)) (goodIn_2 24 (goodIn_r _ [59, 60, 61, 62, 63, 64, 65, 66, 67, 68, 69, 70, 71, 72, 73, 74, 75, 76, 77, 78, 79, 80, 81, 82] (by decide +kernel) (by decide +kernel)) (goodIn_2 24 (goodIn_r _ [83, 84, 85, 86, 87, 88, 89, 90, 91, 92, 93, 94, 95, 96, 97, 98, 99, 100, 101, 102, 103, 104, 105, 106] (by decide +kernel) (by decide +kernel)) (goodIn_2 24 (goodIn_r _ [107, 108, 109, 110, 111, 112, 113, 114, 115, 116, 117, 118, 119, 120, 121, 122, 123, 124, 125, 126, 127, 128, 129, 130] (by decide +kernel) (by decide +kernel)) (goodIn_2 24 (goodIn_r _ [131, 132, 133, 134, 135, 136, 137, 138, 139, 140, 141, 142, 143, 144, 145, 146, 147, 148, 149, 150, 151, 152, 153, 154] (by decide +kernel) (by decide +kernel)) (goodIn_2 24 (goodIn_r _ [155, 156, 157, 158, 159, 160, 161, 166, 167, 168, 169, 170, 171, 172, 173, 174, 175, 176, 177, 178, 179, 180, 181, 182] (by decide +kernel) (by decide +kernel)) (goodIn_2 24 (goodIn_r _ [183, 184, 185, 186, 187, 188, 189, 190, 191, 192, 193, 194, 195, 196, 197, 198, 199, 200, 201, 202, 203, 204, 205, 206] (by decide +kernel) (by decide +kernel)) (goodIn_r _ [207, 208, 209, 210, 211, 212, 213] (by decide +kernel) (by decide +kernel)))))))))
set_option maxRecDepth 20000 in
theorem gX11_pass_X7_passTides : GoodIn wsX11_pass (wsV RX11 213 RX7 yX7_passTides wsX7_passTides) := goodIn_app (goodIn_of _ (by decide +kernel)) ggX11_pass_X7_passTides
theorem k_X11_pass_f19 : Cond.fieldLink RX11 19 "TideLots" "shore" "LTideLots$Shore;" ∈ wsX11_pass := by decide +kernel
theorem i_X11_pass_X11 : ∀ w ∈ u_ws RX11 TX11 4, w ∈ wsX11_pass := by decide +kernel
abbrev rX11_pass : Room := { frames := 7, cells := 1, slots := 6, locals := 141 }
noncomputable def b_X11_pass_0 (Z : Nat → Nat) (M : gMem) (x0 : Nat) (x1 : Int32) : Option ((Nat ⊕ Int32) × gMem) :=
  bx (f_X11_checkTides M x1 ((60 : Int32))) (fun e1 M1 => some (.inl e1, M1)) fun _ M1 => ck (mT M1 x0 = 10) <| dr ((mR M1 x0 1)) fun a4 => ck (mT M1 a4 = 7) <| bd (f_X7_passTides Z M1 a4 x1) fun r3 M3 => some (.inr r3, M3)
noncomputable def f_X11_pass (Z : Nat → Nat) (M : gMem) (x0 : Nat) (x1 : Int32) : Option ((Nat ⊕ Int32) × gMem) :=
  b_X11_pass_0 Z M x0 x1
set_option maxHeartbeats 4000000 in
set_option maxRecDepth 100000 in
theorem t_X11_pass_0 (X2 : gX p s m args meth c D cy B (gSt2 Z B H0) RX11 cX11_pass wsX11_pass 2) (hr : meth.sig.returnType = (some .int)) (hlx : l.stackTraces = false) (hH : ∀ q : Nat, q < B → s.heap[q]? = H0[q]?) (hne : ∀ x ∈ c.exceptionTable.toList, False) (hH0 : H0.size = B) {Q : State → Prop} : ∀ (M : gMem) (x0 : Nat) (x1 : Int32) (z : (Nat ⊕ Int32) × gMem), b_X11_pass_0 Z M x0 x1 = some z → (fun (r : (Nat ⊕ Int32) × gMem) => Q = gMX below D cy B H0 args s 1 6 (gzI r.1) r.2) z → gGo p l e rX11_pass s m args below meth c D cy B H0 2 0 0 Q 0 [(0, vR (some x0)), (1, vI x1)] [] M := by
  intro M x0 x1 z hf hK
  unfold b_X11_pass_0 at hf
  have X := gX_w X2
  refine g_iload_n X dX11_pass_0 rfl rfl ?_
  refine g_bipush (v := (60 : Int32)) X dX11_pass_1 (by decide) ?_
  rcases bx_e hf with ⟨e1, M1, hq1, hf⟩ | ⟨r1, M1, hq1, hf⟩
  · cases hf
    refine g_eqQ hK ?_
    exact g_callTS (As := [vI x1, vI (60 : Int32)]) (st := []) (M1 := M1) X2 hne (m_X11_checkTides l hlx hH0 hq1) (va_cwS 2 X.2.2.1 gX11_pass_X11_checkTides rfl rfl rfl (by decide +kernel) ⟨Nat.le_of_ble_eq_true rfl, Nat.le_of_ble_eq_true rfl⟩) rfl rfl (Nat.le_of_ble_eq_true rfl) dX11_pass_3 ⟨(by decide), (by decide)⟩ (by decide) (by decide)
  refine g_callXS (As := [vI x1, vI (60 : Int32)]) (st := []) (v := none) (M1 := M1) X2 (m_X11_checkTides l hlx hH0 hq1) (va_cwS 2 X.2.2.1 gX11_pass_X11_checkTides rfl rfl rfl (by decide +kernel) ⟨Nat.le_of_ble_eq_true rfl, Nat.le_of_ble_eq_true rfl⟩) rfl rfl (Nat.le_of_ble_eq_true rfl) dX11_pass_3 ⟨(by decide), (by decide)⟩ ?_
  refine g_aload_n X dX11_pass_6 rfl rfl ?_
  obtain ⟨hT2, hf⟩ := ck_e hf
  refine g_get (ci := 9) (v := vR (mR M1 x0 1)) 1 X cdX11 i_X11_pass_X11 (by decide) k_X11_pass_f19 rfl dX11_pass_7 rfl hT2 rfl ?_
  refine g_iload_n X dX11_pass_10 rfl rfl ?_
  obtain ⟨a4, ha4, hf⟩ := dr_e hf
  obtain ⟨hT5, hf⟩ := ck_e hf
  obtain ⟨r3, M3, hq3, hf⟩ := bd_e hf
  refine g_callV (ci := 6) (b := a4) (As := [vI x1]) (st := []) (v := some (vI r3)) (M1 := M3) X (m_X7_passTides l hq3) (cwV 1 X.2.2.1 gX11_pass_X7_passTides rfl rfl rfl (by decide +kernel) ⟨Nat.le_of_ble_eq_true rfl, Nat.le_of_ble_eq_true rfl⟩) rfl rfl ha4 hT5 (by decide) rfl (Nat.le_of_ble_eq_true rfl) dX11_pass_11 ⟨by decide, by decide⟩ ?_
  cases hf
  refine g_eqQ hK ?_
  refine g_xret ?_
  exact g_iret X hr dX11_pass_14
set_option maxHeartbeats 4000000 in
set_option maxRecDepth 100000 in
theorem m_X11_pass (l : Launch) (hlx : l.stackTraces = false) {D : va_G} {cy : Nat → ClassId} {B : Nat} {H0 : Heap} {Z : Nat → Nat} {M M1 : gMem} {x0 : Nat} {x1 : Int32} {r : (Nat ⊕ Int32)} (hH0 : H0.size = B) (hf : f_X11_pass Z M x0 x1 = some (r, M1)) : vx_Met l yX11_pass wsX11_pass rX11_pass (va_Pc (Value.ref x0 :: List.map gv [vI x1]) (gPre D cy B H0 (gSt2 Z B H0) M)) (gQX D cy B H0 (gzI r) M1) (gXC D cy B H0 (gzI r) M1) 1 6 (gA B) := by
  refine vx_ofW (cc := cX11_pass) (maxL := 2) (ret := (some .int)) (by decide) rfl ?_
  intro p e s m args below meth c s₁ Bd hml hne hv
  obtain ⟨rfl, hW, hKK, hFs⟩ := hv
  have X2 : gX p s m _ meth c D cy B (gSt2 Z B H0) RX11 cX11_pass wsX11_pass 2 := ⟨Bd.exec, Bd.bytes, atoms_spec (ws := wsX11_pass) Bd.pre, findClass_of_methodNamed Bd.named, hml, hKK, by rw [hW.1]; exact hW.2.1, Bd.notSynchronized, hFs⟩
  have hr := Bd.returns
  have hH : ∀ q : Nat, q < B → s.heap[q]? = H0[q]? := hW.2.2.1
  have hl := lv_entry ([.ref x0, .int x1]) (n := 2) (Nat.le_of_ble_eq_true rfl)
  show W p l e rX11_pass s m _ below meth c s.heap [] 0 0 _ (entryFrame m ([.ref x0, .int x1] : List Value).toArray 2)
  rw [lg_entry_eq]
  generalize (lg_sl ([.ref x0, .int x1]) ++ List.replicate (2 - (lg_sl ([.ref x0, .int x1])).length) Slot.unset).toArray = ls at hl ⊢
  have hl : lv_has ls 2 (List.map gq [(0, vR (some x0)), (1, vI x1)]) := hl
  exact t_X11_pass_0 X2 hr hlx hH hne hH0 _ _ _ _ hf rfl s.heap [] ls hW va_S.rf (lv_has_sub hl (lvsub_of _ _ [0, 1] rfl))
end
