section
variable {p : Program} {l : Launch} {e : Env} {s : State} {m : MethodId} {args : Array Value} {below : List Frame} {meth : Method} {c : Code} {D : va_G} {cy : Nat → ClassId} {B : Nat} {H0 : Heap} {Z : Nat → Nat}
/-! ## TideLots.foresee(II)I -/
theorem dX11_foresee_0 : decode cX11_foresee 0 = .ok (.iload_n 1, 1) := by decide +kernel
theorem dX11_foresee_1 : decode cX11_foresee 1 = .ok (.bipush 60, 2) := by decide +kernel
theorem dX11_foresee_3 : decode cX11_foresee 3 = .ok (.invokestatic 209, 3) := by decide +kernel
theorem dX11_foresee_6 : decode cX11_foresee 6 = .ok (.iload_n 2, 1) := by decide +kernel
theorem dX11_foresee_7 : decode cX11_foresee 7 = .ok (.ifCond .lt 8, 3) := by decide +kernel
theorem dX11_foresee_10 : decode cX11_foresee 10 = .ok (.iload_n 2, 1) := by decide +kernel
theorem dX11_foresee_11 : decode cX11_foresee 11 = .ok (.iconst 2, 1) := by decide +kernel
theorem dX11_foresee_12 : decode cX11_foresee 12 = .ok (.if_icmp .le 13, 3) := by decide +kernel
theorem dX11_foresee_15 : decode cX11_foresee 15 = .ok (.new 92, 3) := by decide +kernel
theorem dX11_foresee_18 : decode cX11_foresee 18 = .ok (.dup, 1) := by decide +kernel
theorem dX11_foresee_19 : decode cX11_foresee 19 = .ok (.ldc 217, 2) := by decide +kernel
theorem dX11_foresee_21 : decode cX11_foresee 21 = .ok (.invokespecial 96, 3) := by decide +kernel
theorem dX11_foresee_24 : decode cX11_foresee 24 = .ok (.athrow, 1) := by decide +kernel
theorem dX11_foresee_25 : decode cX11_foresee 25 = .ok (.aload_n 0, 1) := by decide +kernel
theorem dX11_foresee_26 : decode cX11_foresee 26 = .ok (.invokevirtual 219, 3) := by decide +kernel
theorem dX11_foresee_29 : decode cX11_foresee 29 = .ok (.astore_n 3, 1) := by decide +kernel
theorem dX11_foresee_30 : decode cX11_foresee 30 = .ok (.aload_n 3, 1) := by decide +kernel
theorem dX11_foresee_31 : decode cX11_foresee 31 = .ok (.iload_n 1, 1) := by decide +kernel
theorem dX11_foresee_32 : decode cX11_foresee 32 = .ok (.invokevirtual 213, 3) := by decide +kernel
theorem dX11_foresee_35 : decode cX11_foresee 35 = .ok (.pop, 1) := by decide +kernel
theorem dX11_foresee_36 : decode cX11_foresee 36 = .ok (.iload_n 2, 1) := by decide +kernel
theorem dX11_foresee_37 : decode cX11_foresee 37 = .ok (.lookupswitch 37 #[(0, 27), (1, 32)], 27) := by decide +kernel
theorem dX11_foresee_64 : decode cX11_foresee 64 = .ok (.aload_n 3, 1) := by decide +kernel
theorem dX11_foresee_65 : decode cX11_foresee 65 = .ok (.invokevirtual 83, 3) := by decide +kernel
theorem dX11_foresee_68 : decode cX11_foresee 68 = .ok (.ireturn, 1) := by decide +kernel
theorem dX11_foresee_69 : decode cX11_foresee 69 = .ok (.aload_n 3, 1) := by decide +kernel
theorem dX11_foresee_70 : decode cX11_foresee 70 = .ok (.invokevirtual 80, 3) := by decide +kernel
theorem dX11_foresee_73 : decode cX11_foresee 73 = .ok (.ireturn, 1) := by decide +kernel
theorem dX11_foresee_74 : decode cX11_foresee 74 = .ok (.aload_n 3, 1) := by decide +kernel
theorem dX11_foresee_75 : decode cX11_foresee 75 = .ok (.invokevirtual 206, 3) := by decide +kernel
theorem dX11_foresee_78 : decode cX11_foresee 78 = .ok (.ireturn, 1) := by decide +kernel
set_option maxRecDepth 20000 in
theorem ggX11_foresee_X11_checkTides : GoodIn wsX11_foresee wsX11_checkTides := goodIn_ca (goodIn_r _ [6, 7, 8] (by decide +kernel) (by decide +kernel)) (goodIn_sub (fun _ h => List.mem_cons_of_mem _ (List.mem_append_right _ h)) (by decide +kernel))
set_option maxRecDepth 20000 in
theorem gX11_foresee_X11_checkTides : GoodIn wsX11_foresee (va_wsS RX11 209 yX11_checkTides wsX11_checkTides) := goodIn_app (goodIn_of _ (by decide +kernel)) ggX11_foresee_X11_checkTides
set_option maxRecDepth 20000 in
theorem ggX11_foresee_X11_lookAhead : GoodIn wsX11_foresee wsX11_lookAhead := goodIn_2 24 (goodIn_r _ [12, 13, 14, 15, 16, 17, 18, 19, 20, 21, 22, 23, 24, 25, 26, 27, 28, 29, 30, 31, 32, 33, 34, 35] (by decide +kernel) (by decide +kernel)) (goodIn_2 24 (goodIn_r _ [36, 37, 38, 39, 40, 41, 42, 43, 44, 45, 46, 47, 48, 49, 50, 51, 52, 53, 54, 55, 56, 57, 58, 59] (by decide +kernel) (by decide +kernel)) (goodIn_2 24 (goodIn_r _ [60, 61, 62, 63, 64, 65, 66, 67, 68, 69, 70, 71, 72, 73, 74, 75, 76, 77, 78, 79, 80, 81, 82, 83] (by decide +kernel) (by decide +kernel)) (goodIn_2 24 (goodIn_r _ [84, 85, 228, 229, 230, 231, 232, 233, 234, 235, 236, 237, 238, 239, 240, 241, 242, 243, 244, 245, 246, 247, 248, 249] (by decide +kernel) (by decide +kernel)) (goodIn_2 24 (goodIn_r _ [250, 251, 252, 253, 254, 255, 256, 257, 258, 259, 260, 261, 262, 263, 264, 265, 266, 267, 268, 269, 270, 271, 272, 273] (by decide +kernel) (by decide +kernel)) (goodIn_r _ [274, 275, 276, 277, 278, 279] (by decide +kernel) (by decide +kernel))))))
set_option maxRecDepth 20000 in
theorem gX11_foresee_X11_lookAhead : GoodIn wsX11_foresee (wsV RX11 219 RX11 yX11_lookAhead wsX11_lookAhead) := goodIn_app (goodIn_of _ (by decide +kernel)) ggX11_foresee_X11_lookAhead
set_option maxRecDepth 20000 in
theorem ggX11_foresee_X7_passTides : GoodIn wsX11_foresee wsX7_passTides := goodIn_2 24 (goodIn_r _ [89, 21, 23, 90, 25, 29, 22, 26, 20, 91, 92, 93, 18, 94, 95, 96, 97, 98, 99, 100, 101, 102, 103, 104] (by decide +kernel) (by decide +kernel)) (goodIn_2 24 (goodIn_r _ [105, 24, 28, 106, 107, 108, 109, 110, 30, 111, 112, 113, 81, 114, 83, 115, 84, 116, 85, 117, 118, 119, 120, 121] (by decide +kernel) (by decide +kernel)) (goodIn_2 24 (goodIn_r _ [122, 123, 124, 125, 126, 127, 128, 129, 130, 131, 132, 133, 134, 135, 136, 137, 138, 34, 139, 39, 140, 141, 142, 143] (by decide +kernel) (by decide +kernel)) (goodIn_2 24 (goodIn_r _ [144, 145, 146, 147, 148, 149, 150, 151, 152, 153, 27, 154, 155, 156, 157, 158, 159, 160, 68, 161, 73, 77, 162, 163] (by decide +kernel) (by decide +kernel)) (goodIn_2 24 (goodIn_r _ [164, 165, 166, 167, 168, 169, 170, 171, 172, 173, 174, 175, 176, 177, 178, 179, 180, 181, 182, 43, 183, 46, 184, 52] (by decide +kernel) (by decide +kernel)) (goodIn_2 24 (goodIn_r _ [185, 186, 187, 188, 189, 190, 191, 192, 193, 194, 195, 196, 197, 198, 199, 200, 201, 202, 203, 70, 204, 205, 206, 207] (by decide +kernel) (by decide +kernel)) (goodIn_2 24 (goodIn_r _ [208, 209, 210, 211, 212, 213, 214, 232, 233, 234, 235, 236, 237, 238, 239, 240, 241, 242, 243, 244, 245, 246, 247, 248] (by decide +kernel) (by decide +kernel)) (goodIn_2 24 (goodIn_r _ [249, 250, 251, 252, 264, 265, 266, 267, 276, 277, 278, 279, 253, 254, 255, 256, 257, 258, 259, 260, 261, 262, 263, 268] (by decide +kernel) (by decide +kernel)) (goodIn_r _ [269, 270, 271, 272, 273, 274, 275] (by decide +kernel) (by decide +kernel)))))))))
set_option maxRecDepth 20000 in
theorem gX11_foresee_X7_passTides : GoodIn wsX11_foresee (wsV RX11 213 RX7 yX7_passTides wsX7_passTides) := goodIn_app (goodIn_of _ (by decide +kernel)) ggX11_foresee_X7_passTides
set_option maxRecDepth 20000 in
theorem ggX11_foresee_X7_allStores : GoodIn wsX11_foresee wsX7_allStores := goodIn_r _ [218, 23, 27, 208, 232, 233, 234, 235, 236, 237, 238, 239, 240, 241, 242, 243, 244, 245, 246, 247, 248, 253, 254, 255, 256, 257, 258, 259, 260, 261, 262, 263] (by decide +kernel) (by decide +kernel)
set_option maxRecDepth 20000 in
theorem gX11_foresee_X7_allStores : GoodIn wsX11_foresee (wsV RX11 83 RX7 yX7_allStores wsX7_allStores) := goodIn_app (goodIn_of _ (by decide +kernel)) ggX11_foresee_X7_allStores
set_option maxRecDepth 20000 in
theorem ggX11_foresee_X7_allFish : GoodIn wsX11_foresee wsX7_allFish := goodIn_r _ [222, 22, 26, 162, 137, 138, 34, 139, 39, 232, 233, 234, 235, 236, 237, 238, 239, 240, 241, 242, 243, 244, 245, 246, 247, 248, 249, 250, 251, 252] (by decide +kernel) (by decide +kernel)
set_option maxRecDepth 20000 in
theorem gX11_foresee_X7_allFish : GoodIn wsX11_foresee (wsV RX11 80 RX7 yX7_allFish wsX7_allFish) := goodIn_app (goodIn_of _ (by decide +kernel)) ggX11_foresee_X7_allFish
set_option maxRecDepth 20000 in
theorem ggX11_foresee_X7_storeGap : GoodIn wsX11_foresee wsX7_storeGap := goodIn_r _ [226, 23, 27, 208, 178, 144, 145, 146, 227, 148, 149, 232, 233, 234, 235, 236, 237, 238, 239, 240, 241, 242, 243, 244, 245, 246, 247, 248, 253, 254, 255, 256, 257, 258, 259, 260, 261, 262, 263] (by decide +kernel) (by decide +kernel)
set_option maxRecDepth 20000 in
theorem gX11_foresee_X7_storeGap : GoodIn wsX11_foresee (wsV RX11 206 RX7 yX7_storeGap wsX7_storeGap) := goodIn_app (goodIn_of _ (by decide +kernel)) ggX11_foresee_X7_storeGap
theorem k_X11_foresee_hat96 : ∀ w ∈ (vx_atS RX11 96 "java/lang/IndexOutOfBoundsException" ["java/lang/RuntimeException", "java/lang/Exception"]).filter goodWord, w ∈ wsX11_foresee := by decide +kernel
theorem k_X11_foresee_cl92 : Cond.classLink RX11 92 "java/lang/IndexOutOfBoundsException" ∈ wsX11_foresee := by decide +kernel
theorem k_X11_foresee_ini92 : Cond.initialized "java/lang/IndexOutOfBoundsException" ∈ wsX11_foresee := by decide +kernel
abbrev rX11_foresee : Room := { frames := 7, cells := 2, slots := 12, locals := 141 }
noncomputable def b_X11_foresee_15 (Z : Nat → Nat) (M : gMem)  : Option ((Nat ⊕ Int32) × gMem) :=
  some (.inl 2, M)
noncomputable def b_X11_foresee_0 (Z : Nat → Nat) (M : gMem) (x0 : Nat) (x1 : Int32) (x2 : Int32) : Option ((Nat ⊕ Int32) × gMem) :=
  bx (f_X11_checkTides M x1 ((60 : Int32))) (fun e1 M1 => some (.inl e1, M1)) fun _ M1 => (if x2 < 0 then b_X11_foresee_15 Z M1  else (if x2 ≤ (2 : Int32) then ck (mT M1 x0 = 10) <| bd (f_X11_lookAhead Z M1 x0) fun r2 M2 => dr r2 fun a5 => ck (mT M2 a5 = 7) <| bd (f_X7_passTides Z M2 a5 x1) fun r4 M4 => (if x2 = (0 : Int32) then ck (mT M4 a5 = 7) <| bd (f_X7_allStores M4 a5) fun r8 M8 => some (.inr r8, M8) else (if x2 = (1 : Int32) then ck (mT M4 a5 = 7) <| bd (f_X7_allFish M4 a5) fun r11 M11 => some (.inr r11, M11) else ck (mT M4 a5 = 7) <| bd (f_X7_storeGap M4 a5) fun r13 M13 => some (.inr r13, M13))) else b_X11_foresee_15 Z M1 ))
noncomputable def f_X11_foresee (Z : Nat → Nat) (M : gMem) (x0 : Nat) (x1 : Int32) (x2 : Int32) : Option ((Nat ⊕ Int32) × gMem) :=
  b_X11_foresee_0 Z M x0 x1 x2
set_option maxHeartbeats 4000000 in
set_option maxRecDepth 100000 in
theorem t_X11_foresee_15 (X2 : gX p s m args meth c D cy B (gSt2 Z B H0) RX11 cX11_foresee wsX11_foresee 4) (hr : meth.sig.returnType = (some .int)) (hlx : l.stackTraces = false) (hH : ∀ q : Nat, q < B → s.heap[q]? = H0[q]?) (hne : ∀ x ∈ c.exceptionTable.toList, False) (hH0 : H0.size = B) {Q : State → Prop} : ∀ (M : gMem)  (z : (Nat ⊕ Int32) × gMem), b_X11_foresee_15 Z M  = some z → (fun (r : (Nat ⊕ Int32) × gMem) => Q = gMX below D cy B H0 args s 2 12 (gzI r.1) r.2) z → gGo p l e rX11_foresee s m args below meth c D cy B H0 4 1 6 Q 15 [] [] M := by
  intro M  z hf hK
  unfold b_X11_foresee_15 at hf
  have X := gX_w X2
  cases hf
  refine g_eqQ hK ?_
  exact g_throwS (text := "nothing of this number is foreseen") X2 hlx hH hH0 hne (by decide) k_X11_foresee_cl92 k_X11_foresee_ini92 (by decide) k_X11_foresee_hat96 kx_hxw96 kx_hg96_92 rfl dX11_foresee_15 dX11_foresee_18 dX11_foresee_19 dX11_foresee_21 dX11_foresee_24 (Nat.le_of_ble_eq_true rfl) (Nat.le_of_ble_eq_true rfl) (by decide) (by decide) (by decide) (by decide)
set_option maxHeartbeats 4000000 in
set_option maxRecDepth 100000 in
theorem t_X11_foresee_0 (X2 : gX p s m args meth c D cy B (gSt2 Z B H0) RX11 cX11_foresee wsX11_foresee 4) (hr : meth.sig.returnType = (some .int)) (hlx : l.stackTraces = false) (hH : ∀ q : Nat, q < B → s.heap[q]? = H0[q]?) (hne : ∀ x ∈ c.exceptionTable.toList, False) (hH0 : H0.size = B) {Q : State → Prop} : ∀ (M : gMem) (x0 : Nat) (x1 : Int32) (x2 : Int32) (z : (Nat ⊕ Int32) × gMem), b_X11_foresee_0 Z M x0 x1 x2 = some z → (fun (r : (Nat ⊕ Int32) × gMem) => Q = gMX below D cy B H0 args s 2 12 (gzI r.1) r.2) z → gGo p l e rX11_foresee s m args below meth c D cy B H0 4 0 0 Q 0 [(0, vR (some x0)), (1, vI x1), (2, vI x2)] [] M := by
  intro M x0 x1 x2 z hf hK
  unfold b_X11_foresee_0 at hf
  have X := gX_w X2
  refine g_iload_n X dX11_foresee_0 rfl rfl ?_
  refine g_bipush (v := (60 : Int32)) X dX11_foresee_1 (by decide) ?_
  rcases bx_e hf with ⟨e1, M1, hq1, hf⟩ | ⟨r1, M1, hq1, hf⟩
  · cases hf
    refine g_eqQ hK ?_
    exact g_callTS (As := [vI x1, vI (60 : Int32)]) (st := []) (M1 := M1) X2 hne (m_X11_checkTides l hlx hH0 hq1) (va_cwS 2 X.2.2.1 gX11_foresee_X11_checkTides rfl rfl rfl (by decide +kernel) ⟨Nat.le_of_ble_eq_true rfl, Nat.le_of_ble_eq_true rfl⟩) rfl rfl (Nat.le_of_ble_eq_true rfl) dX11_foresee_3 ⟨(by decide), (by decide)⟩ (by decide) (by decide)
  refine g_callXS (As := [vI x1, vI (60 : Int32)]) (st := []) (v := none) (M1 := M1) X2 (m_X11_checkTides l hlx hH0 hq1) (va_cwS 2 X.2.2.1 gX11_foresee_X11_checkTides rfl rfl rfl (by decide +kernel) ⟨Nat.le_of_ble_eq_true rfl, Nat.le_of_ble_eq_true rfl⟩) rfl rfl (Nat.le_of_ble_eq_true rfl) dX11_foresee_3 ⟨(by decide), (by decide)⟩ ?_
  refine g_iload_n X dX11_foresee_6 rfl rfl ?_
  refine g_if_lt (tgt := 15) X dX11_foresee_7 (by decide) (fun hc => ?_) (fun hc => ?_)
  · have hf := ife_t hc hf
    refine g_sub (lvsub_of _ _ [] rfl) ?_
    exact t_X11_foresee_15 X2 hr hlx hH hne hH0 _  _ hf hK
  · have hf := ife_f hc hf
    refine g_iload_n X dX11_foresee_10 rfl rfl ?_
    refine g_iconst (v := (2 : Int32)) X dX11_foresee_11 (by decide) ?_
    refine g_icmp_le (tgt := 25) X dX11_foresee_12 (by decide) (fun hc => ?_) (fun hc => ?_)
    · have hf := ife_t hc hf
      refine g_aload_n X dX11_foresee_25 rfl rfl ?_
      obtain ⟨hT3, hf⟩ := ck_e hf
      obtain ⟨r2, M2, hq2, hf⟩ := bd_e hf
      refine g_callV (ci := 9) (b := x0) (As := []) (st := []) (v := some (vR r2)) (M1 := M2) X (m_X11_lookAhead l hq2) (cwV 0 X.2.2.1 gX11_foresee_X11_lookAhead rfl rfl rfl (by decide +kernel) ⟨Nat.le_of_ble_eq_true rfl, Nat.le_of_ble_eq_true rfl⟩) rfl rfl rfl hT3 (by decide) rfl (Nat.le_of_ble_eq_true rfl) dX11_foresee_26 ⟨by decide, by decide⟩ ?_
      refine g_astore_n (lv' := [(3, vR r2), (0, vR (some x0)), (1, vI x1), (2, vI x2)]) X dX11_foresee_29 rfl (by decide) rfl ?_
      refine g_aload_n X dX11_foresee_30 rfl rfl ?_
      refine g_iload_n X dX11_foresee_31 rfl rfl ?_
      obtain ⟨a5, ha5, hf⟩ := dr_e hf
      obtain ⟨hT6, hf⟩ := ck_e hf
      obtain ⟨r4, M4, hq4, hf⟩ := bd_e hf
      refine g_callV (ci := 6) (b := a5) (As := [vI x1]) (st := []) (v := some (vI r4)) (M1 := M4) X (m_X7_passTides l hq4) (cwV 1 X.2.2.1 gX11_foresee_X7_passTides rfl rfl rfl (by decide +kernel) ⟨Nat.le_of_ble_eq_true rfl, Nat.le_of_ble_eq_true rfl⟩) rfl rfl ha5 hT6 (by decide) rfl (Nat.le_of_ble_eq_true rfl) dX11_foresee_32 ⟨by decide, by decide⟩ ?_
      refine g_pop X dX11_foresee_35 rfl ?_
      refine g_iload_n X dX11_foresee_36 rfl rfl ?_
      by_cases hs7 : x2 = (0 : Int32)
      · have hf := ife_t hs7 hf
        refine g_lookup (off := 27) (tgt := 64) X dX11_foresee_37 (by decide) (by rw [hs7]; decide) (by decide) ?_
        refine g_aload_n X dX11_foresee_64 rfl rfl ?_
        obtain ⟨hT9, hf⟩ := ck_e hf
        obtain ⟨r8, M8, hq8, hf⟩ := bd_e hf
        refine g_callV (ci := 6) (b := a5) (As := []) (st := []) (v := some (vI r8)) (M1 := M8) X (m_X7_allStores l hq8) (cwV 0 X.2.2.1 gX11_foresee_X7_allStores rfl rfl rfl (by decide +kernel) ⟨Nat.le_of_ble_eq_true rfl, Nat.le_of_ble_eq_true rfl⟩) rfl rfl ha5 hT9 (by decide) rfl (Nat.le_of_ble_eq_true rfl) dX11_foresee_65 ⟨by decide, by decide⟩ ?_
        cases hf
        refine g_eqQ hK ?_
        refine g_wide (k' := 2) (n' := 12) (by decide) (by decide) ?_
        refine g_xret ?_
        exact g_iret X hr dX11_foresee_68
      · have hf := ife_f hs7 hf
        by_cases hs10 : x2 = (1 : Int32)
        · have hf := ife_t hs10 hf
          refine g_lookup (off := 32) (tgt := 69) X dX11_foresee_37 (by decide) (by rw [hs10]; decide) (by decide) ?_
          refine g_aload_n X dX11_foresee_69 rfl rfl ?_
          obtain ⟨hT12, hf⟩ := ck_e hf
          obtain ⟨r11, M11, hq11, hf⟩ := bd_e hf
          refine g_callV (ci := 6) (b := a5) (As := []) (st := []) (v := some (vI r11)) (M1 := M11) X (m_X7_allFish l hq11) (cwV 0 X.2.2.1 gX11_foresee_X7_allFish rfl rfl rfl (by decide +kernel) ⟨Nat.le_of_ble_eq_true rfl, Nat.le_of_ble_eq_true rfl⟩) rfl rfl ha5 hT12 (by decide) rfl (Nat.le_of_ble_eq_true rfl) dX11_foresee_70 ⟨by decide, by decide⟩ ?_
          cases hf
          refine g_eqQ hK ?_
          refine g_wide (k' := 2) (n' := 12) (by decide) (by decide) ?_
          refine g_xret ?_
          exact g_iret X hr dX11_foresee_73
        · have hf := ife_f hs10 hf
          refine g_lookup (off := 37) (tgt := 74) X dX11_foresee_37 (by decide) (glk_out _ (fun q hq => by rcases (show q = (0, 27) ∨ q = (1, 32) by simpa using hq) with rfl | rfl <;> first | exact gne hs7 | exact gne hs10)) (by decide) ?_
          refine g_aload_n X dX11_foresee_74 rfl rfl ?_
          obtain ⟨hT14, hf⟩ := ck_e hf
          obtain ⟨r13, M13, hq13, hf⟩ := bd_e hf
          refine g_callV (ci := 6) (b := a5) (As := []) (st := []) (v := some (vI r13)) (M1 := M13) X (m_X7_storeGap l hq13) (cwV 0 X.2.2.1 gX11_foresee_X7_storeGap rfl rfl rfl (by decide +kernel) ⟨Nat.le_of_ble_eq_true rfl, Nat.le_of_ble_eq_true rfl⟩) rfl rfl ha5 hT14 (by decide) rfl (Nat.le_of_ble_eq_true rfl) dX11_foresee_75 ⟨by decide, by decide⟩ ?_
          cases hf
          refine g_eqQ hK ?_
          refine g_wide (k' := 2) (n' := 12) (by decide) (by decide) ?_
          refine g_xret ?_
          exact g_iret X hr dX11_foresee_78
    · have hf := ife_f hc hf
      refine g_sub (lvsub_of _ _ [] rfl) ?_
      exact t_X11_foresee_15 X2 hr hlx hH hne hH0 _  _ hf hK
set_option maxHeartbeats 4000000 in
set_option maxRecDepth 100000 in
theorem m_X11_foresee (l : Launch) (hlx : l.stackTraces = false) {D : va_G} {cy : Nat → ClassId} {B : Nat} {H0 : Heap} {Z : Nat → Nat} {M M1 : gMem} {x0 : Nat} {x1 : Int32} {x2 : Int32} {r : (Nat ⊕ Int32)} (hH0 : H0.size = B) (hf : f_X11_foresee Z M x0 x1 x2 = some (r, M1)) : vx_Met l yX11_foresee wsX11_foresee rX11_foresee (va_Pc (Value.ref x0 :: List.map gv [vI x1, vI x2]) (gPre D cy B H0 (gSt2 Z B H0) M)) (gQX D cy B H0 (gzI r) M1) (gXC D cy B H0 (gzI r) M1) 2 12 (gA B) := by
  refine vx_ofW (cc := cX11_foresee) (maxL := 4) (ret := (some .int)) (by decide) rfl ?_
  intro p e s m args below meth c s₁ Bd hml hne hv
  obtain ⟨rfl, hW, hKK, hFs⟩ := hv
  have X2 : gX p s m _ meth c D cy B (gSt2 Z B H0) RX11 cX11_foresee wsX11_foresee 4 := ⟨Bd.exec, Bd.bytes, atoms_spec (ws := wsX11_foresee) Bd.pre, findClass_of_methodNamed Bd.named, hml, hKK, by rw [hW.1]; exact hW.2.1, Bd.notSynchronized, hFs⟩
  have hr := Bd.returns
  have hH : ∀ q : Nat, q < B → s.heap[q]? = H0[q]? := hW.2.2.1
  have hl := lv_entry ([.ref x0, .int x1, .int x2]) (n := 4) (Nat.le_of_ble_eq_true rfl)
  show W p l e rX11_foresee s m _ below meth c s.heap [] 0 0 _ (entryFrame m ([.ref x0, .int x1, .int x2] : List Value).toArray 4)
  rw [lg_entry_eq]
  generalize (lg_sl ([.ref x0, .int x1, .int x2]) ++ List.replicate (4 - (lg_sl ([.ref x0, .int x1, .int x2])).length) Slot.unset).toArray = ls at hl ⊢
  have hl : lv_has ls 4 (List.map gq [(0, vR (some x0)), (1, vI x1), (2, vI x2)]) := hl
  exact t_X11_foresee_0 X2 hr hlx hH hne hH0 _ _ _ _ _ hf rfl s.heap [] ls hW va_S.rf (lv_has_sub hl (lvsub_of _ _ [0, 1, 2] rfl))
/-! ## TideLots.pays(II)I -/
theorem dX11_pays_0 : decode cX11_pays 0 = .ok (.aload_n 0, 1) := by decide +kernel
theorem dX11_pays_1 : decode cX11_pays 1 = .ok (.iload_n 1, 1) := by decide +kernel
theorem dX11_pays_2 : decode cX11_pays 2 = .ok (.invokevirtual 122, 3) := by decide +kernel
theorem dX11_pays_5 : decode cX11_pays 5 = .ok (.iload_n 2, 1) := by decide +kernel
theorem dX11_pays_6 : decode cX11_pays 6 = .ok (.bipush 60, 2) := by decide +kernel
theorem dX11_pays_8 : decode cX11_pays 8 = .ok (.invokestatic 209, 3) := by decide +kernel
theorem dX11_pays_11 : decode cX11_pays 11 = .ok (.aload_n 0, 1) := by decide +kernel
theorem dX11_pays_12 : decode cX11_pays 12 = .ok (.invokevirtual 219, 3) := by decide +kernel
theorem dX11_pays_15 : decode cX11_pays 15 = .ok (.astore_n 3, 1) := by decide +kernel
theorem dX11_pays_16 : decode cX11_pays 16 = .ok (.aload_n 3, 1) := by decide +kernel
theorem dX11_pays_17 : decode cX11_pays 17 = .ok (.getfield 125, 3) := by decide +kernel
theorem dX11_pays_20 : decode cX11_pays 20 = .ok (.iload_n 1, 1) := by decide +kernel
theorem dX11_pays_21 : decode cX11_pays 21 = .ok (.aaload, 1) := by decide +kernel
theorem dX11_pays_22 : decode cX11_pays 22 = .ok (.iconst 1, 1) := by decide +kernel
theorem dX11_pays_23 : decode cX11_pays 23 = .ok (.putfield 155, 3) := by decide +kernel
theorem dX11_pays_26 : decode cX11_pays 26 = .ok (.aload_n 3, 1) := by decide +kernel
theorem dX11_pays_27 : decode cX11_pays 27 = .ok (.iload_n 2, 1) := by decide +kernel
theorem dX11_pays_28 : decode cX11_pays 28 = .ok (.invokevirtual 213, 3) := by decide +kernel
theorem dX11_pays_31 : decode cX11_pays 31 = .ok (.pop, 1) := by decide +kernel
theorem dX11_pays_32 : decode cX11_pays 32 = .ok (.aload_n 3, 1) := by decide +kernel
theorem dX11_pays_33 : decode cX11_pays 33 = .ok (.getfield 125, 3) := by decide +kernel
theorem dX11_pays_36 : decode cX11_pays 36 = .ok (.iload_n 1, 1) := by decide +kernel
theorem dX11_pays_37 : decode cX11_pays 37 = .ok (.aaload, 1) := by decide +kernel
theorem dX11_pays_38 : decode cX11_pays 38 = .ok (.getfield 143, 3) := by decide +kernel
theorem dX11_pays_41 : decode cX11_pays 41 = .ok (.istore 4, 2) := by decide +kernel
theorem dX11_pays_43 : decode cX11_pays 43 = .ok (.aload_n 0, 1) := by decide +kernel
theorem dX11_pays_44 : decode cX11_pays 44 = .ok (.invokevirtual 219, 3) := by decide +kernel
theorem dX11_pays_47 : decode cX11_pays 47 = .ok (.astore_n 3, 1) := by decide +kernel
theorem dX11_pays_48 : decode cX11_pays 48 = .ok (.aload_n 3, 1) := by decide +kernel
theorem dX11_pays_49 : decode cX11_pays 49 = .ok (.getfield 125, 3) := by decide +kernel
theorem dX11_pays_52 : decode cX11_pays 52 = .ok (.iload_n 1, 1) := by decide +kernel
theorem dX11_pays_53 : decode cX11_pays 53 = .ok (.aaload, 1) := by decide +kernel
theorem dX11_pays_54 : decode cX11_pays 54 = .ok (.iconst 0, 1) := by decide +kernel
theorem dX11_pays_55 : decode cX11_pays 55 = .ok (.putfield 155, 3) := by decide +kernel
theorem dX11_pays_58 : decode cX11_pays 58 = .ok (.aload_n 3, 1) := by decide +kernel
theorem dX11_pays_59 : decode cX11_pays 59 = .ok (.iload_n 2, 1) := by decide +kernel
theorem dX11_pays_60 : decode cX11_pays 60 = .ok (.invokevirtual 213, 3) := by decide +kernel
theorem dX11_pays_63 : decode cX11_pays 63 = .ok (.pop, 1) := by decide +kernel
theorem dX11_pays_64 : decode cX11_pays 64 = .ok (.iload 4, 2) := by decide +kernel
theorem dX11_pays_66 : decode cX11_pays 66 = .ok (.aload_n 3, 1) := by decide +kernel
theorem dX11_pays_67 : decode cX11_pays 67 = .ok (.getfield 125, 3) := by decide +kernel
theorem dX11_pays_70 : decode cX11_pays 70 = .ok (.iload_n 1, 1) := by decide +kernel
theorem dX11_pays_71 : decode cX11_pays 71 = .ok (.aaload, 1) := by decide +kernel
theorem dX11_pays_72 : decode cX11_pays 72 = .ok (.getfield 143, 3) := by decide +kernel
theorem dX11_pays_75 : decode cX11_pays 75 = .ok (.isub, 1) := by decide +kernel
theorem dX11_pays_76 : decode cX11_pays 76 = .ok (.ireturn, 1) := by decide +kernel
set_option maxRecDepth 20000 in
theorem ggX11_pays_X11_checkFisher : GoodIn wsX11_pays wsX11_checkFisher := goodIn_ca (goodIn_r _ [8, 9, 10, 11, 12, 251, 252, 253, 254, 223, 224, 225, 226, 227, 228, 229, 230, 231, 232, 233, 234, 235, 236, 237, 238, 239] (by decide +kernel) (by decide +kernel)) (goodIn_sub (fun _ h => List.mem_cons_of_mem _ (List.mem_append_left _ (List.mem_append_right _ h))) (by decide +kernel))
set_option maxRecDepth 20000 in
theorem gX11_pays_X11_checkFisher : GoodIn wsX11_pays (wsV RX11 122 RX11 yX11_checkFisher wsX11_checkFisher) := goodIn_app (goodIn_of _ (by decide +kernel)) ggX11_pays_X11_checkFisher
set_option maxRecDepth 20000 in
theorem ggX11_pays_X11_checkTides : GoodIn wsX11_pays wsX11_checkTides := goodIn_ca (goodIn_r _ [15, 16, 17] (by decide +kernel) (by decide +kernel)) (goodIn_sub (fun _ h => List.mem_cons_of_mem _ (List.mem_append_right _ h)) (by decide +kernel))
set_option maxRecDepth 20000 in
theorem gX11_pays_X11_checkTides : GoodIn wsX11_pays (va_wsS RX11 209 yX11_checkTides wsX11_checkTides) := goodIn_app (goodIn_of _ (by decide +kernel)) ggX11_pays_X11_checkTides
set_option maxRecDepth 20000 in
theorem ggX11_pays_X11_lookAhead : GoodIn wsX11_pays wsX11_lookAhead := goodIn_2 24 (goodIn_r _ [21, 22, 11, 23, 24, 25, 26, 27, 28, 29, 30, 31, 32, 33, 34, 35, 36, 37, 38, 39, 40, 41, 42, 43] (by decide +kernel) (by decide +kernel)) (goodIn_2 24 (goodIn_r _ [44, 45, 46, 47, 48, 49, 50, 51, 52, 53, 54, 55, 56, 57, 58, 59, 60, 61, 62, 63, 64, 65, 66, 67] (by decide +kernel) (by decide +kernel)) (goodIn_2 24 (goodIn_r _ [68, 69, 70, 71, 72, 73, 74, 75, 76, 77, 78, 79, 80, 81, 82, 83, 84, 85, 86, 87, 88, 89, 90, 91] (by decide +kernel) (by decide +kernel)) (goodIn_2 24 (goodIn_r _ [92, 93, 251, 252, 253, 254, 223, 224, 225, 226, 227, 228, 229, 230, 231, 232, 233, 234, 235, 236, 237, 238, 239, 255] (by decide +kernel) (by decide +kernel)) (goodIn_2 24 (goodIn_r _ [256, 257, 258, 240, 241, 242, 243, 244, 245, 246, 247, 248, 249, 250, 259, 260, 261, 262, 263, 264, 265, 266, 267, 268] (by decide +kernel) (by decide +kernel)) (goodIn_r _ [269, 270, 271, 272, 273, 274] (by decide +kernel) (by decide +kernel))))))
set_option maxRecDepth 20000 in
theorem gX11_pays_X11_lookAhead : GoodIn wsX11_pays (wsV RX11 219 RX11 yX11_lookAhead wsX11_lookAhead) := goodIn_app (goodIn_of _ (by decide +kernel)) ggX11_pays_X11_lookAhead
set_option maxRecDepth 20000 in
theorem ggX11_pays_X7_passTides : GoodIn wsX11_pays wsX7_passTides := goodIn_2 24 (goodIn_r _ [97, 29, 31, 98, 33, 37, 30, 34, 28, 99, 100, 101, 26, 102, 103, 104, 105, 106, 107, 108, 109, 110, 111, 112] (by decide +kernel) (by decide +kernel)) (goodIn_2 24 (goodIn_r _ [113, 32, 36, 114, 115, 116, 117, 118, 38, 119, 120, 121, 89, 122, 91, 123, 92, 124, 93, 125, 126, 127, 128, 129] (by decide +kernel) (by decide +kernel)) (goodIn_2 24 (goodIn_r _ [130, 131, 132, 133, 134, 135, 136, 137, 138, 139, 140, 141, 142, 143, 144, 145, 146, 42, 147, 47, 148, 149, 150, 151] (by decide +kernel) (by decide +kernel)) (goodIn_2 24 (goodIn_r _ [152, 153, 154, 155, 156, 157, 158, 159, 160, 161, 35, 162, 163, 164, 165, 166, 167, 168, 76, 169, 81, 85, 170, 171] (by decide +kernel) (by decide +kernel)) (goodIn_2 24 (goodIn_r _ [172, 173, 174, 175, 176, 177, 178, 179, 180, 181, 182, 183, 184, 185, 186, 187, 188, 189, 190, 51, 191, 54, 192, 60] (by decide +kernel) (by decide +kernel)) (goodIn_2 24 (goodIn_r _ [193, 194, 195, 196, 197, 198, 199, 200, 201, 202, 203, 204, 205, 206, 207, 208, 209, 210, 211, 78, 212, 213, 214, 215] (by decide +kernel) (by decide +kernel)) (goodIn_2 24 (goodIn_r _ [216, 217, 218, 219, 220, 221, 222, 223, 224, 225, 226, 227, 228, 229, 230, 231, 232, 233, 234, 235, 236, 237, 238, 239] (by decide +kernel) (by decide +kernel)) (goodIn_2 24 (goodIn_r _ [255, 256, 257, 258, 259, 260, 261, 262, 271, 272, 273, 274, 240, 241, 242, 243, 244, 245, 246, 247, 248, 249, 250, 263] (by decide +kernel) (by decide +kernel)) (goodIn_r _ [264, 265, 266, 267, 268, 269, 270] (by decide +kernel) (by decide +kernel)))))))))
set_option maxRecDepth 20000 in
theorem gX11_pays_X7_passTides : GoodIn wsX11_pays (wsV RX11 213 RX7 yX7_passTides wsX7_passTides) := goodIn_app (goodIn_of _ (by decide +kernel)) ggX11_pays_X7_passTides
theorem k_X11_pays_f125 : Cond.fieldLink RX11 125 "TideLots$Shore" "fishers" "[LTideLots$Fisher;" ∈ wsX11_pays := by decide +kernel
theorem i_X11_pays_X7 : ∀ w ∈ u_ws RX7 TX7 17, w ∈ wsX11_pays := by decide +kernel
theorem k_X11_pays_f155 : Cond.fieldLink RX11 155 "TideLots$Fisher" "isCheat" "Z" ∈ wsX11_pays := by decide +kernel
theorem i_X11_pays_X1 : ∀ w ∈ u_ws RX1 TX1 11, w ∈ wsX11_pays := by decide +kernel
theorem k_X11_pays_f143 : Cond.fieldLink RX11 143 "TideLots$Fisher" "store" "I" ∈ wsX11_pays := by decide +kernel
abbrev rX11_pays : Room := { frames := 7, cells := 2, slots := 12, locals := 141 }
noncomputable def b_X11_pays_0 (Z : Nat → Nat) (M : gMem) (x0 : Nat) (x1 : Int32) (x2 : Int32) : Option ((Nat ⊕ Int32) × gMem) :=
  ck (mT M x0 = 10) <| bx (f_X11_checkFisher M x0 x1) (fun e1 M1 => some (.inl e1, M1)) fun _ M1 => bx (f_X11_checkTides M1 x2 ((60 : Int32))) (fun e3 M3 => some (.inl e3, M3)) fun _ M3 => ck (mT M3 x0 = 10) <| bd (f_X11_lookAhead Z M3 x0) fun r4 M4 => dr r4 fun a6 => ck (mT M4 a6 = 7) <| dr ((mR M4 a6 7)) fun a8 => ck (mT M4 a8 = 24) <| ck (inb x1 (mL M4 a8)) <| dr ((mR M4 a8 x1.toNatClampNeg)) fun a11 => ck (mT M4 a11 = 1) <| lw (wI M4 a11 9 ((1 : Int32))) fun M13 => bd (f_X7_passTides Z M13 a6 x2) fun r17 M17 => ck (mT M17 a6 = 7) <| dr ((mR M17 a6 7)) fun a19 => ck (mT M17 a19 = 24) <| ck (inb x1 (mL M17 a19)) <| dr ((mR M17 a19 x1.toNatClampNeg)) fun a22 => ck (mT M17 a22 = 1) <| ck (mT M17 x0 = 10) <| bd (f_X11_lookAhead Z M17 x0) fun r24 M24 => dr r24 fun a26 => ck (mT M24 a26 = 7) <| dr ((mR M24 a26 7)) fun a28 => ck (mT M24 a28 = 24) <| ck (inb x1 (mL M24 a28)) <| dr ((mR M24 a28 x1.toNatClampNeg)) fun a31 => ck (mT M24 a31 = 1) <| lw (wI M24 a31 9 ((0 : Int32))) fun M33 => bd (f_X7_passTides Z M33 a26 x2) fun r37 M37 => ck (mT M37 a26 = 7) <| dr ((mR M37 a26 7)) fun a39 => ck (mT M37 a39 = 24) <| ck (inb x1 (mL M37 a39)) <| dr ((mR M37 a39 x1.toNatClampNeg)) fun a42 => ck (mT M37 a42 = 1) <| some (.inr ((mI M17 a22 4) - (mI M37 a42 4)), M37)
noncomputable def f_X11_pays (Z : Nat → Nat) (M : gMem) (x0 : Nat) (x1 : Int32) (x2 : Int32) : Option ((Nat ⊕ Int32) × gMem) :=
  b_X11_pays_0 Z M x0 x1 x2
set_option maxHeartbeats 4000000 in
set_option maxRecDepth 100000 in
theorem t_X11_pays_0 (X2 : gX p s m args meth c D cy B (gSt2 Z B H0) RX11 cX11_pays wsX11_pays 5) (hr : meth.sig.returnType = (some .int)) (hlx : l.stackTraces = false) (hH : ∀ q : Nat, q < B → s.heap[q]? = H0[q]?) (hne : ∀ x ∈ c.exceptionTable.toList, False) (hH0 : H0.size = B) {Q : State → Prop} : ∀ (M : gMem) (x0 : Nat) (x1 : Int32) (x2 : Int32) (z : (Nat ⊕ Int32) × gMem), b_X11_pays_0 Z M x0 x1 x2 = some z → (fun (r : (Nat ⊕ Int32) × gMem) => Q = gMX below D cy B H0 args s 2 12 (gzI r.1) r.2) z → gGo p l e rX11_pays s m args below meth c D cy B H0 5 0 0 Q 0 [(0, vR (some x0)), (1, vI x1), (2, vI x2)] [] M := by
  intro M x0 x1 x2 z hf hK
  unfold b_X11_pays_0 at hf
  have X := gX_w X2
  refine g_aload_n X dX11_pays_0 rfl rfl ?_
  refine g_iload_n X dX11_pays_1 rfl rfl ?_
  obtain ⟨hT2, hf⟩ := ck_e hf
  rcases bx_e hf with ⟨e1, M1, hq1, hf⟩ | ⟨r1, M1, hq1, hf⟩
  · cases hf
    refine g_eqQ hK ?_
    exact g_callTV (ci := 9) (b := x0) (As := [vI x1]) (st := []) (M1 := M1) X2 hne (m_X11_checkFisher l hlx hH0 hq1) (cwV 1 X.2.2.1 gX11_pays_X11_checkFisher rfl rfl rfl (by decide +kernel) ⟨Nat.le_of_ble_eq_true rfl, Nat.le_of_ble_eq_true rfl⟩) rfl rfl rfl hT2 (by decide) rfl (Nat.le_of_ble_eq_true rfl) dX11_pays_2 ⟨(by decide), (by decide)⟩ (by decide) (by decide)
  refine g_callXV (ci := 9) (b := x0) (As := [vI x1]) (st := []) (v := none) (M1 := M1) X2 (m_X11_checkFisher l hlx hH0 hq1) (cwV 1 X.2.2.1 gX11_pays_X11_checkFisher rfl rfl rfl (by decide +kernel) ⟨Nat.le_of_ble_eq_true rfl, Nat.le_of_ble_eq_true rfl⟩) rfl rfl rfl hT2 (by decide) rfl (Nat.le_of_ble_eq_true rfl) dX11_pays_2 ⟨(by decide), (by decide)⟩ ?_
  refine g_iload_n X dX11_pays_5 rfl rfl ?_
  refine g_bipush (v := (60 : Int32)) X dX11_pays_6 (by decide) ?_
  rcases bx_e hf with ⟨e3, M3, hq3, hf⟩ | ⟨r3, M3, hq3, hf⟩
  · cases hf
    refine g_eqQ hK ?_
    exact g_callTS (As := [vI x2, vI (60 : Int32)]) (st := []) (M1 := M3) X2 hne (m_X11_checkTides l hlx hH0 hq3) (va_cwS 2 X.2.2.1 gX11_pays_X11_checkTides rfl rfl rfl (by decide +kernel) ⟨Nat.le_of_ble_eq_true rfl, Nat.le_of_ble_eq_true rfl⟩) rfl rfl (Nat.le_of_ble_eq_true rfl) dX11_pays_8 ⟨(by decide), (by decide)⟩ (by decide) (by decide)
  refine g_callXS (As := [vI x2, vI (60 : Int32)]) (st := []) (v := none) (M1 := M3) X2 (m_X11_checkTides l hlx hH0 hq3) (va_cwS 2 X.2.2.1 gX11_pays_X11_checkTides rfl rfl rfl (by decide +kernel) ⟨Nat.le_of_ble_eq_true rfl, Nat.le_of_ble_eq_true rfl⟩) rfl rfl (Nat.le_of_ble_eq_true rfl) dX11_pays_8 ⟨(by decide), (by decide)⟩ ?_
  refine g_aload_n X dX11_pays_11 rfl rfl ?_
  obtain ⟨hT5, hf⟩ := ck_e hf
  obtain ⟨r4, M4, hq4, hf⟩ := bd_e hf
  refine g_callV (ci := 9) (b := x0) (As := []) (st := []) (v := some (vR r4)) (M1 := M4) X (m_X11_lookAhead l hq4) (cwV 0 X.2.2.1 gX11_pays_X11_lookAhead rfl rfl rfl (by decide +kernel) ⟨Nat.le_of_ble_eq_true rfl, Nat.le_of_ble_eq_true rfl⟩) rfl rfl rfl hT5 (by decide) rfl (Nat.le_of_ble_eq_true rfl) dX11_pays_12 ⟨by decide, by decide⟩ ?_
  refine g_astore_n (lv' := [(3, vR r4), (0, vR (some x0)), (1, vI x1), (2, vI x2)]) X dX11_pays_15 rfl (by decide) rfl ?_
  refine g_aload_n X dX11_pays_16 rfl rfl ?_
  obtain ⟨a6, ha6, hf⟩ := dr_e hf
  obtain ⟨hT7, hf⟩ := ck_e hf
  refine g_get (ci := 6) (v := vR (mR M4 a6 7)) 7 X cdX7 i_X11_pays_X7 (by decide) k_X11_pays_f125 rfl dX11_pays_17 ha6 hT7 rfl ?_
  refine g_iload_n X dX11_pays_20 rfl rfl ?_
  obtain ⟨a8, ha8, hf⟩ := dr_e hf
  obtain ⟨hT9, hf⟩ := ck_e hf
  obtain ⟨hg10, hf⟩ := ck_e hf
  refine g_aald (t0 := 4) X dX11_pays_21 ha8 hT9 (by decide) rfl hg10 ?_
  refine g_iconst (v := (1 : Int32)) X dX11_pays_22 (by decide) ?_
  obtain ⟨a11, ha11, hf⟩ := dr_e hf
  obtain ⟨hT12, hf⟩ := ck_e hf
  refine g_putI (ci := 0) 9 X cdX1 i_X11_pays_X1 (by decide) k_X11_pays_f155 rfl dX11_pays_23 ha11 hT12 (Or.inl rfl) (gnb (Or.inr rfl)) (gfb (Or.inr rfl)) rfl ?_
  obtain ⟨M13, hM13, hf⟩ := lw_e hf
  rw [← hM13]
  have hT14 : mT M13 a6 = 7 := by rw [hM13]; exact hT7
  have hT15 : mT M13 a8 = 24 := by rw [hM13]; exact hT9
  have hT16 : mT M13 a11 = 1 := by rw [hM13]; exact hT12
  refine g_aload_n X dX11_pays_26 rfl rfl ?_
  refine g_iload_n X dX11_pays_27 rfl rfl ?_
  obtain ⟨r17, M17, hq17, hf⟩ := bd_e hf
  refine g_callV (ci := 6) (b := a6) (As := [vI x2]) (st := []) (v := some (vI r17)) (M1 := M17) X (m_X7_passTides l hq17) (cwV 1 X.2.2.1 gX11_pays_X7_passTides rfl rfl rfl (by decide +kernel) ⟨Nat.le_of_ble_eq_true rfl, Nat.le_of_ble_eq_true rfl⟩) rfl rfl ha6 hT14 (by decide) rfl (Nat.le_of_ble_eq_true rfl) dX11_pays_28 ⟨by decide, by decide⟩ ?_
  refine g_pop X dX11_pays_31 rfl ?_
  refine g_aload_n X dX11_pays_32 rfl rfl ?_
  obtain ⟨hT18, hf⟩ := ck_e hf
  refine g_get (ci := 6) (v := vR (mR M17 a6 7)) 7 X cdX7 i_X11_pays_X7 (by decide) k_X11_pays_f125 rfl dX11_pays_33 ha6 hT18 rfl ?_
  refine g_iload_n X dX11_pays_36 rfl rfl ?_
  obtain ⟨a19, ha19, hf⟩ := dr_e hf
  obtain ⟨hT20, hf⟩ := ck_e hf
  obtain ⟨hg21, hf⟩ := ck_e hf
  refine g_aald (t0 := 4) X dX11_pays_37 ha19 hT20 (by decide) rfl hg21 ?_
  obtain ⟨a22, ha22, hf⟩ := dr_e hf
  obtain ⟨hT23, hf⟩ := ck_e hf
  refine g_get (ci := 0) (v := vI (mI M17 a22 4)) 4 X cdX1 i_X11_pays_X1 (by decide) k_X11_pays_f143 rfl dX11_pays_38 ha22 hT23 rfl ?_
  refine g_istore (lv' := [(4, vI (mI M17 a22 4)), (3, vR r4), (0, vR (some x0)), (1, vI x1), (2, vI x2)]) X dX11_pays_41 (by decide) rfl ?_
  refine g_aload_n X dX11_pays_43 rfl rfl ?_
  obtain ⟨hT25, hf⟩ := ck_e hf
  obtain ⟨r24, M24, hq24, hf⟩ := bd_e hf
  refine g_callV (ci := 9) (b := x0) (As := []) (st := []) (v := some (vR r24)) (M1 := M24) X (m_X11_lookAhead l hq24) (cwV 0 X.2.2.1 gX11_pays_X11_lookAhead rfl rfl rfl (by decide +kernel) ⟨Nat.le_of_ble_eq_true rfl, Nat.le_of_ble_eq_true rfl⟩) rfl rfl rfl hT25 (by decide) rfl (Nat.le_of_ble_eq_true rfl) dX11_pays_44 ⟨by decide, by decide⟩ ?_
  refine g_astore_n (lv' := [(3, vR r24), (4, vI (mI M17 a22 4)), (0, vR (some x0)), (1, vI x1), (2, vI x2)]) X dX11_pays_47 rfl (by decide) rfl ?_
  refine g_aload_n X dX11_pays_48 rfl rfl ?_
  obtain ⟨a26, ha26, hf⟩ := dr_e hf
  obtain ⟨hT27, hf⟩ := ck_e hf
  refine g_get (ci := 6) (v := vR (mR M24 a26 7)) 7 X cdX7 i_X11_pays_X7 (by decide) k_X11_pays_f125 rfl dX11_pays_49 ha26 hT27 rfl ?_
  refine g_iload_n X dX11_pays_52 rfl rfl ?_
  obtain ⟨a28, ha28, hf⟩ := dr_e hf
  obtain ⟨hT29, hf⟩ := ck_e hf
  obtain ⟨hg30, hf⟩ := ck_e hf
  refine g_aald (t0 := 4) X dX11_pays_53 ha28 hT29 (by decide) rfl hg30 ?_
  refine g_iconst (v := (0 : Int32)) X dX11_pays_54 (by decide) ?_
  obtain ⟨a31, ha31, hf⟩ := dr_e hf
  obtain ⟨hT32, hf⟩ := ck_e hf
  refine g_putI (ci := 0) 9 X cdX1 i_X11_pays_X1 (by decide) k_X11_pays_f155 rfl dX11_pays_55 ha31 hT32 (Or.inl rfl) (gnb (Or.inl rfl)) (gfb (Or.inl rfl)) rfl ?_
  obtain ⟨M33, hM33, hf⟩ := lw_e hf
  rw [← hM33]
  have hT34 : mT M33 a26 = 7 := by rw [hM33]; exact hT27
  have hT35 : mT M33 a28 = 24 := by rw [hM33]; exact hT29
  have hT36 : mT M33 a31 = 1 := by rw [hM33]; exact hT32
  refine g_aload_n X dX11_pays_58 rfl rfl ?_
  refine g_iload_n X dX11_pays_59 rfl rfl ?_
  obtain ⟨r37, M37, hq37, hf⟩ := bd_e hf
  refine g_callV (ci := 6) (b := a26) (As := [vI x2]) (st := []) (v := some (vI r37)) (M1 := M37) X (m_X7_passTides l hq37) (cwV 1 X.2.2.1 gX11_pays_X7_passTides rfl rfl rfl (by decide +kernel) ⟨Nat.le_of_ble_eq_true rfl, Nat.le_of_ble_eq_true rfl⟩) rfl rfl ha26 hT34 (by decide) rfl (Nat.le_of_ble_eq_true rfl) dX11_pays_60 ⟨by decide, by decide⟩ ?_
  refine g_pop X dX11_pays_63 rfl ?_
  refine g_iload X dX11_pays_64 rfl ?_
  refine g_aload_n X dX11_pays_66 rfl rfl ?_
  obtain ⟨hT38, hf⟩ := ck_e hf
  refine g_get (ci := 6) (v := vR (mR M37 a26 7)) 7 X cdX7 i_X11_pays_X7 (by decide) k_X11_pays_f125 rfl dX11_pays_67 ha26 hT38 rfl ?_
  refine g_iload_n X dX11_pays_70 rfl rfl ?_
  obtain ⟨a39, ha39, hf⟩ := dr_e hf
  obtain ⟨hT40, hf⟩ := ck_e hf
  obtain ⟨hg41, hf⟩ := ck_e hf
  refine g_aald (t0 := 4) X dX11_pays_71 ha39 hT40 (by decide) rfl hg41 ?_
  obtain ⟨a42, ha42, hf⟩ := dr_e hf
  obtain ⟨hT43, hf⟩ := ck_e hf
  refine g_get (ci := 0) (v := vI (mI M37 a42 4)) 4 X cdX1 i_X11_pays_X1 (by decide) k_X11_pays_f143 rfl dX11_pays_72 ha42 hT43 rfl ?_
  refine g_isub X dX11_pays_75 ?_
  cases hf
  refine g_eqQ hK ?_
  refine g_xret ?_
  exact g_iret X hr dX11_pays_76
set_option maxHeartbeats 4000000 in
set_option maxRecDepth 100000 in
theorem m_X11_pays (l : Launch) (hlx : l.stackTraces = false) {D : va_G} {cy : Nat → ClassId} {B : Nat} {H0 : Heap} {Z : Nat → Nat} {M M1 : gMem} {x0 : Nat} {x1 : Int32} {x2 : Int32} {r : (Nat ⊕ Int32)} (hH0 : H0.size = B) (hf : f_X11_pays Z M x0 x1 x2 = some (r, M1)) : vx_Met l yX11_pays wsX11_pays rX11_pays (va_Pc (Value.ref x0 :: List.map gv [vI x1, vI x2]) (gPre D cy B H0 (gSt2 Z B H0) M)) (gQX D cy B H0 (gzI r) M1) (gXC D cy B H0 (gzI r) M1) 2 12 (gA B) := by
  refine vx_ofW (cc := cX11_pays) (maxL := 5) (ret := (some .int)) (by decide) rfl ?_
  intro p e s m args below meth c s₁ Bd hml hne hv
  obtain ⟨rfl, hW, hKK, hFs⟩ := hv
  have X2 : gX p s m _ meth c D cy B (gSt2 Z B H0) RX11 cX11_pays wsX11_pays 5 := ⟨Bd.exec, Bd.bytes, atoms_spec (ws := wsX11_pays) Bd.pre, findClass_of_methodNamed Bd.named, hml, hKK, by rw [hW.1]; exact hW.2.1, Bd.notSynchronized, hFs⟩
  have hr := Bd.returns
  have hH : ∀ q : Nat, q < B → s.heap[q]? = H0[q]? := hW.2.2.1
  have hl := lv_entry ([.ref x0, .int x1, .int x2]) (n := 5) (Nat.le_of_ble_eq_true rfl)
  show W p l e rX11_pays s m _ below meth c s.heap [] 0 0 _ (entryFrame m ([.ref x0, .int x1, .int x2] : List Value).toArray 5)
  rw [lg_entry_eq]
  generalize (lg_sl ([.ref x0, .int x1, .int x2]) ++ List.replicate (5 - (lg_sl ([.ref x0, .int x1, .int x2])).length) Slot.unset).toArray = ls at hl ⊢
  have hl : lv_has ls 5 (List.map gq [(0, vR (some x0)), (1, vI x1), (2, vI x2)]) := hl
  exact t_X11_pays_0 X2 hr hlx hH hne hH0 _ _ _ _ _ hf rfl s.heap [] ls hW va_S.rf (lv_has_sub hl (lvsub_of _ _ [0, 1, 2] rfl))
/-! ## TideLots.empty(I)I -/
theorem dX11_empty_0 : decode cX11_empty 0 = .ok (.aload_n 0, 1) := by decide +kernel
theorem dX11_empty_1 : decode cX11_empty 1 = .ok (.iload_n 1, 1) := by decide +kernel
theorem dX11_empty_2 : decode cX11_empty 2 = .ok (.invokevirtual 97, 3) := by decide +kernel
theorem dX11_empty_5 : decode cX11_empty 5 = .ok (.aload_n 0, 1) := by decide +kernel
theorem dX11_empty_6 : decode cX11_empty 6 = .ok (.invokevirtual 219, 3) := by decide +kernel
theorem dX11_empty_9 : decode cX11_empty 9 = .ok (.astore_n 2, 1) := by decide +kernel
theorem dX11_empty_10 : decode cX11_empty 10 = .ok (.iconst 0, 1) := by decide +kernel
theorem dX11_empty_11 : decode cX11_empty 11 = .ok (.istore_n 3, 1) := by decide +kernel
theorem dX11_empty_12 : decode cX11_empty 12 = .ok (.iload_n 3, 1) := by decide +kernel
theorem dX11_empty_13 : decode cX11_empty 13 = .ok (.bipush 100, 2) := by decide +kernel
theorem dX11_empty_15 : decode cX11_empty 15 = .ok (.if_icmp .gt 33, 3) := by decide +kernel
theorem dX11_empty_18 : decode cX11_empty 18 = .ok (.iload_n 3, 1) := by decide +kernel
theorem dX11_empty_19 : decode cX11_empty 19 = .ok (.ifCond .le 9, 3) := by decide +kernel
theorem dX11_empty_22 : decode cX11_empty 22 = .ok (.aload_n 2, 1) := by decide +kernel
theorem dX11_empty_23 : decode cX11_empty 23 = .ok (.iconst 1, 1) := by decide +kernel
theorem dX11_empty_24 : decode cX11_empty 24 = .ok (.invokevirtual 213, 3) := by decide +kernel
theorem dX11_empty_27 : decode cX11_empty 27 = .ok (.pop, 1) := by decide +kernel
theorem dX11_empty_28 : decode cX11_empty 28 = .ok (.aload_n 2, 1) := by decide +kernel
theorem dX11_empty_29 : decode cX11_empty 29 = .ok (.getfield 100, 3) := by decide +kernel
theorem dX11_empty_32 : decode cX11_empty 32 = .ok (.iload_n 1, 1) := by decide +kernel
theorem dX11_empty_33 : decode cX11_empty 33 = .ok (.aaload, 1) := by decide +kernel
theorem dX11_empty_34 : decode cX11_empty 34 = .ok (.invokevirtual 104, 3) := by decide +kernel
theorem dX11_empty_37 : decode cX11_empty 37 = .ok (.ifCond .ne 5, 3) := by decide +kernel
theorem dX11_empty_40 : decode cX11_empty 40 = .ok (.iload_n 3, 1) := by decide +kernel
theorem dX11_empty_41 : decode cX11_empty 41 = .ok (.ireturn, 1) := by decide +kernel
theorem dX11_empty_42 : decode cX11_empty 42 = .ok (.iinc 3 1, 3) := by decide +kernel
theorem dX11_empty_45 : decode cX11_empty 45 = .ok (.goto (-33), 3) := by decide +kernel
theorem dX11_empty_48 : decode cX11_empty 48 = .ok (.iconst (-1), 1) := by decide +kernel
theorem dX11_empty_49 : decode cX11_empty 49 = .ok (.ireturn, 1) := by decide +kernel
set_option maxRecDepth 20000 in
theorem ggX11_empty_X3_allFish : GoodIn wsX11_empty wsX3_allFish := goodIn_r _ [140, 40, 238, 239, 240, 241] (by decide +kernel) (by decide +kernel)
set_option maxRecDepth 20000 in
theorem gX11_empty_X3_allFish : GoodIn wsX11_empty (wsV RX11 104 RX3 yX3_allFish wsX3_allFish) := goodIn_app (goodIn_of _ (by decide +kernel)) ggX11_empty_X3_allFish
set_option maxRecDepth 20000 in
theorem ggX11_empty_X7_passTides : GoodIn wsX11_empty wsX7_passTides := goodIn_2 24 (goodIn_r _ [90, 22, 24, 91, 26, 30, 23, 27, 21, 92, 93, 94, 19, 95, 96, 97, 98, 99, 100, 101, 102, 103, 104, 105] (by decide +kernel) (by decide +kernel)) (goodIn_2 24 (goodIn_r _ [106, 25, 29, 107, 108, 109, 110, 111, 31, 112, 113, 114, 82, 115, 84, 116, 85, 117, 86, 118, 119, 120, 121, 122] (by decide +kernel) (by decide +kernel)) (goodIn_2 24 (goodIn_r _ [123, 124, 125, 126, 127, 128, 129, 130, 131, 132, 133, 134, 135, 136, 137, 138, 139, 35, 140, 40, 141, 142, 143, 144] (by decide +kernel) (by decide +kernel)) (goodIn_2 24 (goodIn_r _ [145, 146, 147, 148, 149, 150, 151, 152, 153, 154, 28, 155, 156, 157, 158, 159, 160, 161, 69, 162, 74, 78, 163, 164] (by decide +kernel) (by decide +kernel)) (goodIn_2 24 (goodIn_r _ [165, 166, 167, 168, 169, 170, 171, 172, 173, 174, 175, 176, 177, 178, 179, 180, 181, 182, 183, 44, 184, 47, 185, 53] (by decide +kernel) (by decide +kernel)) (goodIn_2 24 (goodIn_r _ [186, 187, 188, 189, 190, 191, 192, 193, 194, 195, 196, 197, 198, 199, 200, 201, 202, 203, 204, 71, 205, 206, 207, 208] (by decide +kernel) (by decide +kernel)) (goodIn_2 24 (goodIn_r _ [209, 210, 211, 212, 213, 214, 215, 217, 218, 219, 220, 221, 222, 223, 224, 225, 226, 227, 228, 229, 230, 231, 232, 233] (by decide +kernel) (by decide +kernel)) (goodIn_2 24 (goodIn_r _ [238, 239, 240, 241, 253, 254, 255, 256, 265, 266, 267, 268, 242, 243, 244, 245, 246, 247, 248, 249, 250, 251, 252, 257] (by decide +kernel) (by decide +kernel)) (goodIn_r _ [258, 259, 260, 261, 262, 263, 264] (by decide +kernel) (by decide +kernel)))))))))
set_option maxRecDepth 20000 in
theorem gX11_empty_X7_passTides : GoodIn wsX11_empty (wsV RX11 213 RX7 yX7_passTides wsX7_passTides) := goodIn_app (goodIn_of _ (by decide +kernel)) ggX11_empty_X7_passTides
set_option maxRecDepth 20000 in
theorem ggX11_empty_X11_checkGround : GoodIn wsX11_empty wsX11_checkGround := goodIn_ca (goodIn_r _ [6, 7, 8, 9, 10, 234, 235, 236, 237, 217, 218, 219, 220, 221, 222, 223, 224, 225, 226, 227, 228, 229, 230, 231, 232, 233] (by decide +kernel) (by decide +kernel)) (goodIn_sub (fun _ h => List.mem_cons_of_mem _ (List.mem_append_right _ h)) (by decide +kernel))
set_option maxRecDepth 20000 in
theorem gX11_empty_X11_checkGround : GoodIn wsX11_empty (wsV RX11 97 RX11 yX11_checkGround wsX11_checkGround) := goodIn_app (goodIn_of _ (by decide +kernel)) ggX11_empty_X11_checkGround
set_option maxRecDepth 20000 in
theorem ggX11_empty_X11_lookAhead : GoodIn wsX11_empty wsX11_lookAhead := goodIn_2 24 (goodIn_r _ [14, 15, 9, 16, 17, 18, 19, 20, 21, 22, 23, 24, 25, 26, 27, 28, 29, 30, 31, 32, 33, 34, 35, 36] (by decide +kernel) (by decide +kernel)) (goodIn_2 24 (goodIn_r _ [37, 38, 39, 40, 41, 42, 43, 44, 45, 46, 47, 48, 49, 50, 51, 52, 53, 54, 55, 56, 57, 58, 59, 60] (by decide +kernel) (by decide +kernel)) (goodIn_2 24 (goodIn_r _ [61, 62, 63, 64, 65, 66, 67, 68, 69, 70, 71, 72, 73, 74, 75, 76, 77, 78, 79, 80, 81, 82, 83, 84] (by decide +kernel) (by decide +kernel)) (goodIn_2 24 (goodIn_r _ [85, 86, 234, 235, 236, 237, 217, 218, 219, 220, 221, 222, 223, 224, 225, 226, 227, 228, 229, 230, 231, 232, 233, 238] (by decide +kernel) (by decide +kernel)) (goodIn_2 24 (goodIn_r _ [239, 240, 241, 242, 243, 244, 245, 246, 247, 248, 249, 250, 251, 252, 253, 254, 255, 256, 257, 258, 259, 260, 261, 262] (by decide +kernel) (by decide +kernel)) (goodIn_r _ [263, 264, 265, 266, 267, 268] (by decide +kernel) (by decide +kernel))))))
set_option maxRecDepth 20000 in
theorem gX11_empty_X11_lookAhead : GoodIn wsX11_empty (wsV RX11 219 RX11 yX11_lookAhead wsX11_lookAhead) := goodIn_app (goodIn_of _ (by decide +kernel)) ggX11_empty_X11_lookAhead
theorem k_X11_empty_f100 : Cond.fieldLink RX11 100 "TideLots$Shore" "grounds" "[LTideLots$Ground;" ∈ wsX11_empty := by decide +kernel
theorem i_X11_empty_X7 : ∀ w ∈ u_ws RX7 TX7 17, w ∈ wsX11_empty := by decide +kernel
abbrev rX11_empty : Room := { frames := 7, cells := 1, slots := 6, locals := 141 }
noncomputable def b_X11_empty_28 (Z : Nat → Nat) (M : gMem) (x1 : Int32) (x2 : Option Nat) (x3 : Int32) : Option ((gMem × Int32) ⊕ ((Nat ⊕ Int32) × gMem)) :=
  dr x2 fun a1 => ck (mT M a1 = 7) <| dr ((mR M a1 6)) fun a3 => ck (mT M a3 = 23) <| ck (inb x1 (mL M a3)) <| dr ((mR M a3 x1.toNatClampNeg)) fun a7 => ck (mT M a7 = 3) <| bd (f_X3_allFish M a7) fun r6 M6 => (if r6 = 0 then oI (some (.inr x3, M6)) else some (.inl (M6, (x3 + (1 : Int32)))))
noncomputable def bb_X11_empty_12 (Z : Nat → Nat) (M : gMem) (x1 : Int32) (x2 : Option Nat) (x3 : Int32) : Option ((gMem × Int32) ⊕ ((Nat ⊕ Int32) × gMem)) :=
  (if (100 : Int32) < x3 then oI (some (.inr (-1 : Int32), M)) else (if x3 ≤ 0 then b_X11_empty_28 Z M x1 x2 x3 else dr x2 fun a12 => ck (mT M a12 = 7) <| bd (f_X7_passTides Z M a12 ((1 : Int32))) fun r11 M11 => b_X11_empty_28 Z M11 x1 x2 x3))
noncomputable def lp_X11_empty_12 (Z : Nat → Nat) (M : gMem) (x1 : Int32) (x2 : Option Nat) (x3 : Int32) : Option ((Nat ⊕ Int32) × gMem) :=
  lp (fun (q : gMem × Int32) => bb_X11_empty_12 Z q.1 x1 x2 q.2) (M, x3)
noncomputable def b_X11_empty_0 (Z : Nat → Nat) (M : gMem) (x0 : Nat) (x1 : Int32) : Option ((Nat ⊕ Int32) × gMem) :=
  ck (mT M x0 = 10) <| bx (f_X11_checkGround M x0 x1) (fun e14 M14 => some (.inl e14, M14)) fun _ M14 => ck (mT M14 x0 = 10) <| bd (f_X11_lookAhead Z M14 x0) fun r16 M16 => lp_X11_empty_12 Z M16 x1 r16 ((0 : Int32))
noncomputable def f_X11_empty (Z : Nat → Nat) (M : gMem) (x0 : Nat) (x1 : Int32) : Option ((Nat ⊕ Int32) × gMem) :=
  b_X11_empty_0 Z M x0 x1
set_option maxHeartbeats 4000000 in
set_option maxRecDepth 100000 in
theorem t_X11_empty_28 (X2 : gX p s m args meth c D cy B (gSt2 Z B H0) RX11 cX11_empty wsX11_empty 4) (hr : meth.sig.returnType = (some .int)) (hlx : l.stackTraces = false) (hH : ∀ q : Nat, q < B → s.heap[q]? = H0[q]?) (hne : ∀ x ∈ c.exceptionTable.toList, False) (hH0 : H0.size = B) {Q : State → Prop} : ∀ (M : gMem) (x1 : Int32) (x2 : Option Nat) (x3 : Int32) (z : (gMem × Int32) ⊕ ((Nat ⊕ Int32) × gMem)), b_X11_empty_28 Z M x1 x2 x3 = some z → (Sum.elim (fun (q : gMem × Int32) => gGo p l e rX11_empty s m args below meth c D cy B H0 4 1 6 Q 12 [(1, vI x1), (2, vR x2), (3, vI q.2)] [] q.1) (fun (r : (Nat ⊕ Int32) × gMem) => Q = gMX below D cy B H0 args s 1 6 (gzI r.1) r.2)) z → gGo p l e rX11_empty s m args below meth c D cy B H0 4 1 6 Q 28 [(1, vI x1), (2, vR x2), (3, vI x3)] [] M := by
  intro M x1 x2 x3 z hf hK
  unfold b_X11_empty_28 at hf
  have X := gX_w X2
  refine g_aload_n X dX11_empty_28 rfl rfl ?_
  obtain ⟨a1, ha1, hf⟩ := dr_e hf
  obtain ⟨hT2, hf⟩ := ck_e hf
  refine g_get (ci := 6) (v := vR (mR M a1 6)) 6 X cdX7 i_X11_empty_X7 (by decide) k_X11_empty_f100 rfl dX11_empty_29 ha1 hT2 rfl ?_
  refine g_iload_n X dX11_empty_32 rfl rfl ?_
  obtain ⟨a3, ha3, hf⟩ := dr_e hf
  obtain ⟨hT4, hf⟩ := ck_e hf
  obtain ⟨hg5, hf⟩ := ck_e hf
  refine g_aald (t0 := 3) X dX11_empty_33 ha3 hT4 (by decide) rfl hg5 ?_
  obtain ⟨a7, ha7, hf⟩ := dr_e hf
  obtain ⟨hT8, hf⟩ := ck_e hf
  obtain ⟨r6, M6, hq6, hf⟩ := bd_e hf
  refine g_callV (ci := 2) (b := a7) (As := []) (st := []) (v := some (vI r6)) (M1 := M6) X (m_X3_allFish l hq6) (cwV 0 X.2.2.1 gX11_empty_X3_allFish rfl rfl rfl (by decide +kernel) ⟨Nat.le_of_ble_eq_true rfl, Nat.le_of_ble_eq_true rfl⟩) rfl rfl ha7 hT8 (by decide) rfl (Nat.le_of_ble_eq_true rfl) dX11_empty_34 ⟨by decide, by decide⟩ ?_
  refine g_if_ne (tgt := 42) X dX11_empty_37 (by decide) (fun hc => ?_) (fun hc => ?_)
  · have hf := ife_f hc hf
    refine g_iinc (v := (1 : Int32)) (lv' := [(3, vI (x3 + (1 : Int32))), (1, vI x1), (2, vR x2)]) X dX11_empty_42 rfl (by decide) (by decide) rfl ?_
    refine g_goto (tgt := 12) X dX11_empty_45 (by decide) ?_
    cases hf
    refine g_sub (lvsub_of _ _ [1, 2, 0] rfl) ?_
    exact hK
  · have hf := ife_t hc hf
    refine g_iload_n X dX11_empty_40 rfl rfl ?_
    obtain ⟨w9, hw9, hz9⟩ := oI_e hf
    subst hz9
    have hf := hw9
    cases hf
    refine g_eqQ hK ?_
    refine g_xret ?_
    exact g_iret X hr dX11_empty_41
set_option maxHeartbeats 4000000 in
set_option maxRecDepth 100000 in
theorem tb_X11_empty_12 (X2 : gX p s m args meth c D cy B (gSt2 Z B H0) RX11 cX11_empty wsX11_empty 4) (hr : meth.sig.returnType = (some .int)) (hlx : l.stackTraces = false) (hH : ∀ q : Nat, q < B → s.heap[q]? = H0[q]?) (hne : ∀ x ∈ c.exceptionTable.toList, False) (hH0 : H0.size = B) {Q : State → Prop} : ∀ (M : gMem) (x1 : Int32) (x2 : Option Nat) (x3 : Int32) (z : (gMem × Int32) ⊕ ((Nat ⊕ Int32) × gMem)), bb_X11_empty_12 Z M x1 x2 x3 = some z → (Sum.elim (fun (q : gMem × Int32) => gGo p l e rX11_empty s m args below meth c D cy B H0 4 1 6 Q 12 [(1, vI x1), (2, vR x2), (3, vI q.2)] [] q.1) (fun (r : (Nat ⊕ Int32) × gMem) => Q = gMX below D cy B H0 args s 1 6 (gzI r.1) r.2)) z → gGo p l e rX11_empty s m args below meth c D cy B H0 4 1 6 Q 12 [(1, vI x1), (2, vR x2), (3, vI x3)] [] M := by
  intro M x1 x2 x3 z hf hK
  unfold bb_X11_empty_12 at hf
  have X := gX_w X2
  refine g_iload_n X dX11_empty_12 rfl rfl ?_
  refine g_bipush (v := (100 : Int32)) X dX11_empty_13 (by decide) ?_
  refine g_icmp_gt (tgt := 48) X dX11_empty_15 (by decide) (fun hc => ?_) (fun hc => ?_)
  · have hf := ife_t hc hf
    refine g_iconst (v := (-1 : Int32)) X dX11_empty_48 (by decide) ?_
    obtain ⟨w10, hw10, hz10⟩ := oI_e hf
    subst hz10
    have hf := hw10
    cases hf
    refine g_eqQ hK ?_
    refine g_xret ?_
    exact g_iret X hr dX11_empty_49
  · have hf := ife_f hc hf
    refine g_iload_n X dX11_empty_18 rfl rfl ?_
    refine g_if_le (tgt := 28) X dX11_empty_19 (by decide) (fun hc => ?_) (fun hc => ?_)
    · have hf := ife_t hc hf
      refine g_sub (lvsub_of _ _ [0, 1, 2] rfl) ?_
      exact t_X11_empty_28 X2 hr hlx hH hne hH0 _ _ _ _ _ hf hK
    · have hf := ife_f hc hf
      refine g_aload_n X dX11_empty_22 rfl rfl ?_
      refine g_iconst (v := (1 : Int32)) X dX11_empty_23 (by decide) ?_
      obtain ⟨a12, ha12, hf⟩ := dr_e hf
      obtain ⟨hT13, hf⟩ := ck_e hf
      obtain ⟨r11, M11, hq11, hf⟩ := bd_e hf
      refine g_callV (ci := 6) (b := a12) (As := [vI (1 : Int32)]) (st := []) (v := some (vI r11)) (M1 := M11) X (m_X7_passTides l hq11) (cwV 1 X.2.2.1 gX11_empty_X7_passTides rfl rfl rfl (by decide +kernel) ⟨Nat.le_of_ble_eq_true rfl, Nat.le_of_ble_eq_true rfl⟩) rfl rfl ha12 hT13 (by decide) rfl (Nat.le_of_ble_eq_true rfl) dX11_empty_24 ⟨by decide, by decide⟩ ?_
      refine g_pop X dX11_empty_27 rfl ?_
      refine g_sub (lvsub_of _ _ [0, 1, 2] rfl) ?_
      exact t_X11_empty_28 X2 hr hlx hH hne hH0 _ _ _ _ _ hf hK
set_option maxHeartbeats 4000000 in
set_option maxRecDepth 100000 in
theorem tl_X11_empty_12 (X2 : gX p s m args meth c D cy B (gSt2 Z B H0) RX11 cX11_empty wsX11_empty 4) (hr : meth.sig.returnType = (some .int)) (hlx : l.stackTraces = false) (hH : ∀ q : Nat, q < B → s.heap[q]? = H0[q]?) (hne : ∀ x ∈ c.exceptionTable.toList, False) (hH0 : H0.size = B) {Q : State → Prop} : ∀ (M : gMem) (x1 : Int32) (x2 : Option Nat) (x3 : Int32) (z : (Nat ⊕ Int32) × gMem), lp_X11_empty_12 Z M x1 x2 x3 = some z → (fun (r : (Nat ⊕ Int32) × gMem) => Q = gMX below D cy B H0 args s 1 6 (gzI r.1) r.2) z → gGo p l e rX11_empty s m args below meth c D cy B H0 4 1 6 Q 12 [(1, vI x1), (2, vR x2), (3, vI x3)] [] M := by
  intro M x1 x2 x3 z hf hK
  refine lp_ind (P := (fun (q : gMem × Int32) (z : (Nat ⊕ Int32) × gMem) => (fun (r : (Nat ⊕ Int32) × gMem) => Q = gMX below D cy B H0 args s 1 6 (gzI r.1) r.2) z → gGo p l e rX11_empty s m args below meth c D cy B H0 4 1 6 Q 12 [(1, vI x1), (2, vR x2), (3, vI q.2)] [] q.1)) (fun q z hq => ?_) _ _ hf hK
  intro hK
  obtain ⟨w, hw, hm⟩ := hq
  refine tb_X11_empty_12 X2 hr hlx hH hne hH0 _ _ _ _ w hw ?_
  cases w with
  | inl a => exact hm hK
  | inr b => cases hm; exact hK
set_option maxHeartbeats 4000000 in
set_option maxRecDepth 100000 in
theorem t_X11_empty_0 (X2 : gX p s m args meth c D cy B (gSt2 Z B H0) RX11 cX11_empty wsX11_empty 4) (hr : meth.sig.returnType = (some .int)) (hlx : l.stackTraces = false) (hH : ∀ q : Nat, q < B → s.heap[q]? = H0[q]?) (hne : ∀ x ∈ c.exceptionTable.toList, False) (hH0 : H0.size = B) {Q : State → Prop} : ∀ (M : gMem) (x0 : Nat) (x1 : Int32) (z : (Nat ⊕ Int32) × gMem), b_X11_empty_0 Z M x0 x1 = some z → (fun (r : (Nat ⊕ Int32) × gMem) => Q = gMX below D cy B H0 args s 1 6 (gzI r.1) r.2) z → gGo p l e rX11_empty s m args below meth c D cy B H0 4 0 0 Q 0 [(0, vR (some x0)), (1, vI x1)] [] M := by
  intro M x0 x1 z hf hK
  unfold b_X11_empty_0 at hf
  have X := gX_w X2
  refine g_aload_n X dX11_empty_0 rfl rfl ?_
  refine g_iload_n X dX11_empty_1 rfl rfl ?_
  obtain ⟨hT15, hf⟩ := ck_e hf
  rcases bx_e hf with ⟨e14, M14, hq14, hf⟩ | ⟨r14, M14, hq14, hf⟩
  · cases hf
    refine g_eqQ hK ?_
    exact g_callTV (ci := 9) (b := x0) (As := [vI x1]) (st := []) (M1 := M14) X2 hne (m_X11_checkGround l hlx hH0 hq14) (cwV 1 X.2.2.1 gX11_empty_X11_checkGround rfl rfl rfl (by decide +kernel) ⟨Nat.le_of_ble_eq_true rfl, Nat.le_of_ble_eq_true rfl⟩) rfl rfl rfl hT15 (by decide) rfl (Nat.le_of_ble_eq_true rfl) dX11_empty_2 ⟨(by decide), (by decide)⟩ (by decide) (by decide)
  refine g_callXV (ci := 9) (b := x0) (As := [vI x1]) (st := []) (v := none) (M1 := M14) X2 (m_X11_checkGround l hlx hH0 hq14) (cwV 1 X.2.2.1 gX11_empty_X11_checkGround rfl rfl rfl (by decide +kernel) ⟨Nat.le_of_ble_eq_true rfl, Nat.le_of_ble_eq_true rfl⟩) rfl rfl rfl hT15 (by decide) rfl (Nat.le_of_ble_eq_true rfl) dX11_empty_2 ⟨(by decide), (by decide)⟩ ?_
  refine g_aload_n X dX11_empty_5 rfl rfl ?_
  obtain ⟨hT17, hf⟩ := ck_e hf
  obtain ⟨r16, M16, hq16, hf⟩ := bd_e hf
  refine g_callV (ci := 9) (b := x0) (As := []) (st := []) (v := some (vR r16)) (M1 := M16) X (m_X11_lookAhead l hq16) (cwV 0 X.2.2.1 gX11_empty_X11_lookAhead rfl rfl rfl (by decide +kernel) ⟨Nat.le_of_ble_eq_true rfl, Nat.le_of_ble_eq_true rfl⟩) rfl rfl rfl hT17 (by decide) rfl (Nat.le_of_ble_eq_true rfl) dX11_empty_6 ⟨by decide, by decide⟩ ?_
  refine g_astore_n (lv' := [(2, vR r16), (0, vR (some x0)), (1, vI x1)]) X dX11_empty_9 rfl (by decide) rfl ?_
  refine g_iconst (v := (0 : Int32)) X dX11_empty_10 (by decide) ?_
  refine g_istore_n (lv' := [(3, vI (0 : Int32)), (2, vR r16), (0, vR (some x0)), (1, vI x1)]) X dX11_empty_11 rfl (by decide) rfl ?_
  refine g_sub (lvsub_of _ _ [3, 1, 0] rfl) ?_
  exact tl_X11_empty_12 X2 hr hlx hH hne hH0 _ _ _ _ _ hf hK
set_option maxHeartbeats 4000000 in
set_option maxRecDepth 100000 in
theorem m_X11_empty (l : Launch) (hlx : l.stackTraces = false) {D : va_G} {cy : Nat → ClassId} {B : Nat} {H0 : Heap} {Z : Nat → Nat} {M M1 : gMem} {x0 : Nat} {x1 : Int32} {r : (Nat ⊕ Int32)} (hH0 : H0.size = B) (hf : f_X11_empty Z M x0 x1 = some (r, M1)) : vx_Met l yX11_empty wsX11_empty rX11_empty (va_Pc (Value.ref x0 :: List.map gv [vI x1]) (gPre D cy B H0 (gSt2 Z B H0) M)) (gQX D cy B H0 (gzI r) M1) (gXC D cy B H0 (gzI r) M1) 1 6 (gA B) := by
  refine vx_ofW (cc := cX11_empty) (maxL := 4) (ret := (some .int)) (by decide) rfl ?_
  intro p e s m args below meth c s₁ Bd hml hne hv
  obtain ⟨rfl, hW, hKK, hFs⟩ := hv
  have X2 : gX p s m _ meth c D cy B (gSt2 Z B H0) RX11 cX11_empty wsX11_empty 4 := ⟨Bd.exec, Bd.bytes, atoms_spec (ws := wsX11_empty) Bd.pre, findClass_of_methodNamed Bd.named, hml, hKK, by rw [hW.1]; exact hW.2.1, Bd.notSynchronized, hFs⟩
  have hr := Bd.returns
  have hH : ∀ q : Nat, q < B → s.heap[q]? = H0[q]? := hW.2.2.1
  have hl := lv_entry ([.ref x0, .int x1]) (n := 4) (Nat.le_of_ble_eq_true rfl)
  show W p l e rX11_empty s m _ below meth c s.heap [] 0 0 _ (entryFrame m ([.ref x0, .int x1] : List Value).toArray 4)
  rw [lg_entry_eq]
  generalize (lg_sl ([.ref x0, .int x1]) ++ List.replicate (4 - (lg_sl ([.ref x0, .int x1])).length) Slot.unset).toArray = ls at hl ⊢
  have hl : lv_has ls 4 (List.map gq [(0, vR (some x0)), (1, vI x1)]) := hl
  exact t_X11_empty_0 X2 hr hlx hH hne hH0 _ _ _ _ hf rfl s.heap [] ls hW va_S.rf (lv_has_sub hl (lvsub_of _ _ [0, 1] rfl))
/-! ## TideLots.advise(II)I -/
theorem dX11_advise_0 : decode cX11_advise 0 = .ok (.aload_n 0, 1) := by decide +kernel
theorem dX11_advise_1 : decode cX11_advise 1 = .ok (.iload_n 1, 1) := by decide +kernel
theorem dX11_advise_2 : decode cX11_advise 2 = .ok (.invokevirtual 122, 3) := by decide +kernel
theorem dX11_advise_5 : decode cX11_advise 5 = .ok (.iload_n 2, 1) := by decide +kernel
theorem dX11_advise_6 : decode cX11_advise 6 = .ok (.bipush 40, 2) := by decide +kernel
theorem dX11_advise_8 : decode cX11_advise 8 = .ok (.invokestatic 209, 3) := by decide +kernel
theorem dX11_advise_11 : decode cX11_advise 11 = .ok (.iconst 1, 1) := by decide +kernel
theorem dX11_advise_12 : decode cX11_advise 12 = .ok (.istore_n 3, 1) := by decide +kernel
theorem dX11_advise_13 : decode cX11_advise 13 = .ok (.iconst (-1), 1) := by decide +kernel
theorem dX11_advise_14 : decode cX11_advise 14 = .ok (.istore 4, 2) := by decide +kernel
theorem dX11_advise_16 : decode cX11_advise 16 = .ok (.iconst 1, 1) := by decide +kernel
theorem dX11_advise_17 : decode cX11_advise 17 = .ok (.istore 5, 2) := by decide +kernel
theorem dX11_advise_19 : decode cX11_advise 19 = .ok (.iload 5, 2) := by decide +kernel
theorem dX11_advise_21 : decode cX11_advise 21 = .ok (.iconst 5, 1) := by decide +kernel
theorem dX11_advise_22 : decode cX11_advise 22 = .ok (.if_icmp .gt 64, 3) := by decide +kernel
theorem dX11_advise_25 : decode cX11_advise 25 = .ok (.aload_n 0, 1) := by decide +kernel
theorem dX11_advise_26 : decode cX11_advise 26 = .ok (.invokevirtual 219, 3) := by decide +kernel
theorem dX11_advise_29 : decode cX11_advise 29 = .ok (.astore 6, 2) := by decide +kernel
theorem dX11_advise_31 : decode cX11_advise 31 = .ok (.aload 6, 2) := by decide +kernel
theorem dX11_advise_33 : decode cX11_advise 33 = .ok (.getfield 125, 3) := by decide +kernel
theorem dX11_advise_36 : decode cX11_advise 36 = .ok (.iload_n 1, 1) := by decide +kernel
theorem dX11_advise_37 : decode cX11_advise 37 = .ok (.aaload, 1) := by decide +kernel
theorem dX11_advise_38 : decode cX11_advise 38 = .ok (.iload 5, 2) := by decide +kernel
theorem dX11_advise_40 : decode cX11_advise 40 = .ok (.putfield 129, 3) := by decide +kernel
theorem dX11_advise_43 : decode cX11_advise 43 = .ok (.aload 6, 2) := by decide +kernel
theorem dX11_advise_45 : decode cX11_advise 45 = .ok (.iload_n 2, 1) := by decide +kernel
theorem dX11_advise_46 : decode cX11_advise 46 = .ok (.invokevirtual 213, 3) := by decide +kernel
theorem dX11_advise_49 : decode cX11_advise 49 = .ok (.pop, 1) := by decide +kernel
theorem dX11_advise_50 : decode cX11_advise 50 = .ok (.aload 6, 2) := by decide +kernel
theorem dX11_advise_52 : decode cX11_advise 52 = .ok (.getfield 125, 3) := by decide +kernel
theorem dX11_advise_55 : decode cX11_advise 55 = .ok (.iload_n 1, 1) := by decide +kernel
theorem dX11_advise_56 : decode cX11_advise 56 = .ok (.aaload, 1) := by decide +kernel
theorem dX11_advise_57 : decode cX11_advise 57 = .ok (.getfield 143, 3) := by decide +kernel
theorem dX11_advise_60 : decode cX11_advise 60 = .ok (.iload 4, 2) := by decide +kernel
theorem dX11_advise_62 : decode cX11_advise 62 = .ok (.if_icmp .le 18, 3) := by decide +kernel
theorem dX11_advise_65 : decode cX11_advise 65 = .ok (.aload 6, 2) := by decide +kernel
theorem dX11_advise_67 : decode cX11_advise 67 = .ok (.getfield 125, 3) := by decide +kernel
theorem dX11_advise_70 : decode cX11_advise 70 = .ok (.iload_n 1, 1) := by decide +kernel
theorem dX11_advise_71 : decode cX11_advise 71 = .ok (.aaload, 1) := by decide +kernel
theorem dX11_advise_72 : decode cX11_advise 72 = .ok (.getfield 143, 3) := by decide +kernel
theorem dX11_advise_75 : decode cX11_advise 75 = .ok (.istore 4, 2) := by decide +kernel
theorem dX11_advise_77 : decode cX11_advise 77 = .ok (.iload 5, 2) := by decide +kernel
theorem dX11_advise_79 : decode cX11_advise 79 = .ok (.istore_n 3, 1) := by decide +kernel
theorem dX11_advise_80 : decode cX11_advise 80 = .ok (.iinc 5 1, 3) := by decide +kernel
theorem dX11_advise_83 : decode cX11_advise 83 = .ok (.goto (-64), 3) := by decide +kernel
theorem dX11_advise_86 : decode cX11_advise 86 = .ok (.iload_n 3, 1) := by decide +kernel
theorem dX11_advise_87 : decode cX11_advise 87 = .ok (.ireturn, 1) := by decide +kernel
set_option maxRecDepth 20000 in
theorem ggX11_advise_X11_lookAhead : GoodIn wsX11_advise wsX11_lookAhead := goodIn_2 24 (goodIn_r _ [21, 22, 11, 23, 24, 25, 26, 27, 28, 29, 30, 31, 32, 33, 34, 35, 36, 37, 38, 39, 40, 41, 42, 43] (by decide +kernel) (by decide +kernel)) (goodIn_2 24 (goodIn_r _ [44, 45, 46, 47, 48, 49, 50, 51, 52, 53, 54, 55, 56, 57, 58, 59, 60, 61, 62, 63, 64, 65, 66, 67] (by decide +kernel) (by decide +kernel)) (goodIn_2 24 (goodIn_r _ [68, 69, 70, 71, 72, 73, 74, 75, 76, 77, 78, 79, 80, 81, 82, 83, 84, 85, 86, 87, 88, 89, 90, 91] (by decide +kernel) (by decide +kernel)) (goodIn_2 24 (goodIn_r _ [92, 93, 251, 252, 253, 254, 223, 224, 225, 226, 227, 228, 229, 230, 231, 232, 233, 234, 235, 236, 237, 238, 239, 255] (by decide +kernel) (by decide +kernel)) (goodIn_2 24 (goodIn_r _ [256, 257, 258, 240, 241, 242, 243, 244, 245, 246, 247, 248, 249, 250, 259, 260, 261, 262, 263, 264, 265, 266, 267, 268] (by decide +kernel) (by decide +kernel)) (goodIn_r _ [269, 270, 271, 272, 273, 274] (by decide +kernel) (by decide +kernel))))))
set_option maxRecDepth 20000 in
theorem gX11_advise_X11_lookAhead : GoodIn wsX11_advise (wsV RX11 219 RX11 yX11_lookAhead wsX11_lookAhead) := goodIn_app (goodIn_of _ (by decide +kernel)) ggX11_advise_X11_lookAhead
set_option maxRecDepth 20000 in
theorem ggX11_advise_X7_passTides : GoodIn wsX11_advise wsX7_passTides := goodIn_2 24 (goodIn_r _ [97, 29, 31, 98, 33, 37, 30, 34, 28, 99, 100, 101, 26, 102, 103, 104, 105, 106, 107, 108, 109, 110, 111, 112] (by decide +kernel) (by decide +kernel)) (goodIn_2 24 (goodIn_r _ [113, 32, 36, 114, 115, 116, 117, 118, 38, 119, 120, 121, 89, 122, 91, 123, 92, 124, 93, 125, 126, 127, 128, 129] (by decide +kernel) (by decide +kernel)) (goodIn_2 24 (goodIn_r _ [130, 131, 132, 133, 134, 135, 136, 137, 138, 139, 140, 141, 142, 143, 144, 145, 146, 42, 147, 47, 148, 149, 150, 151] (by decide +kernel) (by decide +kernel)) (goodIn_2 24 (goodIn_r _ [152, 153, 154, 155, 156, 157, 158, 159, 160, 161, 35, 162, 163, 164, 165, 166, 167, 168, 76, 169, 81, 85, 170, 171] (by decide +kernel) (by decide +kernel)) (goodIn_2 24 (goodIn_r _ [172, 173, 174, 175, 176, 177, 178, 179, 180, 181, 182, 183, 184, 185, 186, 187, 188, 189, 190, 51, 191, 54, 192, 60] (by decide +kernel) (by decide +kernel)) (goodIn_2 24 (goodIn_r _ [193, 194, 195, 196, 197, 198, 199, 200, 201, 202, 203, 204, 205, 206, 207, 208, 209, 210, 211, 78, 212, 213, 214, 215] (by decide +kernel) (by decide +kernel)) (goodIn_2 24 (goodIn_r _ [216, 217, 218, 219, 220, 221, 222, 223, 224, 225, 226, 227, 228, 229, 230, 231, 232, 233, 234, 235, 236, 237, 238, 239] (by decide +kernel) (by decide +kernel)) (goodIn_2 24 (goodIn_r _ [255, 256, 257, 258, 259, 260, 261, 262, 271, 272, 273, 274, 240, 241, 242, 243, 244, 245, 246, 247, 248, 249, 250, 263] (by decide +kernel) (by decide +kernel)) (goodIn_r _ [264, 265, 266, 267, 268, 269, 270] (by decide +kernel) (by decide +kernel)))))))))
set_option maxRecDepth 20000 in
theorem gX11_advise_X7_passTides : GoodIn wsX11_advise (wsV RX11 213 RX7 yX7_passTides wsX7_passTides) := goodIn_app (goodIn_of _ (by decide +kernel)) ggX11_advise_X7_passTides
set_option maxRecDepth 20000 in
theorem ggX11_advise_X11_checkFisher : GoodIn wsX11_advise wsX11_checkFisher := goodIn_ca (goodIn_r _ [8, 9, 10, 11, 12, 251, 252, 253, 254, 223, 224, 225, 226, 227, 228, 229, 230, 231, 232, 233, 234, 235, 236, 237, 238, 239] (by decide +kernel) (by decide +kernel)) (goodIn_sub (fun _ h => List.mem_cons_of_mem _ (List.mem_append_left _ (List.mem_append_right _ h))) (by decide +kernel))
set_option maxRecDepth 20000 in
theorem gX11_advise_X11_checkFisher : GoodIn wsX11_advise (wsV RX11 122 RX11 yX11_checkFisher wsX11_checkFisher) := goodIn_app (goodIn_of _ (by decide +kernel)) ggX11_advise_X11_checkFisher
set_option maxRecDepth 20000 in
theorem ggX11_advise_X11_checkTides : GoodIn wsX11_advise wsX11_checkTides := goodIn_ca (goodIn_r _ [15, 16, 17] (by decide +kernel) (by decide +kernel)) (goodIn_sub (fun _ h => List.mem_cons_of_mem _ (List.mem_append_right _ h)) (by decide +kernel))
set_option maxRecDepth 20000 in
theorem gX11_advise_X11_checkTides : GoodIn wsX11_advise (va_wsS RX11 209 yX11_checkTides wsX11_checkTides) := goodIn_app (goodIn_of _ (by decide +kernel)) ggX11_advise_X11_checkTides
theorem k_X11_advise_f125 : Cond.fieldLink RX11 125 "TideLots$Shore" "fishers" "[LTideLots$Fisher;" ∈ wsX11_advise := by decide +kernel
theorem i_X11_advise_X7 : ∀ w ∈ u_ws RX7 TX7 17, w ∈ wsX11_advise := by decide +kernel
theorem k_X11_advise_f129 : Cond.fieldLink RX11 129 "TideLots$Fisher" "mesh" "I" ∈ wsX11_advise := by decide +kernel
theorem i_X11_advise_X1 : ∀ w ∈ u_ws RX1 TX1 11, w ∈ wsX11_advise := by decide +kernel
theorem k_X11_advise_f143 : Cond.fieldLink RX11 143 "TideLots$Fisher" "store" "I" ∈ wsX11_advise := by decide +kernel
abbrev rX11_advise : Room := { frames := 7, cells := 2, slots := 12, locals := 141 }
noncomputable def b_X11_advise_80 (Z : Nat → Nat) (M : gMem) (x0 : Nat) (x1 : Int32) (x2 : Int32) (x3 : Int32) (x4 : Int32) (x5 : Int32) : Option ((gMem × Int32 × Int32 × Int32) ⊕ ((Nat ⊕ Int32) × gMem)) :=
  some (.inl (M, x3, x4, (x5 + (1 : Int32))))
noncomputable def bb_X11_advise_19 (Z : Nat → Nat) (M : gMem) (x0 : Nat) (x1 : Int32) (x2 : Int32) (x3 : Int32) (x4 : Int32) (x5 : Int32) : Option ((gMem × Int32 × Int32 × Int32) ⊕ ((Nat ⊕ Int32) × gMem)) :=
  (if (5 : Int32) < x5 then oI (some (.inr x3, M)) else ck (mT M x0 = 10) <| bd (f_X11_lookAhead Z M x0) fun r2 M2 => dr r2 fun a4 => ck (mT M2 a4 = 7) <| dr ((mR M2 a4 7)) fun a6 => ck (mT M2 a6 = 24) <| ck (inb x1 (mL M2 a6)) <| dr ((mR M2 a6 x1.toNatClampNeg)) fun a9 => ck (mT M2 a9 = 1) <| lw (wI M2 a9 1 x5) fun M11 => bd (f_X7_passTides Z M11 a4 x2) fun r15 M15 => ck (mT M15 a4 = 7) <| dr ((mR M15 a4 7)) fun a17 => ck (mT M15 a17 = 24) <| ck (inb x1 (mL M15 a17)) <| dr ((mR M15 a17 x1.toNatClampNeg)) fun a20 => ck (mT M15 a20 = 1) <| (if (mI M15 a20 4) ≤ x4 then b_X11_advise_80 Z M15 x0 x1 x2 x3 x4 x5 else ck (inb x1 (mL M15 a17)) <| b_X11_advise_80 Z M15 x0 x1 x2 x5 ((mI M15 a20 4)) x5))
noncomputable def lp_X11_advise_19 (Z : Nat → Nat) (M : gMem) (x0 : Nat) (x1 : Int32) (x2 : Int32) (x3 : Int32) (x4 : Int32) (x5 : Int32) : Option ((Nat ⊕ Int32) × gMem) :=
  lp (fun (q : gMem × Int32 × Int32 × Int32) => bb_X11_advise_19 Z q.1 x0 x1 x2 q.2.1 q.2.2.1 q.2.2.2) (M, x3, x4, x5)
noncomputable def b_X11_advise_0 (Z : Nat → Nat) (M : gMem) (x0 : Nat) (x1 : Int32) (x2 : Int32) : Option ((Nat ⊕ Int32) × gMem) :=
  ck (mT M x0 = 10) <| bx (f_X11_checkFisher M x0 x1) (fun e23 M23 => some (.inl e23, M23)) fun _ M23 => bx (f_X11_checkTides M23 x2 ((40 : Int32))) (fun e25 M25 => some (.inl e25, M25)) fun _ M25 => lp_X11_advise_19 Z M25 x0 x1 x2 ((1 : Int32)) ((-1 : Int32)) ((1 : Int32))
noncomputable def f_X11_advise (Z : Nat → Nat) (M : gMem) (x0 : Nat) (x1 : Int32) (x2 : Int32) : Option ((Nat ⊕ Int32) × gMem) :=
  b_X11_advise_0 Z M x0 x1 x2
set_option maxHeartbeats 4000000 in
set_option maxRecDepth 100000 in
theorem t_X11_advise_80 (X2 : gX p s m args meth c D cy B (gSt2 Z B H0) RX11 cX11_advise wsX11_advise 7) (hr : meth.sig.returnType = (some .int)) (hlx : l.stackTraces = false) (hH : ∀ q : Nat, q < B → s.heap[q]? = H0[q]?) (hne : ∀ x ∈ c.exceptionTable.toList, False) (hH0 : H0.size = B) {Q : State → Prop} : ∀ (M : gMem) (x0 : Nat) (x1 : Int32) (x2 : Int32) (x3 : Int32) (x4 : Int32) (x5 : Int32) (z : (gMem × Int32 × Int32 × Int32) ⊕ ((Nat ⊕ Int32) × gMem)), b_X11_advise_80 Z M x0 x1 x2 x3 x4 x5 = some z → (Sum.elim (fun (q : gMem × Int32 × Int32 × Int32) => gGo p l e rX11_advise s m args below meth c D cy B H0 7 2 12 Q 19 [(0, vR (some x0)), (1, vI x1), (2, vI x2), (3, vI q.2.1), (4, vI q.2.2.1), (5, vI q.2.2.2)] [] q.1) (fun (r : (Nat ⊕ Int32) × gMem) => Q = gMX below D cy B H0 args s 2 12 (gzI r.1) r.2)) z → gGo p l e rX11_advise s m args below meth c D cy B H0 7 2 12 Q 80 [(0, vR (some x0)), (1, vI x1), (2, vI x2), (3, vI x3), (4, vI x4), (5, vI x5)] [] M := by
  intro M x0 x1 x2 x3 x4 x5 z hf hK
  unfold b_X11_advise_80 at hf
  have X := gX_w X2
  refine g_iinc (v := (1 : Int32)) (lv' := [(5, vI (x5 + (1 : Int32))), (0, vR (some x0)), (1, vI x1), (2, vI x2), (3, vI x3), (4, vI x4)]) X dX11_advise_80 rfl (by decide) (by decide) rfl ?_
  refine g_goto (tgt := 19) X dX11_advise_83 (by decide) ?_
  cases hf
  refine g_sub (lvsub_of _ _ [1, 2, 3, 4, 5, 0] rfl) ?_
  exact hK
set_option maxHeartbeats 4000000 in
set_option maxRecDepth 100000 in
theorem tb_X11_advise_19 (X2 : gX p s m args meth c D cy B (gSt2 Z B H0) RX11 cX11_advise wsX11_advise 7) (hr : meth.sig.returnType = (some .int)) (hlx : l.stackTraces = false) (hH : ∀ q : Nat, q < B → s.heap[q]? = H0[q]?) (hne : ∀ x ∈ c.exceptionTable.toList, False) (hH0 : H0.size = B) {Q : State → Prop} : ∀ (M : gMem) (x0 : Nat) (x1 : Int32) (x2 : Int32) (x3 : Int32) (x4 : Int32) (x5 : Int32) (z : (gMem × Int32 × Int32 × Int32) ⊕ ((Nat ⊕ Int32) × gMem)), bb_X11_advise_19 Z M x0 x1 x2 x3 x4 x5 = some z → (Sum.elim (fun (q : gMem × Int32 × Int32 × Int32) => gGo p l e rX11_advise s m args below meth c D cy B H0 7 2 12 Q 19 [(0, vR (some x0)), (1, vI x1), (2, vI x2), (3, vI q.2.1), (4, vI q.2.2.1), (5, vI q.2.2.2)] [] q.1) (fun (r : (Nat ⊕ Int32) × gMem) => Q = gMX below D cy B H0 args s 2 12 (gzI r.1) r.2)) z → gGo p l e rX11_advise s m args below meth c D cy B H0 7 2 12 Q 19 [(0, vR (some x0)), (1, vI x1), (2, vI x2), (3, vI x3), (4, vI x4), (5, vI x5)] [] M := by
  intro M x0 x1 x2 x3 x4 x5 z hf hK
  unfold bb_X11_advise_19 at hf
  have X := gX_w X2
  refine g_iload X dX11_advise_19 rfl ?_
  refine g_iconst (v := (5 : Int32)) X dX11_advise_21 (by decide) ?_
  refine g_icmp_gt (tgt := 86) X dX11_advise_22 (by decide) (fun hc => ?_) (fun hc => ?_)
  · have hf := ife_t hc hf
    refine g_iload_n X dX11_advise_86 rfl rfl ?_
    obtain ⟨w1, hw1, hz1⟩ := oI_e hf
    subst hz1
    have hf := hw1
    cases hf
    refine g_eqQ hK ?_
    refine g_xret ?_
    exact g_iret X hr dX11_advise_87
  · have hf := ife_f hc hf
    refine g_aload_n X dX11_advise_25 rfl rfl ?_
    obtain ⟨hT3, hf⟩ := ck_e hf
    obtain ⟨r2, M2, hq2, hf⟩ := bd_e hf
    refine g_callV (ci := 9) (b := x0) (As := []) (st := []) (v := some (vR r2)) (M1 := M2) X (m_X11_lookAhead l hq2) (cwV 0 X.2.2.1 gX11_advise_X11_lookAhead rfl rfl rfl (by decide +kernel) ⟨Nat.le_of_ble_eq_true rfl, Nat.le_of_ble_eq_true rfl⟩) rfl rfl rfl hT3 (by decide) rfl (Nat.le_of_ble_eq_true rfl) dX11_advise_26 ⟨by decide, by decide⟩ ?_
    refine g_astore (lv' := [(6, vR r2), (0, vR (some x0)), (1, vI x1), (2, vI x2), (3, vI x3), (4, vI x4), (5, vI x5)]) X dX11_advise_29 (by decide) rfl ?_
    refine g_aload X dX11_advise_31 rfl ?_
    obtain ⟨a4, ha4, hf⟩ := dr_e hf
    obtain ⟨hT5, hf⟩ := ck_e hf
    refine g_get (ci := 6) (v := vR (mR M2 a4 7)) 7 X cdX7 i_X11_advise_X7 (by decide) k_X11_advise_f125 rfl dX11_advise_33 ha4 hT5 rfl ?_
    refine g_iload_n X dX11_advise_36 rfl rfl ?_
    obtain ⟨a6, ha6, hf⟩ := dr_e hf
    obtain ⟨hT7, hf⟩ := ck_e hf
    obtain ⟨hg8, hf⟩ := ck_e hf
    refine g_aald (t0 := 4) X dX11_advise_37 ha6 hT7 (by decide) rfl hg8 ?_
    refine g_iload X dX11_advise_38 rfl ?_
    obtain ⟨a9, ha9, hf⟩ := dr_e hf
    obtain ⟨hT10, hf⟩ := ck_e hf
    refine g_putI (ci := 0) 1 X cdX1 i_X11_advise_X1 (by decide) k_X11_advise_f129 rfl dX11_advise_40 ha9 hT10 (Or.inl rfl) rfl rfl rfl ?_
    obtain ⟨M11, hM11, hf⟩ := lw_e hf
    rw [← hM11]
    have hT12 : mT M11 a4 = 7 := by rw [hM11]; exact hT5
    have hT13 : mT M11 a6 = 24 := by rw [hM11]; exact hT7
    have hT14 : mT M11 a9 = 1 := by rw [hM11]; exact hT10
    refine g_aload X dX11_advise_43 rfl ?_
    refine g_iload_n X dX11_advise_45 rfl rfl ?_
    obtain ⟨r15, M15, hq15, hf⟩ := bd_e hf
    refine g_callV (ci := 6) (b := a4) (As := [vI x2]) (st := []) (v := some (vI r15)) (M1 := M15) X (m_X7_passTides l hq15) (cwV 1 X.2.2.1 gX11_advise_X7_passTides rfl rfl rfl (by decide +kernel) ⟨Nat.le_of_ble_eq_true rfl, Nat.le_of_ble_eq_true rfl⟩) rfl rfl ha4 hT12 (by decide) rfl (Nat.le_of_ble_eq_true rfl) dX11_advise_46 ⟨by decide, by decide⟩ ?_
    refine g_pop X dX11_advise_49 rfl ?_
    refine g_aload X dX11_advise_50 rfl ?_
    obtain ⟨hT16, hf⟩ := ck_e hf
    refine g_get (ci := 6) (v := vR (mR M15 a4 7)) 7 X cdX7 i_X11_advise_X7 (by decide) k_X11_advise_f125 rfl dX11_advise_52 ha4 hT16 rfl ?_
    refine g_iload_n X dX11_advise_55 rfl rfl ?_
    obtain ⟨a17, ha17, hf⟩ := dr_e hf
    obtain ⟨hT18, hf⟩ := ck_e hf
    obtain ⟨hg19, hf⟩ := ck_e hf
    refine g_aald (t0 := 4) X dX11_advise_56 ha17 hT18 (by decide) rfl hg19 ?_
    obtain ⟨a20, ha20, hf⟩ := dr_e hf
    obtain ⟨hT21, hf⟩ := ck_e hf
    refine g_get (ci := 0) (v := vI (mI M15 a20 4)) 4 X cdX1 i_X11_advise_X1 (by decide) k_X11_advise_f143 rfl dX11_advise_57 ha20 hT21 rfl ?_
    refine g_iload X dX11_advise_60 rfl ?_
    refine g_icmp_le (tgt := 80) X dX11_advise_62 (by decide) (fun hc => ?_) (fun hc => ?_)
    · have hf := ife_t hc hf
      refine g_sub (lvsub_of _ _ [1, 2, 3, 4, 5, 6] rfl) ?_
      exact t_X11_advise_80 X2 hr hlx hH hne hH0 _ _ _ _ _ _ _ _ hf hK
    · have hf := ife_f hc hf
      refine g_aload X dX11_advise_65 rfl ?_
      refine g_get (ci := 6) (v := vR (mR M15 a4 7)) 7 X cdX7 i_X11_advise_X7 (by decide) k_X11_advise_f125 rfl dX11_advise_67 ha4 hT16 rfl ?_
      refine g_iload_n X dX11_advise_70 rfl rfl ?_
      obtain ⟨hg22, hf⟩ := ck_e hf
      refine g_aald (t0 := 4) X dX11_advise_71 ha17 hT18 (by decide) rfl hg22 ?_
      refine g_get (ci := 0) (v := vI (mI M15 a20 4)) 4 X cdX1 i_X11_advise_X1 (by decide) k_X11_advise_f143 rfl dX11_advise_72 ha20 hT21 rfl ?_
      refine g_istore (lv' := [(4, vI (mI M15 a20 4)), (6, vR r2), (0, vR (some x0)), (1, vI x1), (2, vI x2), (3, vI x3), (5, vI x5)]) X dX11_advise_75 (by decide) rfl ?_
      refine g_iload X dX11_advise_77 rfl ?_
      refine g_istore_n (lv' := [(3, vI x5), (4, vI (mI M15 a20 4)), (6, vR r2), (0, vR (some x0)), (1, vI x1), (2, vI x2), (5, vI x5)]) X dX11_advise_79 rfl (by decide) rfl ?_
      refine g_sub (lvsub_of _ _ [3, 4, 5, 0, 1, 6] rfl) ?_
      exact t_X11_advise_80 X2 hr hlx hH hne hH0 _ _ _ _ _ _ _ _ hf hK
set_option maxHeartbeats 4000000 in
set_option maxRecDepth 100000 in
theorem tl_X11_advise_19 (X2 : gX p s m args meth c D cy B (gSt2 Z B H0) RX11 cX11_advise wsX11_advise 7) (hr : meth.sig.returnType = (some .int)) (hlx : l.stackTraces = false) (hH : ∀ q : Nat, q < B → s.heap[q]? = H0[q]?) (hne : ∀ x ∈ c.exceptionTable.toList, False) (hH0 : H0.size = B) {Q : State → Prop} : ∀ (M : gMem) (x0 : Nat) (x1 : Int32) (x2 : Int32) (x3 : Int32) (x4 : Int32) (x5 : Int32) (z : (Nat ⊕ Int32) × gMem), lp_X11_advise_19 Z M x0 x1 x2 x3 x4 x5 = some z → (fun (r : (Nat ⊕ Int32) × gMem) => Q = gMX below D cy B H0 args s 2 12 (gzI r.1) r.2) z → gGo p l e rX11_advise s m args below meth c D cy B H0 7 2 12 Q 19 [(0, vR (some x0)), (1, vI x1), (2, vI x2), (3, vI x3), (4, vI x4), (5, vI x5)] [] M := by
  intro M x0 x1 x2 x3 x4 x5 z hf hK
  refine lp_ind (P := (fun (q : gMem × Int32 × Int32 × Int32) (z : (Nat ⊕ Int32) × gMem) => (fun (r : (Nat ⊕ Int32) × gMem) => Q = gMX below D cy B H0 args s 2 12 (gzI r.1) r.2) z → gGo p l e rX11_advise s m args below meth c D cy B H0 7 2 12 Q 19 [(0, vR (some x0)), (1, vI x1), (2, vI x2), (3, vI q.2.1), (4, vI q.2.2.1), (5, vI q.2.2.2)] [] q.1)) (fun q z hq => ?_) _ _ hf hK
  intro hK
  obtain ⟨w, hw, hm⟩ := hq
  refine tb_X11_advise_19 X2 hr hlx hH hne hH0 _ _ _ _ _ _ _ w hw ?_
  cases w with
  | inl a => exact hm hK
  | inr b => cases hm; exact hK
set_option maxHeartbeats 4000000 in
set_option maxRecDepth 100000 in
theorem t_X11_advise_0 (X2 : gX p s m args meth c D cy B (gSt2 Z B H0) RX11 cX11_advise wsX11_advise 7) (hr : meth.sig.returnType = (some .int)) (hlx : l.stackTraces = false) (hH : ∀ q : Nat, q < B → s.heap[q]? = H0[q]?) (hne : ∀ x ∈ c.exceptionTable.toList, False) (hH0 : H0.size = B) {Q : State → Prop} : ∀ (M : gMem) (x0 : Nat) (x1 : Int32) (x2 : Int32) (z : (Nat ⊕ Int32) × gMem), b_X11_advise_0 Z M x0 x1 x2 = some z → (fun (r : (Nat ⊕ Int32) × gMem) => Q = gMX below D cy B H0 args s 2 12 (gzI r.1) r.2) z → gGo p l e rX11_advise s m args below meth c D cy B H0 7 0 0 Q 0 [(0, vR (some x0)), (1, vI x1), (2, vI x2)] [] M := by
  intro M x0 x1 x2 z hf hK
  unfold b_X11_advise_0 at hf
  have X := gX_w X2
  refine g_aload_n X dX11_advise_0 rfl rfl ?_
  refine g_iload_n X dX11_advise_1 rfl rfl ?_
  obtain ⟨hT24, hf⟩ := ck_e hf
  rcases bx_e hf with ⟨e23, M23, hq23, hf⟩ | ⟨r23, M23, hq23, hf⟩
  · cases hf
    refine g_eqQ hK ?_
    exact g_callTV (ci := 9) (b := x0) (As := [vI x1]) (st := []) (M1 := M23) X2 hne (m_X11_checkFisher l hlx hH0 hq23) (cwV 1 X.2.2.1 gX11_advise_X11_checkFisher rfl rfl rfl (by decide +kernel) ⟨Nat.le_of_ble_eq_true rfl, Nat.le_of_ble_eq_true rfl⟩) rfl rfl rfl hT24 (by decide) rfl (Nat.le_of_ble_eq_true rfl) dX11_advise_2 ⟨(by decide), (by decide)⟩ (by decide) (by decide)
  refine g_callXV (ci := 9) (b := x0) (As := [vI x1]) (st := []) (v := none) (M1 := M23) X2 (m_X11_checkFisher l hlx hH0 hq23) (cwV 1 X.2.2.1 gX11_advise_X11_checkFisher rfl rfl rfl (by decide +kernel) ⟨Nat.le_of_ble_eq_true rfl, Nat.le_of_ble_eq_true rfl⟩) rfl rfl rfl hT24 (by decide) rfl (Nat.le_of_ble_eq_true rfl) dX11_advise_2 ⟨(by decide), (by decide)⟩ ?_
  refine g_iload_n X dX11_advise_5 rfl rfl ?_
  refine g_bipush (v := (40 : Int32)) X dX11_advise_6 (by decide) ?_
  rcases bx_e hf with ⟨e25, M25, hq25, hf⟩ | ⟨r25, M25, hq25, hf⟩
  · cases hf
    refine g_eqQ hK ?_
    exact g_callTS (As := [vI x2, vI (40 : Int32)]) (st := []) (M1 := M25) X2 hne (m_X11_checkTides l hlx hH0 hq25) (va_cwS 2 X.2.2.1 gX11_advise_X11_checkTides rfl rfl rfl (by decide +kernel) ⟨Nat.le_of_ble_eq_true rfl, Nat.le_of_ble_eq_true rfl⟩) rfl rfl (Nat.le_of_ble_eq_true rfl) dX11_advise_8 ⟨(by decide), (by decide)⟩ (by decide) (by decide)
  refine g_callXS (As := [vI x2, vI (40 : Int32)]) (st := []) (v := none) (M1 := M25) X2 (m_X11_checkTides l hlx hH0 hq25) (va_cwS 2 X.2.2.1 gX11_advise_X11_checkTides rfl rfl rfl (by decide +kernel) ⟨Nat.le_of_ble_eq_true rfl, Nat.le_of_ble_eq_true rfl⟩) rfl rfl (Nat.le_of_ble_eq_true rfl) dX11_advise_8 ⟨(by decide), (by decide)⟩ ?_
  refine g_iconst (v := (1 : Int32)) X dX11_advise_11 (by decide) ?_
  refine g_istore_n (lv' := [(3, vI (1 : Int32)), (0, vR (some x0)), (1, vI x1), (2, vI x2)]) X dX11_advise_12 rfl (by decide) rfl ?_
  refine g_iconst (v := (-1 : Int32)) X dX11_advise_13 (by decide) ?_
  refine g_istore (lv' := [(4, vI (-1 : Int32)), (3, vI (1 : Int32)), (0, vR (some x0)), (1, vI x1), (2, vI x2)]) X dX11_advise_14 (by decide) rfl ?_
  refine g_iconst (v := (1 : Int32)) X dX11_advise_16 (by decide) ?_
  refine g_istore (lv' := [(5, vI (1 : Int32)), (4, vI (-1 : Int32)), (3, vI (1 : Int32)), (0, vR (some x0)), (1, vI x1), (2, vI x2)]) X dX11_advise_17 (by decide) rfl ?_
  refine g_sub (lvsub_of _ _ [3, 4, 5, 2, 1, 0] rfl) ?_
  exact tl_X11_advise_19 X2 hr hlx hH hne hH0 _ _ _ _ _ _ _ _ hf hK
set_option maxHeartbeats 4000000 in
set_option maxRecDepth 100000 in
theorem m_X11_advise (l : Launch) (hlx : l.stackTraces = false) {D : va_G} {cy : Nat → ClassId} {B : Nat} {H0 : Heap} {Z : Nat → Nat} {M M1 : gMem} {x0 : Nat} {x1 : Int32} {x2 : Int32} {r : (Nat ⊕ Int32)} (hH0 : H0.size = B) (hf : f_X11_advise Z M x0 x1 x2 = some (r, M1)) : vx_Met l yX11_advise wsX11_advise rX11_advise (va_Pc (Value.ref x0 :: List.map gv [vI x1, vI x2]) (gPre D cy B H0 (gSt2 Z B H0) M)) (gQX D cy B H0 (gzI r) M1) (gXC D cy B H0 (gzI r) M1) 2 12 (gA B) := by
  refine vx_ofW (cc := cX11_advise) (maxL := 7) (ret := (some .int)) (by decide) rfl ?_
  intro p e s m args below meth c s₁ Bd hml hne hv
  obtain ⟨rfl, hW, hKK, hFs⟩ := hv
  have X2 : gX p s m _ meth c D cy B (gSt2 Z B H0) RX11 cX11_advise wsX11_advise 7 := ⟨Bd.exec, Bd.bytes, atoms_spec (ws := wsX11_advise) Bd.pre, findClass_of_methodNamed Bd.named, hml, hKK, by rw [hW.1]; exact hW.2.1, Bd.notSynchronized, hFs⟩
  have hr := Bd.returns
  have hH : ∀ q : Nat, q < B → s.heap[q]? = H0[q]? := hW.2.2.1
  have hl := lv_entry ([.ref x0, .int x1, .int x2]) (n := 7) (Nat.le_of_ble_eq_true rfl)
  show W p l e rX11_advise s m _ below meth c s.heap [] 0 0 _ (entryFrame m ([.ref x0, .int x1, .int x2] : List Value).toArray 7)
  rw [lg_entry_eq]
  generalize (lg_sl ([.ref x0, .int x1, .int x2]) ++ List.replicate (7 - (lg_sl ([.ref x0, .int x1, .int x2])).length) Slot.unset).toArray = ls at hl ⊢
  have hl : lv_has ls 7 (List.map gq [(0, vR (some x0)), (1, vI x1), (2, vI x2)]) := hl
  exact t_X11_advise_0 X2 hr hlx hH hne hH0 _ _ _ _ _ hf rfl s.heap [] ls hW va_S.rf (lv_has_sub hl (lvsub_of _ _ [0, 1, 2] rfl))
end
