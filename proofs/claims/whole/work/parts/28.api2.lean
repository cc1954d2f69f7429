section
variable {p : Program} {l : Launch} {e : Env} {s : State} {m : MethodId} {args : Array Value} {below : List Frame} {meth : Method} {c : Code} {D : va_G} {cy : Nat → ClassId} {B : Nat} {H0 : Heap} {Z : Nat → Nat}
/-! ## TideLots.foresee(II)I -/
theorem dX11_foresee_0 : decode cX11_foresee 0 = .ok (.iload_n 1, 1) := by decide +kernel
theorem dX11_foresee_1 : decode cX11_foresee 1 = .ok (.bipush 60, 2) := by decide +kernel
theorem dX11_foresee_3 : decode cX11_foresee 3 = .ok (.invokestatic 209, 3) := by decide +kernel
theorem dX11_foresee_6 : decode cX11_foresee 6 = .ok (.iload_n 2, 1) := by decide +kernel
theorem dX11_foresee_7 : decode cX11_foresee 7 = .ok (.ifCond .lt 8, 3) := by decide +kernel
theorem dX11_foresee_10 : decode cX11_foresee 10 = .ok (.iload_n 2, 1) := by decide +kernel
theorem dX11_foresee_11 : decode cX11_foresee 11 = .ok (.iconst 2, 1) := by decide +kernel
theorem dX11_foresee_12 : decode cX11_foresee 12 = .ok (.if_icmp .le 13, 3) := by decide +kernel
theorem dX11_foresee_15 : decode cX11_foresee 15 = .ok (.new 92, 3) := by decide +kernel
theorem dX11_foresee_18 : decode cX11_foresee 18 = .ok (.dup, 1) := by decide +kernel
theorem dX11_foresee_19 : decode cX11_foresee 19 = .ok (.ldc 217, 2) := by decide +kernel
theorem dX11_foresee_21 : decode cX11_foresee 21 = .ok (.invokespecial 96, 3) := by decide +kernel
theorem dX11_foresee_24 : decode cX11_foresee 24 = .ok (.athrow, 1) := by decide +kernel
theorem dX11_foresee_25 : decode cX11_foresee 25 = .ok (.aload_n 0, 1) := by decide +kernel
theorem dX11_foresee_26 : decode cX11_foresee 26 = .ok (.invokevirtual 219, 3) := by decide +kernel
theorem dX11_foresee_29 : decode cX11_foresee 29 = .ok (.astore_n 3, 1) := by decide +kernel
theorem dX11_foresee_30 : decode cX11_foresee 30 = .ok (.aload_n 3, 1) := by decide +kernel
theorem dX11_foresee_31 : decode cX11_foresee 31 = .ok (.iload_n 1, 1) := by decide +kernel
theorem dX11_foresee_32 : decode cX11_foresee 32 = .ok (.invokevirtual 213, 3) := by decide +kernel
theorem dX11_foresee_35 : decode cX11_foresee 35 = .ok (.pop, 1) := by decide +kernel
theorem dX11_foresee_36 : decode cX11_foresee 36 = .ok (.iload_n 2, 1) := by decide +kernel
theorem dX11_foresee_37 : decode cX11_foresee 37 = .ok (.lookupswitch 37 #[(0, 27), (1, 32)], 27) := by decide +kernel
theorem dX11_foresee_64 : decode cX11_foresee 64 = .ok (.aload_n 3, 1) := by decide +kernel
theorem dX11_foresee_65 : decode cX11_foresee 65 = .ok (.invokevirtual 83, 3) := by decide +kernel
theorem dX11_foresee_68 : decode cX11_foresee 68 = .ok (.ireturn, 1) := by decide +kernel
theorem dX11_foresee_69 : decode cX11_foresee 69 = .ok (.aload_n 3, 1) := by decide +kernel
theorem dX11_foresee_70 : decode cX11_foresee 70 = .ok (.invokevirtual 80, 3) := by decide +kernel
theorem dX11_foresee_73 : decode cX11_foresee 73 = .ok (.ireturn, 1) := by decide +kernel
theorem dX11_foresee_74 : decode cX11_foresee 74 = .ok (.aload_n 3, 1) := by decide +kernel
theorem dX11_foresee_75 : decode cX11_foresee 75 = .ok (.invokevirtual 206, 3) := by decide +kernel
theorem dX11_foresee_78 : decode cX11_foresee 78 = .ok (.ireturn, 1) := by decide +kernel
set_option maxRecDepth 20000 in
theorem ggX11_foresee_X11_checkTides : GoodIn wsX11_foresee wsX11_checkTides := goodIn_ca (goodIn_r _ [6, 7, 8] (by decide +kernel) (by decide +kernel)) (goodIn_sub (fun _ h => List.mem_cons_of_mem _ (List.mem_append_right _ h)) (by decide +kernel))
set_option maxRecDepth 20000 in
theorem gX11_foresee_X11_checkTides : GoodIn wsX11_foresee (va_wsS RX11 209 yX11_checkTides wsX11_checkTides) := goodIn_app (goodIn_of _ (by decide +kernel)) ggX11_foresee_X11_checkTides
set_option maxRecDepth 20000 in
theorem ggX11_foresee_X11_lookAhead : GoodIn wsX11_foresee wsX11_lookAhead := goodIn_r _ [12, 13, 14, 15, 16, 17, 18, 19, 20, 21, 22, 23, 24, 25, 26, 27, 28, 29, 30, 31, 32, 33, 34, 35, 36, 37, 38, 39, 40, 41, 42, 43, 44, 45, 46, 47, 48, 49, 50, 51, 52, 53, 54, 55, 56, 57, 58, 59, 60, 61, 62, 63, 64, 65, 66, 67, 68, 69, 70, 71, 72, 73, 74, 75, 76, 77, 78, 79, 80, 81, 82, 83, 84, 85, 228, 229, 230, 231, 232, 233, 234, 235, 236, 237, 238, 239, 240, 241, 242, 243, 244, 245, 246, 247, 248, 249, 250, 251, 252, 253, 254, 255, 256, 257, 258, 259, 260, 261, 262, 263, 264, 265, 266, 267, 268, 269, 270, 271, 272, 273, 274, 275, 276, 277, 278, 279] (by decide +kernel) (by decide +kernel)
set_option maxRecDepth 20000 in
theorem gX11_foresee_X11_lookAhead : GoodIn wsX11_foresee (wsV RX11 219 RX11 yX11_lookAhead wsX11_lookAhead) := goodIn_app (goodIn_of _ (by decide +kernel)) ggX11_foresee_X11_lookAhead
set_option maxRecDepth 20000 in
theorem ggX11_foresee_X7_passTides : GoodIn wsX11_foresee wsX7_passTides := goodIn_r _ [89, 21, 23, 90, 25, 29, 22, 26, 20, 91, 92, 93, 18, 94, 95, 96, 97, 98, 99, 100, 101, 102, 103, 104, 105, 24, 28, 106, 107, 108, 109, 110, 30, 111, 112, 113, 81, 114, 83, 115, 84, 116, 85, 117, 118, 119, 120, 121, 122, 123, 124, 125, 126, 127, 128, 129, 130, 131, 132, 133, 134, 135, 136, 137, 138, 34, 139, 39, 140, 141, 142, 143, 144, 145, 146, 147, 148, 149, 150, 151, 152, 153, 27, 154, 155, 156, 157, 158, 159, 160, 68, 161, 73, 77, 162, 163, 164, 165, 166, 167, 168, 169, 170, 171, 172, 173, 174, 175, 176, 177, 178, 179, 180, 181, 182, 43, 183, 46, 184, 52, 185, 186, 187, 188, 189, 190, 191, 192, 193, 194, 195, 196, 197, 198, 199, 200, 201, 202, 203, 70, 204, 205, 206, 207, 208, 209, 210, 211, 212, 213, 214, 232, 233, 234, 235, 236, 237, 238, 239, 240, 241, 242, 243, 244, 245, 246, 247, 248, 249, 250, 251, 252, 264, 265, 266, 267, 276, 277, 278, 279, 253, 254, 255, 256, 257, 258, 259, 260, 261, 262, 263, 268, 269, 270, 271, 272, 273, 274, 275] (by decide +kernel) (by decide +kernel)
set_option maxRecDepth 20000 in
theorem gX11_foresee_X7_passTides : GoodIn wsX11_foresee (wsV RX11 213 RX7 yX7_passTides wsX7_passTides) := goodIn_app (goodIn_of _ (by decide +kernel)) ggX11_foresee_X7_passTides
set_option maxRecDepth 20000 in
theorem ggX11_foresee_X7_allStores : GoodIn wsX11_foresee wsX7_allStores := goodIn_r _ [218, 23, 27, 208, 232, 233, 234, 235, 236, 237, 238, 239, 240, 241, 242, 243, 244, 245, 246, 247, 248, 253, 254, 255, 256, 257, 258, 259, 260, 261, 262, 263] (by decide +kernel) (by decide +kernel)
set_option maxRecDepth 20000 in
theorem gX11_foresee_X7_allStores : GoodIn wsX11_foresee (wsV RX11 83 RX7 yX7_allStores wsX7_allStores) := goodIn_app (goodIn_of _ (by decide +kernel)) ggX11_foresee_X7_allStores
set_option maxRecDepth 20000 in
theorem ggX11_foresee_X7_allFish : GoodIn wsX11_foresee wsX7_allFish := goodIn_r _ [222, 22, 26, 162, 137, 138, 34, 139, 39, 232, 233, 234, 235, 236, 237, 238, 239, 240, 241, 242, 243, 244, 245, 246, 247, 248, 249, 250, 251, 252] (by decide +kernel) (by decide +kernel)
set_option maxRecDepth 20000 in
theorem gX11_foresee_X7_allFish : GoodIn wsX11_foresee (wsV RX11 80 RX7 yX7_allFish wsX7_allFish) := goodIn_app (goodIn_of _ (by decide +kernel)) ggX11_foresee_X7_allFish
set_option maxRecDepth 20000 in
theorem ggX11_foresee_X7_storeGap : GoodIn wsX11_foresee wsX7_storeGap := goodIn_r _ [226, 23, 27, 208, 178, 144, 145, 146, 227, 148, 149, 232, 233, 234, 235, 236, 237, 238, 239, 240, 241, 242, 243, 244, 245, 246, 247, 248, 253, 254, 255, 256, 257, 258, 259, 260, 261, 262, 263] (by decide +kernel) (by decide +kernel)
set_option maxRecDepth 20000 in
theorem gX11_foresee_X7_storeGap : GoodIn wsX11_foresee (wsV RX11 206 RX7 yX7_storeGap wsX7_storeGap) := goodIn_app (goodIn_of _ (by decide +kernel)) ggX11_foresee_X7_storeGap
theorem k_X11_foresee_hat96 : ∀ w ∈ (vx_atS RX11 96 "java/lang/IndexOutOfBoundsException" ["java/lang/RuntimeException", "java/lang/Exception"]).filter goodWord, w ∈ wsX11_foresee := by decide +kernel
theorem k_X11_foresee_cl92 : Cond.classLink RX11 92 "java/lang/IndexOutOfBoundsException" ∈ wsX11_foresee := by decide +kernel
theorem k_X11_foresee_ini92 : Cond.initialized "java/lang/IndexOutOfBoundsException" ∈ wsX11_foresee := by decide +kernel
abbrev rX11_foresee : Room := { frames := 7, cells := 2, slots := 12, locals := 141 }
noncomputable def b_X11_foresee_15 (Z : Nat → Nat) (M : gMem)  : Option ((Nat ⊕ Int32) × gMem) :=
  some (.inl 2, M)
noncomputable def b_X11_foresee_0 (Z : Nat → Nat) (M : gMem) (x0 : Nat) (x1 : Int32) (x2 : Int32) : Option ((Nat ⊕ Int32) × gMem) :=
  bx (f_X11_checkTides M x1 ((60 : Int32))) (fun e1 M1 => some (.inl e1, M1)) fun _ M1 => (if x2 < 0 then b_X11_foresee_15 Z M1  else (if x2 ≤ (2 : Int32) then ck (mT M1 x0 = 10) <| bd (f_X11_lookAhead Z M1 x0) fun r2 M2 => dr r2 fun a5 => ck (mT M2 a5 = 7) <| bd (f_X7_passTides Z M2 a5 x1) fun r4 M4 => (if x2 = (0 : Int32) then ck (mT M4 a5 = 7) <| bd (f_X7_allStores M4 a5) fun r8 M8 => some (.inr r8, M8) else (if x2 = (1 : Int32) then ck (mT M4 a5 = 7) <| bd (f_X7_allFish M4 a5) fun r11 M11 => some (.inr r11, M11) else ck (mT M4 a5 = 7) <| bd (f_X7_storeGap M4 a5) fun r13 M13 => some (.inr r13, M13))) else b_X11_foresee_15 Z M1 ))
noncomputable def f_X11_foresee (Z : Nat → Nat) (M : gMem) (x0 : Nat) (x1 : Int32) (x2 : Int32) : Option ((Nat ⊕ Int32) × gMem) :=
  b_X11_foresee_0 Z M x0 x1 x2
set_option maxHeartbeats 4000000 in
set_option maxRecDepth 100000 in
theorem t_X11_foresee_15 (X2 : gX p s m args meth c D cy B (gSt2 Z B H0) RX11 cX11_foresee wsX11_foresee 4) (hr : meth.sig.returnType = (some .int)) (hlx : l.stackTraces = false) (hH : ∀ q : Nat, q < B → s.heap[q]? = H0[q]?) (hne : ∀ x ∈ c.exceptionTable.toList, False) (hH0 : H0.size = B) {Q : State → Prop} : ∀ (M : gMem)  (z : (Nat ⊕ Int32) × gMem), b_X11_foresee_15 Z M  = some z → (fun (r : (Nat ⊕ Int32) × gMem) => Q = gMX below D cy B H0 args s 2 12 (gzI r.1) r.2) z → gGo p l e rX11_foresee s m args below meth c D cy B H0 4 1 6 Q 15 [] [] M := by
  intro M  z hf hK
  unfold b_X11_foresee_15 at hf
  have X := gX_w X2
  cases hf
  refine g_eqQ hK ?_
  exact g_throwS (text := "nothing of this number is foreseen") X2 hlx hH hH0 hne (by decide) k_X11_foresee_cl92 k_X11_foresee_ini92 (by decide) k_X11_foresee_hat96 kx_hxw96 kx_hg96_92 rfl dX11_foresee_15 dX11_foresee_18 dX11_foresee_19 dX11_foresee_21 dX11_foresee_24 (Nat.le_of_ble_eq_true rfl) (Nat.le_of_ble_eq_true rfl) (by decide) (by decide) (by decide) (by decide)
set_option maxHeartbeats 4000000 in
set_option maxRecDepth 100000 in
theorem t_X11_foresee_0 (X2 : gX p s m args meth c D cy B (gSt2 Z B H0) RX11 cX11_foresee wsX11_foresee 4) (hr : meth.sig.returnType = (some .int)) (hlx : l.stackTraces = false) (hH : ∀ q : Nat, q < B → s.heap[q]? = H0[q]?) (hne : ∀ x ∈ c.exceptionTable.toList, False) (hH0 : H0.size = B) {Q : State → Prop} : ∀ (M : gMem) (x0 : Nat) (x1 : Int32) (x2 : Int32) (z : (Nat ⊕ Int32) × gMem), b_X11_foresee_0 Z M x0 x1 x2 = some z → (fun (r : (Nat ⊕ Int32) × gMem) => Q = gMX below D cy B H0 args s 2 12 (gzI r.1) r.2) z → gGo p l e rX11_foresee s m args below meth c D cy B H0 4 0 0 Q 0 [(0, vR (some x0)), (1, vI x1), (2, vI x2)] [] M := by
  intro M x0 x1 x2 z hf hK
  unfold b_X11_foresee_0 at hf
  have X := gX_w X2
  refine g_iload_n X dX11_foresee_0 rfl rfl ?_
  refine g_bipush (v := (60 : Int32)) X dX11_foresee_1 (by decide) ?_
  rcases bx_e hf with ⟨e1, M1, hq1, hf⟩ | ⟨r1, M1, hq1, hf⟩
  · cases hf
    refine g_eqQ hK ?_
    exact g_callTS (As := [vI x1, vI (60 : Int32)]) (st := []) (M1 := M1) X2 hne (m_X11_checkTides l hlx hH0 hq1) (va_cwS 2 X.2.2.1 gX11_foresee_X11_checkTides rfl rfl rfl (by decide +kernel) ⟨Nat.le_of_ble_eq_true rfl, Nat.le_of_ble_eq_true rfl⟩) rfl rfl (Nat.le_of_ble_eq_true rfl) dX11_foresee_3 ⟨by decide, by decide⟩ (by decide) (by decide)
  refine g_callXS (As := [vI x1, vI (60 : Int32)]) (st := []) (v := none) (M1 := M1) X2 (m_X11_checkTides l hlx hH0 hq1) (va_cwS 2 X.2.2.1 gX11_foresee_X11_checkTides rfl rfl rfl (by decide +kernel) ⟨Nat.le_of_ble_eq_true rfl, Nat.le_of_ble_eq_true rfl⟩) rfl rfl (Nat.le_of_ble_eq_true rfl) dX11_foresee_3 ⟨by decide, by decide⟩ ?_
  refine g_iload_n X dX11_foresee_6 rfl rfl ?_
  refine g_if_lt (tgt := 15) X dX11_foresee_7 (by decide) (fun hc => ?_) (fun hc => ?_)
  · have hf := ife_t hc hf
    refine g_sub (lvsub_of _ _ [] rfl) ?_
    exact t_X11_foresee_15 X2 hr hlx hH hne hH0 _  _ hf hK
  · have hf := ife_f hc hf
    refine g_iload_n X dX11_foresee_10 rfl rfl ?_
    refine g_iconst (v := (2 : Int32)) X dX11_foresee_11 (by decide) ?_
    refine g_icmp_le (tgt := 25) X dX11_foresee_12 (by decide) (fun hc => ?_) (fun hc => ?_)
    · have hf := ife_t hc hf
      refine g_aload_n X dX11_foresee_25 rfl rfl ?_
      obtain ⟨hT3, hf⟩ := ck_e hf
      obtain ⟨r2, M2, hq2, hf⟩ := bd_e hf
      refine g_callV (ci := 9) (b := x0) (As := []) (st := []) (v := some (vR r2)) (M1 := M2) X (m_X11_lookAhead l hq2) (cwV 0 X.2.2.1 gX11_foresee_X11_lookAhead rfl rfl rfl (by decide +kernel) ⟨Nat.le_of_ble_eq_true rfl, Nat.le_of_ble_eq_true rfl⟩) rfl rfl rfl hT3 (by decide) rfl (Nat.le_of_ble_eq_true rfl) dX11_foresee_26 ⟨by decide, by decide⟩ ?_
      refine g_astore_n (lv' := [(3, vR r2), (0, vR (some x0)), (1, vI x1), (2, vI x2)]) X dX11_foresee_29 rfl (by decide) rfl ?_
      refine g_aload_n X dX11_foresee_30 rfl rfl ?_
      refine g_iload_n X dX11_foresee_31 rfl rfl ?_
      obtain ⟨a5, ha5, hf⟩ := dr_e hf
      obtain ⟨hT6, hf⟩ := ck_e hf
      obtain ⟨r4, M4, hq4, hf⟩ := bd_e hf
      refine g_callV (ci := 6) (b := a5) (As := [vI x1]) (st := []) (v := some (vI r4)) (M1 := M4) X (m_X7_passTides l hq4) (cwV 1 X.2.2.1 gX11_foresee_X7_passTides rfl rfl rfl (by decide +kernel) ⟨Nat.le_of_ble_eq_true rfl, Nat.le_of_ble_eq_true rfl⟩) rfl rfl ha5 hT6 (by decide) rfl (Nat.le_of_ble_eq_true rfl) dX11_foresee_32 ⟨by decide, by decide⟩ ?_
      refine g_pop X dX11_foresee_35 rfl ?_
      refine g_iload_n X dX11_foresee_36 rfl rfl ?_
      by_cases hs7 : x2 = (0 : Int32)
      · have hf := ife_t hs7 hf
        refine g_lookup (off := 27) (tgt := 64) X dX11_foresee_37 (by decide) (by rw [hs7]; decide) (by decide) ?_
        refine g_aload_n X dX11_foresee_64 rfl rfl ?_
        obtain ⟨hT9, hf⟩ := ck_e hf
        obtain ⟨r8, M8, hq8, hf⟩ := bd_e hf
        refine g_callV (ci := 6) (b := a5) (As := []) (st := []) (v := some (vI r8)) (M1 := M8) X (m_X7_allStores l hq8) (cwV 0 X.2.2.1 gX11_foresee_X7_allStores rfl rfl rfl (by decide +kernel) ⟨Nat.le_of_ble_eq_true rfl, Nat.le_of_ble_eq_true rfl⟩) rfl rfl ha5 hT9 (by decide) rfl (Nat.le_of_ble_eq_true rfl) dX11_foresee_65 ⟨by decide, by decide⟩ ?_
        cases hf
        refine g_eqQ hK ?_
        refine g_wide (k' := 2) (n' := 12) (by decide) (by decide) ?_
        refine g_xret ?_
        exact g_iret X hr dX11_foresee_68
      · have hf := ife_f hs7 hf
        by_cases hs10 : x2 = (1 : Int32)
        · have hf := ife_t hs10 hf
          refine g_lookup (off := 32) (tgt := 69) X dX11_foresee_37 (by decide) (by rw [hs10]; decide) (by decide) ?_
          refine g_aload_n X dX11_foresee_69 rfl rfl ?_
          obtain ⟨hT12, hf⟩ := ck_e hf
          obtain ⟨r11, M11, hq11, hf⟩ := bd_e hf
          refine g_callV (ci := 6) (b := a5) (As := []) (st := []) (v := some (vI r11)) (M1 := M11) X (m_X7_allFish l hq11) (cwV 0 X.2.2.1 gX11_foresee_X7_allFish rfl rfl rfl (by decide +kernel) ⟨Nat.le_of_ble_eq_true rfl, Nat.le_of_ble_eq_true rfl⟩) rfl rfl ha5 hT12 (by decide) rfl (Nat.le_of_ble_eq_true rfl) dX11_foresee_70 ⟨by decide, by decide⟩ ?_
          cases hf
          refine g_eqQ hK ?_
          refine g_wide (k' := 2) (n' := 12) (by decide) (by decide) ?_
          refine g_xret ?_
          exact g_iret X hr dX11_foresee_73
        · have hf := ife_f hs10 hf
          refine g_lookup (off := 37) (tgt := 74) X dX11_foresee_37 (by decide) (glk_out _ (fun q hq => by rcases (show q = (0, 27) ∨ q = (1, 32) by simpa using hq) with rfl | rfl <;> first | exact gne hs7 | exact gne hs10)) (by decide) ?_
          refine g_aload_n X dX11_foresee_74 rfl rfl ?_
          obtain ⟨hT14, hf⟩ := ck_e hf
          obtain ⟨r13, M13, hq13, hf⟩ := bd_e hf
          refine g_callV (ci := 6) (b := a5) (As := []) (st := []) (v := some (vI r13)) (M1 := M13) X (m_X7_storeGap l hq13) (cwV 0 X.2.2.1 gX11_foresee_X7_storeGap rfl rfl rfl (by decide +kernel) ⟨Nat.le_of_ble_eq_true rfl, Nat.le_of_ble_eq_true rfl⟩) rfl rfl ha5 hT14 (by decide) rfl (Nat.le_of_ble_eq_true rfl) dX11_foresee_75 ⟨by decide, by decide⟩ ?_
          cases hf
          refine g_eqQ hK ?_
          refine g_wide (k' := 2) (n' := 12) (by decide) (by decide) ?_
          refine g_xret ?_
          exact g_iret X hr dX11_foresee_78
    · have hf := ife_f hc hf
      refine g_sub (lvsub_of _ _ [] rfl) ?_
      exact t_X11_foresee_15 X2 hr hlx hH hne hH0 _  _ hf hK
set_option maxHeartbeats 4000000 in
set_option maxRecDepth 100000 in
theorem m_X11_foresee (l : Launch) (hlx : l.stackTraces = false) {D : va_G} {cy : Nat → ClassId} {B : Nat} {H0 : Heap} {Z : Nat → Nat} {M M1 : gMem} {x0 : Nat} {x1 : Int32} {x2 : Int32} {r : (Nat ⊕ Int32)} (hH0 : H0.size = B) (hf : f_X11_foresee Z M x0 x1 x2 = some (r, M1)) : vx_Met l yX11_foresee wsX11_foresee rX11_foresee (va_Pc (Value.ref x0 :: List.map gv [vI x1, vI x2]) (gPre D cy B H0 (gSt2 Z B H0) M)) (gQX D cy B H0 (gzI r) M1) (gXC D cy B H0 (gzI r) M1) 2 12 (gA B) := by
  refine vx_ofW (cc := cX11_foresee) (maxL := 4) (ret := (some .int)) (by decide) rfl ?_
  intro p e s m args below meth c s₁ Bd hml hne hv
  obtain ⟨rfl, hW, hKK, hFs⟩ := hv
  have X2 : gX p s m _ meth c D cy B (gSt2 Z B H0) RX11 cX11_foresee wsX11_foresee 4 := ⟨Bd.exec, Bd.bytes, atoms_spec (ws := wsX11_foresee) Bd.pre, findClass_of_methodNamed Bd.named, hml, hKK, by rw [hW.1]; exact hW.2.1, Bd.notSynchronized, hFs⟩
  have hr := Bd.returns
  have hH : ∀ q : Nat, q < B → s.heap[q]? = H0[q]? := hW.2.2.1
  have hl := lv_entry ([.ref x0, .int x1, .int x2]) (n := 4) (Nat.le_of_ble_eq_true rfl)
  show W p l e rX11_foresee s m _ below meth c s.heap [] 0 0 _ (entryFrame m ([.ref x0, .int x1, .int x2] : List Value).toArray 4)
  rw [lg_entry_eq]
  generalize (lg_sl ([.ref x0, .int x1, .int x2]) ++ List.replicate (4 - (lg_sl ([.ref x0, .int x1, .int x2])).length) Slot.unset).toArray = ls at hl ⊢
  have hl : lv_has ls 4 (List.map gq [(0, vR (some x0)), (1, vI x1), (2, vI x2)]) := hl
  exact t_X11_foresee_0 X2 hr hlx hH hne hH0 _ _ _ _ _ hf rfl s.heap [] ls hW va_S.rf (lv_has_sub hl (lvsub_of _ _ [0, 1, 2] rfl))
/-! ## TideLots.pays(II)I -/
theorem dX11_pays_0 : decode cX11_pays 0 = .ok (.aload_n 0, 1) := by decide +kernel
theorem dX11_pays_1 : decode cX11_pays 1 = .ok (.iload_n 1, 1) := by decide +kernel
theorem dX11_pays_2 : decode cX11_pays 2 = .ok (.invokevirtual 122, 3) := by decide +kernel
theorem dX11_pays_5 : decode cX11_pays 5 = .ok (.iload_n 2, 1) := by decide +kernel
theorem dX11_pays_6 : decode cX11_pays 6 = .ok (.bipush 60, 2) := by decide +kernel
theorem dX11_pays_8 : decode cX11_pays 8 = .ok (.invokestatic 209, 3) := by decide +kernel
theorem dX11_pays_11 : decode cX11_pays 11 = .ok (.aload_n 0, 1) := by decide +kernel
theorem dX11_pays_12 : decode cX11_pays 12 = .ok (.invokevirtual 219, 3) := by decide +kernel
theorem dX11_pays_15 : decode cX11_pays 15 = .ok (.astore_n 3, 1) := by decide +kernel
theorem dX11_pays_16 : decode cX11_pays 16 = .ok (.aload_n 3, 1) := by decide +kernel
theorem dX11_pays_17 : decode cX11_pays 17 = .ok (.getfield 125, 3) := by decide +kernel
theorem dX11_pays_20 : decode cX11_pays 20 = .ok (.iload_n 1, 1) := by decide +kernel
theorem dX11_pays_21 : decode cX11_pays 21 = .ok (.aaload, 1) := by decide +kernel
theorem dX11_pays_22 : decode cX11_pays 22 = .ok (.iconst 1, 1) := by decide +kernel
theorem dX11_pays_23 : decode cX11_pays 23 = .ok (.putfield 155, 3) := by decide +kernel
theorem dX11_pays_26 : decode cX11_pays 26 = .ok (.aload_n 3, 1) := by decide +kernel
theorem dX11_pays_27 : decode cX11_pays 27 = .ok (.iload_n 2, 1) := by decide +kernel
theorem dX11_pays_28 : decode cX11_pays 28 = .ok (.invokevirtual 213, 3) := by decide +kernel
theorem dX11_pays_31 : decode cX11_pays 31 = .ok (.pop, 1) := by decide +kernel
theorem dX11_pays_32 : decode cX11_pays 32 = .ok (.aload_n 3, 1) := by decide +kernel
theorem dX11_pays_33 : decode cX11_pays 33 = .ok (.getfield 125, 3) := by decide +kernel
theorem dX11_pays_36 : decode cX11_pays 36 = .ok (.iload_n 1, 1) := by decide +kernel
theorem dX11_pays_37 : decode cX11_pays 37 = .ok (.aaload, 1) := by decide +kernel
theorem dX11_pays_38 : decode cX11_pays 38 = .ok (.getfield 143, 3) := by decide +kernel
theorem dX11_pays_41 : decode cX11_pays 41 = .ok (.istore 4, 2) := by decide +kernel
theorem dX11_pays_43 : decode cX11_pays 43 = .ok (.aload_n 0, 1) := by decide +kernel
theorem dX11_pays_44 : decode cX11_pays 44 = .ok (.invokevirtual 219, 3) := by decide +kernel
theorem dX11_pays_47 : decode cX11_pays 47 = .ok (.astore_n 3, 1) := by decide +kernel
theorem dX11_pays_48 : decode cX11_pays 48 = .ok (.aload_n 3, 1) := by decide +kernel
theorem dX11_pays_49 : decode cX11_pays 49 = .ok (.getfield 125, 3) := by decide +kernel
theorem dX11_pays_52 : decode cX11_pays 52 = .ok (.iload_n 1, 1) := by decide +kernel
theorem dX11_pays_53 : decode cX11_pays 53 = .ok (.aaload, 1) := by decide +kernel
theorem dX11_pays_54 : decode cX11_pays 54 = .ok (.iconst 0, 1) := by decide +kernel
theorem dX11_pays_55 : decode cX11_pays 55 = .ok (.putfield 155, 3) := by decide +kernel
theorem dX11_pays_58 : decode cX11_pays 58 = .ok (.aload_n 3, 1) := by decide +kernel
theorem dX11_pays_59 : decode cX11_pays 59 = .ok (.iload_n 2, 1) := by decide +kernel
theorem dX11_pays_60 : decode cX11_pays 60 = .ok (.invokevirtual 213, 3) := by decide +kernel
theorem dX11_pays_63 : decode cX11_pays 63 = .ok (.pop, 1) := by decide +kernel
theorem dX11_pays_64 : decode cX11_pays 64 = .ok (.iload 4, 2) := by decide +kernel
theorem dX11_pays_66 : decode cX11_pays 66 = .ok (.aload_n 3, 1) := by decide +kernel
theorem dX11_pays_67 : decode cX11_pays 67 = .ok (.getfield 125, 3) := by decide +kernel
theorem dX11_pays_70 : decode cX11_pays 70 = .ok (.iload_n 1, 1) := by decide +kernel
theorem dX11_pays_71 : decode cX11_pays 71 = .ok (.aaload, 1) := by decide +kernel
theorem dX11_pays_72 : decode cX11_pays 72 = .ok (.getfield 143, 3) := by decide +kernel
theorem dX11_pays_75 : decode cX11_pays 75 = .ok (.isub, 1) := by decide +kernel
theorem dX11_pays_76 : decode cX11_pays 76 = .ok (.ireturn, 1) := by decide +kernel
set_option maxRecDepth 20000 in
theorem ggX11_pays_X11_checkFisher : GoodIn wsX11_pays wsX11_checkFisher := goodIn_ca (goodIn_r _ [8, 9, 10, 11, 12, 251, 252, 253, 254, 223, 224, 225, 226, 227, 228, 229, 230, 231, 232, 233, 234, 235, 236, 237, 238, 239] (by decide +kernel) (by decide +kernel)) (goodIn_sub (fun _ h => List.mem_cons_of_mem _ (List.mem_append_left _ (List.mem_append_right _ h))) (by decide +kernel))
set_option maxRecDepth 20000 in
theorem gX11_pays_X11_checkFisher : GoodIn wsX11_pays (wsV RX11 122 RX11 yX11_checkFisher wsX11_checkFisher) := goodIn_app (goodIn_of _ (by decide +kernel)) ggX11_pays_X11_checkFisher
set_option maxRecDepth 20000 in
theorem ggX11_pays_X11_checkTides : GoodIn wsX11_pays wsX11_checkTides := goodIn_ca (goodIn_r _ [15, 16, 17] (by decide +kernel) (by decide +kernel)) (goodIn_sub (fun _ h => List.mem_cons_of_mem _ (List.mem_append_right _ h)) (by decide +kernel))
set_option maxRecDepth 20000 in
theorem gX11_pays_X11_checkTides : GoodIn wsX11_pays (va_wsS RX11 209 yX11_checkTides wsX11_checkTides) := goodIn_app (goodIn_of _ (by decide +kernel)) ggX11_pays_X11_checkTides
set_option maxRecDepth 20000 in
theorem ggX11_pays_X11_lookAhead : GoodIn wsX11_pays wsX11_lookAhead := goodIn_r _ [21, 22, 11, 23, 24, 25, 26, 27, 28, 29, 30, 31, 32, 33, 34, 35, 36, 37, 38, 39, 40, 41, 42, 43, 44, 45, 46, 47, 48, 49, 50, 51, 52, 53, 54, 55, 56, 57, 58, 59, 60, 61, 62, 63, 64, 65, 66, 67, 68, 69, 70, 71, 72, 73, 74, 75, 76, 77, 78, 79, 80, 81, 82, 83, 84, 85, 86, 87, 88, 89, 90, 91, 92, 93, 251, 252, 253, 254, 223, 224, 225, 226, 227, 228, 229, 230, 231, 232, 233, 234, 235, 236, 237, 238, 239, 255, 256, 257, 258, 240, 241, 242, 243, 244, 245, 246, 247, 248, 249, 250, 259, 260, 261, 262, 263, 264, 265, 266, 267, 268, 269, 270, 271, 272, 273, 274] (by decide +kernel) (by decide +kernel)
set_option maxRecDepth 20000 in
theorem gX11_pays_X11_lookAhead : GoodIn wsX11_pays (wsV RX11 219 RX11 yX11_lookAhead wsX11_lookAhead) := goodIn_app (goodIn_of _ (by decide +kernel)) ggX11_pays_X11_lookAhead
set_option maxRecDepth 20000 in
theorem ggX11_pays_X7_passTides : GoodIn wsX11_pays wsX7_passTides := goodIn_r _ [97, 29, 31, 98, 33, 37, 30, 34, 28, 99, 100, 101, 26, 102, 103, 104, 105, 106, 107, 108, 109, 110, 111, 112, 113, 32, 36, 114, 115, 116, 117, 118, 38, 119, 120, 121, 89, 122, 91, 123, 92, 124, 93, 125, 126, 127, 128, 129, 130, 131, 132, 133, 134, 135, 136, 137, 138, 139, 140, 141, 142, 143, 144, 145, 146, 42, 147, 47, 148, 149, 150, 151, 152, 153, 154, 155, 156, 157, 158, 159, 160, 161, 35, 162, 163, 164, 165, 166, 167, 168, 76, 169, 81, 85, 170, 171, 172, 173, 174, 175, 176, 177, 178, 179, 180, 181, 182, 183, 184, 185, 186, 187, 188, 189, 190, 51, 191, 54, 192, 60, 193, 194, 195, 196, 197, 198, 199, 200, 201, 202, 203, 204, 205, 206, 207, 208, 209, 210, 211, 78, 212, 213, 214, 215, 216, 217, 218, 219, 220, 221, 222, 223, 224, 225, 226, 227, 228, 229, 230, 231, 232, 233, 234, 235, 236, 237, 238, 239, 255, 256, 257, 258, 259, 260, 261, 262, 271, 272, 273, 274, 240, 241, 242, 243, 244, 245, 246, 247, 248, 249, 250, 263, 264, 265, 266, 267, 268, 269, 270] (by decide +kernel) (by decide +kernel)
set_option maxRecDepth 20000 in
theorem gX11_pays_X7_passTides : GoodIn wsX11_pays (wsV RX11 213 RX7 yX7_passTides wsX7_passTides) := goodIn_app (goodIn_of _ (by decide +kernel)) ggX11_pays_X7_passTides
theorem k_X11_pays_f125 : Cond.fieldLink RX11 125 "TideLots$Shore" "fishers" "[LTideLots$Fisher;" ∈ wsX11_pays := by decide +kernel
theorem i_X11_pays_X7 : ∀ w ∈ u_ws RX7 TX7 17, w ∈ wsX11_pays := by decide +kernel
theorem k_X11_pays_f155 : Cond.fieldLink RX11 155 "TideLots$Fisher" "isCheat" "Z" ∈ wsX11_pays := by decide +kernel
theorem i_X11_pays_X1 : ∀ w ∈ u_ws RX1 TX1 11, w ∈ wsX11_pays := by decide +kernel
theorem k_X11_pays_f143 : Cond.fieldLink RX11 143 "TideLots$Fisher" "store" "I" ∈ wsX11_pays := by decide +kernel
abbrev rX11_pays : Room := { frames := 7, cells := 2, slots := 12, locals := 141 }
noncomputable def b_X11_pays_0 (Z : Nat → Nat) (M : gMem) (x0 : Nat) (x1 : Int32) (x2 : Int32) : Option ((Nat ⊕ Int32) × gMem) :=
  ck (mT M x0 = 10) <| bx (f_X11_checkFisher M x0 x1) (fun e1 M1 => some (.inl e1, M1)) fun _ M1 => bx (f_X11_checkTides M1 x2 ((60 : Int32))) (fun e3 M3 => some (.inl e3, M3)) fun _ M3 => ck (mT M3 x0 = 10) <| bd (f_X11_lookAhead Z M3 x0) fun r4 M4 => dr r4 fun a6 => ck (mT M4 a6 = 7) <| dr ((mR M4 a6 7)) fun a8 => ck (mT M4 a8 = 24) <| ck (inb x1 (mL M4 a8)) <| dr ((mR M4 a8 x1.toNatClampNeg)) fun a11 => ck (mT M4 a11 = 1) <| lw (wI M4 a11 9 ((1 : Int32))) fun M13 => bd (f_X7_passTides Z M13 a6 x2) fun r17 M17 => ck (mT M17 a6 = 7) <| dr ((mR M17 a6 7)) fun a19 => ck (mT M17 a19 = 24) <| ck (inb x1 (mL M17 a19)) <| dr ((mR M17 a19 x1.toNatClampNeg)) fun a22 => ck (mT M17 a22 = 1) <| ck (mT M17 x0 = 10) <| bd (f_X11_lookAhead Z M17 x0) fun r24 M24 => dr r24 fun a26 => ck (mT M24 a26 = 7) <| dr ((mR M24 a26 7)) fun a28 => ck (mT M24 a28 = 24) <| ck (inb x1 (mL M24 a28)) <| dr ((mR M24 a28 x1.toNatClampNeg)) fun a31 => ck (mT M24 a31 = 1) <| lw (wI M24 a31 9 ((0 : Int32))) fun M33 => bd (f_X7_passTides Z M33 a26 x2) fun r37 M37 => ck (mT M37 a26 = 7) <| dr ((mR M37 a26 7)) fun a39 => ck (mT M37 a39 = 24) <| ck (inb x1 (mL M37 a39)) <| dr ((mR M37 a39 x1.toNatClampNeg)) fun a42 => ck (mT M37 a42 = 1) <| some (.inr ((mI M17 a22 4) - (mI M37 a42 4)), M37)
noncomputable def f_X11_pays (Z : Nat → Nat) (M : gMem) (x0 : Nat) (x1 : Int32) (x2 : Int32) : Option ((Nat ⊕ Int32) × gMem) :=
  b_X11_pays_0 Z M x0 x1 x2
set_option maxHeartbeats 4000000 in
set_option maxRecDepth 100000 in
theorem t_X11_pays_0 (X2 : gX p s m args meth c D cy B (gSt2 Z B H0) RX11 cX11_pays wsX11_pays 5) (hr : meth.sig.returnType = (some .int)) (hlx : l.stackTraces = false) (hH : ∀ q : Nat, q < B → s.heap[q]? = H0[q]?) (hne : ∀ x ∈ c.exceptionTable.toList, False) (hH0 : H0.size = B) {Q : State → Prop} : ∀ (M : gMem) (x0 : Nat) (x1 : Int32) (x2 : Int32) (z : (Nat ⊕ Int32) × gMem), b_X11_pays_0 Z M x0 x1 x2 = some z → (fun (r : (Nat ⊕ Int32) × gMem) => Q = gMX below D cy B H0 args s 2 12 (gzI r.1) r.2) z → gGo p l e rX11_pays s m args below meth c D cy B H0 5 0 0 Q 0 [(0, vR (some x0)), (1, vI x1), (2, vI x2)] [] M := by
  intro M x0 x1 x2 z hf hK
  unfold b_X11_pays_0 at hf
  have X := gX_w X2
  refine g_aload_n X dX11_pays_0 rfl rfl ?_
  refine g_iload_n X dX11_pays_1 rfl rfl ?_
  obtain ⟨hT2, hf⟩ := ck_e hf
  rcases bx_e hf with ⟨e1, M1, hq1, hf⟩ | ⟨r1, M1, hq1, hf⟩
  · cases hf
    refine g_eqQ hK ?_
    exact g_callTV (ci := 9) (b := x0) (As := [vI x1]) (st := []) (M1 := M1) X2 hne (m_X11_checkFisher l hlx hH0 hq1) (cwV 1 X.2.2.1 gX11_pays_X11_checkFisher rfl rfl rfl (by decide +kernel) ⟨Nat.le_of_ble_eq_true rfl, Nat.le_of_ble_eq_true rfl⟩) rfl rfl rfl hT2 (by decide) rfl (Nat.le_of_ble_eq_true rfl) dX11_pays_2 ⟨by decide, by decide⟩ (by decide) (by decide)
  refine g_callXV (ci := 9) (b := x0) (As := [vI x1]) (st := []) (v := none) (M1 := M1) X2 (m_X11_checkFisher l hlx hH0 hq1) (cwV 1 X.2.2.1 gX11_pays_X11_checkFisher rfl rfl rfl (by decide +kernel) ⟨Nat.le_of_ble_eq_true rfl, Nat.le_of_ble_eq_true rfl⟩) rfl rfl rfl hT2 (by decide) rfl (Nat.le_of_ble_eq_true rfl) dX11_pays_2 ⟨by decide, by decide⟩ ?_
  refine g_iload_n X dX11_pays_5 rfl rfl ?_
  refine g_bipush (v := (60 : Int32)) X dX11_pays_6 (by decide) ?_
  rcases bx_e hf with ⟨e3, M3, hq3, hf⟩ | ⟨r3, M3, hq3, hf⟩
  · cases hf
    refine g_eqQ hK ?_
    exact g_callTS (As := [vI x2, vI (60 : Int32)]) (st := []) (M1 := M3) X2 hne (m_X11_checkTides l hlx hH0 hq3) (va_cwS 2 X.2.2.1 gX11_pays_X11_checkTides rfl rfl rfl (by decide +kernel) ⟨Nat.le_of_ble_eq_true rfl, Nat.le_of_ble_eq_true rfl⟩) rfl rfl (Nat.le_of_ble_eq_true rfl) dX11_pays_8 ⟨by decide, by decide⟩ (by decide) (by decide)
  refine g_callXS (As := [vI x2, vI (60 : Int32)]) (st := []) (v := none) (M1 := M3) X2 (m_X11_checkTides l hlx hH0 hq3) (va_cwS 2 X.2.2.1 gX11_pays_X11_checkTides rfl rfl rfl (by decide +kernel) ⟨Nat.le_of_ble_eq_true rfl, Nat.le_of_ble_eq_true rfl⟩) rfl rfl (Nat.le_of_ble_eq_true rfl) dX11_pays_8 ⟨by decide, by decide⟩ ?_
  refine g_aload_n X dX11_pays_11 rfl rfl ?_
  obtain ⟨hT5, hf⟩ := ck_e hf
  obtain ⟨r4, M4, hq4, hf⟩ := bd_e hf
  refine g_callV (ci := 9) (b := x0) (As := []) (st := []) (v := some (vR r4)) (M1 := M4) X (m_X11_lookAhead l hq4) (cwV 0 X.2.2.1 gX11_pays_X11_lookAhead rfl rfl rfl (by decide +kernel) ⟨Nat.le_of_ble_eq_true rfl, Nat.le_of_ble_eq_true rfl⟩) rfl rfl rfl hT5 (by decide) rfl (Nat.le_of_ble_eq_true rfl) dX11_pays_12 ⟨by decide, by decide⟩ ?_
  refine g_astore_n (lv' := [(3, vR r4), (0, vR (some x0)), (1, vI x1), (2, vI x2)]) X dX11_pays_15 rfl (by decide) rfl ?_
  refine g_aload_n X dX11_pays_16 rfl rfl ?_
  obtain ⟨a6, ha6, hf⟩ := dr_e hf
  obtain ⟨hT7, hf⟩ := ck_e hf
  refine g_get (ci := 6) (v := vR (mR M4 a6 7)) 7 X cdX7 i_X11_pays_X7 (by decide) k_X11_pays_f125 rfl dX11_pays_17 ha6 hT7 rfl ?_
  refine g_iload_n X dX11_pays_20 rfl rfl ?_
  obtain ⟨a8, ha8, hf⟩ := dr_e hf
  obtain ⟨hT9, hf⟩ := ck_e hf
  obtain ⟨hg10, hf⟩ := ck_e hf
  refine g_aald (t0 := 4) X dX11_pays_21 ha8 hT9 (by decide) rfl hg10 ?_
  refine g_iconst (v := (1 : Int32)) X dX11_pays_22 (by decide) ?_
  obtain ⟨a11, ha11, hf⟩ := dr_e hf
  obtain ⟨hT12, hf⟩ := ck_e hf
  refine g_putI (ci := 0) 9 X cdX1 i_X11_pays_X1 (by decide) k_X11_pays_f155 rfl dX11_pays_23 ha11 hT12 (Or.inl rfl) (gnb (Or.inr rfl)) (gfb (Or.inr rfl)) rfl ?_
  obtain ⟨M13, hM13, hf⟩ := lw_e hf
  rw [← hM13]
  have hT14 : mT M13 a6 = 7 := by rw [hM13]; exact hT7
  have hT15 : mT M13 a8 = 24 := by rw [hM13]; exact hT9
  have hT16 : mT M13 a11 = 1 := by rw [hM13]; exact hT12
  refine g_aload_n X dX11_pays_26 rfl rfl ?_
  refine g_iload_n X dX11_pays_27 rfl rfl ?_
  obtain ⟨r17, M17, hq17, hf⟩ := bd_e hf
  refine g_callV (ci := 6) (b := a6) (As := [vI x2]) (st := []) (v := some (vI r17)) (M1 := M17) X (m_X7_passTides l hq17) (cwV 1 X.2.2.1 gX11_pays_X7_passTides rfl rfl rfl (by decide +kernel) ⟨Nat.le_of_ble_eq_true rfl, Nat.le_of_ble_eq_true rfl⟩) rfl rfl ha6 hT14 (by decide) rfl (Nat.le_of_ble_eq_true rfl) dX11_pays_28 ⟨by decide, by decide⟩ ?_
  refine g_pop X dX11_pays_31 rfl ?_
  refine g_aload_n X dX11_pays_32 rfl rfl ?_
  obtain ⟨hT18, hf⟩ := ck_e hf
  refine g_get (ci := 6) (v := vR (mR M17 a6 7)) 7 X cdX7 i_X11_pays_X7 (by decide) k_X11_pays_f125 rfl dX11_pays_33 ha6 hT18 rfl ?_
  refine g_iload_n X dX11_pays_36 rfl rfl ?_
  obtain ⟨a19, ha19, hf⟩ := dr_e hf
  obtain ⟨hT20, hf⟩ := ck_e hf
  obtain ⟨hg21, hf⟩ := ck_e hf
  refine g_aald (t0 := 4) X dX11_pays_37 ha19 hT20 (by decide) rfl hg21 ?_
  obtain ⟨a22, ha22, hf⟩ := dr_e hf
  obtain ⟨hT23, hf⟩ := ck_e hf
  refine g_get (ci := 0) (v := vI (mI M17 a22 4)) 4 X cdX1 i_X11_pays_X1 (by decide) k_X11_pays_f143 rfl dX11_pays_38 ha22 hT23 rfl ?_
  refine g_istore (lv' := [(4, vI (mI M17 a22 4)), (3, vR r4), (0, vR (some x0)), (1, vI x1), (2, vI x2)]) X dX11_pays_41 (by decide) rfl ?_
  refine g_aload_n X dX11_pays_43 rfl rfl ?_
  obtain ⟨hT25, hf⟩ := ck_e hf
  obtain ⟨r24, M24, hq24, hf⟩ := bd_e hf
  refine g_callV (ci := 9) (b := x0) (As := []) (st := []) (v := some (vR r24)) (M1 := M24) X (m_X11_lookAhead l hq24) (cwV 0 X.2.2.1 gX11_pays_X11_lookAhead rfl rfl rfl (by decide +kernel) ⟨Nat.le_of_ble_eq_true rfl, Nat.le_of_ble_eq_true rfl⟩) rfl rfl rfl hT25 (by decide) rfl (Nat.le_of_ble_eq_true rfl) dX11_pays_44 ⟨by decide, by decide⟩ ?_
  refine g_astore_n (lv' := [(3, vR r24), (4, vI (mI M17 a22 4)), (0, vR (some x0)), (1, vI x1), (2, vI x2)]) X dX11_pays_47 rfl (by decide) rfl ?_
  refine g_aload_n X dX11_pays_48 rfl rfl ?_
  obtain ⟨a26, ha26, hf⟩ := dr_e hf
  obtain ⟨hT27, hf⟩ := ck_e hf
  refine g_get (ci := 6) (v := vR (mR M24 a26 7)) 7 X cdX7 i_X11_pays_X7 (by decide) k_X11_pays_f125 rfl dX11_pays_49 ha26 hT27 rfl ?_
  refine g_iload_n X dX11_pays_52 rfl rfl ?_
  obtain ⟨a28, ha28, hf⟩ := dr_e hf
  obtain ⟨hT29, hf⟩ := ck_e hf
  obtain ⟨hg30, hf⟩ := ck_e hf
  refine g_aald (t0 := 4) X dX11_pays_53 ha28 hT29 (by decide) rfl hg30 ?_
  refine g_iconst (v := (0 : Int32)) X dX11_pays_54 (by decide) ?_
  obtain ⟨a31, ha31, hf⟩ := dr_e hf
  obtain ⟨hT32, hf⟩ := ck_e hf
  refine g_putI (ci := 0) 9 X cdX1 i_X11_pays_X1 (by decide) k_X11_pays_f155 rfl dX11_pays_55 ha31 hT32 (Or.inl rfl) (gnb (Or.inl rfl)) (gfb (Or.inl rfl)) rfl ?_
  obtain ⟨M33, hM33, hf⟩ := lw_e hf
  rw [← hM33]
  have hT34 : mT M33 a26 = 7 := by rw [hM33]; exact hT27
  have hT35 : mT M33 a28 = 24 := by rw [hM33]; exact hT29
  have hT36 : mT M33 a31 = 1 := by rw [hM33]; exact hT32
  refine g_aload_n X dX11_pays_58 rfl rfl ?_
  refine g_iload_n X dX11_pays_59 rfl rfl ?_
  obtain ⟨r37, M37, hq37, hf⟩ := bd_e hf
  refine g_callV (ci := 6) (b := a26) (As := [vI x2]) (st := []) (v := some (vI r37)) (M1 := M37) X (m_X7_passTides l hq37) (cwV 1 X.2.2.1 gX11_pays_X7_passTides rfl rfl rfl (by decide +kernel) ⟨Nat.le_of_ble_eq_true rfl, Nat.le_of_ble_eq_true rfl⟩) rfl rfl ha26 hT34 (by decide) rfl (Nat.le_of_ble_eq_true rfl) dX11_pays_60 ⟨by decide, by decide⟩ ?_
  refine g_pop X dX11_pays_63 rfl ?_
  refine g_iload X dX11_pays_64 rfl ?_
  refine g_aload_n X dX11_pays_66 rfl rfl ?_
  obtain ⟨hT38, hf⟩ := ck_e hf
  refine g_get (ci := 6) (v := vR (mR M37 a26 7)) 7 X cdX7 i_X11_pays_X7 (by decide) k_X11_pays_f125 rfl dX11_pays_67 ha26 hT38 rfl ?_
  refine g_iload_n X dX11_pays_70 rfl rfl ?_
  obtain ⟨a39, ha39, hf⟩ := dr_e hf
  obtain ⟨hT40, hf⟩ := ck_e hf
  obtain ⟨hg41, hf⟩ := ck_e hf
  refine g_aald (t0 := 4) X dX11_pays_71 ha39 hT40 (by decide) rfl hg41 ?_
  obtain ⟨a42, ha42, hf⟩ := dr_e hf
  obtain ⟨hT43, hf⟩ := ck_e hf
  refine g_get (ci := 0) (v := vI (mI M37 a42 4)) 4 X cdX1 i_X11_pays_X1 (by decide) k_X11_pays_f143 rfl dX11_pays_72 ha42 hT43 rfl ?_
  refine g_isub X dX11_pays_75 ?_
  cases hf
  refine g_eqQ hK ?_
  refine g_xret ?_
  exact g_iret X hr dX11_pays_76
set_option maxHeartbeats 4000000 in
set_option maxRecDepth 100000 in
theorem m_X11_pays (l : Launch) (hlx : l.stackTraces = false) {D : va_G} {cy : Nat → ClassId} {B : Nat} {H0 : Heap} {Z : Nat → Nat} {M M1 : gMem} {x0 : Nat} {x1 : Int32} {x2 : Int32} {r : (Nat ⊕ Int32)} (hH0 : H0.size = B) (hf : f_X11_pays Z M x0 x1 x2 = some (r, M1)) : vx_Met l yX11_pays wsX11_pays rX11_pays (va_Pc (Value.ref x0 :: List.map gv [vI x1, vI x2]) (gPre D cy B H0 (gSt2 Z B H0) M)) (gQX D cy B H0 (gzI r) M1) (gXC D cy B H0 (gzI r) M1) 2 12 (gA B) := by
  refine vx_ofW (cc := cX11_pays) (maxL := 5) (ret := (some .int)) (by decide) rfl ?_
  intro p e s m args below meth c s₁ Bd hml hne hv
  obtain ⟨rfl, hW, hKK, hFs⟩ := hv
  have X2 : gX p s m _ meth c D cy B (gSt2 Z B H0) RX11 cX11_pays wsX11_pays 5 := ⟨Bd.exec, Bd.bytes, atoms_spec (ws := wsX11_pays) Bd.pre, findClass_of_methodNamed Bd.named, hml, hKK, by rw [hW.1]; exact hW.2.1, Bd.notSynchronized, hFs⟩
  have hr := Bd.returns
  have hH : ∀ q : Nat, q < B → s.heap[q]? = H0[q]? := hW.2.2.1
  have hl := lv_entry ([.ref x0, .int x1, .int x2]) (n := 5) (Nat.le_of_ble_eq_true rfl)
  show W p l e rX11_pays s m _ below meth c s.heap [] 0 0 _ (entryFrame m ([.ref x0, .int x1, .int x2] : List Value).toArray 5)
  rw [lg_entry_eq]
  generalize (lg_sl ([.ref x0, .int x1, .int x2]) ++ List.replicate (5 - (lg_sl ([.ref x0, .int x1, .int x2])).length) Slot.unset).toArray = ls at hl ⊢
  have hl : lv_has ls 5 (List.map gq [(0, vR (some x0)), (1, vI x1), (2, vI x2)]) := hl
  exact t_X11_pays_0 X2 hr hlx hH hne hH0 _ _ _ _ _ hf rfl s.heap [] ls hW va_S.rf (lv_has_sub hl (lvsub_of _ _ [0, 1, 2] rfl))
/-! ## TideLots.empty(I)I -/
theorem dX11_empty_0 : decode cX11_empty 0 = .ok (.aload_n 0, 1) := by decide +kernel
theorem dX11_empty_1 : decode cX11_empty 1 = .ok (.iload_n 1, 1) := by decide +kernel
theorem dX11_empty_2 : decode cX11_empty 2 = .ok (.invokevirtual 97, 3) := by decide +kernel
theorem dX11_empty_5 : decode cX11_empty 5 = .ok (.aload_n 0, 1) := by decide +kernel
theorem dX11_empty_6 : decode cX11_empty 6 = .ok (.invokevirtual 219, 3) := by decide +kernel
theorem dX11_empty_9 : decode cX11_empty 9 = .ok (.astore_n 2, 1) := by decide +kernel
theorem dX11_empty_10 : decode cX11_empty 10 = .ok (.iconst 0, 1) := by decide +kernel
theorem dX11_empty_11 : decode cX11_empty 11 = .ok (.istore_n 3, 1) := by decide +kernel
theorem dX11_empty_12 : decode cX11_empty 12 = .ok (.iload_n 3, 1) := by decide +kernel
theorem dX11_empty_13 : decode cX11_empty 13 = .ok (.bipush 100, 2) := by decide +kernel
theorem dX11_empty_15 : decode cX11_empty 15 = .ok (.if_icmp .gt 33, 3) := by decide +kernel
theorem dX11_empty_18 : decode cX11_empty 18 = .ok (.iload_n 3, 1) := by decide +kernel
theorem dX11_empty_19 : decode cX11_empty 19 = .ok (.ifCond .le 9, 3) := by decide +kernel
theorem dX11_empty_22 : decode cX11_empty 22 = .ok (.aload_n 2, 1) := by decide +kernel
theorem dX11_empty_23 : decode cX11_empty 23 = .ok (.iconst 1, 1) := by decide +kernel
theorem dX11_empty_24 : decode cX11_empty 24 = .ok (.invokevirtual 213, 3) := by decide +kernel
theorem dX11_empty_27 : decode cX11_empty 27 = .ok (.pop, 1) := by decide +kernel
theorem dX11_empty_28 : decode cX11_empty 28 = .ok (.aload_n 2, 1) := by decide +kernel
theorem dX11_empty_29 : decode cX11_empty 29 = .ok (.getfield 100, 3) := by decide +kernel
theorem dX11_empty_32 : decode cX11_empty 32 = .ok (.iload_n 1, 1) := by decide +kernel
theorem dX11_empty_33 : decode cX11_empty 33 = .ok (.aaload, 1) := by decide +kernel
theorem dX11_empty_34 : decode cX11_empty 34 = .ok (.invokevirtual 104, 3) := by decide +kernel
theorem dX11_empty_37 : decode cX11_empty 37 = .ok (.ifCond .ne 5, 3) := by decide +kernel
theorem dX11_empty_40 : decode cX11_empty 40 = .ok (.iload_n 3, 1) := by decide +kernel
theorem dX11_empty_41 : decode cX11_empty 41 = .ok (.ireturn, 1) := by decide +kernel
theorem dX11_empty_42 : decode cX11_empty 42 = .ok (.iinc 3 1, 3) := by decide +kernel
theorem dX11_empty_45 : decode cX11_empty 45 = .ok (.goto (-33), 3) := by decide +kernel
theorem dX11_empty_48 : decode cX11_empty 48 = .ok (.iconst (-1), 1) := by decide +kernel
theorem dX11_empty_49 : decode cX11_empty 49 = .ok (.ireturn, 1) := by decide +kernel
set_option maxRecDepth 20000 in
theorem ggX11_empty_X3_allFish : GoodIn wsX11_empty wsX3_allFish := goodIn_r _ [140, 40, 238, 239, 240, 241] (by decide +kernel) (by decide +kernel)
set_option maxRecDepth 20000 in
theorem gX11_empty_X3_allFish : GoodIn wsX11_empty (wsV RX11 104 RX3 yX3_allFish wsX3_allFish) := goodIn_app (goodIn_of _ (by decide +kernel)) ggX11_empty_X3_allFish
set_option maxRecDepth 20000 in
theorem ggX11_empty_X7_passTides : GoodIn wsX11_empty wsX7_passTides := goodIn_r _ [90, 22, 24, 91, 26, 30, 23, 27, 21, 92, 93, 94, 19, 95, 96, 97, 98, 99, 100, 101, 102, 103, 104, 105, 106, 25, 29, 107, 108, 109, 110, 111, 31, 112, 113, 114, 82, 115, 84, 116, 85, 117, 86, 118, 119, 120, 121, 122, 123, 124, 125, 126, 127, 128, 129, 130, 131, 132, 133, 134, 135, 136, 137, 138, 139, 35, 140, 40, 141, 142, 143, 144, 145, 146, 147, 148, 149, 150, 151, 152, 153, 154, 28, 155, 156, 157, 158, 159, 160, 161, 69, 162, 74, 78, 163, 164, 165, 166, 167, 168, 169, 170, 171, 172, 173, 174, 175, 176, 177, 178, 179, 180, 181, 182, 183, 44, 184, 47, 185, 53, 186, 187, 188, 189, 190, 191, 192, 193, 194, 195, 196, 197, 198, 199, 200, 201, 202, 203, 204, 71, 205, 206, 207, 208, 209, 210, 211, 212, 213, 214, 215, 217, 218, 219, 220, 221, 222, 223, 224, 225, 226, 227, 228, 229, 230, 231, 232, 233, 238, 239, 240, 241, 253, 254, 255, 256, 265, 266, 267, 268, 242, 243, 244, 245, 246, 247, 248, 249, 250, 251, 252, 257, 258, 259, 260, 261, 262, 263, 264] (by decide +kernel) (by decide +kernel)
set_option maxRecDepth 20000 in
theorem gX11_empty_X7_passTides : GoodIn wsX11_empty (wsV RX11 213 RX7 yX7_passTides wsX7_passTides) := goodIn_app (goodIn_of _ (by decide +kernel)) ggX11_empty_X7_passTides
set_option maxRecDepth 20000 in
theorem ggX11_empty_X11_checkGround : GoodIn wsX11_empty wsX11_checkGround := goodIn_ca (goodIn_r _ [6, 7, 8, 9, 10, 234, 235, 236, 237, 217, 218, 219, 220, 221, 222, 223, 224, 225, 226, 227, 228, 229, 230, 231, 232, 233] (by decide +kernel) (by decide +kernel)) (goodIn_sub (fun _ h => List.mem_cons_of_mem _ (List.mem_append_right _ h)) (by decide +kernel))
set_option maxRecDepth 20000 in
theorem gX11_empty_X11_checkGround : GoodIn wsX11_empty (wsV RX11 97 RX11 yX11_checkGround wsX11_checkGround) := goodIn_app (goodIn_of _ (by decide +kernel)) ggX11_empty_X11_checkGround
set_option maxRecDepth 20000 in
theorem ggX11_empty_X11_lookAhead : GoodIn wsX11_empty wsX11_lookAhead := goodIn_r _ [14, 15, 9, 16, 17, 18, 19, 20, 21, 22, 23, 24, 25, 26, 27, 28, 29, 30, 31, 32, 33, 34, 35, 36, 37, 38, 39, 40, 41, 42, 43, 44, 45, 46, 47, 48, 49, 50, 51, 52, 53, 54, 55, 56, 57, 58, 59, 60, 61, 62, 63, 64, 65, 66, 67, 68, 69, 70, 71, 72, 73, 74, 75, 76, 77, 78, 79, 80, 81, 82, 83, 84, 85, 86, 234, 235, 236, 237, 217, 218, 219, 220, 221, 222, 223, 224, 225, 226, 227, 228, 229, 230, 231, 232, 233, 238, 239, 240, 241, 242, 243, 244, 245, 246, 247, 248, 249, 250, 251, 252, 253, 254, 255, 256, 257, 258, 259, 260, 261, 262, 263, 264, 265, 266, 267, 268] (by decide +kernel) (by decide +kernel)
set_option maxRecDepth 20000 in
theorem gX11_empty_X11_lookAhead : GoodIn wsX11_empty (wsV RX11 219 RX11 yX11_lookAhead wsX11_lookAhead) := goodIn_app (goodIn_of _ (by decide +kernel)) ggX11_empty_X11_lookAhead
theorem k_X11_empty_f100 : Cond.fieldLink RX11 100 "TideLots$Shore" "grounds" "[LTideLots$Ground;" ∈ wsX11_empty := by decide +kernel
theorem i_X11_empty_X7 : ∀ w ∈ u_ws RX7 TX7 17, w ∈ wsX11_empty := by decide +kernel
abbrev rX11_empty : Room := { frames := 7, cells := 1, slots := 6, locals := 141 }
noncomputable def b_X11_empty_28 (Z : Nat → Nat) (M : gMem) (x1 : Int32) (x2 : Option Nat) (x3 : Int32) : Option ((gMem × Int32) ⊕ ((Nat ⊕ Int32) × gMem)) :=
  dr x2 fun a1 => ck (mT M a1 = 7) <| dr ((mR M a1 6)) fun a3 => ck (mT M a3 = 23) <| ck (inb x1 (mL M a3)) <| dr ((mR M a3 x1.toNatClampNeg)) fun a7 => ck (mT M a7 = 3) <| bd (f_X3_allFish M a7) fun r6 M6 => (if r6 = 0 then oI (some (.inr x3, M6)) else some (.inl (M6, (x3 + (1 : Int32)))))
noncomputable def bb_X11_empty_12 (Z : Nat → Nat) (M : gMem) (x1 : Int32) (x2 : Option Nat) (x3 : Int32) : Option ((gMem × Int32) ⊕ ((Nat ⊕ Int32) × gMem)) :=
  (if (100 : Int32) < x3 then oI (some (.inr (-1 : Int32), M)) else (if x3 ≤ 0 then b_X11_empty_28 Z M x1 x2 x3 else dr x2 fun a12 => ck (mT M a12 = 7) <| bd (f_X7_passTides Z M a12 ((1 : Int32))) fun r11 M11 => b_X11_empty_28 Z M11 x1 x2 x3))
noncomputable def lp_X11_empty_12 (Z : Nat → Nat) (M : gMem) (x1 : Int32) (x2 : Option Nat) (x3 : Int32) : Option ((Nat ⊕ Int32) × gMem) :=
  lp (fun (q : gMem × Int32) => bb_X11_empty_12 Z q.1 x1 x2 q.2) (M, x3)
noncomputable def b_X11_empty_0 (Z : Nat → Nat) (M : gMem) (x0 : Nat) (x1 : Int32) : Option ((Nat ⊕ Int32) × gMem) :=
  ck (mT M x0 = 10) <| bx (f_X11_checkGround M x0 x1) (fun e14 M14 => some (.inl e14, M14)) fun _ M14 => ck (mT M14 x0 = 10) <| bd (f_X11_lookAhead Z M14 x0) fun r16 M16 => lp_X11_empty_12 Z M16 x1 r16 ((0 : Int32))
noncomputable def f_X11_empty (Z : Nat → Nat) (M : gMem) (x0 : Nat) (x1 : Int32) : Option ((Nat ⊕ Int32) × gMem) :=
  b_X11_empty_0 Z M x0 x1
set_option maxHeartbeats 4000000 in
set_option maxRecDepth 100000 in
theorem t_X11_empty_28 (X2 : gX p s m args meth c D cy B (gSt2 Z B H0) RX11 cX11_empty wsX11_empty 4) (hr : meth.sig.returnType = (some .int)) (hlx : l.stackTraces = false) (hH : ∀ q : Nat, q < B → s.heap[q]? = H0[q]?) (hne : ∀ x ∈ c.exceptionTable.toList, False) (hH0 : H0.size = B) {Q : State → Prop} : ∀ (M : gMem) (x1 : Int32) (x2 : Option Nat) (x3 : Int32) (z : (gMem × Int32) ⊕ ((Nat ⊕ Int32) × gMem)), b_X11_empty_28 Z M x1 x2 x3 = some z → (Sum.elim (fun (q : gMem × Int32) => gGo p l e rX11_empty s m args below meth c D cy B H0 4 1 6 Q 12 [(1, vI x1), (2, vR x2), (3, vI q.2)] [] q.1) (fun (r : (Nat ⊕ Int32) × gMem) => Q = gMX below D cy B H0 args s 1 6 (gzI r.1) r.2)) z → gGo p l e rX11_empty s m args below meth c D cy B H0 4 1 6 Q 28 [(1, vI x1), (2, vR x2), (3, vI x3)] [] M := by
  intro M x1 x2 x3 z hf hK
  unfold b_X11_empty_28 at hf
  have X := gX_w X2
  refine g_aload_n X dX11_empty_28 rfl rfl ?_
  obtain ⟨a1, ha1, hf⟩ := dr_e hf
  obtain ⟨hT2, hf⟩ := ck_e hf
  refine g_get (ci := 6) (v := vR (mR M a1 6)) 6 X cdX7 i_X11_empty_X7 (by decide) k_X11_empty_f100 rfl dX11_empty_29 ha1 hT2 rfl ?_
  refine g_iload_n X dX11_empty_32 rfl rfl ?_
  obtain ⟨a3, ha3, hf⟩ := dr_e hf
  obtain ⟨hT4, hf⟩ := ck_e hf
  obtain ⟨hg5, hf⟩ := ck_e hf
  refine g_aald (t0 := 3) X dX11_empty_33 ha3 hT4 (by decide) rfl hg5 ?_
  obtain ⟨a7, ha7, hf⟩ := dr_e hf
  obtain ⟨hT8, hf⟩ := ck_e hf
  obtain ⟨r6, M6, hq6, hf⟩ := bd_e hf
  refine g_callV (ci := 2) (b := a7) (As := []) (st := []) (v := some (vI r6)) (M1 := M6) X (m_X3_allFish l hq6) (cwV 0 X.2.2.1 gX11_empty_X3_allFish rfl rfl rfl (by decide +kernel) ⟨Nat.le_of_ble_eq_true rfl, Nat.le_of_ble_eq_true rfl⟩) rfl rfl ha7 hT8 (by decide) rfl (Nat.le_of_ble_eq_true rfl) dX11_empty_34 ⟨by decide, by decide⟩ ?_
  refine g_if_ne (tgt := 42) X dX11_empty_37 (by decide) (fun hc => ?_) (fun hc => ?_)
  · have hf := ife_f hc hf
    refine g_iinc (v := (1 : Int32)) (lv' := [(3, vI (x3 + (1 : Int32))), (1, vI x1), (2, vR x2)]) X dX11_empty_42 rfl (by decide) (by decide) rfl ?_
    refine g_goto (tgt := 12) X dX11_empty_45 (by decide) ?_
    cases hf
    refine g_sub (lvsub_of _ _ [1, 2, 0] rfl) ?_
    exact hK
  · have hf := ife_t hc hf
    refine g_iload_n X dX11_empty_40 rfl rfl ?_
    obtain ⟨w9, hw9, hz9⟩ := oI_e hf
    subst hz9
    have hf := hw9
    cases hf
    refine g_eqQ hK ?_
    refine g_xret ?_
    exact g_iret X hr dX11_empty_41
set_option maxHeartbeats 4000000 in
set_option maxRecDepth 100000 in
theorem tb_X11_empty_12 (X2 : gX p s m args meth c D cy B (gSt2 Z B H0) RX11 cX11_empty wsX11_empty 4) (hr : meth.sig.returnType = (some .int)) (hlx : l.stackTraces = false) (hH : ∀ q : Nat, q < B → s.heap[q]? = H0[q]?) (hne : ∀ x ∈ c.exceptionTable.toList, False) (hH0 : H0.size = B) {Q : State → Prop} : ∀ (M : gMem) (x1 : Int32) (x2 : Option Nat) (x3 : Int32) (z : (gMem × Int32) ⊕ ((Nat ⊕ Int32) × gMem)), bb_X11_empty_12 Z M x1 x2 x3 = some z → (Sum.elim (fun (q : gMem × Int32) => gGo p l e rX11_empty s m args below meth c D cy B H0 4 1 6 Q 12 [(1, vI x1), (2, vR x2), (3, vI q.2)] [] q.1) (fun (r : (Nat ⊕ Int32) × gMem) => Q = gMX below D cy B H0 args s 1 6 (gzI r.1) r.2)) z → gGo p l e rX11_empty s m args below meth c D cy B H0 4 1 6 Q 12 [(1, vI x1), (2, vR x2), (3, vI x3)] [] M := by
  intro M x1 x2 x3 z hf hK
  unfold bb_X11_empty_12 at hf
  have X := gX_w X2
  refine g_iload_n X dX11_empty_12 rfl rfl ?_
  refine g_bipush (v := (100 : Int32)) X dX11_empty_13 (by decide) ?_
  refine g_icmp_gt (tgt := 48) X dX11_empty_15 (by decide) (fun hc => ?_) (fun hc => ?_)
  · have hf := ife_t hc hf
    refine g_iconst (v := (-1 : Int32)) X dX11_empty_48 (by decide) ?_
    obtain ⟨w10, hw10, hz10⟩ := oI_e hf
    subst hz10
    have hf := hw10
    cases hf
    refine g_eqQ hK ?_
    refine g_xret ?_
    exact g_iret X hr dX11_empty_49
  · have hf := ife_f hc hf
    refine g_iload_n X dX11_empty_18 rfl rfl ?_
    refine g_if_le (tgt := 28) X dX11_empty_19 (by decide) (fun hc => ?_) (fun hc => ?_)
    · have hf := ife_t hc hf
      refine g_sub (lvsub_of _ _ [0, 1, 2] rfl) ?_
      exact t_X11_empty_28 X2 hr hlx hH hne hH0 _ _ _ _ _ hf hK
    · have hf := ife_f hc hf
      refine g_aload_n X dX11_empty_22 rfl rfl ?_
      refine g_iconst (v := (1 : Int32)) X dX11_empty_23 (by decide) ?_
      obtain ⟨a12, ha12, hf⟩ := dr_e hf
      obtain ⟨hT13, hf⟩ := ck_e hf
      obtain ⟨r11, M11, hq11, hf⟩ := bd_e hf
      refine g_callV (ci := 6) (b := a12) (As := [vI (1 : Int32)]) (st := []) (v := some (vI r11)) (M1 := M11) X (m_X7_passTides l hq11) (cwV 1 X.2.2.1 gX11_empty_X7_passTides rfl rfl rfl (by decide +kernel) ⟨Nat.le_of_ble_eq_true rfl, Nat.le_of_ble_eq_true rfl⟩) rfl rfl ha12 hT13 (by decide) rfl (Nat.le_of_ble_eq_true rfl) dX11_empty_24 ⟨by decide, by decide⟩ ?_
      refine g_pop X dX11_empty_27 rfl ?_
      refine g_sub (lvsub_of _ _ [0, 1, 2] rfl) ?_
      exact t_X11_empty_28 X2 hr hlx hH hne hH0 _ _ _ _ _ hf hK
set_option maxHeartbeats 4000000 in
set_option maxRecDepth 100000 in
theorem tl_X11_empty_12 (X2 : gX p s m args meth c D cy B (gSt2 Z B H0) RX11 cX11_empty wsX11_empty 4) (hr : meth.sig.returnType = (some .int)) (hlx : l.stackTraces = false) (hH : ∀ q : Nat, q < B → s.heap[q]? = H0[q]?) (hne : ∀ x ∈ c.exceptionTable.toList, False) (hH0 : H0.size = B) {Q : State → Prop} : ∀ (M : gMem) (x1 : Int32) (x2 : Option Nat) (x3 : Int32) (z : (Nat ⊕ Int32) × gMem), lp_X11_empty_12 Z M x1 x2 x3 = some z → (fun (r : (Nat ⊕ Int32) × gMem) => Q = gMX below D cy B H0 args s 1 6 (gzI r.1) r.2) z → gGo p l e rX11_empty s m args below meth c D cy B H0 4 1 6 Q 12 [(1, vI x1), (2, vR x2), (3, vI x3)] [] M := by
  intro M x1 x2 x3 z hf hK
  refine lp_ind (P := (fun (q : gMem × Int32) (z : (Nat ⊕ Int32) × gMem) => (fun (r : (Nat ⊕ Int32) × gMem) => Q = gMX below D cy B H0 args s 1 6 (gzI r.1) r.2) z → gGo p l e rX11_empty s m args below meth c D cy B H0 4 1 6 Q 12 [(1, vI x1), (2, vR x2), (3, vI q.2)] [] q.1)) (fun q z hq => ?_) _ _ hf hK
  intro hK
  obtain ⟨w, hw, hm⟩ := hq
  refine tb_X11_empty_12 X2 hr hlx hH hne hH0 _ _ _ _ w hw ?_
  cases w with
  | inl a => exact hm hK
  | inr b => cases hm; exact hK
set_option maxHeartbeats 4000000 in
set_option maxRecDepth 100000 in
theorem t_X11_empty_0 (X2 : gX p s m args meth c D cy B (gSt2 Z B H0) RX11 cX11_empty wsX11_empty 4) (hr : meth.sig.returnType = (some .int)) (hlx : l.stackTraces = false) (hH : ∀ q : Nat, q < B → s.heap[q]? = H0[q]?) (hne : ∀ x ∈ c.exceptionTable.toList, False) (hH0 : H0.size = B) {Q : State → Prop} : ∀ (M : gMem) (x0 : Nat) (x1 : Int32) (z : (Nat ⊕ Int32) × gMem), b_X11_empty_0 Z M x0 x1 = some z → (fun (r : (Nat ⊕ Int32) × gMem) => Q = gMX below D cy B H0 args s 1 6 (gzI r.1) r.2) z → gGo p l e rX11_empty s m args below meth c D cy B H0 4 0 0 Q 0 [(0, vR (some x0)), (1, vI x1)] [] M := by
  intro M x0 x1 z hf hK
  unfold b_X11_empty_0 at hf
  have X := gX_w X2
  refine g_aload_n X dX11_empty_0 rfl rfl ?_
  refine g_iload_n X dX11_empty_1 rfl rfl ?_
  obtain ⟨hT15, hf⟩ := ck_e hf
  rcases bx_e hf with ⟨e14, M14, hq14, hf⟩ | ⟨r14, M14, hq14, hf⟩
  · cases hf
    refine g_eqQ hK ?_
    exact g_callTV (ci := 9) (b := x0) (As := [vI x1]) (st := []) (M1 := M14) X2 hne (m_X11_checkGround l hlx hH0 hq14) (cwV 1 X.2.2.1 gX11_empty_X11_checkGround rfl rfl rfl (by decide +kernel) ⟨Nat.le_of_ble_eq_true rfl, Nat.le_of_ble_eq_true rfl⟩) rfl rfl rfl hT15 (by decide) rfl (Nat.le_of_ble_eq_true rfl) dX11_empty_2 ⟨by decide, by decide⟩ (by decide) (by decide)
  refine g_callXV (ci := 9) (b := x0) (As := [vI x1]) (st := []) (v := none) (M1 := M14) X2 (m_X11_checkGround l hlx hH0 hq14) (cwV 1 X.2.2.1 gX11_empty_X11_checkGround rfl rfl rfl (by decide +kernel) ⟨Nat.le_of_ble_eq_true rfl, Nat.le_of_ble_eq_true rfl⟩) rfl rfl rfl hT15 (by decide) rfl (Nat.le_of_ble_eq_true rfl) dX11_empty_2 ⟨by decide, by decide⟩ ?_
  refine g_aload_n X dX11_empty_5 rfl rfl ?_
  obtain ⟨hT17, hf⟩ := ck_e hf
  obtain ⟨r16, M16, hq16, hf⟩ := bd_e hf
  refine g_callV (ci := 9) (b := x0) (As := []) (st := []) (v := some (vR r16)) (M1 := M16) X (m_X11_lookAhead l hq16) (cwV 0 X.2.2.1 gX11_empty_X11_lookAhead rfl rfl rfl (by decide +kernel) ⟨Nat.le_of_ble_eq_true rfl, Nat.le_of_ble_eq_true rfl⟩) rfl rfl rfl hT17 (by decide) rfl (Nat.le_of_ble_eq_true rfl) dX11_empty_6 ⟨by decide, by decide⟩ ?_
  refine g_astore_n (lv' := [(2, vR r16), (0, vR (some x0)), (1, vI x1)]) X dX11_empty_9 rfl (by decide) rfl ?_
  refine g_iconst (v := (0 : Int32)) X dX11_empty_10 (by decide) ?_
  refine g_istore_n (lv' := [(3, vI (0 : Int32)), (2, vR r16), (0, vR (some x0)), (1, vI x1)]) X dX11_empty_11 rfl (by decide) rfl ?_
  refine g_sub (lvsub_of _ _ [3, 1, 0] rfl) ?_
  exact tl_X11_empty_12 X2 hr hlx hH hne hH0 _ _ _ _ _ hf hK
set_option maxHeartbeats 4000000 in
set_option maxRecDepth 100000 in
theorem m_X11_empty (l : Launch) (hlx : l.stackTraces = false) {D : va_G} {cy : Nat → ClassId} {B : Nat} {H0 : Heap} {Z : Nat → Nat} {M M1 : gMem} {x0 : Nat} {x1 : Int32} {r : (Nat ⊕ Int32)} (hH0 : H0.size = B) (hf : f_X11_empty Z M x0 x1 = some (r, M1)) : vx_Met l yX11_empty wsX11_empty rX11_empty (va_Pc (Value.ref x0 :: List.map gv [vI x1]) (gPre D cy B H0 (gSt2 Z B H0) M)) (gQX D cy B H0 (gzI r) M1) (gXC D cy B H0 (gzI r) M1) 1 6 (gA B) := by
  refine vx_ofW (cc := cX11_empty) (maxL := 4) (ret := (some .int)) (by decide) rfl ?_
  intro p e s m args below meth c s₁ Bd hml hne hv
  obtain ⟨rfl, hW, hKK, hFs⟩ := hv
  have X2 : gX p s m _ meth c D cy B (gSt2 Z B H0) RX11 cX11_empty wsX11_empty 4 := ⟨Bd.exec, Bd.bytes, atoms_spec (ws := wsX11_empty) Bd.pre, findClass_of_methodNamed Bd.named, hml, hKK, by rw [hW.1]; exact hW.2.1, Bd.notSynchronized, hFs⟩
  have hr := Bd.returns
  have hH : ∀ q : Nat, q < B → s.heap[q]? = H0[q]? := hW.2.2.1
  have hl := lv_entry ([.ref x0, .int x1]) (n := 4) (Nat.le_of_ble_eq_true rfl)
  show W p l e rX11_empty s m _ below meth c s.heap [] 0 0 _ (entryFrame m ([.ref x0, .int x1] : List Value).toArray 4)
  rw [lg_entry_eq]
  generalize (lg_sl ([.ref x0, .int x1]) ++ List.replicate (4 - (lg_sl ([.ref x0, .int x1])).length) Slot.unset).toArray = ls at hl ⊢
  have hl : lv_has ls 4 (List.map gq [(0, vR (some x0)), (1, vI x1)]) := hl
  exact t_X11_empty_0 X2 hr hlx hH hne hH0 _ _ _ _ hf rfl s.heap [] ls hW va_S.rf (lv_has_sub hl (lvsub_of _ _ [0, 1] rfl))
/-! ## TideLots.advise(II)I -/
theorem dX11_advise_0 : decode cX11_advise 0 = .ok (.aload_n 0, 1) := by decide +kernel
theorem dX11_advise_1 : decode cX11_advise 1 = .ok (.iload_n 1, 1) := by decide +kernel
theorem dX11_advise_2 : decode cX11_advise 2 = .ok (.invokevirtual 122, 3) := by decide +kernel
theorem dX11_advise_5 : decode cX11_advise 5 = .ok (.iload_n 2, 1) := by decide +kernel
theorem dX11_advise_6 : decode cX11_advise 6 = .ok (.bipush 40, 2) := by decide +kernel
theorem dX11_advise_8 : decode cX11_advise 8 = .ok (.invokestatic 209, 3) := by decide +kernel
theorem dX11_advise_11 : decode cX11_advise 11 = .ok (.iconst 1, 1) := by decide +kernel
theorem dX11_advise_12 : decode cX11_advise 12 = .ok (.istore_n 3, 1) := by decide +kernel
theorem dX11_advise_13 : decode cX11_advise 13 = .ok (.iconst (-1), 1) := by decide +kernel
theorem dX11_advise_14 : decode cX11_advise 14 = .ok (.istore 4, 2) := by decide +kernel
theorem dX11_advise_16 : decode cX11_advise 16 = .ok (.iconst 1, 1) := by decide +kernel
theorem dX11_advise_17 : decode cX11_advise 17 = .ok (.istore 5, 2) := by decide +kernel
theorem dX11_advise_19 : decode cX11_advise 19 = .ok (.iload 5, 2) := by decide +kernel
theorem dX11_advise_21 : decode cX11_advise 21 = .ok (.iconst 5, 1) := by decide +kernel
theorem dX11_advise_22 : decode cX11_advise 22 = .ok (.if_icmp .gt 64, 3) := by decide +kernel
theorem dX11_advise_25 : decode cX11_advise 25 = .ok (.aload_n 0, 1) := by decide +kernel
theorem dX11_advise_26 : decode cX11_advise 26 = .ok (.invokevirtual 219, 3) := by decide +kernel
theorem dX11_advise_29 : decode cX11_advise 29 = .ok (.astore 6, 2) := by decide +kernel
theorem dX11_advise_31 : decode cX11_advise 31 = .ok (.aload 6, 2) := by decide +kernel
theorem dX11_advise_33 : decode cX11_advise 33 = .ok (.getfield 125, 3) := by decide +kernel
theorem dX11_advise_36 : decode cX11_advise 36 = .ok (.iload_n 1, 1) := by decide +kernel
theorem dX11_advise_37 : decode cX11_advise 37 = .ok (.aaload, 1) := by decide +kernel
theorem dX11_advise_38 : decode cX11_advise 38 = .ok (.iload 5, 2) := by decide +kernel
theorem dX11_advise_40 : decode cX11_advise 40 = .ok (.putfield 129, 3) := by decide +kernel
theorem dX11_advise_43 : decode cX11_advise 43 = .ok (.aload 6, 2) := by decide +kernel
theorem dX11_advise_45 : decode cX11_advise 45 = .ok (.iload_n 2, 1) := by decide +kernel
theorem dX11_advise_46 : decode cX11_advise 46 = .ok (.invokevirtual 213, 3) := by decide +kernel
theorem dX11_advise_49 : decode cX11_advise 49 = .ok (.pop, 1) := by decide +kernel
theorem dX11_advise_50 : decode cX11_advise 50 = .ok (.aload 6, 2) := by decide +kernel
theorem dX11_advise_52 : decode cX11_advise 52 = .ok (.getfield 125, 3) := by decide +kernel
theorem dX11_advise_55 : decode cX11_advise 55 = .ok (.iload_n 1, 1) := by decide +kernel
theorem dX11_advise_56 : decode cX11_advise 56 = .ok (.aaload, 1) := by decide +kernel
theorem dX11_advise_57 : decode cX11_advise 57 = .ok (.getfield 143, 3) := by decide +kernel
theorem dX11_advise_60 : decode cX11_advise 60 = .ok (.iload 4, 2) := by decide +kernel
theorem dX11_advise_62 : decode cX11_advise 62 = .ok (.if_icmp .le 18, 3) := by decide +kernel
theorem dX11_advise_65 : decode cX11_advise 65 = .ok (.aload 6, 2) := by decide +kernel
theorem dX11_advise_67 : decode cX11_advise 67 = .ok (.getfield 125, 3) := by decide +kernel
theorem dX11_advise_70 : decode cX11_advise 70 = .ok (.iload_n 1, 1) := by decide +kernel
theorem dX11_advise_71 : decode cX11_advise 71 = .ok (.aaload, 1) := by decide +kernel
theorem dX11_advise_72 : decode cX11_advise 72 = .ok (.getfield 143, 3) := by decide +kernel
theorem dX11_advise_75 : decode cX11_advise 75 = .ok (.istore 4, 2) := by decide +kernel
theorem dX11_advise_77 : decode cX11_advise 77 = .ok (.iload 5, 2) := by decide +kernel
theorem dX11_advise_79 : decode cX11_advise 79 = .ok (.istore_n 3, 1) := by decide +kernel
theorem dX11_advise_80 : decode cX11_advise 80 = .ok (.iinc 5 1, 3) := by decide +kernel
theorem dX11_advise_83 : decode cX11_advise 83 = .ok (.goto (-64), 3) := by decide +kernel
theorem dX11_advise_86 : decode cX11_advise 86 = .ok (.iload_n 3, 1) := by decide +kernel
theorem dX11_advise_87 : decode cX11_advise 87 = .ok (.ireturn, 1) := by decide +kernel
set_option maxRecDepth 20000 in
theorem ggX11_advise_X11_lookAhead : GoodIn wsX11_advise wsX11_lookAhead := goodIn_r _ [21, 22, 11, 23, 24, 25, 26, 27, 28, 29, 30, 31, 32, 33, 34, 35, 36, 37, 38, 39, 40, 41, 42, 43, 44, 45, 46, 47, 48, 49, 50, 51, 52, 53, 54, 55, 56, 57, 58, 59, 60, 61, 62, 63, 64, 65, 66, 67, 68, 69, 70, 71, 72, 73, 74, 75, 76, 77, 78, 79, 80, 81, 82, 83, 84, 85, 86, 87, 88, 89, 90, 91, 92, 93, 251, 252, 253, 254, 223, 224, 225, 226, 227, 228, 229, 230, 231, 232, 233, 234, 235, 236, 237, 238, 239, 255, 256, 257, 258, 240, 241, 242, 243, 244, 245, 246, 247, 248, 249, 250, 259, 260, 261, 262, 263, 264, 265, 266, 267, 268, 269, 270, 271, 272, 273, 274] (by decide +kernel) (by decide +kernel)
set_option maxRecDepth 20000 in
theorem gX11_advise_X11_lookAhead : GoodIn wsX11_advise (wsV RX11 219 RX11 yX11_lookAhead wsX11_lookAhead) := goodIn_app (goodIn_of _ (by decide +kernel)) ggX11_advise_X11_lookAhead
set_option maxRecDepth 20000 in
theorem ggX11_advise_X7_passTides : GoodIn wsX11_advise wsX7_passTides := goodIn_r _ [97, 29, 31, 98, 33, 37, 30, 34, 28, 99, 100, 101, 26, 102, 103, 104, 105, 106, 107, 108, 109, 110, 111, 112, 113, 32, 36, 114, 115, 116, 117, 118, 38, 119, 120, 121, 89, 122, 91, 123, 92, 124, 93, 125, 126, 127, 128, 129, 130, 131, 132, 133, 134, 135, 136, 137, 138, 139, 140, 141, 142, 143, 144, 145, 146, 42, 147, 47, 148, 149, 150, 151, 152, 153, 154, 155, 156, 157, 158, 159, 160, 161, 35, 162, 163, 164, 165, 166, 167, 168, 76, 169, 81, 85, 170, 171, 172, 173, 174, 175, 176, 177, 178, 179, 180, 181, 182, 183, 184, 185, 186, 187, 188, 189, 190, 51, 191, 54, 192, 60, 193, 194, 195, 196, 197, 198, 199, 200, 201, 202, 203, 204, 205, 206, 207, 208, 209, 210, 211, 78, 212, 213, 214, 215, 216, 217, 218, 219, 220, 221, 222, 223, 224, 225, 226, 227, 228, 229, 230, 231, 232, 233, 234, 235, 236, 237, 238, 239, 255, 256, 257, 258, 259, 260, 261, 262, 271, 272, 273, 274, 240, 241, 242, 243, 244, 245, 246, 247, 248, 249, 250, 263, 264, 265, 266, 267, 268, 269, 270] (by decide +kernel) (by decide +kernel)
set_option maxRecDepth 20000 in
theorem gX11_advise_X7_passTides : GoodIn wsX11_advise (wsV RX11 213 RX7 yX7_passTides wsX7_passTides) := goodIn_app (goodIn_of _ (by decide +kernel)) ggX11_advise_X7_passTides
set_option maxRecDepth 20000 in
theorem ggX11_advise_X11_checkFisher : GoodIn wsX11_advise wsX11_checkFisher := goodIn_ca (goodIn_r _ [8, 9, 10, 11, 12, 251, 252, 253, 254, 223, 224, 225, 226, 227, 228, 229, 230, 231, 232, 233, 234, 235, 236, 237, 238, 239] (by decide +kernel) (by decide +kernel)) (goodIn_sub (fun _ h => List.mem_cons_of_mem _ (List.mem_append_left _ (List.mem_append_right _ h))) (by decide +kernel))
set_option maxRecDepth 20000 in
theorem gX11_advise_X11_checkFisher : GoodIn wsX11_advise (wsV RX11 122 RX11 yX11_checkFisher wsX11_checkFisher) := goodIn_app (goodIn_of _ (by decide +kernel)) ggX11_advise_X11_checkFisher
set_option maxRecDepth 20000 in
theorem ggX11_advise_X11_checkTides : GoodIn wsX11_advise wsX11_checkTides := goodIn_ca (goodIn_r _ [15, 16, 17] (by decide +kernel) (by decide +kernel)) (goodIn_sub (fun _ h => List.mem_cons_of_mem _ (List.mem_append_right _ h)) (by decide +kernel))
set_option maxRecDepth 20000 in
theorem gX11_advise_X11_checkTides : GoodIn wsX11_advise (va_wsS RX11 209 yX11_checkTides wsX11_checkTides) := goodIn_app (goodIn_of _ (by decide +kernel)) ggX11_advise_X11_checkTides
theorem k_X11_advise_f125 : Cond.fieldLink RX11 125 "TideLots$Shore" "fishers" "[LTideLots$Fisher;" ∈ wsX11_advise := by decide +kernel
theorem i_X11_advise_X7 : ∀ w ∈ u_ws RX7 TX7 17, w ∈ wsX11_advise := by decide +kernel
theorem k_X11_advise_f129 : Cond.fieldLink RX11 129 "TideLots$Fisher" "mesh" "I" ∈ wsX11_advise := by decide +kernel
theorem i_X11_advise_X1 : ∀ w ∈ u_ws RX1 TX1 11, w ∈ wsX11_advise := by decide +kernel
theorem k_X11_advise_f143 : Cond.fieldLink RX11 143 "TideLots$Fisher" "store" "I" ∈ wsX11_advise := by decide +kernel
abbrev rX11_advise : Room := { frames := 7, cells := 2, slots := 12, locals := 141 }
noncomputable def b_X11_advise_80 (Z : Nat → Nat) (M : gMem) (x0 : Nat) (x1 : Int32) (x2 : Int32) (x3 : Int32) (x4 : Int32) (x5 : Int32) : Option ((gMem × Int32 × Int32 × Int32) ⊕ ((Nat ⊕ Int32) × gMem)) :=
  some (.inl (M, x3, x4, (x5 + (1 : Int32))))
noncomputable def bb_X11_advise_19 (Z : Nat → Nat) (M : gMem) (x0 : Nat) (x1 : Int32) (x2 : Int32) (x3 : Int32) (x4 : Int32) (x5 : Int32) : Option ((gMem × Int32 × Int32 × Int32) ⊕ ((Nat ⊕ Int32) × gMem)) :=
  (if (5 : Int32) < x5 then oI (some (.inr x3, M)) else ck (mT M x0 = 10) <| bd (f_X11_lookAhead Z M x0) fun r2 M2 => dr r2 fun a4 => ck (mT M2 a4 = 7) <| dr ((mR M2 a4 7)) fun a6 => ck (mT M2 a6 = 24) <| ck (inb x1 (mL M2 a6)) <| dr ((mR M2 a6 x1.toNatClampNeg)) fun a9 => ck (mT M2 a9 = 1) <| lw (wI M2 a9 1 x5) fun M11 => bd (f_X7_passTides Z M11 a4 x2) fun r15 M15 => ck (mT M15 a4 = 7) <| dr ((mR M15 a4 7)) fun a17 => ck (mT M15 a17 = 24) <| ck (inb x1 (mL M15 a17)) <| dr ((mR M15 a17 x1.toNatClampNeg)) fun a20 => ck (mT M15 a20 = 1) <| (if (mI M15 a20 4) ≤ x4 then b_X11_advise_80 Z M15 x0 x1 x2 x3 x4 x5 else ck (inb x1 (mL M15 a17)) <| b_X11_advise_80 Z M15 x0 x1 x2 x5 ((mI M15 a20 4)) x5))
noncomputable def lp_X11_advise_19 (Z : Nat → Nat) (M : gMem) (x0 : Nat) (x1 : Int32) (x2 : Int32) (x3 : Int32) (x4 : Int32) (x5 : Int32) : Option ((Nat ⊕ Int32) × gMem) :=
  lp (fun (q : gMem × Int32 × Int32 × Int32) => bb_X11_advise_19 Z q.1 x0 x1 x2 q.2.1 q.2.2.1 q.2.2.2) (M, x3, x4, x5)
noncomputable def b_X11_advise_0 (Z : Nat → Nat) (M : gMem) (x0 : Nat) (x1 : Int32) (x2 : Int32) : Option ((Nat ⊕ Int32) × gMem) :=
  ck (mT M x0 = 10) <| bx (f_X11_checkFisher M x0 x1) (fun e23 M23 => some (.inl e23, M23)) fun _ M23 => bx (f_X11_checkTides M23 x2 ((40 : Int32))) (fun e25 M25 => some (.inl e25, M25)) fun _ M25 => lp_X11_advise_19 Z M25 x0 x1 x2 ((1 : Int32)) ((-1 : Int32)) ((1 : Int32))
noncomputable def f_X11_advise (Z : Nat → Nat) (M : gMem) (x0 : Nat) (x1 : Int32) (x2 : Int32) : Option ((Nat ⊕ Int32) × gMem) :=
  b_X11_advise_0 Z M x0 x1 x2
set_option maxHeartbeats 4000000 in
set_option maxRecDepth 100000 in
theorem t_X11_advise_80 (X2 : gX p s m args meth c D cy B (gSt2 Z B H0) RX11 cX11_advise wsX11_advise 7) (hr : meth.sig.returnType = (some .int)) (hlx : l.stackTraces = false) (hH : ∀ q : Nat, q < B → s.heap[q]? = H0[q]?) (hne : ∀ x ∈ c.exceptionTable.toList, False) (hH0 : H0.size = B) {Q : State → Prop} : ∀ (M : gMem) (x0 : Nat) (x1 : Int32) (x2 : Int32) (x3 : Int32) (x4 : Int32) (x5 : Int32) (z : (gMem × Int32 × Int32 × Int32) ⊕ ((Nat ⊕ Int32) × gMem)), b_X11_advise_80 Z M x0 x1 x2 x3 x4 x5 = some z → (Sum.elim (fun (q : gMem × Int32 × Int32 × Int32) => gGo p l e rX11_advise s m args below meth c D cy B H0 7 2 12 Q 19 [(0, vR (some x0)), (1, vI x1), (2, vI x2), (3, vI q.2.1), (4, vI q.2.2.1), (5, vI q.2.2.2)] [] q.1) (fun (r : (Nat ⊕ Int32) × gMem) => Q = gMX below D cy B H0 args s 2 12 (gzI r.1) r.2)) z → gGo p l e rX11_advise s m args below meth c D cy B H0 7 2 12 Q 80 [(0, vR (some x0)), (1, vI x1), (2, vI x2), (3, vI x3), (4, vI x4), (5, vI x5)] [] M := by
  intro M x0 x1 x2 x3 x4 x5 z hf hK
  unfold b_X11_advise_80 at hf
  have X := gX_w X2
  refine g_iinc (v := (1 : Int32)) (lv' := [(5, vI (x5 + (1 : Int32))), (0, vR (some x0)), (1, vI x1), (2, vI x2), (3, vI x3), (4, vI x4)]) X dX11_advise_80 rfl (by decide) (by decide) rfl ?_
  refine g_goto (tgt := 19) X dX11_advise_83 (by decide) ?_
  cases hf
  refine g_sub (lvsub_of _ _ [1, 2, 3, 4, 5, 0] rfl) ?_
  exact hK
set_option maxHeartbeats 4000000 in
set_option maxRecDepth 100000 in
theorem tb_X11_advise_19 (X2 : gX p s m args meth c D cy B (gSt2 Z B H0) RX11 cX11_advise wsX11_advise 7) (hr : meth.sig.returnType = (some .int)) (hlx : l.stackTraces = false) (hH : ∀ q : Nat, q < B → s.heap[q]? = H0[q]?) (hne : ∀ x ∈ c.exceptionTable.toList, False) (hH0 : H0.size = B) {Q : State → Prop} : ∀ (M : gMem) (x0 : Nat) (x1 : Int32) (x2 : Int32) (x3 : Int32) (x4 : Int32) (x5 : Int32) (z : (gMem × Int32 × Int32 × Int32) ⊕ ((Nat ⊕ Int32) × gMem)), bb_X11_advise_19 Z M x0 x1 x2 x3 x4 x5 = some z → (Sum.elim (fun (q : gMem × Int32 × Int32 × Int32) => gGo p l e rX11_advise s m args below meth c D cy B H0 7 2 12 Q 19 [(0, vR (some x0)), (1, vI x1), (2, vI x2), (3, vI q.2.1), (4, vI q.2.2.1), (5, vI q.2.2.2)] [] q.1) (fun (r : (Nat ⊕ Int32) × gMem) => Q = gMX below D cy B H0 args s 2 12 (gzI r.1) r.2)) z → gGo p l e rX11_advise s m args below meth c D cy B H0 7 2 12 Q 19 [(0, vR (some x0)), (1, vI x1), (2, vI x2), (3, vI x3), (4, vI x4), (5, vI x5)] [] M := by
  intro M x0 x1 x2 x3 x4 x5 z hf hK
  unfold bb_X11_advise_19 at hf
  have X := gX_w X2
  refine g_iload X dX11_advise_19 rfl ?_
  refine g_iconst (v := (5 : Int32)) X dX11_advise_21 (by decide) ?_
  refine g_icmp_gt (tgt := 86) X dX11_advise_22 (by decide) (fun hc => ?_) (fun hc => ?_)
  · have hf := ife_t hc hf
    refine g_iload_n X dX11_advise_86 rfl rfl ?_
    obtain ⟨w1, hw1, hz1⟩ := oI_e hf
    subst hz1
    have hf := hw1
    cases hf
    refine g_eqQ hK ?_
    refine g_xret ?_
    exact g_iret X hr dX11_advise_87
  · have hf := ife_f hc hf
    refine g_aload_n X dX11_advise_25 rfl rfl ?_
    obtain ⟨hT3, hf⟩ := ck_e hf
    obtain ⟨r2, M2, hq2, hf⟩ := bd_e hf
    refine g_callV (ci := 9) (b := x0) (As := []) (st := []) (v := some (vR r2)) (M1 := M2) X (m_X11_lookAhead l hq2) (cwV 0 X.2.2.1 gX11_advise_X11_lookAhead rfl rfl rfl (by decide +kernel) ⟨Nat.le_of_ble_eq_true rfl, Nat.le_of_ble_eq_true rfl⟩) rfl rfl rfl hT3 (by decide) rfl (Nat.le_of_ble_eq_true rfl) dX11_advise_26 ⟨by decide, by decide⟩ ?_
    refine g_astore (lv' := [(6, vR r2), (0, vR (some x0)), (1, vI x1), (2, vI x2), (3, vI x3), (4, vI x4), (5, vI x5)]) X dX11_advise_29 (by decide) rfl ?_
    refine g_aload X dX11_advise_31 rfl ?_
    obtain ⟨a4, ha4, hf⟩ := dr_e hf
    obtain ⟨hT5, hf⟩ := ck_e hf
    refine g_get (ci := 6) (v := vR (mR M2 a4 7)) 7 X cdX7 i_X11_advise_X7 (by decide) k_X11_advise_f125 rfl dX11_advise_33 ha4 hT5 rfl ?_
    refine g_iload_n X dX11_advise_36 rfl rfl ?_
    obtain ⟨a6, ha6, hf⟩ := dr_e hf
    obtain ⟨hT7, hf⟩ := ck_e hf
    obtain ⟨hg8, hf⟩ := ck_e hf
    refine g_aald (t0 := 4) X dX11_advise_37 ha6 hT7 (by decide) rfl hg8 ?_
    refine g_iload X dX11_advise_38 rfl ?_
    obtain ⟨a9, ha9, hf⟩ := dr_e hf
    obtain ⟨hT10, hf⟩ := ck_e hf
    refine g_putI (ci := 0) 1 X cdX1 i_X11_advise_X1 (by decide) k_X11_advise_f129 rfl dX11_advise_40 ha9 hT10 (Or.inl rfl) rfl rfl rfl ?_
    obtain ⟨M11, hM11, hf⟩ := lw_e hf
    rw [← hM11]
    have hT12 : mT M11 a4 = 7 := by rw [hM11]; exact hT5
    have hT13 : mT M11 a6 = 24 := by rw [hM11]; exact hT7
    have hT14 : mT M11 a9 = 1 := by rw [hM11]; exact hT10
    refine g_aload X dX11_advise_43 rfl ?_
    refine g_iload_n X dX11_advise_45 rfl rfl ?_
    obtain ⟨r15, M15, hq15, hf⟩ := bd_e hf
    refine g_callV (ci := 6) (b := a4) (As := [vI x2]) (st := []) (v := some (vI r15)) (M1 := M15) X (m_X7_passTides l hq15) (cwV 1 X.2.2.1 gX11_advise_X7_passTides rfl rfl rfl (by decide +kernel) ⟨Nat.le_of_ble_eq_true rfl, Nat.le_of_ble_eq_true rfl⟩) rfl rfl ha4 hT12 (by decide) rfl (Nat.le_of_ble_eq_true rfl) dX11_advise_46 ⟨by decide, by decide⟩ ?_
    refine g_pop X dX11_advise_49 rfl ?_
    refine g_aload X dX11_advise_50 rfl ?_
    obtain ⟨hT16, hf⟩ := ck_e hf
    refine g_get (ci := 6) (v := vR (mR M15 a4 7)) 7 X cdX7 i_X11_advise_X7 (by decide) k_X11_advise_f125 rfl dX11_advise_52 ha4 hT16 rfl ?_
    refine g_iload_n X dX11_advise_55 rfl rfl ?_
    obtain ⟨a17, ha17, hf⟩ := dr_e hf
    obtain ⟨hT18, hf⟩ := ck_e hf
    obtain ⟨hg19, hf⟩ := ck_e hf
    refine g_aald (t0 := 4) X dX11_advise_56 ha17 hT18 (by decide) rfl hg19 ?_
    obtain ⟨a20, ha20, hf⟩ := dr_e hf
    obtain ⟨hT21, hf⟩ := ck_e hf
    refine g_get (ci := 0) (v := vI (mI M15 a20 4)) 4 X cdX1 i_X11_advise_X1 (by decide) k_X11_advise_f143 rfl dX11_advise_57 ha20 hT21 rfl ?_
    refine g_iload X dX11_advise_60 rfl ?_
    refine g_icmp_le (tgt := 80) X dX11_advise_62 (by decide) (fun hc => ?_) (fun hc => ?_)
    · have hf := ife_t hc hf
      refine g_sub (lvsub_of _ _ [1, 2, 3, 4, 5, 6] rfl) ?_
      exact t_X11_advise_80 X2 hr hlx hH hne hH0 _ _ _ _ _ _ _ _ hf hK
    · have hf := ife_f hc hf
      refine g_aload X dX11_advise_65 rfl ?_
      refine g_get (ci := 6) (v := vR (mR M15 a4 7)) 7 X cdX7 i_X11_advise_X7 (by decide) k_X11_advise_f125 rfl dX11_advise_67 ha4 hT16 rfl ?_
      refine g_iload_n X dX11_advise_70 rfl rfl ?_
      obtain ⟨hg22, hf⟩ := ck_e hf
      refine g_aald (t0 := 4) X dX11_advise_71 ha17 hT18 (by decide) rfl hg22 ?_
      refine g_get (ci := 0) (v := vI (mI M15 a20 4)) 4 X cdX1 i_X11_advise_X1 (by decide) k_X11_advise_f143 rfl dX11_advise_72 ha20 hT21 rfl ?_
      refine g_istore (lv' := [(4, vI (mI M15 a20 4)), (6, vR r2), (0, vR (some x0)), (1, vI x1), (2, vI x2), (3, vI x3), (5, vI x5)]) X dX11_advise_75 (by decide) rfl ?_
      refine g_iload X dX11_advise_77 rfl ?_
      refine g_istore_n (lv' := [(3, vI x5), (4, vI (mI M15 a20 4)), (6, vR r2), (0, vR (some x0)), (1, vI x1), (2, vI x2), (5, vI x5)]) X dX11_advise_79 rfl (by decide) rfl ?_
      refine g_sub (lvsub_of _ _ [3, 4, 5, 0, 1, 6] rfl) ?_
      exact t_X11_advise_80 X2 hr hlx hH hne hH0 _ _ _ _ _ _ _ _ hf hK
set_option maxHeartbeats 4000000 in
set_option maxRecDepth 100000 in
theorem tl_X11_advise_19 (X2 : gX p s m args meth c D cy B (gSt2 Z B H0) RX11 cX11_advise wsX11_advise 7) (hr : meth.sig.returnType = (some .int)) (hlx : l.stackTraces = false) (hH : ∀ q : Nat, q < B → s.heap[q]? = H0[q]?) (hne : ∀ x ∈ c.exceptionTable.toList, False) (hH0 : H0.size = B) {Q : State → Prop} : ∀ (M : gMem) (x0 : Nat) (x1 : Int32) (x2 : Int32) (x3 : Int32) (x4 : Int32) (x5 : Int32) (z : (Nat ⊕ Int32) × gMem), lp_X11_advise_19 Z M x0 x1 x2 x3 x4 x5 = some z → (fun (r : (Nat ⊕ Int32) × gMem) => Q = gMX below D cy B H0 args s 2 12 (gzI r.1) r.2) z → gGo p l e rX11_advise s m args below meth c D cy B H0 7 2 12 Q 19 [(0, vR (some x0)), (1, vI x1), (2, vI x2), (3, vI x3), (4, vI x4), (5, vI x5)] [] M := by
  intro M x0 x1 x2 x3 x4 x5 z hf hK
  refine lp_ind (P := (fun (q : gMem × Int32 × Int32 × Int32) (z : (Nat ⊕ Int32) × gMem) => (fun (r : (Nat ⊕ Int32) × gMem) => Q = gMX below D cy B H0 args s 2 12 (gzI r.1) r.2) z → gGo p l e rX11_advise s m args below meth c D cy B H0 7 2 12 Q 19 [(0, vR (some x0)), (1, vI x1), (2, vI x2), (3, vI q.2.1), (4, vI q.2.2.1), (5, vI q.2.2.2)] [] q.1)) (fun q z hq => ?_) _ _ hf hK
  intro hK
  obtain ⟨w, hw, hm⟩ := hq
  refine tb_X11_advise_19 X2 hr hlx hH hne hH0 _ _ _ _ _ _ _ w hw ?_
  cases w with
  | inl a => exact hm hK
  | inr b => cases hm; exact hK
set_option maxHeartbeats 4000000 in
set_option maxRecDepth 100000 in
theorem t_X11_advise_0 (X2 : gX p s m args meth c D cy B (gSt2 Z B H0) RX11 cX11_advise wsX11_advise 7) (hr : meth.sig.returnType = (some .int)) (hlx : l.stackTraces = false) (hH : ∀ q : Nat, q < B → s.heap[q]? = H0[q]?) (hne : ∀ x ∈ c.exceptionTable.toList, False) (hH0 : H0.size = B) {Q : State → Prop} : ∀ (M : gMem) (x0 : Nat) (x1 : Int32) (x2 : Int32) (z : (Nat ⊕ Int32) × gMem), b_X11_advise_0 Z M x0 x1 x2 = some z → (fun (r : (Nat ⊕ Int32) × gMem) => Q = gMX below D cy B H0 args s 2 12 (gzI r.1) r.2) z → gGo p l e rX11_advise s m args below meth c D cy B H0 7 0 0 Q 0 [(0, vR (some x0)), (1, vI x1), (2, vI x2)] [] M := by
  intro M x0 x1 x2 z hf hK
  unfold b_X11_advise_0 at hf
  have X := gX_w X2
  refine g_aload_n X dX11_advise_0 rfl rfl ?_
  refine g_iload_n X dX11_advise_1 rfl rfl ?_
  obtain ⟨hT24, hf⟩ := ck_e hf
  rcases bx_e hf with ⟨e23, M23, hq23, hf⟩ | ⟨r23, M23, hq23, hf⟩
  · cases hf
    refine g_eqQ hK ?_
    exact g_callTV (ci := 9) (b := x0) (As := [vI x1]) (st := []) (M1 := M23) X2 hne (m_X11_checkFisher l hlx hH0 hq23) (cwV 1 X.2.2.1 gX11_advise_X11_checkFisher rfl rfl rfl (by decide +kernel) ⟨Nat.le_of_ble_eq_true rfl, Nat.le_of_ble_eq_true rfl⟩) rfl rfl rfl hT24 (by decide) rfl (Nat.le_of_ble_eq_true rfl) dX11_advise_2 ⟨by decide, by decide⟩ (by decide) (by decide)
  refine g_callXV (ci := 9) (b := x0) (As := [vI x1]) (st := []) (v := none) (M1 := M23) X2 (m_X11_checkFisher l hlx hH0 hq23) (cwV 1 X.2.2.1 gX11_advise_X11_checkFisher rfl rfl rfl (by decide +kernel) ⟨Nat.le_of_ble_eq_true rfl, Nat.le_of_ble_eq_true rfl⟩) rfl rfl rfl hT24 (by decide) rfl (Nat.le_of_ble_eq_true rfl) dX11_advise_2 ⟨by decide, by decide⟩ ?_
  refine g_iload_n X dX11_advise_5 rfl rfl ?_
  refine g_bipush (v := (40 : Int32)) X dX11_advise_6 (by decide) ?_
  rcases bx_e hf with ⟨e25, M25, hq25, hf⟩ | ⟨r25, M25, hq25, hf⟩
  · cases hf
    refine g_eqQ hK ?_
    exact g_callTS (As := [vI x2, vI (40 : Int32)]) (st := []) (M1 := M25) X2 hne (m_X11_checkTides l hlx hH0 hq25) (va_cwS 2 X.2.2.1 gX11_advise_X11_checkTides rfl rfl rfl (by decide +kernel) ⟨Nat.le_of_ble_eq_true rfl, Nat.le_of_ble_eq_true rfl⟩) rfl rfl (Nat.le_of_ble_eq_true rfl) dX11_advise_8 ⟨by decide, by decide⟩ (by decide) (by decide)
  refine g_callXS (As := [vI x2, vI (40 : Int32)]) (st := []) (v := none) (M1 := M25) X2 (m_X11_checkTides l hlx hH0 hq25) (va_cwS 2 X.2.2.1 gX11_advise_X11_checkTides rfl rfl rfl (by decide +kernel) ⟨Nat.le_of_ble_eq_true rfl, Nat.le_of_ble_eq_true rfl⟩) rfl rfl (Nat.le_of_ble_eq_true rfl) dX11_advise_8 ⟨by decide, by decide⟩ ?_
  refine g_iconst (v := (1 : Int32)) X dX11_advise_11 (by decide) ?_
  refine g_istore_n (lv' := [(3, vI (1 : Int32)), (0, vR (some x0)), (1, vI x1), (2, vI x2)]) X dX11_advise_12 rfl (by decide) rfl ?_
  refine g_iconst (v := (-1 : Int32)) X dX11_advise_13 (by decide) ?_
  refine g_istore (lv' := [(4, vI (-1 : Int32)), (3, vI (1 : Int32)), (0, vR (some x0)), (1, vI x1), (2, vI x2)]) X dX11_advise_14 (by decide) rfl ?_
  refine g_iconst (v := (1 : Int32)) X dX11_advise_16 (by decide) ?_
  refine g_istore (lv' := [(5, vI (1 : Int32)), (4, vI (-1 : Int32)), (3, vI (1 : Int32)), (0, vR (some x0)), (1, vI x1), (2, vI x2)]) X dX11_advise_17 (by decide) rfl ?_
  refine g_sub (lvsub_of _ _ [3, 4, 5, 2, 1, 0] rfl) ?_
  exact tl_X11_advise_19 X2 hr hlx hH hne hH0 _ _ _ _ _ _ _ _ hf hK
set_option maxHeartbeats 4000000 in
set_option maxRecDepth 100000 in
theorem m_X11_advise (l : Launch) (hlx : l.stackTraces = false) {D : va_G} {cy : Nat → ClassId} {B : Nat} {H0 : Heap} {Z : Nat → Nat} {M M1 : gMem} {x0 : Nat} {x1 : Int32} {x2 : Int32} {r : (Nat ⊕ Int32)} (hH0 : H0.size = B) (hf : f_X11_advise Z M x0 x1 x2 = some (r, M1)) : vx_Met l yX11_advise wsX11_advise rX11_advise (va_Pc (Value.ref x0 :: List.map gv [vI x1, vI x2]) (gPre D cy B H0 (gSt2 Z B H0) M)) (gQX D cy B H0 (gzI r) M1) (gXC D cy B H0 (gzI r) M1) 2 12 (gA B) := by
  refine vx_ofW (cc := cX11_advise) (maxL := 7) (ret := (some .int)) (by decide) rfl ?_
  intro p e s m args below meth c s₁ Bd hml hne hv
  obtain ⟨rfl, hW, hKK, hFs⟩ := hv
  have X2 : gX p s m _ meth c D cy B (gSt2 Z B H0) RX11 cX11_advise wsX11_advise 7 := ⟨Bd.exec, Bd.bytes, atoms_spec (ws := wsX11_advise) Bd.pre, findClass_of_methodNamed Bd.named, hml, hKK, by rw [hW.1]; exact hW.2.1, Bd.notSynchronized, hFs⟩
  have hr := Bd.returns
  have hH : ∀ q : Nat, q < B → s.heap[q]? = H0[q]? := hW.2.2.1
  have hl := lv_entry ([.ref x0, .int x1, .int x2]) (n := 7) (Nat.le_of_ble_eq_true rfl)
  show W p l e rX11_advise s m _ below meth c s.heap [] 0 0 _ (entryFrame m ([.ref x0, .int x1, .int x2] : List Value).toArray 7)
  rw [lg_entry_eq]
  generalize (lg_sl ([.ref x0, .int x1, .int x2]) ++ List.replicate (7 - (lg_sl ([.ref x0, .int x1, .int x2])).length) Slot.unset).toArray = ls at hl ⊢
  have hl : lv_has ls 7 (List.map gq [(0, vR (some x0)), (1, vI x1), (2, vI x2)]) := hl
  exact t_X11_advise_0 X2 hr hlx hH hne hH0 _ _ _ _ _ hf rfl s.heap [] ls hW va_S.rf (lv_has_sub hl (lvsub_of _ _ [0, 1, 2] rfl))
/-! ## TideLots.teach()I -/
theorem dX11_teach_0 : decode cX11_teach 0 = .ok (.aload_n 0, 1) := by decide +kernel
theorem dX11_teach_1 : decode cX11_teach 1 = .ok (.getfield 10, 3) := by decide +kernel
theorem dX11_teach_4 : decode cX11_teach 4 = .ok (.invokevirtual 49, 3) := by decide +kernel
theorem dX11_teach_7 : decode cX11_teach 7 = .ok (.new 52, 3) := by decide +kernel
theorem dX11_teach_10 : decode cX11_teach 10 = .ok (.dup, 1) := by decide +kernel
theorem dX11_teach_11 : decode cX11_teach 11 = .ok (.aload_n 0, 1) := by decide +kernel
theorem dX11_teach_12 : decode cX11_teach 12 = .ok (.getfield 10, 3) := by decide +kernel
theorem dX11_teach_15 : decode cX11_teach 15 = .ok (.aload_n 0, 1) := by decide +kernel
theorem dX11_teach_16 : decode cX11_teach 16 = .ok (.getfield 23, 3) := by decide +kernel
theorem dX11_teach_19 : decode cX11_teach 19 = .ok (.invokespecial 54, 3) := by decide +kernel
theorem dX11_teach_22 : decode cX11_teach 22 = .ok (.astore_n 1, 1) := by decide +kernel
theorem dX11_teach_23 : decode cX11_teach 23 = .ok (.aload_n 1, 1) := by decide +kernel
theorem dX11_teach_24 : decode cX11_teach 24 = .ok (.invokevirtual 57, 3) := by decide +kernel
theorem dX11_teach_27 : decode cX11_teach 27 = .ok (.istore_n 2, 1) := by decide +kernel
theorem dX11_teach_28 : decode cX11_teach 28 = .ok (.aload_n 0, 1) := by decide +kernel
theorem dX11_teach_29 : decode cX11_teach 29 = .ok (.aload_n 1, 1) := by decide +kernel
theorem dX11_teach_30 : decode cX11_teach 30 = .ok (.getfield 61, 3) := by decide +kernel
theorem dX11_teach_33 : decode cX11_teach 33 = .ok (.putfield 26, 3) := by decide +kernel
theorem dX11_teach_36 : decode cX11_teach 36 = .ok (.aload_n 0, 1) := by decide +kernel
theorem dX11_teach_37 : decode cX11_teach 37 = .ok (.getfield 10, 3) := by decide +kernel
theorem dX11_teach_40 : decode cX11_teach 40 = .ok (.iconst 0, 1) := by decide +kernel
theorem dX11_teach_41 : decode cX11_teach 41 = .ok (.putfield 30, 3) := by decide +kernel
theorem dX11_teach_44 : decode cX11_teach 44 = .ok (.iload_n 2, 1) := by decide +kernel
theorem dX11_teach_45 : decode cX11_teach 45 = .ok (.ifCond .ne 49, 3) := by decide +kernel
theorem dX11_teach_48 : decode cX11_teach 48 = .ok (.aload_n 0, 1) := by decide +kernel
theorem dX11_teach_49 : decode cX11_teach 49 = .ok (.getfield 23, 3) := by decide +kernel
theorem dX11_teach_52 : decode cX11_teach 52 = .ok (.aload_n 0, 1) := by decide +kernel
theorem dX11_teach_53 : decode cX11_teach 53 = .ok (.getfield 19, 3) := by decide +kernel
theorem dX11_teach_56 : decode cX11_teach 56 = .ok (.getfield 62, 3) := by decide +kernel
theorem dX11_teach_59 : decode cX11_teach 59 = .ok (.putfield 62, 3) := by decide +kernel
theorem dX11_teach_62 : decode cX11_teach 62 = .ok (.aload_n 0, 1) := by decide +kernel
theorem dX11_teach_63 : decode cX11_teach 63 = .ok (.getfield 23, 3) := by decide +kernel
theorem dX11_teach_66 : decode cX11_teach 66 = .ok (.aload_n 0, 1) := by decide +kernel
theorem dX11_teach_67 : decode cX11_teach 67 = .ok (.getfield 19, 3) := by decide +kernel
theorem dX11_teach_70 : decode cX11_teach 70 = .ok (.getfield 65, 3) := by decide +kernel
theorem dX11_teach_73 : decode cX11_teach 73 = .ok (.putfield 65, 3) := by decide +kernel
theorem dX11_teach_76 : decode cX11_teach 76 = .ok (.aload_n 0, 1) := by decide +kernel
theorem dX11_teach_77 : decode cX11_teach 77 = .ok (.getfield 19, 3) := by decide +kernel
theorem dX11_teach_80 : decode cX11_teach 80 = .ok (.astore_n 3, 1) := by decide +kernel
theorem dX11_teach_81 : decode cX11_teach 81 = .ok (.aload_n 0, 1) := by decide +kernel
theorem dX11_teach_82 : decode cX11_teach 82 = .ok (.aload_n 0, 1) := by decide +kernel
theorem dX11_teach_83 : decode cX11_teach 83 = .ok (.getfield 23, 3) := by decide +kernel
theorem dX11_teach_86 : decode cX11_teach 86 = .ok (.putfield 19, 3) := by decide +kernel
theorem dX11_teach_89 : decode cX11_teach 89 = .ok (.aload_n 0, 1) := by decide +kernel
theorem dX11_teach_90 : decode cX11_teach 90 = .ok (.aload_n 3, 1) := by decide +kernel
theorem dX11_teach_91 : decode cX11_teach 91 = .ok (.putfield 23, 3) := by decide +kernel
theorem dX11_teach_94 : decode cX11_teach 94 = .ok (.iload_n 2, 1) := by decide +kernel
theorem dX11_teach_95 : decode cX11_teach 95 = .ok (.ireturn, 1) := by decide +kernel
set_option maxRecDepth 20000 in
theorem ggX11_teach_X10_scan : GoodIn wsX11_teach wsX10_scan := goodIn_r _ [16, 17, 18, 19, 20, 21, 22, 23, 24, 25, 15, 26, 27, 28, 29, 30, 31, 32, 33, 34, 35, 36, 37, 38, 39, 40, 41, 42, 43, 44, 45, 46, 47, 48, 49, 50, 51, 52, 53, 54, 55, 56, 57, 58, 59, 60, 61, 62, 63, 64, 65, 66, 67, 68, 69, 70, 71, 72, 73, 74, 75, 76, 77, 78, 79, 80, 81, 82, 83, 84, 85, 86, 87, 88, 89, 90, 91, 92, 93, 94, 95, 96, 97, 98, 99, 100, 101, 102, 103, 104, 105, 106, 107, 108, 109, 110, 111, 112, 113, 114, 115, 116, 117, 118, 401, 402, 403, 404, 405, 406] (by decide +kernel) (by decide +kernel)
set_option maxRecDepth 20000 in
theorem gX11_teach_X10_scan : GoodIn wsX11_teach (wsV RX11 49 RX10 yX10_scan wsX10_scan) := goodIn_app (goodIn_of _ (by decide +kernel)) ggX11_teach_X10_scan
set_option maxRecDepth 20000 in
theorem ggX11_teach_X6_init : GoodIn wsX11_teach wsX6_init := goodIn_r _ [121, 122, 123, 124, 125, 126, 127, 128, 129, 130, 131, 132, 133, 134, 135, 136, 137, 138, 139, 140, 141, 142, 143, 392, 393, 394, 395, 396, 397, 398, 399, 400, 424, 425] (by decide +kernel) (by decide +kernel)
set_option maxRecDepth 20000 in
theorem gX11_teach_X6_init : GoodIn wsX11_teach (wsX6_init) := ggX11_teach_X6_init
set_option maxRecDepth 20000 in
theorem ggX11_teach_X6_read : GoodIn wsX11_teach wsX6_read := goodIn_r _ [147, 133, 148, 149, 150, 151, 132, 152, 153, 125, 154, 155, 156, 157, 158, 159, 160, 161, 162, 163, 164, 165, 166, 167, 4, 168, 169, 170, 171, 172, 173, 174, 175, 176, 177, 178, 179, 180, 181, 129, 182, 183, 184, 185, 186, 187, 188, 189, 190, 191, 192, 193, 194, 195, 196, 197, 198, 199, 128, 200, 201, 143, 202, 203, 204, 205, 206, 207, 208, 209, 210, 211, 212, 213, 214, 215, 140, 216, 217, 218, 219, 220, 221, 222, 223, 224, 225, 226, 227, 228, 229, 230, 231, 232, 233, 234, 235, 236, 237, 238, 239, 240, 241, 242, 130, 243, 244, 245, 246, 247, 248, 249, 250, 251, 252, 253, 254, 255, 256, 257, 258, 259, 260, 261, 262, 263, 264, 265, 266, 267, 268, 269, 270, 271, 272, 273, 274, 275, 276, 277, 278, 279, 280, 281, 282, 283, 284, 285, 286, 287, 288, 289, 290, 291, 292, 293, 294, 295, 296, 297, 298, 299, 300, 301, 302, 303, 304, 305, 306, 307, 308, 309, 310, 311, 312, 313, 314, 315, 316, 317, 318, 319, 320, 321, 322, 323, 324, 325, 326, 327, 328, 329, 330, 331, 332, 333, 334, 335, 336, 337, 338, 339, 340, 341, 342, 343, 344, 345, 346, 347, 348, 349, 131, 350, 351, 352, 353, 354, 355, 356, 357, 358, 359, 360, 361, 362, 363, 364, 365, 366, 367, 368, 369, 370, 371, 372, 373, 374, 375, 376, 377, 378, 379, 380, 381, 382, 383, 384, 385, 386, 387, 392, 393, 394, 395, 396, 397, 398, 399, 400, 401, 402, 403, 404, 405, 406, 407, 408, 409, 410, 411, 412, 413, 414, 415, 416, 417, 418, 419, 420, 421, 422, 423, 426, 427, 428, 429, 430, 431, 432, 433, 424, 425, 434, 435, 436, 437, 438, 439, 440, 441, 442, 443, 444, 445, 446, 447, 448, 449, 450, 451, 452, 453, 454, 455, 456] (by decide +kernel) (by decide +kernel)
set_option maxRecDepth 20000 in
theorem gX11_teach_X6_read : GoodIn wsX11_teach (wsV RX11 57 RX6 yX6_read wsX6_read) := goodIn_app (goodIn_of _ (by decide +kernel)) ggX11_teach_X6_read
theorem k_X11_teach_f10 : Cond.fieldLink RX11 10 "TideLots" "tape" "LTideLots$Tape;" ∈ wsX11_teach := by decide +kernel
theorem i_X11_teach_X11 : ∀ w ∈ u_ws RX11 TX11 4, w ∈ wsX11_teach := by decide +kernel
theorem i_X11_teach_X6 : ∀ w ∈ u_ws RX6 TX6 9, w ∈ wsX11_teach := by decide +kernel
theorem k_X11_teach_cl52 : Cond.classLink RX11 52 RX6 ∈ wsX11_teach := by decide +kernel
theorem k_X11_teach_inX6 : Cond.instantiable RX6 9 ∈ wsX11_teach := by decide +kernel
theorem k_X11_teach_iiX6 : Cond.initialized RX6 ∈ wsX11_teach := by decide +kernel
theorem k_X11_teach_f23 : Cond.fieldLink RX11 23 "TideLots" "other" "LTideLots$Shore;" ∈ wsX11_teach := by decide +kernel
theorem k_X11_teach_ml54 : Cond.methodLink RX11 54 yX6_init ∈ wsX11_teach := by decide +kernel
theorem k_X11_teach_imX6_init : Cond.instanceMethod yX6_init ∈ wsX11_teach := by decide +kernel
theorem k_X11_teach_f61 : Cond.fieldLink RX11 61 "TideLots$Reader" "errorAt" "I" ∈ wsX11_teach := by decide +kernel
theorem k_X11_teach_f26 : Cond.fieldLink RX11 26 "TideLots" "errorAt" "I" ∈ wsX11_teach := by decide +kernel
theorem k_X11_teach_f30 : Cond.fieldLink RX11 30 "TideLots$Tape" "length" "I" ∈ wsX11_teach := by decide +kernel
theorem i_X11_teach_X10 : ∀ w ∈ u_ws RX10 TX10 6, w ∈ wsX11_teach := by decide +kernel
theorem k_X11_teach_f19 : Cond.fieldLink RX11 19 "TideLots" "shore" "LTideLots$Shore;" ∈ wsX11_teach := by decide +kernel
theorem k_X11_teach_f62 : Cond.fieldLink RX11 62 "TideLots$Shore" "tide" "I" ∈ wsX11_teach := by decide +kernel
theorem i_X11_teach_X7 : ∀ w ∈ u_ws RX7 TX7 17, w ∈ wsX11_teach := by decide +kernel
theorem k_X11_teach_f65 : Cond.fieldLink RX11 65 "TideLots$Shore" "luck" "I" ∈ wsX11_teach := by decide +kernel
abbrev rX11_teach : Room := { frames := 70, cells := 7, slots := 39, locals := 2690 }
noncomputable def b_X11_teach_94 (Z : Nat → Nat) (M : gMem) (x2 : Int32) : Option (Int32 × gMem) :=
  some (x2, M)
noncomputable def b_X11_teach_0 (Z : Nat → Nat) (M : gMem) (x0 : Nat) : Option (Int32 × gMem) :=
  ck (mT M x0 = 10) <| dr ((mR M x0 0)) fun a3 => ck (mT M a3 = 9) <| bd (f_X10_scan Z M a3) fun _ M2 => lw (nW M2 6 0) fun M5 => ck (mT M5 x0 = 10) <| bd (f_X6_init M5 ((mN M2)) ((mR M5 x0 0)) ((mR M5 x0 2))) fun _ M7 => ck (mT M7 (mN M2) = 6) <| bd (f_X6_read Z M7 ((mN M2))) fun r8 M8 => ck (mT M8 (mN M2) = 6) <| ck (mT M8 x0 = 10) <| lw (wI M8 x0 3 ((mI M8 (mN M2) 0))) fun M12 => dr ((mR M12 x0 0)) fun a15 => ck (mT M12 a15 = 9) <| lw (wI M12 a15 0 ((0 : Int32))) fun M17 => (if r8 = 0 then dr ((mR M17 x0 1)) fun a21 => ck (mT M17 a21 = 7) <| dr ((mR M17 x0 2)) fun a23 => ck (mT M17 a23 = 7) <| lw (wI M17 a23 0 ((mI M17 a21 0))) fun M25 => dr ((mR M25 x0 1)) fun a31 => ck (mT M25 a31 = 7) <| dr ((mR M25 x0 2)) fun a33 => ck (mT M25 a33 = 7) <| lw (wI M25 a33 1 ((mI M25 a31 1))) fun M35 => lw (wR M35 x0 1 ((mR M35 x0 2))) fun M43 => lw (wR M43 x0 2 ((mR M35 x0 1))) fun M51 => b_X11_teach_94 Z M51 r8 else b_X11_teach_94 Z M17 r8)
noncomputable def f_X11_teach (Z : Nat → Nat) (M : gMem) (x0 : Nat) : Option (Int32 × gMem) :=
  b_X11_teach_0 Z M x0
set_option maxHeartbeats 4000000 in
set_option maxRecDepth 100000 in
theorem t_X11_teach_94 (X : gX p s m args meth c D cy B (gSt Z B H0) RX11 cX11_teach wsX11_teach 4) (hr : meth.sig.returnType = (some .int)) {Q : State → Prop} : ∀ (M : gMem) (x2 : Int32) (z : Int32 × gMem), b_X11_teach_94 Z M x2 = some z → (fun (r : Int32 × gMem) => Q = gMQ below D cy B H0 args s 7 39 (some (vI r.1)) r.2) z → gGo p l e rX11_teach s m args below meth c D cy B H0 4 7 39 Q 94 [(2, vI x2)] [] M := by
  intro M x2 z hf hK
  unfold b_X11_teach_94 at hf
  refine g_iload_n X dX11_teach_94 rfl rfl ?_
  cases hf
  refine g_eqQ hK ?_
  exact g_iret X hr dX11_teach_95
set_option maxHeartbeats 4000000 in
set_option maxRecDepth 100000 in
theorem t_X11_teach_0 (X : gX p s m args meth c D cy B (gSt Z B H0) RX11 cX11_teach wsX11_teach 4) (hr : meth.sig.returnType = (some .int)) {Q : State → Prop} : ∀ (M : gMem) (x0 : Nat) (z : Int32 × gMem), b_X11_teach_0 Z M x0 = some z → (fun (r : Int32 × gMem) => Q = gMQ below D cy B H0 args s 7 39 (some (vI r.1)) r.2) z → gGo p l e rX11_teach s m args below meth c D cy B H0 4 0 0 Q 0 [(0, vR (some x0))] [] M := by
  intro M x0 z hf hK
  unfold b_X11_teach_0 at hf
  refine g_aload_n X dX11_teach_0 rfl rfl ?_
  obtain ⟨hT1, hf⟩ := ck_e hf
  refine g_get (ci := 9) (v := vR (mR M x0 0)) 0 X cdX11 i_X11_teach_X11 (by decide) k_X11_teach_f10 rfl dX11_teach_1 rfl hT1 rfl ?_
  obtain ⟨a3, ha3, hf⟩ := dr_e hf
  obtain ⟨hT4, hf⟩ := ck_e hf
  obtain ⟨r2, M2, hq2, hf⟩ := bd_e hf
  refine g_callV (ci := 8) (b := a3) (As := []) (st := []) (v := none) (M1 := M2) X (m_X10_scan l hq2) (cwV 0 X.2.2.1 gX11_teach_X10_scan rfl rfl rfl (by decide +kernel) ⟨Nat.le_of_ble_eq_true rfl, Nat.le_of_ble_eq_true rfl⟩) rfl rfl ha3 hT4 (by decide) rfl (Nat.le_of_ble_eq_true rfl) dX11_teach_4 ⟨by decide, by decide⟩ ?_
  refine g_new (ci := 5) X cdX6 i_X11_teach_X6 k_X11_teach_cl52 k_X11_teach_inX6 k_X11_teach_iiX6 (by intro i hi; rcases (show i = 0 ∨ i = 1 ∨ i = 2 ∨ i = 3 ∨ i = 4 ∨ i = 5 ∨ i = 6 ∨ i = 7 ∨ i = 8 by omega) with rfl | rfl | rfl | rfl | rfl | rfl | rfl | rfl | rfl <;> rfl) ⟨by decide, by decide⟩ dX11_teach_7 ?_
  obtain ⟨M5, hM5, hf⟩ := lw_e hf
  rw [← hM5]
  refine g_dup X dX11_teach_10 rfl ?_
  refine g_aload_n X dX11_teach_11 rfl rfl ?_
  obtain ⟨hT6, hf⟩ := ck_e hf
  refine g_get (ci := 9) (v := vR (mR M5 x0 0)) 0 X cdX11 i_X11_teach_X11 (by decide) k_X11_teach_f10 rfl dX11_teach_12 rfl hT6 rfl ?_
  refine g_aload_n X dX11_teach_15 rfl rfl ?_
  refine g_get (ci := 9) (v := vR (mR M5 x0 2)) 2 X cdX11 i_X11_teach_X11 (by decide) k_X11_teach_f23 rfl dX11_teach_16 rfl hT6 rfl ?_
  obtain ⟨r7, M7, hq7, hf⟩ := bd_e hf
  refine g_callI (b := (mN M2)) (As := [vR (mR M5 x0 0), vR (mR M5 x0 2)]) (st := [vR (some (mN M2))]) (M1 := M7) X (m_X6_init l hq7) (cwI 2 X.2.2.1 gX11_teach_X6_init rfl rfl rfl (X.2.2.1 _ k_X11_teach_iiX6) (X.2.2.1 _ k_X11_teach_ml54) (X.2.2.1 _ k_X11_teach_imX6_init) rfl (by decide +kernel) ⟨Nat.le_of_ble_eq_true rfl, Nat.le_of_ble_eq_true rfl⟩) rfl rfl rfl (Nat.le_of_ble_eq_true rfl) dX11_teach_19 ⟨by decide, by decide⟩ ?_
  refine g_astore_n (lv' := [(1, vR (some (mN M2))), (0, vR (some x0))]) X dX11_teach_22 rfl (by decide) rfl ?_
  refine g_aload_n X dX11_teach_23 rfl rfl ?_
  obtain ⟨hT9, hf⟩ := ck_e hf
  obtain ⟨r8, M8, hq8, hf⟩ := bd_e hf
  refine g_callV (ci := 5) (b := (mN M2)) (As := []) (st := []) (v := some (vI r8)) (M1 := M8) X (m_X6_read l hq8) (cwV 0 X.2.2.1 gX11_teach_X6_read rfl rfl rfl (by decide +kernel) ⟨Nat.le_of_ble_eq_true rfl, Nat.le_of_ble_eq_true rfl⟩) rfl rfl rfl hT9 (by decide) rfl (Nat.le_of_ble_eq_true rfl) dX11_teach_24 ⟨by decide, by decide⟩ ?_
  refine g_istore_n (lv' := [(2, vI r8), (1, vR (some (mN M2))), (0, vR (some x0))]) X dX11_teach_27 rfl (by decide) rfl ?_
  refine g_aload_n X dX11_teach_28 rfl rfl ?_
  refine g_aload_n X dX11_teach_29 rfl rfl ?_
  obtain ⟨hT10, hf⟩ := ck_e hf
  refine g_get (ci := 5) (v := vI (mI M8 (mN M2) 0)) 0 X cdX6 i_X11_teach_X6 (by decide) k_X11_teach_f61 rfl dX11_teach_30 rfl hT10 rfl ?_
  obtain ⟨hT11, hf⟩ := ck_e hf
  refine g_putI (ci := 9) 3 X cdX11 i_X11_teach_X11 (by decide) k_X11_teach_f26 rfl dX11_teach_33 rfl hT11 (Or.inl rfl) rfl rfl rfl ?_
  obtain ⟨M12, hM12, hf⟩ := lw_e hf
  rw [← hM12]
  have hT13 : mT M12 (mN M2) = 6 := by rw [hM12]; exact hT10
  have hT14 : mT M12 x0 = 10 := by rw [hM12]; exact hT11
  refine g_aload_n X dX11_teach_36 rfl rfl ?_
  refine g_get (ci := 9) (v := vR (mR M12 x0 0)) 0 X cdX11 i_X11_teach_X11 (by decide) k_X11_teach_f10 rfl dX11_teach_37 rfl hT14 rfl ?_
  refine g_iconst (v := (0 : Int32)) X dX11_teach_40 (by decide) ?_
  obtain ⟨a15, ha15, hf⟩ := dr_e hf
  obtain ⟨hT16, hf⟩ := ck_e hf
  refine g_putI (ci := 8) 0 X cdX10 i_X11_teach_X10 (by decide) k_X11_teach_f30 rfl dX11_teach_41 ha15 hT16 (Or.inl rfl) rfl rfl rfl ?_
  obtain ⟨M17, hM17, hf⟩ := lw_e hf
  rw [← hM17]
  have hT18 : mT M17 (mN M2) = 6 := by rw [hM17]; exact hT13
  have hT19 : mT M17 x0 = 10 := by rw [hM17]; exact hT14
  have hT20 : mT M17 a15 = 9 := by rw [hM17]; exact hT16
  refine g_iload_n X dX11_teach_44 rfl rfl ?_
  refine g_if_ne (tgt := 94) X dX11_teach_45 (by decide) (fun hc => ?_) (fun hc => ?_)
  · have hf := ife_f hc hf
    refine g_sub (lvsub_of _ _ [0] rfl) ?_
    exact t_X11_teach_94 X hr _ _ _ hf hK
  · have hf := ife_t hc hf
    refine g_aload_n X dX11_teach_48 rfl rfl ?_
    refine g_get (ci := 9) (v := vR (mR M17 x0 2)) 2 X cdX11 i_X11_teach_X11 (by decide) k_X11_teach_f23 rfl dX11_teach_49 rfl hT19 rfl ?_
    refine g_aload_n X dX11_teach_52 rfl rfl ?_
    refine g_get (ci := 9) (v := vR (mR M17 x0 1)) 1 X cdX11 i_X11_teach_X11 (by decide) k_X11_teach_f19 rfl dX11_teach_53 rfl hT19 rfl ?_
    obtain ⟨a21, ha21, hf⟩ := dr_e hf
    obtain ⟨hT22, hf⟩ := ck_e hf
    refine g_get (ci := 6) (v := vI (mI M17 a21 0)) 0 X cdX7 i_X11_teach_X7 (by decide) k_X11_teach_f62 rfl dX11_teach_56 ha21 hT22 rfl ?_
    obtain ⟨a23, ha23, hf⟩ := dr_e hf
    obtain ⟨hT24, hf⟩ := ck_e hf
    refine g_putI (ci := 6) 0 X cdX7 i_X11_teach_X7 (by decide) k_X11_teach_f62 rfl dX11_teach_59 ha23 hT24 (Or.inl rfl) rfl rfl rfl ?_
    obtain ⟨M25, hM25, hf⟩ := lw_e hf
    rw [← hM25]
    have hT26 : mT M25 (mN M2) = 6 := by rw [hM25]; exact hT18
    have hT27 : mT M25 x0 = 10 := by rw [hM25]; exact hT19
    have hT28 : mT M25 a15 = 9 := by rw [hM25]; exact hT20
    have hT29 : mT M25 a21 = 7 := by rw [hM25]; exact hT22
    have hT30 : mT M25 a23 = 7 := by rw [hM25]; exact hT24
    refine g_aload_n X dX11_teach_62 rfl rfl ?_
    refine g_get (ci := 9) (v := vR (mR M25 x0 2)) 2 X cdX11 i_X11_teach_X11 (by decide) k_X11_teach_f23 rfl dX11_teach_63 rfl hT27 rfl ?_
    refine g_aload_n X dX11_teach_66 rfl rfl ?_
    refine g_get (ci := 9) (v := vR (mR M25 x0 1)) 1 X cdX11 i_X11_teach_X11 (by decide) k_X11_teach_f19 rfl dX11_teach_67 rfl hT27 rfl ?_
    obtain ⟨a31, ha31, hf⟩ := dr_e hf
    obtain ⟨hT32, hf⟩ := ck_e hf
    refine g_get (ci := 6) (v := vI (mI M25 a31 1)) 1 X cdX7 i_X11_teach_X7 (by decide) k_X11_teach_f65 rfl dX11_teach_70 ha31 hT32 rfl ?_
    obtain ⟨a33, ha33, hf⟩ := dr_e hf
    obtain ⟨hT34, hf⟩ := ck_e hf
    refine g_putI (ci := 6) 1 X cdX7 i_X11_teach_X7 (by decide) k_X11_teach_f65 rfl dX11_teach_73 ha33 hT34 (Or.inl rfl) rfl rfl rfl ?_
    obtain ⟨M35, hM35, hf⟩ := lw_e hf
    rw [← hM35]
    have hT36 : mT M35 (mN M2) = 6 := by rw [hM35]; exact hT26
    have hT37 : mT M35 x0 = 10 := by rw [hM35]; exact hT27
    have hT38 : mT M35 a15 = 9 := by rw [hM35]; exact hT28
    have hT39 : mT M35 a21 = 7 := by rw [hM35]; exact hT29
    have hT40 : mT M35 a23 = 7 := by rw [hM35]; exact hT30
    have hT41 : mT M35 a31 = 7 := by rw [hM35]; exact hT32
    have hT42 : mT M35 a33 = 7 := by rw [hM35]; exact hT34
    refine g_aload_n X dX11_teach_76 rfl rfl ?_
    refine g_get (ci := 9) (v := vR (mR M35 x0 1)) 1 X cdX11 i_X11_teach_X11 (by decide) k_X11_teach_f19 rfl dX11_teach_77 rfl hT37 rfl ?_
    refine g_astore_n (lv' := [(3, vR (mR M35 x0 1)), (2, vI r8), (1, vR (some (mN M2))), (0, vR (some x0))]) X dX11_teach_80 rfl (by decide) rfl ?_
    refine g_aload_n X dX11_teach_81 rfl rfl ?_
    refine g_aload_n X dX11_teach_82 rfl rfl ?_
    refine g_get (ci := 9) (v := vR (mR M35 x0 2)) 2 X cdX11 i_X11_teach_X11 (by decide) k_X11_teach_f23 rfl dX11_teach_83 rfl hT37 rfl ?_
    refine g_putR (ci := 9) 1 X cdX11 i_X11_teach_X11 (by decide) k_X11_teach_f19 rfl dX11_teach_86 rfl hT37 (Or.inl rfl) (gnO _ _) (gfO _ _) rfl ?_
    obtain ⟨M43, hM43, hf⟩ := lw_e hf
    rw [← hM43]
    have hT44 : mT M43 (mN M2) = 6 := by rw [hM43]; exact hT36
    have hT45 : mT M43 x0 = 10 := by rw [hM43]; exact hT37
    have hT46 : mT M43 a15 = 9 := by rw [hM43]; exact hT38
    have hT47 : mT M43 a21 = 7 := by rw [hM43]; exact hT39
    have hT48 : mT M43 a23 = 7 := by rw [hM43]; exact hT40
    have hT49 : mT M43 a31 = 7 := by rw [hM43]; exact hT41
    have hT50 : mT M43 a33 = 7 := by rw [hM43]; exact hT42
    refine g_aload_n X dX11_teach_89 rfl rfl ?_
    refine g_aload_n X dX11_teach_90 rfl rfl ?_
    refine g_putR (ci := 9) 2 X cdX11 i_X11_teach_X11 (by decide) k_X11_teach_f23 rfl dX11_teach_91 rfl hT45 (Or.inl rfl) (gnO _ _) (gfO _ _) rfl ?_
    obtain ⟨M51, hM51, hf⟩ := lw_e hf
    rw [← hM51]
    have hT52 : mT M51 (mN M2) = 6 := by rw [hM51]; exact hT44
    have hT53 : mT M51 x0 = 10 := by rw [hM51]; exact hT45
    have hT54 : mT M51 a15 = 9 := by rw [hM51]; exact hT46
    have hT55 : mT M51 a21 = 7 := by rw [hM51]; exact hT47
    have hT56 : mT M51 a23 = 7 := by rw [hM51]; exact hT48
    have hT57 : mT M51 a31 = 7 := by rw [hM51]; exact hT49
    have hT58 : mT M51 a33 = 7 := by rw [hM51]; exact hT50
    refine g_sub (lvsub_of _ _ [1] rfl) ?_
    exact t_X11_teach_94 X hr _ _ _ hf hK
set_option maxHeartbeats 4000000 in
set_option maxRecDepth 100000 in
theorem m_X11_teach (l : Launch) {D : va_G} {cy : Nat → ClassId} {B : Nat} {H0 : Heap} {Z : Nat → Nat} {M M1 : gMem} {x0 : Nat} {r : Int32} (hf : f_X11_teach Z M x0 = some (r, M1)) : Met l yX11_teach wsX11_teach rX11_teach (va_Pc (Value.ref x0 :: List.map gv []) (gPre D cy B H0 (gSt Z B H0) M)) (gQ D cy B H0 (some (vI r)) M1) 7 39 (gA B) := by
  refine Met.ofW (cc := cX11_teach) (maxL := 4) (ret := (some .int)) (by decide) rfl ?_
  intro p e s m args below meth c s₁ Bd hml hv
  obtain ⟨rfl, hW, hKK, hFs⟩ := hv
  have X : gX p s m _ meth c D cy B (gSt Z B H0) RX11 cX11_teach wsX11_teach 4 := ⟨Bd.exec, Bd.bytes, atoms_spec (ws := wsX11_teach) Bd.pre, findClass_of_methodNamed Bd.named, hml, hKK, by rw [hW.1]; exact hW.2.1, Bd.notSynchronized, hFs⟩
  have hr := Bd.returns
  have hl := lv_entry ([.ref x0]) (n := 4) (Nat.le_of_ble_eq_true rfl)
  show W p l e rX11_teach s m _ below meth c s.heap [] 0 0 _ (entryFrame m ([.ref x0] : List Value).toArray 4)
  rw [lg_entry_eq]
  generalize (lg_sl ([.ref x0]) ++ List.replicate (4 - (lg_sl ([.ref x0])).length) Slot.unset).toArray = ls at hl ⊢
  have hl : lv_has ls 4 (List.map gq [(0, vR (some x0))]) := hl
  exact t_X11_teach_0 X hr _ _ _ hf rfl s.heap [] ls hW va_S.rf (lv_has_sub hl (lvsub_of _ _ [0] rfl))
/-! ## TideLotsModel.read()I -/
theorem dX14_read_0 : decode cX14_read 0 = .ok (.aload_n 0, 1) := by decide +kernel
theorem dX14_read_1 : decode cX14_read 1 = .ok (.new 32, 3) := by decide +kernel
theorem dX14_read_4 : decode cX14_read 4 = .ok (.dup, 1) := by decide +kernel
theorem dX14_read_5 : decode cX14_read 5 = .ok (.invokespecial 34, 3) := by decide +kernel
theorem dX14_read_8 : decode cX14_read 8 = .ok (.putfield 39, 3) := by decide +kernel
theorem dX14_read_11 : decode cX14_read 11 = .ok (.aload_n 0, 1) := by decide +kernel
theorem dX14_read_12 : decode cX14_read 12 = .ok (.invokevirtual 267, 3) := by decide +kernel
theorem dX14_read_15 : decode cX14_read 15 = .ok (.aload_n 0, 1) := by decide +kernel
theorem dX14_read_16 : decode cX14_read 16 = .ok (.iconst 0, 1) := by decide +kernel
theorem dX14_read_17 : decode cX14_read 17 = .ok (.putfield 118, 3) := by decide +kernel
theorem dX14_read_20 : decode cX14_read 20 = .ok (.aload_n 0, 1) := by decide +kernel
theorem dX14_read_21 : decode cX14_read 21 = .ok (.iconst 0, 1) := by decide +kernel
theorem dX14_read_22 : decode cX14_read 22 = .ok (.putfield 187, 3) := by decide +kernel
theorem dX14_read_25 : decode cX14_read 25 = .ok (.aload_n 0, 1) := by decide +kernel
theorem dX14_read_26 : decode cX14_read 26 = .ok (.invokevirtual 270, 3) := by decide +kernel
theorem dX14_read_29 : decode cX14_read 29 = .ok (.ifCond .ne 18, 3) := by decide +kernel
theorem dX14_read_32 : decode cX14_read 32 = .ok (.aload_n 0, 1) := by decide +kernel
theorem dX14_read_33 : decode cX14_read 33 = .ok (.aload_n 0, 1) := by decide +kernel
theorem dX14_read_34 : decode cX14_read 34 = .ok (.getfield 20, 3) := by decide +kernel
theorem dX14_read_37 : decode cX14_read 37 = .ok (.aload_n 0, 1) := by decide +kernel
theorem dX14_read_38 : decode cX14_read 38 = .ok (.getfield 118, 3) := by decide +kernel
theorem dX14_read_41 : decode cX14_read 41 = .ok (.iaload, 1) := by decide +kernel
theorem dX14_read_42 : decode cX14_read 42 = .ok (.putfield 13, 3) := by decide +kernel
theorem dX14_read_45 : decode cX14_read 45 = .ok (.iconst 1, 1) := by decide +kernel
theorem dX14_read_46 : decode cX14_read 46 = .ok (.ireturn, 1) := by decide +kernel
theorem dX14_read_47 : decode cX14_read 47 = .ok (.aload_n 0, 1) := by decide +kernel
theorem dX14_read_48 : decode cX14_read 48 = .ok (.getfield 118, 3) := by decide +kernel
theorem dX14_read_51 : decode cX14_read 51 = .ok (.istore_n 1, 1) := by decide +kernel
theorem dX14_read_52 : decode cX14_read 52 = .ok (.aload_n 0, 1) := by decide +kernel
theorem dX14_read_53 : decode cX14_read 53 = .ok (.iconst 0, 1) := by decide +kernel
theorem dX14_read_54 : decode cX14_read 54 = .ok (.putfield 118, 3) := by decide +kernel
theorem dX14_read_57 : decode cX14_read 57 = .ok (.aload_n 0, 1) := by decide +kernel
theorem dX14_read_58 : decode cX14_read 58 = .ok (.getfield 118, 3) := by decide +kernel
theorem dX14_read_61 : decode cX14_read 61 = .ok (.iload_n 1, 1) := by decide +kernel
theorem dX14_read_62 : decode cX14_read 62 = .ok (.if_icmp .ge 47, 3) := by decide +kernel
theorem dX14_read_65 : decode cX14_read 65 = .ok (.aload_n 0, 1) := by decide +kernel
theorem dX14_read_66 : decode cX14_read 66 = .ok (.aload_n 0, 1) := by decide +kernel
theorem dX14_read_67 : decode cX14_read 67 = .ok (.getfield 118, 3) := by decide +kernel
theorem dX14_read_70 : decode cX14_read 70 = .ok (.invokevirtual 273, 3) := by decide +kernel
theorem dX14_read_73 : decode cX14_read 73 = .ok (.istore_n 2, 1) := by decide +kernel
theorem dX14_read_74 : decode cX14_read 74 = .ok (.iload_n 2, 1) := by decide +kernel
theorem dX14_read_75 : decode cX14_read 75 = .ok (.ifCond .ne 6, 3) := by decide +kernel
theorem dX14_read_78 : decode cX14_read 78 = .ok (.goto 18, 3) := by decide +kernel
theorem dX14_read_81 : decode cX14_read 81 = .ok (.aload_n 0, 1) := by decide +kernel
theorem dX14_read_82 : decode cX14_read 82 = .ok (.aload_n 0, 1) := by decide +kernel
theorem dX14_read_83 : decode cX14_read 83 = .ok (.getfield 20, 3) := by decide +kernel
theorem dX14_read_86 : decode cX14_read 86 = .ok (.aload_n 0, 1) := by decide +kernel
theorem dX14_read_87 : decode cX14_read 87 = .ok (.getfield 118, 3) := by decide +kernel
theorem dX14_read_90 : decode cX14_read 90 = .ok (.iaload, 1) := by decide +kernel
theorem dX14_read_91 : decode cX14_read 91 = .ok (.putfield 13, 3) := by decide +kernel
theorem dX14_read_94 : decode cX14_read 94 = .ok (.iload_n 2, 1) := by decide +kernel
theorem dX14_read_95 : decode cX14_read 95 = .ok (.ireturn, 1) := by decide +kernel
theorem dX14_read_96 : decode cX14_read 96 = .ok (.aload_n 0, 1) := by decide +kernel
theorem dX14_read_97 : decode cX14_read 97 = .ok (.dup, 1) := by decide +kernel
theorem dX14_read_98 : decode cX14_read 98 = .ok (.getfield 118, 3) := by decide +kernel
theorem dX14_read_101 : decode cX14_read 101 = .ok (.iconst 1, 1) := by decide +kernel
theorem dX14_read_102 : decode cX14_read 102 = .ok (.iadd, 1) := by decide +kernel
theorem dX14_read_103 : decode cX14_read 103 = .ok (.putfield 118, 3) := by decide +kernel
theorem dX14_read_106 : decode cX14_read 106 = .ok (.goto (-49), 3) := by decide +kernel
theorem dX14_read_109 : decode cX14_read 109 = .ok (.iconst 0, 1) := by decide +kernel
theorem dX14_read_110 : decode cX14_read 110 = .ok (.istore_n 2, 1) := by decide +kernel
theorem dX14_read_111 : decode cX14_read 111 = .ok (.iload_n 2, 1) := by decide +kernel
theorem dX14_read_112 : decode cX14_read 112 = .ok (.aload_n 0, 1) := by decide +kernel
theorem dX14_read_113 : decode cX14_read 113 = .ok (.getfield 39, 3) := by decide +kernel
theorem dX14_read_116 : decode cX14_read 116 = .ok (.getfield 193, 3) := by decide +kernel
theorem dX14_read_119 : decode cX14_read 119 = .ok (.if_icmp .ge 48, 3) := by decide +kernel
theorem dX14_read_122 : decode cX14_read 122 = .ok (.aload_n 0, 1) := by decide +kernel
theorem dX14_read_123 : decode cX14_read 123 = .ok (.getfield 39, 3) := by decide +kernel
theorem dX14_read_126 : decode cX14_read 126 = .ok (.getfield 127, 3) := by decide +kernel
theorem dX14_read_129 : decode cX14_read 129 = .ok (.aload_n 0, 1) := by decide +kernel
theorem dX14_read_130 : decode cX14_read 130 = .ok (.getfield 39, 3) := by decide +kernel
theorem dX14_read_133 : decode cX14_read 133 = .ok (.getfield 190, 3) := by decide +kernel
theorem dX14_read_136 : decode cX14_read 136 = .ok (.iload_n 2, 1) := by decide +kernel
theorem dX14_read_137 : decode cX14_read 137 = .ok (.iaload, 1) := by decide +kernel
theorem dX14_read_138 : decode cX14_read 138 = .ok (.aload_n 0, 1) := by decide +kernel
theorem dX14_read_139 : decode cX14_read 139 = .ok (.getfield 29, 3) := by decide +kernel
theorem dX14_read_142 : decode cX14_read 142 = .ok (.aload_n 0, 1) := by decide +kernel
theorem dX14_read_143 : decode cX14_read 143 = .ok (.getfield 39, 3) := by decide +kernel
theorem dX14_read_146 : decode cX14_read 146 = .ok (.getfield 127, 3) := by decide +kernel
theorem dX14_read_149 : decode cX14_read 149 = .ok (.aload_n 0, 1) := by decide +kernel
theorem dX14_read_150 : decode cX14_read 150 = .ok (.getfield 39, 3) := by decide +kernel
theorem dX14_read_153 : decode cX14_read 153 = .ok (.getfield 190, 3) := by decide +kernel
theorem dX14_read_156 : decode cX14_read 156 = .ok (.iload_n 2, 1) := by decide +kernel
theorem dX14_read_157 : decode cX14_read 157 = .ok (.iaload, 1) := by decide +kernel
theorem dX14_read_158 : decode cX14_read 158 = .ok (.iaload, 1) := by decide +kernel
theorem dX14_read_159 : decode cX14_read 159 = .ok (.iaload, 1) := by decide +kernel
theorem dX14_read_160 : decode cX14_read 160 = .ok (.iastore, 1) := by decide +kernel
theorem dX14_read_161 : decode cX14_read 161 = .ok (.iinc 2 1, 3) := by decide +kernel
theorem dX14_read_164 : decode cX14_read 164 = .ok (.goto (-53), 3) := by decide +kernel
theorem dX14_read_167 : decode cX14_read 167 = .ok (.iconst 0, 1) := by decide +kernel
theorem dX14_read_168 : decode cX14_read 168 = .ok (.ireturn, 1) := by decide +kernel
set_option maxRecDepth 20000 in
theorem ggX14_read_X14_errorOf : GoodIn wsX14_read wsX14_errorOf := goodIn_r _ [255, 4, 37, 9, 256, 257, 258, 35, 259, 260, 261, 262, 263, 39, 45, 7, 244, 245, 246, 247, 264, 265, 266, 267, 268, 269, 270, 271, 272, 273, 274, 275, 276, 277, 278, 304, 305, 306, 307, 308, 309, 310, 311, 312, 313, 314, 315, 316, 317, 318, 279, 280, 281, 282, 283, 284, 285, 286, 287, 288, 289, 290, 291, 292, 293, 294, 295, 296, 297, 298, 299, 300, 301, 302, 303] (by decide +kernel) (by decide +kernel)
set_option maxRecDepth 20000 in
theorem gX14_read_X14_errorOf : GoodIn wsX14_read (wsV RX14 273 RX14 yX14_errorOf wsX14_errorOf) := goodIn_app (goodIn_of _ (by decide +kernel)) ggX14_read_X14_errorOf
set_option maxRecDepth 20000 in
theorem ggX14_read_X13_init : GoodIn wsX14_read wsX13_init := goodIn_r _ [11, 12, 13, 14, 15, 16, 17, 18, 19, 20, 21, 22, 23, 24, 25, 26, 27, 28, 29, 30, 31, 279, 280, 281, 282, 283, 284, 285, 286, 287, 288, 289, 290, 291, 292, 293, 294, 295, 296, 297, 298, 299, 300, 301, 302, 303] (by decide +kernel) (by decide +kernel)
set_option maxRecDepth 20000 in
theorem gX14_read_X13_init_n34 : GoodIn wsX14_read (wsX13_init) := ggX14_read_X13_init
set_option maxRecDepth 20000 in
theorem ggX14_read_X14_cut : GoodIn wsX14_read wsX14_cut := goodIn_r _ [36, 7, 37, 9, 38, 39, 40, 41, 42, 35, 43, 44, 45, 46, 47, 48, 49, 50, 51, 52, 53, 54, 55, 56, 57, 58, 59, 60, 61, 62, 63, 64, 65, 66, 67, 68, 69, 70, 71, 72, 73, 74, 75, 76, 77, 78, 79, 80, 81, 82, 83, 84, 85, 86, 87, 88, 89, 90, 91, 92, 93, 94, 95, 96, 97, 98, 99, 100, 101, 102, 103, 104, 105, 106, 107, 108, 109, 110, 111, 112, 113, 114, 115, 116, 117, 118, 119, 120, 121, 122, 123, 124, 125, 126, 127, 128, 129, 130, 131, 132, 133, 134, 135, 136, 137, 138, 139, 140, 141, 142, 143, 144, 145, 146, 147, 148, 149, 150, 151, 152, 153, 154, 155, 156, 157, 158, 159, 160, 161, 162, 163, 164, 165, 166, 167, 168, 169, 170, 304, 305, 306, 307, 308, 309, 310, 311, 312, 313, 314, 315, 316, 317, 318] (by decide +kernel) (by decide +kernel)
set_option maxRecDepth 20000 in
theorem gX14_read_X14_cut : GoodIn wsX14_read (wsV RX14 267 RX14 yX14_cut wsX14_cut) := goodIn_app (goodIn_of _ (by decide +kernel)) ggX14_read_X14_cut
set_option maxRecDepth 20000 in
theorem ggX14_read_X14_isText : GoodIn wsX14_read wsX14_isText := goodIn_r _ [174, 175, 176, 177, 35, 178, 38, 5, 179, 180, 181, 182, 183, 184, 185, 186, 37, 187, 188, 189, 190, 191, 192, 193, 194, 195, 196, 197, 198, 199, 200, 201, 202, 4, 203, 127, 124, 128, 204, 205, 206, 207, 208, 209, 210, 211, 212, 213, 214, 215, 216, 217, 218, 219, 6, 220, 221, 222, 223, 224, 225, 226, 227, 228, 229, 230, 231, 232, 233, 234, 235, 236, 237, 238, 239, 240, 241, 242, 243, 244, 245, 246, 247, 39, 45, 7, 248, 249, 250, 251, 304, 305, 306, 307, 308, 309, 310, 311, 312, 313, 314, 315, 316, 317, 318, 279, 280, 281, 282, 283, 284, 285, 286, 287, 288, 289, 290, 291, 292, 293, 294, 295, 296, 297, 298, 299, 300, 301, 302, 303] (by decide +kernel) (by decide +kernel)
set_option maxRecDepth 20000 in
theorem gX14_read_X14_isText : GoodIn wsX14_read (wsV RX14 270 RX14 yX14_isText wsX14_isText) := goodIn_app (goodIn_of _ (by decide +kernel)) ggX14_read_X14_isText
theorem k_X14_read_f39 : Cond.fieldLink RX14 39 "TideLotsModel" "reading" "LTideLotsModel$Told;" ∈ wsX14_read := by decide +kernel
theorem i_X14_read_X14 : ∀ w ∈ u_ws RX14 TX14 15, w ∈ wsX14_read := by decide +kernel
theorem i_X14_read_X13 : ∀ w ∈ u_ws RX13 TX13 25, w ∈ wsX14_read := by decide +kernel
theorem k_X14_read_f29 : Cond.fieldLink RX14 29 "TideLotsModel" "meant" "[I" ∈ wsX14_read := by decide +kernel
theorem k_X14_read_f118 : Cond.fieldLink RX14 118 "TideLotsModel" "token" "I" ∈ wsX14_read := by decide +kernel
theorem k_X14_read_f20 : Cond.fieldLink RX14 20 "TideLotsModel" "from" "[I" ∈ wsX14_read := by decide +kernel
theorem k_X14_read_f13 : Cond.fieldLink RX14 13 "TideLotsModel" "errorAt" "I" ∈ wsX14_read := by decide +kernel
theorem k_X14_read_cl32 : Cond.classLink RX14 32 RX13 ∈ wsX14_read := by decide +kernel
theorem k_X14_read_inX13 : Cond.instantiable RX13 25 ∈ wsX14_read := by decide +kernel
theorem k_X14_read_iiX13 : Cond.initialized RX13 ∈ wsX14_read := by decide +kernel
theorem kn_X14_34 : Cond.methodLinkNest "TideLotsModel" (34 : Nat) ({ cls := "TideLotsModel$Told", name := "<init>", desc := "()V" } : MethodName) "TideLotsModel" ∈ gNs := by decide +kernel
theorem k_X14_read_imX13_init : Cond.instanceMethod yX13_init ∈ wsX14_read := by decide +kernel
theorem k_X14_read_f187 : Cond.fieldLink RX14 187 "TideLotsModel" "depth" "I" ∈ wsX14_read := by decide +kernel
abbrev rX14_read : Room := { frames := 71, cells := 17, slots := 1469, locals := 2708 }
noncomputable def bb_X14_read_111 (Z : Nat → Nat) (M : gMem) (x0 : Nat) (x2 : Int32) : Option ((gMem × Int32) ⊕ (Int32 × gMem)) :=
  ck (mT M x0 = 13) <| dr ((mR M x0 12)) fun a2 => ck (mT M a2 = 12) <| (if (mI M a2 24) ≤ x2 then oI (some ((0 : Int32), M)) else dr ((mR M a2 23)) fun a5 => ck (mT M a5 = 20) <| ck (inb x2 (mL M a5)) <| ck (inb x2 (mL M a5)) <| dr ((mR M a2 21)) fun a9 => ck (mT M a9 = 20) <| ck (inb (mI M a5 x2.toNatClampNeg) (mL M a9)) <| dr ((mR M x0 8)) fun a12 => ck (mT M a12 = 20) <| ck (inb (mI M a9 ((mI M a5 x2.toNatClampNeg)).toNatClampNeg) (mL M a12)) <| ck (inb (mI M a5 x2.toNatClampNeg) (mL M a9)) <| lw (wI M a9 ((mI M a5 x2.toNatClampNeg)).toNatClampNeg ((mI M a12 ((mI M a9 ((mI M a5 x2.toNatClampNeg)).toNatClampNeg)).toNatClampNeg))) fun M16 => some (.inl (M16, (x2 + (1 : Int32)))))
noncomputable def lp_X14_read_111 (Z : Nat → Nat) (M : gMem) (x0 : Nat) (x2 : Int32) : Option (Int32 × gMem) :=
  lp (fun (q : gMem × Int32) => bb_X14_read_111 Z q.1 x0 q.2) (M, x2)
noncomputable def bb_X14_read_57 (Z : Nat → Nat) (M : gMem) (x0 : Nat) (x1 : Int32) : Option ((gMem) ⊕ (Int32 × gMem)) :=
  ck (mT M x0 = 13) <| (if x1 ≤ (mI M x0 9) then oI (lp_X14_read_111 Z M x0 ((0 : Int32))) else bd (f_X14_errorOf M x0 ((mI M x0 9))) fun r24 M24 => (if r24 = 0 then ck (mT M24 x0 = 13) <| lw (wI M24 x0 9 (((mI M24 x0 9) + (1 : Int32)))) fun M34 => some (.inl M34) else ck (mT M24 x0 = 13) <| dr ((mR M24 x0 5)) fun a26 => ck (mT M24 a26 = 20) <| ck (inb (mI M24 x0 9) (mL M24 a26)) <| lw (wI M24 x0 3 ((mI M24 a26 ((mI M24 x0 9)).toNatClampNeg))) fun M29 => oI (some (r24, M29))))
noncomputable def lp_X14_read_57 (Z : Nat → Nat) (M : gMem) (x0 : Nat) (x1 : Int32) : Option (Int32 × gMem) :=
  lp (fun (q : gMem) => bb_X14_read_57 Z q x0 x1) M
noncomputable def b_X14_read_0 (Z : Nat → Nat) (M : gMem) (x0 : Nat) : Option (Int32 × gMem) :=
  lw (nW M 12 0) fun M36 => bd (f_X13_init M36 ((mN M))) fun _ M37 => ck (mT M37 x0 = 13) <| lw (wR M37 x0 12 ((some (mN M)))) fun M39 => bd (f_X14_cut Z M39 x0) fun _ M41 => ck (mT M41 x0 = 13) <| lw (wI M41 x0 9 ((0 : Int32))) fun M43 => lw (wI M43 x0 10 ((0 : Int32))) fun M45 => bd (f_X14_isText M45 x0) fun r47 M47 => (if r47 = 0 then ck (mT M47 x0 = 13) <| dr ((mR M47 x0 5)) fun a52 => ck (mT M47 a52 = 20) <| ck (inb (mI M47 x0 9) (mL M47 a52)) <| lw (wI M47 x0 3 ((mI M47 a52 ((mI M47 x0 9)).toNatClampNeg))) fun M55 => some ((1 : Int32), M55) else ck (mT M47 x0 = 13) <| lw (wI M47 x0 9 ((0 : Int32))) fun M49 => lp_X14_read_57 Z M49 x0 ((mI M47 x0 9)))
noncomputable def f_X14_read (Z : Nat → Nat) (M : gMem) (x0 : Nat) : Option (Int32 × gMem) :=
  b_X14_read_0 Z M x0
set_option maxHeartbeats 4000000 in
set_option maxRecDepth 100000 in
theorem tb_X14_read_111 (X2 : gX p s m args meth c D cy B (gSt2 Z B H0) RX14 cX14_read wsX14_read 3) (hr : meth.sig.returnType = (some .int)) {Q : State → Prop} : ∀ (M : gMem) (x0 : Nat) (x2 : Int32) (z : (gMem × Int32) ⊕ (Int32 × gMem)), bb_X14_read_111 Z M x0 x2 = some z → (Sum.elim (fun (q : gMem × Int32) => gGo p l e rX14_read s m args below meth c D cy B H0 3 17 1469 Q 111 [(0, vR (some x0)), (2, vI q.2)] [] q.1) (fun (r : Int32 × gMem) => Q = gMQ below D cy B H0 args s 17 1469 (some (vI r.1)) r.2)) z → gGo p l e rX14_read s m args below meth c D cy B H0 3 17 1469 Q 111 [(0, vR (some x0)), (2, vI x2)] [] M := by
  intro M x0 x2 z hf hK
  unfold bb_X14_read_111 at hf
  have X := gX_w X2
  refine g_iload_n X dX14_read_111 rfl rfl ?_
  refine g_aload_n X dX14_read_112 rfl rfl ?_
  obtain ⟨hT1, hf⟩ := ck_e hf
  refine g_get (ci := 12) (v := vR (mR M x0 12)) 12 X cdX14 i_X14_read_X14 (by decide) k_X14_read_f39 rfl dX14_read_113 rfl hT1 rfl ?_
  obtain ⟨a2, ha2, hf⟩ := dr_e hf
  obtain ⟨hT3, hf⟩ := ck_e hf
  refine g_getN (ci := 11) (w := vI (mI M a2 24)) 24 X cdX13 i_X14_read_X13 (by decide) (gNw X _ kn_X14_193) rfl dX14_read_116 ha2 hT3 rfl ?_
  refine g_icmp_ge (tgt := 167) X dX14_read_119 (by decide) (fun hc => ?_) (fun hc => ?_)
  · have hf := ife_t hc hf
    refine g_iconst (v := (0 : Int32)) X dX14_read_167 (by decide) ?_
    obtain ⟨w4, hw4, hz4⟩ := oI_e hf
    subst hz4
    have hf := hw4
    cases hf
    refine g_eqQ hK ?_
    exact g_iret X hr dX14_read_168
  · have hf := ife_f hc hf
    refine g_aload_n X dX14_read_122 rfl rfl ?_
    refine g_get (ci := 12) (v := vR (mR M x0 12)) 12 X cdX14 i_X14_read_X14 (by decide) k_X14_read_f39 rfl dX14_read_123 rfl hT1 rfl ?_
    refine g_getN (ci := 11) (w := vR (mR M a2 21)) 21 X cdX13 i_X14_read_X13 (by decide) (gNw X _ kn_X14_127) rfl dX14_read_126 ha2 hT3 rfl ?_
    refine g_aload_n X dX14_read_129 rfl rfl ?_
    refine g_get (ci := 12) (v := vR (mR M x0 12)) 12 X cdX14 i_X14_read_X14 (by decide) k_X14_read_f39 rfl dX14_read_130 rfl hT1 rfl ?_
    refine g_getN (ci := 11) (w := vR (mR M a2 23)) 23 X cdX13 i_X14_read_X13 (by decide) (gNw X _ kn_X14_190) rfl dX14_read_133 ha2 hT3 rfl ?_
    refine g_iload_n X dX14_read_136 rfl rfl ?_
    obtain ⟨a5, ha5, hf⟩ := dr_e hf
    obtain ⟨hT6, hf⟩ := ck_e hf
    obtain ⟨hg7, hf⟩ := ck_e hf
    refine g_iald X dX14_read_137 ha5 hT6 hg7 ?_
    refine g_aload_n X dX14_read_138 rfl rfl ?_
    refine g_get (ci := 12) (v := vR (mR M x0 8)) 8 X cdX14 i_X14_read_X14 (by decide) k_X14_read_f29 rfl dX14_read_139 rfl hT1 rfl ?_
    refine g_aload_n X dX14_read_142 rfl rfl ?_
    refine g_get (ci := 12) (v := vR (mR M x0 12)) 12 X cdX14 i_X14_read_X14 (by decide) k_X14_read_f39 rfl dX14_read_143 rfl hT1 rfl ?_
    refine g_getN (ci := 11) (w := vR (mR M a2 21)) 21 X cdX13 i_X14_read_X13 (by decide) (gNw X _ kn_X14_127) rfl dX14_read_146 ha2 hT3 rfl ?_
    refine g_aload_n X dX14_read_149 rfl rfl ?_
    refine g_get (ci := 12) (v := vR (mR M x0 12)) 12 X cdX14 i_X14_read_X14 (by decide) k_X14_read_f39 rfl dX14_read_150 rfl hT1 rfl ?_
    refine g_getN (ci := 11) (w := vR (mR M a2 23)) 23 X cdX13 i_X14_read_X13 (by decide) (gNw X _ kn_X14_190) rfl dX14_read_153 ha2 hT3 rfl ?_
    refine g_iload_n X dX14_read_156 rfl rfl ?_
    obtain ⟨hg8, hf⟩ := ck_e hf
    refine g_iald X dX14_read_157 ha5 hT6 hg8 ?_
    obtain ⟨a9, ha9, hf⟩ := dr_e hf
    obtain ⟨hT10, hf⟩ := ck_e hf
    obtain ⟨hg11, hf⟩ := ck_e hf
    refine g_iald X dX14_read_158 ha9 hT10 hg11 ?_
    obtain ⟨a12, ha12, hf⟩ := dr_e hf
    obtain ⟨hT13, hf⟩ := ck_e hf
    obtain ⟨hg14, hf⟩ := ck_e hf
    refine g_iald X dX14_read_159 ha12 hT13 hg14 ?_
    obtain ⟨hg15, hf⟩ := ck_e hf
    refine g_iast X dX14_read_160 ha9 hT10 hg15 ?_
    obtain ⟨M16, hM16, hf⟩ := lw_e hf
    rw [← hM16]
    have hT17 : mT M16 x0 = 13 := by rw [hM16]; exact hT1
    have hT18 : mT M16 a2 = 12 := by rw [hM16]; exact hT3
    have hT19 : mT M16 a5 = 20 := by rw [hM16]; exact hT6
    have hT20 : mT M16 a9 = 20 := by rw [hM16]; exact hT10
    have hT21 : mT M16 a12 = 20 := by rw [hM16]; exact hT13
    refine g_iinc (v := (1 : Int32)) (lv' := [(2, vI (x2 + (1 : Int32))), (0, vR (some x0))]) X dX14_read_161 rfl (by decide) (by decide) rfl ?_
    refine g_goto (tgt := 111) X dX14_read_164 (by decide) ?_
    cases hf
    refine g_sub (lvsub_of _ _ [1, 0] rfl) ?_
    exact hK
set_option maxHeartbeats 4000000 in
set_option maxRecDepth 100000 in
theorem tl_X14_read_111 (X2 : gX p s m args meth c D cy B (gSt2 Z B H0) RX14 cX14_read wsX14_read 3) (hr : meth.sig.returnType = (some .int)) {Q : State → Prop} : ∀ (M : gMem) (x0 : Nat) (x2 : Int32) (z : Int32 × gMem), lp_X14_read_111 Z M x0 x2 = some z → (fun (r : Int32 × gMem) => Q = gMQ below D cy B H0 args s 17 1469 (some (vI r.1)) r.2) z → gGo p l e rX14_read s m args below meth c D cy B H0 3 17 1469 Q 111 [(0, vR (some x0)), (2, vI x2)] [] M := by
  intro M x0 x2 z hf hK
  refine lp_ind (P := (fun (q : gMem × Int32) (z : Int32 × gMem) => (fun (r : Int32 × gMem) => Q = gMQ below D cy B H0 args s 17 1469 (some (vI r.1)) r.2) z → gGo p l e rX14_read s m args below meth c D cy B H0 3 17 1469 Q 111 [(0, vR (some x0)), (2, vI q.2)] [] q.1)) (fun q z hq => ?_) _ _ hf hK
  intro hK
  obtain ⟨w, hw, hm⟩ := hq
  refine tb_X14_read_111 X2 hr _ _ _ w hw ?_
  cases w with
  | inl a => exact hm hK
  | inr b => cases hm; exact hK
set_option maxHeartbeats 4000000 in
set_option maxRecDepth 100000 in
theorem tb_X14_read_57 (X2 : gX p s m args meth c D cy B (gSt2 Z B H0) RX14 cX14_read wsX14_read 3) (hr : meth.sig.returnType = (some .int)) {Q : State → Prop} : ∀ (M : gMem) (x0 : Nat) (x1 : Int32) (z : (gMem) ⊕ (Int32 × gMem)), bb_X14_read_57 Z M x0 x1 = some z → (Sum.elim (fun (q : gMem) => gGo p l e rX14_read s m args below meth c D cy B H0 3 17 1469 Q 57 [(0, vR (some x0)), (1, vI x1)] [] q) (fun (r : Int32 × gMem) => Q = gMQ below D cy B H0 args s 17 1469 (some (vI r.1)) r.2)) z → gGo p l e rX14_read s m args below meth c D cy B H0 3 17 1469 Q 57 [(0, vR (some x0)), (1, vI x1)] [] M := by
  intro M x0 x1 z hf hK
  unfold bb_X14_read_57 at hf
  have X := gX_w X2
  refine g_aload_n X dX14_read_57 rfl rfl ?_
  obtain ⟨hT22, hf⟩ := ck_e hf
  refine g_get (ci := 12) (v := vI (mI M x0 9)) 9 X cdX14 i_X14_read_X14 (by decide) k_X14_read_f118 rfl dX14_read_58 rfl hT22 rfl ?_
  refine g_iload_n X dX14_read_61 rfl rfl ?_
  refine g_icmp_ge (tgt := 109) X dX14_read_62 (by decide) (fun hc => ?_) (fun hc => ?_)
  · have hf := ife_t hc hf
    refine g_iconst (v := (0 : Int32)) X dX14_read_109 (by decide) ?_
    refine g_istore_n (lv' := [(2, vI (0 : Int32)), (0, vR (some x0)), (1, vI x1)]) X dX14_read_110 rfl (by decide) rfl ?_
    obtain ⟨w23, hw23, hz23⟩ := oI_e hf
    subst hz23
    have hf := hw23
    refine g_sub (lvsub_of _ _ [1, 0] rfl) ?_
    exact tl_X14_read_111 X2 hr _ _ _ _ hf hK
  · have hf := ife_f hc hf
    refine g_aload_n X dX14_read_65 rfl rfl ?_
    refine g_aload_n X dX14_read_66 rfl rfl ?_
    refine g_get (ci := 12) (v := vI (mI M x0 9)) 9 X cdX14 i_X14_read_X14 (by decide) k_X14_read_f118 rfl dX14_read_67 rfl hT22 rfl ?_
    obtain ⟨r24, M24, hq24, hf⟩ := bd_e hf
    refine g_callV (ci := 12) (b := x0) (As := [vI (mI M x0 9)]) (st := []) (v := some (vI r24)) (M1 := M24) X (m_X14_errorOf l hq24) (cwV 1 X.2.2.1 gX14_read_X14_errorOf rfl rfl rfl (by decide +kernel) ⟨Nat.le_of_ble_eq_true rfl, Nat.le_of_ble_eq_true rfl⟩) rfl rfl rfl hT22 (by decide) rfl (Nat.le_of_ble_eq_true rfl) dX14_read_70 ⟨by decide, by decide⟩ ?_
    refine g_istore_n (lv' := [(2, vI r24), (0, vR (some x0)), (1, vI x1)]) X dX14_read_73 rfl (by decide) rfl ?_
    refine g_iload_n X dX14_read_74 rfl rfl ?_
    refine g_if_ne (tgt := 81) X dX14_read_75 (by decide) (fun hc => ?_) (fun hc => ?_)
    · have hf := ife_f hc hf
      refine g_aload_n X dX14_read_81 rfl rfl ?_
      refine g_aload_n X dX14_read_82 rfl rfl ?_
      obtain ⟨hT25, hf⟩ := ck_e hf
      refine g_get (ci := 12) (v := vR (mR M24 x0 5)) 5 X cdX14 i_X14_read_X14 (by decide) k_X14_read_f20 rfl dX14_read_83 rfl hT25 rfl ?_
      refine g_aload_n X dX14_read_86 rfl rfl ?_
      refine g_get (ci := 12) (v := vI (mI M24 x0 9)) 9 X cdX14 i_X14_read_X14 (by decide) k_X14_read_f118 rfl dX14_read_87 rfl hT25 rfl ?_
      obtain ⟨a26, ha26, hf⟩ := dr_e hf
      obtain ⟨hT27, hf⟩ := ck_e hf
      obtain ⟨hg28, hf⟩ := ck_e hf
      refine g_iald X dX14_read_90 ha26 hT27 hg28 ?_
      refine g_putI (ci := 12) 3 X cdX14 i_X14_read_X14 (by decide) k_X14_read_f13 rfl dX14_read_91 rfl hT25 (Or.inl rfl) rfl rfl rfl ?_
      obtain ⟨M29, hM29, hf⟩ := lw_e hf
      rw [← hM29]
      have hT30 : mT M29 x0 = 13 := by rw [hM29]; exact hT25
      have hT31 : mT M29 a26 = 20 := by rw [hM29]; exact hT27
      refine g_iload_n X dX14_read_94 rfl rfl ?_
      obtain ⟨w32, hw32, hz32⟩ := oI_e hf
      subst hz32
      have hf := hw32
      cases hf
      refine g_eqQ hK ?_
      exact g_iret X hr dX14_read_95
    · have hf := ife_t hc hf
      refine g_goto (tgt := 96) X dX14_read_78 (by decide) ?_
      refine g_aload_n X dX14_read_96 rfl rfl ?_
      refine g_dup X dX14_read_97 rfl ?_
      obtain ⟨hT33, hf⟩ := ck_e hf
      refine g_get (ci := 12) (v := vI (mI M24 x0 9)) 9 X cdX14 i_X14_read_X14 (by decide) k_X14_read_f118 rfl dX14_read_98 rfl hT33 rfl ?_
      refine g_iconst (v := (1 : Int32)) X dX14_read_101 (by decide) ?_
      refine g_iadd X dX14_read_102 ?_
      refine g_putI (ci := 12) 9 X cdX14 i_X14_read_X14 (by decide) k_X14_read_f118 rfl dX14_read_103 rfl hT33 (Or.inl rfl) rfl rfl rfl ?_
      obtain ⟨M34, hM34, hf⟩ := lw_e hf
      rw [← hM34]
      have hT35 : mT M34 x0 = 13 := by rw [hM34]; exact hT33
      refine g_goto (tgt := 57) X dX14_read_106 (by decide) ?_
      cases hf
      refine g_sub (lvsub_of _ _ [1, 2] rfl) ?_
      exact hK
set_option maxHeartbeats 4000000 in
set_option maxRecDepth 100000 in
theorem tl_X14_read_57 (X2 : gX p s m args meth c D cy B (gSt2 Z B H0) RX14 cX14_read wsX14_read 3) (hr : meth.sig.returnType = (some .int)) {Q : State → Prop} : ∀ (M : gMem) (x0 : Nat) (x1 : Int32) (z : Int32 × gMem), lp_X14_read_57 Z M x0 x1 = some z → (fun (r : Int32 × gMem) => Q = gMQ below D cy B H0 args s 17 1469 (some (vI r.1)) r.2) z → gGo p l e rX14_read s m args below meth c D cy B H0 3 17 1469 Q 57 [(0, vR (some x0)), (1, vI x1)] [] M := by
  intro M x0 x1 z hf hK
  refine lp_ind (P := (fun (q : gMem) (z : Int32 × gMem) => (fun (r : Int32 × gMem) => Q = gMQ below D cy B H0 args s 17 1469 (some (vI r.1)) r.2) z → gGo p l e rX14_read s m args below meth c D cy B H0 3 17 1469 Q 57 [(0, vR (some x0)), (1, vI x1)] [] q)) (fun q z hq => ?_) _ _ hf hK
  intro hK
  obtain ⟨w, hw, hm⟩ := hq
  refine tb_X14_read_57 X2 hr _ _ _ w hw ?_
  cases w with
  | inl a => exact hm hK
  | inr b => cases hm; exact hK
set_option maxHeartbeats 4000000 in
set_option maxRecDepth 100000 in
theorem t_X14_read_0 (X2 : gX p s m args meth c D cy B (gSt2 Z B H0) RX14 cX14_read wsX14_read 3) (hr : meth.sig.returnType = (some .int)) {Q : State → Prop} : ∀ (M : gMem) (x0 : Nat) (z : Int32 × gMem), b_X14_read_0 Z M x0 = some z → (fun (r : Int32 × gMem) => Q = gMQ below D cy B H0 args s 17 1469 (some (vI r.1)) r.2) z → gGo p l e rX14_read s m args below meth c D cy B H0 3 0 0 Q 0 [(0, vR (some x0))] [] M := by
  intro M x0 z hf hK
  unfold b_X14_read_0 at hf
  have X := gX_w X2
  refine g_aload_n X dX14_read_0 rfl rfl ?_
  refine g_new (ci := 11) X cdX13 i_X14_read_X13 k_X14_read_cl32 k_X14_read_inX13 k_X14_read_iiX13 (by intro i hi; rcases (show i = 0 ∨ i = 1 ∨ i = 2 ∨ i = 3 ∨ i = 4 ∨ i = 5 ∨ i = 6 ∨ i = 7 ∨ i = 8 ∨ i = 9 ∨ i = 10 ∨ i = 11 ∨ i = 12 ∨ i = 13 ∨ i = 14 ∨ i = 15 ∨ i = 16 ∨ i = 17 ∨ i = 18 ∨ i = 19 ∨ i = 20 ∨ i = 21 ∨ i = 22 ∨ i = 23 ∨ i = 24 by omega) with rfl | rfl | rfl | rfl | rfl | rfl | rfl | rfl | rfl | rfl | rfl | rfl | rfl | rfl | rfl | rfl | rfl | rfl | rfl | rfl | rfl | rfl | rfl | rfl | rfl <;> rfl) ⟨by decide, by decide⟩ dX14_read_1 ?_
  obtain ⟨M36, hM36, hf⟩ := lw_e hf
  rw [← hM36]
  refine g_dup X dX14_read_4 rfl ?_
  obtain ⟨r37, M37, hq37, hf⟩ := bd_e hf
  refine g_callIN (b := (mN M)) (As := []) (st := [vR (some (mN M)), vR (some x0)]) (M1 := M37) X (m_X13_init l hq37) ⟨va_cnB 0 X.2.2.1 gX14_read_X13_init_n34 rfl rfl rfl (gNw X _ kn_X14_34) (X.2.2.1 _ k_X14_read_iiX13) (by decide +kernel) ⟨Nat.le_of_ble_eq_true rfl, Nat.le_of_ble_eq_true rfl⟩, rfl, X.2.2.1 _ k_X14_read_imX13_init⟩ rfl rfl rfl (Nat.le_of_ble_eq_true rfl) dX14_read_5 ⟨by decide, by decide⟩ ?_
  obtain ⟨hT38, hf⟩ := ck_e hf
  refine g_putR (ci := 12) 12 X cdX14 i_X14_read_X14 (by decide) k_X14_read_f39 rfl dX14_read_8 rfl hT38 (Or.inl rfl) (gnO _ _) (gfO _ _) rfl ?_
  obtain ⟨M39, hM39, hf⟩ := lw_e hf
  rw [← hM39]
  have hT40 : mT M39 x0 = 13 := by rw [hM39]; exact hT38
  refine g_aload_n X dX14_read_11 rfl rfl ?_
  obtain ⟨r41, M41, hq41, hf⟩ := bd_e hf
  refine g_callV (ci := 12) (b := x0) (As := []) (st := []) (v := none) (M1 := M41) X2 (m_X14_cut l hq41) (cwV 0 X.2.2.1 gX14_read_X14_cut rfl rfl rfl (by decide +kernel) ⟨Nat.le_of_ble_eq_true rfl, Nat.le_of_ble_eq_true rfl⟩) rfl rfl rfl hT40 (by decide) rfl (Nat.le_of_ble_eq_true rfl) dX14_read_12 ⟨by decide, by decide⟩ ?_
  refine g_aload_n X dX14_read_15 rfl rfl ?_
  refine g_iconst (v := (0 : Int32)) X dX14_read_16 (by decide) ?_
  obtain ⟨hT42, hf⟩ := ck_e hf
  refine g_putI (ci := 12) 9 X cdX14 i_X14_read_X14 (by decide) k_X14_read_f118 rfl dX14_read_17 rfl hT42 (Or.inl rfl) rfl rfl rfl ?_
  obtain ⟨M43, hM43, hf⟩ := lw_e hf
  rw [← hM43]
  have hT44 : mT M43 x0 = 13 := by rw [hM43]; exact hT42
  refine g_aload_n X dX14_read_20 rfl rfl ?_
  refine g_iconst (v := (0 : Int32)) X dX14_read_21 (by decide) ?_
  refine g_putI (ci := 12) 10 X cdX14 i_X14_read_X14 (by decide) k_X14_read_f187 rfl dX14_read_22 rfl hT44 (Or.inl rfl) rfl rfl rfl ?_
  obtain ⟨M45, hM45, hf⟩ := lw_e hf
  rw [← hM45]
  have hT46 : mT M45 x0 = 13 := by rw [hM45]; exact hT44
  refine g_aload_n X dX14_read_25 rfl rfl ?_
  obtain ⟨r47, M47, hq47, hf⟩ := bd_e hf
  refine g_callV (ci := 12) (b := x0) (As := []) (st := []) (v := some (vI r47)) (M1 := M47) X (m_X14_isText l hq47) (cwV 0 X.2.2.1 gX14_read_X14_isText rfl rfl rfl (by decide +kernel) ⟨Nat.le_of_ble_eq_true rfl, Nat.le_of_ble_eq_true rfl⟩) rfl rfl rfl hT46 (by decide) rfl (Nat.le_of_ble_eq_true rfl) dX14_read_26 ⟨by decide, by decide⟩ ?_
  refine g_if_ne (tgt := 47) X dX14_read_29 (by decide) (fun hc => ?_) (fun hc => ?_)
  · have hf := ife_f hc hf
    refine g_aload_n X dX14_read_47 rfl rfl ?_
    obtain ⟨hT48, hf⟩ := ck_e hf
    refine g_get (ci := 12) (v := vI (mI M47 x0 9)) 9 X cdX14 i_X14_read_X14 (by decide) k_X14_read_f118 rfl dX14_read_48 rfl hT48 rfl ?_
    refine g_istore_n (lv' := [(1, vI (mI M47 x0 9)), (0, vR (some x0))]) X dX14_read_51 rfl (by decide) rfl ?_
    refine g_aload_n X dX14_read_52 rfl rfl ?_
    refine g_iconst (v := (0 : Int32)) X dX14_read_53 (by decide) ?_
    refine g_putI (ci := 12) 9 X cdX14 i_X14_read_X14 (by decide) k_X14_read_f118 rfl dX14_read_54 rfl hT48 (Or.inl rfl) rfl rfl rfl ?_
    obtain ⟨M49, hM49, hf⟩ := lw_e hf
    rw [← hM49]
    have hT50 : mT M49 x0 = 13 := by rw [hM49]; exact hT48
    refine g_sub (lvsub_of _ _ [1, 0] rfl) ?_
    exact tl_X14_read_57 X2 hr _ _ _ _ hf hK
  · have hf := ife_t hc hf
    refine g_aload_n X dX14_read_32 rfl rfl ?_
    refine g_aload_n X dX14_read_33 rfl rfl ?_
    obtain ⟨hT51, hf⟩ := ck_e hf
    refine g_get (ci := 12) (v := vR (mR M47 x0 5)) 5 X cdX14 i_X14_read_X14 (by decide) k_X14_read_f20 rfl dX14_read_34 rfl hT51 rfl ?_
    refine g_aload_n X dX14_read_37 rfl rfl ?_
    refine g_get (ci := 12) (v := vI (mI M47 x0 9)) 9 X cdX14 i_X14_read_X14 (by decide) k_X14_read_f118 rfl dX14_read_38 rfl hT51 rfl ?_
    obtain ⟨a52, ha52, hf⟩ := dr_e hf
    obtain ⟨hT53, hf⟩ := ck_e hf
    obtain ⟨hg54, hf⟩ := ck_e hf
    refine g_iald X dX14_read_41 ha52 hT53 hg54 ?_
    refine g_putI (ci := 12) 3 X cdX14 i_X14_read_X14 (by decide) k_X14_read_f13 rfl dX14_read_42 rfl hT51 (Or.inl rfl) rfl rfl rfl ?_
    obtain ⟨M55, hM55, hf⟩ := lw_e hf
    rw [← hM55]
    have hT56 : mT M55 x0 = 13 := by rw [hM55]; exact hT51
    have hT57 : mT M55 a52 = 20 := by rw [hM55]; exact hT53
    refine g_iconst (v := (1 : Int32)) X dX14_read_45 (by decide) ?_
    cases hf
    refine g_eqQ hK ?_
    exact g_iret X hr dX14_read_46
set_option maxHeartbeats 4000000 in
set_option maxRecDepth 100000 in
theorem m_X14_read (l : Launch) {D : va_G} {cy : Nat → ClassId} {B : Nat} {H0 : Heap} {Z : Nat → Nat} {M M1 : gMem} {x0 : Nat} {r : Int32} (hf : f_X14_read Z M x0 = some (r, M1)) : Met l yX14_read wsX14_read rX14_read (va_Pc (Value.ref x0 :: List.map gv []) (gPre D cy B H0 (gSt2 Z B H0) M)) (gQ D cy B H0 (some (vI r)) M1) 17 1469 (gA B) := by
  refine Met.ofW (cc := cX14_read) (maxL := 3) (ret := (some .int)) (by decide) rfl ?_
  intro p e s m args below meth c s₁ Bd hml hv
  obtain ⟨rfl, hW, hKK, hFs⟩ := hv
  have X2 : gX p s m _ meth c D cy B (gSt2 Z B H0) RX14 cX14_read wsX14_read 3 := ⟨Bd.exec, Bd.bytes, atoms_spec (ws := wsX14_read) Bd.pre, findClass_of_methodNamed Bd.named, hml, hKK, by rw [hW.1]; exact hW.2.1, Bd.notSynchronized, hFs⟩
  have hr := Bd.returns
  have hl := lv_entry ([.ref x0]) (n := 3) (Nat.le_of_ble_eq_true rfl)
  show W p l e rX14_read s m _ below meth c s.heap [] 0 0 _ (entryFrame m ([.ref x0] : List Value).toArray 3)
  rw [lg_entry_eq]
  generalize (lg_sl ([.ref x0]) ++ List.replicate (3 - (lg_sl ([.ref x0])).length) Slot.unset).toArray = ls at hl ⊢
  have hl : lv_has ls 3 (List.map gq [(0, vR (some x0))]) := hl
  exact t_X14_read_0 X2 hr _ _ _ hf rfl s.heap [] ls hW va_S.rf (lv_has_sub hl (lvsub_of _ _ [0] rfl))
/-! ## TideLotsModel.teach()I -/
theorem dX14_teach_0 : decode cX14_teach 0 = .ok (.aload_n 0, 1) := by decide +kernel
theorem dX14_teach_1 : decode cX14_teach 1 = .ok (.iconst 0, 1) := by decide +kernel
theorem dX14_teach_2 : decode cX14_teach 2 = .ok (.putfield 57, 3) := by decide +kernel
theorem dX14_teach_5 : decode cX14_teach 5 = .ok (.aload_n 0, 1) := by decide +kernel
theorem dX14_teach_6 : decode cX14_teach 6 = .ok (.iconst (-1), 1) := by decide +kernel
theorem dX14_teach_7 : decode cX14_teach 7 = .ok (.putfield 13, 3) := by decide +kernel
theorem dX14_teach_10 : decode cX14_teach 10 = .ok (.aload_n 0, 1) := by decide +kernel
theorem dX14_teach_11 : decode cX14_teach 11 = .ok (.invokevirtual 279, 3) := by decide +kernel
theorem dX14_teach_14 : decode cX14_teach 14 = .ok (.istore_n 1, 1) := by decide +kernel
theorem dX14_teach_15 : decode cX14_teach 15 = .ok (.aload_n 0, 1) := by decide +kernel
theorem dX14_teach_16 : decode cX14_teach 16 = .ok (.iconst 0, 1) := by decide +kernel
theorem dX14_teach_17 : decode cX14_teach 17 = .ok (.putfield 79, 3) := by decide +kernel
theorem dX14_teach_20 : decode cX14_teach 20 = .ok (.iload_n 1, 1) := by decide +kernel
theorem dX14_teach_21 : decode cX14_teach 21 = .ok (.ifCond .le 5, 3) := by decide +kernel
theorem dX14_teach_24 : decode cX14_teach 24 = .ok (.iload_n 1, 1) := by decide +kernel
theorem dX14_teach_25 : decode cX14_teach 25 = .ok (.ireturn, 1) := by decide +kernel
theorem dX14_teach_26 : decode cX14_teach 26 = .ok (.aload_n 0, 1) := by decide +kernel
theorem dX14_teach_27 : decode cX14_teach 27 = .ok (.aload_n 0, 1) := by decide +kernel
theorem dX14_teach_28 : decode cX14_teach 28 = .ok (.getfield 39, 3) := by decide +kernel
theorem dX14_teach_31 : decode cX14_teach 31 = .ok (.putfield 35, 3) := by decide +kernel
theorem dX14_teach_34 : decode cX14_teach 34 = .ok (.aload_n 0, 1) := by decide +kernel
theorem dX14_teach_35 : decode cX14_teach 35 = .ok (.getfield 47, 3) := by decide +kernel
theorem dX14_teach_38 : decode cX14_teach 38 = .ok (.invokevirtual 54, 3) := by decide +kernel
theorem dX14_teach_41 : decode cX14_teach 41 = .ok (.iconst 0, 1) := by decide +kernel
theorem dX14_teach_42 : decode cX14_teach 42 = .ok (.ireturn, 1) := by decide +kernel
set_option maxRecDepth 20000 in
theorem ggX14_teach_X14_read : GoodIn wsX14_teach wsX14_read := goodIn_r _ [11, 12, 13, 14, 4, 15, 16, 17, 2, 18, 19, 20, 21, 22, 23, 24, 25, 26, 27, 28, 29, 30, 31, 32, 33, 34, 35, 36, 37, 38, 39, 40, 41, 42, 43, 10, 44, 45, 46, 47, 48, 49, 50, 51, 3, 52, 53, 54, 55, 56, 57, 58, 59, 60, 61, 62, 63, 64, 65, 66, 67, 68, 69, 70, 71, 72, 73, 74, 75, 76, 77, 78, 79, 80, 81, 82, 83, 84, 85, 86, 87, 88, 89, 90, 91, 92, 93, 94, 95, 96, 97, 98, 99, 100, 101, 102, 103, 104, 105, 106, 107, 108, 109, 110, 111, 112, 113, 114, 115, 116, 117, 118, 119, 120, 121, 122, 123, 124, 125, 126, 127, 128, 129, 130, 131, 132, 133, 134, 135, 136, 137, 138, 139, 140, 141, 142, 143, 144, 145, 146, 147, 148, 149, 150, 151, 152, 153, 154, 155, 156, 157, 158, 159, 160, 161, 162, 163, 164, 165, 166, 167, 168, 169, 170, 171, 172, 173, 174, 175, 176, 177, 178, 179, 180, 181, 182, 183, 184, 185, 186, 187, 188, 189, 190, 191, 192, 193, 194, 195, 196, 197, 198, 199, 200, 201, 202, 203, 204, 205, 206, 207, 208, 209, 210, 211, 212, 213, 214, 215, 216, 217, 218, 219, 220, 221, 222, 223, 224, 225, 226, 227, 228, 229, 230, 231, 232, 233, 234, 235, 236, 237, 238, 239, 240, 241, 242, 243, 244, 245, 246, 247, 248, 249, 250, 251, 252, 253, 254, 255, 256, 257, 258, 259, 260, 261, 262, 263, 264, 265, 266, 267, 268, 269, 270, 271, 272, 273, 274, 275, 276, 277, 278, 279, 280, 281, 282, 283, 284, 285, 328, 329, 330, 331, 332, 333, 334, 335, 336, 337, 338, 339, 340, 341, 342, 343, 344, 345, 346, 347, 348, 349, 350, 351, 352, 313, 314, 315, 316, 317, 318, 319, 320, 321, 322, 323, 324, 325, 326, 327] (by decide +kernel) (by decide +kernel)
set_option maxRecDepth 20000 in
theorem gX14_teach_X14_read : GoodIn wsX14_teach (wsV RX14 279 RX14 yX14_read wsX14_read) := goodIn_app (goodIn_of _ (by decide +kernel)) ggX14_teach_X14_read
set_option maxRecDepth 20000 in
theorem ggX14_teach_X12_begin : GoodIn wsX14_teach wsX12_begin := goodIn_r _ [290, 291, 292, 293, 294, 295, 296, 297, 298, 299, 300, 301, 302, 303, 304, 305, 306, 307, 289, 308, 309, 310, 311, 312, 353, 354, 355, 356, 357, 358, 359, 360, 361, 362, 363, 364, 365, 366, 367, 368, 369, 370, 371, 313, 314, 315, 316, 317, 318, 319, 320, 321, 322, 323, 324, 325, 326, 327, 328, 329, 330, 331, 332, 333, 334, 335, 336, 337, 338, 339, 340, 341, 342, 343, 344, 345, 346, 347, 348, 349, 350, 351, 352] (by decide +kernel) (by decide +kernel)
set_option maxRecDepth 20000 in
theorem gX14_teach_X12_begin : GoodIn wsX14_teach (wsV RX14 54 RX12 yX12_begin wsX12_begin) := goodIn_app (goodIn_of _ (by decide +kernel)) ggX14_teach_X12_begin
theorem k_X14_teach_f57 : Cond.fieldLink RX14 57 "TideLotsModel" "thrown" "I" ∈ wsX14_teach := by decide +kernel
theorem i_X14_teach_X14 : ∀ w ∈ u_ws RX14 TX14 15, w ∈ wsX14_teach := by decide +kernel
theorem k_X14_teach_f13 : Cond.fieldLink RX14 13 "TideLotsModel" "errorAt" "I" ∈ wsX14_teach := by decide +kernel
theorem k_X14_teach_f79 : Cond.fieldLink RX14 79 "TideLotsModel" "size" "I" ∈ wsX14_teach := by decide +kernel
theorem k_X14_teach_f39 : Cond.fieldLink RX14 39 "TideLotsModel" "reading" "LTideLotsModel$Told;" ∈ wsX14_teach := by decide +kernel
theorem k_X14_teach_f35 : Cond.fieldLink RX14 35 "TideLotsModel" "told" "LTideLotsModel$Told;" ∈ wsX14_teach := by decide +kernel
theorem k_X14_teach_f47 : Cond.fieldLink RX14 47 "TideLotsModel" "s" "LTideLotsModel$State;" ∈ wsX14_teach := by decide +kernel
abbrev rX14_teach : Room := { frames := 72, cells := 18, slots := 1478, locals := 2730 }
noncomputable def b_X14_teach_0 (Z : Nat → Nat) (M : gMem) (x0 : Nat) : Option (Int32 × gMem) :=
  ck (mT M x0 = 13) <| lw (wI M x0 0 ((0 : Int32))) fun M2 => lw (wI M2 x0 3 ((-1 : Int32))) fun M4 => bd (f_X14_read Z M4 x0) fun r6 M6 => ck (mT M6 x0 = 13) <| lw (wI M6 x0 2 ((0 : Int32))) fun M8 => (if r6 ≤ 0 then lw (wR M8 x0 11 ((mR M8 x0 12))) fun M10 => dr ((mR M10 x0 13)) fun a13 => ck (mT M10 a13 = 11) <| bd (f_X12_begin M10 a13) fun _ M12 => some ((0 : Int32), M12) else some (r6, M8))
noncomputable def f_X14_teach (Z : Nat → Nat) (M : gMem) (x0 : Nat) : Option (Int32 × gMem) :=
  b_X14_teach_0 Z M x0
set_option maxHeartbeats 4000000 in
set_option maxRecDepth 100000 in
theorem t_X14_teach_0 (X2 : gX p s m args meth c D cy B (gSt2 Z B H0) RX14 cX14_teach wsX14_teach 2) (hr : meth.sig.returnType = (some .int)) {Q : State → Prop} : ∀ (M : gMem) (x0 : Nat) (z : Int32 × gMem), b_X14_teach_0 Z M x0 = some z → (fun (r : Int32 × gMem) => Q = gMQ below D cy B H0 args s 18 1478 (some (vI r.1)) r.2) z → gGo p l e rX14_teach s m args below meth c D cy B H0 2 0 0 Q 0 [(0, vR (some x0))] [] M := by
  intro M x0 z hf hK
  unfold b_X14_teach_0 at hf
  have X := gX_w X2
  refine g_aload_n X dX14_teach_0 rfl rfl ?_
  refine g_iconst (v := (0 : Int32)) X dX14_teach_1 (by decide) ?_
  obtain ⟨hT1, hf⟩ := ck_e hf
  refine g_putI (ci := 12) 0 X cdX14 i_X14_teach_X14 (by decide) k_X14_teach_f57 rfl dX14_teach_2 rfl hT1 (Or.inl rfl) rfl rfl rfl ?_
  obtain ⟨M2, hM2, hf⟩ := lw_e hf
  rw [← hM2]
  have hT3 : mT M2 x0 = 13 := by rw [hM2]; exact hT1
  refine g_aload_n X dX14_teach_5 rfl rfl ?_
  refine g_iconst (v := (-1 : Int32)) X dX14_teach_6 (by decide) ?_
  refine g_putI (ci := 12) 3 X cdX14 i_X14_teach_X14 (by decide) k_X14_teach_f13 rfl dX14_teach_7 rfl hT3 (Or.inl rfl) rfl rfl rfl ?_
  obtain ⟨M4, hM4, hf⟩ := lw_e hf
  rw [← hM4]
  have hT5 : mT M4 x0 = 13 := by rw [hM4]; exact hT3
  refine g_aload_n X dX14_teach_10 rfl rfl ?_
  obtain ⟨r6, M6, hq6, hf⟩ := bd_e hf
  refine g_callV (ci := 12) (b := x0) (As := []) (st := []) (v := some (vI r6)) (M1 := M6) X2 (m_X14_read l hq6) (cwV 0 X.2.2.1 gX14_teach_X14_read rfl rfl rfl (by decide +kernel) ⟨Nat.le_of_ble_eq_true rfl, Nat.le_of_ble_eq_true rfl⟩) rfl rfl rfl hT5 (by decide) rfl (Nat.le_of_ble_eq_true rfl) dX14_teach_11 ⟨by decide, by decide⟩ ?_
  refine g_istore_n (lv' := [(1, vI r6), (0, vR (some x0))]) X dX14_teach_14 rfl (by decide) rfl ?_
  refine g_aload_n X dX14_teach_15 rfl rfl ?_
  refine g_iconst (v := (0 : Int32)) X dX14_teach_16 (by decide) ?_
  obtain ⟨hT7, hf⟩ := ck_e hf
  refine g_putI (ci := 12) 2 X cdX14 i_X14_teach_X14 (by decide) k_X14_teach_f79 rfl dX14_teach_17 rfl hT7 (Or.inl rfl) rfl rfl rfl ?_
  obtain ⟨M8, hM8, hf⟩ := lw_e hf
  rw [← hM8]
  have hT9 : mT M8 x0 = 13 := by rw [hM8]; exact hT7
  refine g_iload_n X dX14_teach_20 rfl rfl ?_
  refine g_if_le (tgt := 26) X dX14_teach_21 (by decide) (fun hc => ?_) (fun hc => ?_)
  · have hf := ife_t hc hf
    refine g_aload_n X dX14_teach_26 rfl rfl ?_
    refine g_aload_n X dX14_teach_27 rfl rfl ?_
    refine g_get (ci := 12) (v := vR (mR M8 x0 12)) 12 X cdX14 i_X14_teach_X14 (by decide) k_X14_teach_f39 rfl dX14_teach_28 rfl hT9 rfl ?_
    refine g_putR (ci := 12) 11 X cdX14 i_X14_teach_X14 (by decide) k_X14_teach_f35 rfl dX14_teach_31 rfl hT9 (Or.inl rfl) (gnO _ _) (gfO _ _) rfl ?_
    obtain ⟨M10, hM10, hf⟩ := lw_e hf
    rw [← hM10]
    have hT11 : mT M10 x0 = 13 := by rw [hM10]; exact hT9
    refine g_aload_n X dX14_teach_34 rfl rfl ?_
    refine g_get (ci := 12) (v := vR (mR M10 x0 13)) 13 X cdX14 i_X14_teach_X14 (by decide) k_X14_teach_f47 rfl dX14_teach_35 rfl hT11 rfl ?_
    obtain ⟨a13, ha13, hf⟩ := dr_e hf
    obtain ⟨hT14, hf⟩ := ck_e hf
    obtain ⟨r12, M12, hq12, hf⟩ := bd_e hf
    refine g_callV (ci := 10) (b := a13) (As := []) (st := []) (v := none) (M1 := M12) X2 (m_X12_begin l hq12) (cwV 0 X.2.2.1 gX14_teach_X12_begin rfl rfl rfl (by decide +kernel) ⟨Nat.le_of_ble_eq_true rfl, Nat.le_of_ble_eq_true rfl⟩) rfl rfl ha13 hT14 (by decide) rfl (Nat.le_of_ble_eq_true rfl) dX14_teach_38 ⟨by decide, by decide⟩ ?_
    refine g_iconst (v := (0 : Int32)) X dX14_teach_41 (by decide) ?_
    cases hf
    refine g_eqQ hK ?_
    exact g_iret X hr dX14_teach_42
  · have hf := ife_f hc hf
    refine g_iload_n X dX14_teach_24 rfl rfl ?_
    cases hf
    refine g_eqQ hK ?_
    refine g_wide (k' := 18) (n' := 1478) (by decide) (by decide) ?_
    exact g_iret X hr dX14_teach_25
set_option maxHeartbeats 4000000 in
set_option maxRecDepth 100000 in
theorem m_X14_teach (l : Launch) {D : va_G} {cy : Nat → ClassId} {B : Nat} {H0 : Heap} {Z : Nat → Nat} {M M1 : gMem} {x0 : Nat} {r : Int32} (hf : f_X14_teach Z M x0 = some (r, M1)) : Met l yX14_teach wsX14_teach rX14_teach (va_Pc (Value.ref x0 :: List.map gv []) (gPre D cy B H0 (gSt2 Z B H0) M)) (gQ D cy B H0 (some (vI r)) M1) 18 1478 (gA B) := by
  refine Met.ofW (cc := cX14_teach) (maxL := 2) (ret := (some .int)) (by decide) rfl ?_
  intro p e s m args below meth c s₁ Bd hml hv
  obtain ⟨rfl, hW, hKK, hFs⟩ := hv
  have X2 : gX p s m _ meth c D cy B (gSt2 Z B H0) RX14 cX14_teach wsX14_teach 2 := ⟨Bd.exec, Bd.bytes, atoms_spec (ws := wsX14_teach) Bd.pre, findClass_of_methodNamed Bd.named, hml, hKK, by rw [hW.1]; exact hW.2.1, Bd.notSynchronized, hFs⟩
  have hr := Bd.returns
  have hl := lv_entry ([.ref x0]) (n := 2) (Nat.le_of_ble_eq_true rfl)
  show W p l e rX14_teach s m _ below meth c s.heap [] 0 0 _ (entryFrame m ([.ref x0] : List Value).toArray 2)
  rw [lg_entry_eq]
  generalize (lg_sl ([.ref x0]) ++ List.replicate (2 - (lg_sl ([.ref x0])).length) Slot.unset).toArray = ls at hl ⊢
  have hl : lv_has ls 2 (List.map gq [(0, vR (some x0))]) := hl
  exact t_X14_teach_0 X2 hr _ _ _ hf rfl s.heap [] ls hW va_S.rf (lv_has_sub hl (lvsub_of _ _ [0] rfl))
end
