section
variable {p : Program} {l : Launch} {e : Env} {s : State} {m : MethodId} {args : Array Value} {below : List Frame} {meth : Method} {c : Code} {D : va_G} {cy : Nat → ClassId} {B : Nat} {H0 : Heap} {Z : Nat → Nat}
/-! ## TideLots.checkGround(I)V -/
theorem dX11_checkGround_0 : decode cX11_checkGround 0 = .ok (.iload_n 1, 1) := by decide +kernel
theorem dX11_checkGround_1 : decode cX11_checkGround 1 = .ok (.ifCond .lt 14, 3) := by decide +kernel
theorem dX11_checkGround_4 : decode cX11_checkGround 4 = .ok (.iload_n 1, 1) := by decide +kernel
theorem dX11_checkGround_5 : decode cX11_checkGround 5 = .ok (.aload_n 0, 1) := by decide +kernel
theorem dX11_checkGround_6 : decode cX11_checkGround 6 = .ok (.getfield 19, 3) := by decide +kernel
theorem dX11_checkGround_9 : decode cX11_checkGround 9 = .ok (.getfield 68, 3) := by decide +kernel
theorem dX11_checkGround_12 : decode cX11_checkGround 12 = .ok (.if_icmp .lt 13, 3) := by decide +kernel
theorem dX11_checkGround_15 : decode cX11_checkGround 15 = .ok (.new 92, 3) := by decide +kernel
theorem dX11_checkGround_18 : decode cX11_checkGround 18 = .ok (.dup, 1) := by decide +kernel
theorem dX11_checkGround_19 : decode cX11_checkGround 19 = .ok (.ldc 245, 2) := by decide +kernel
theorem dX11_checkGround_21 : decode cX11_checkGround 21 = .ok (.invokespecial 96, 3) := by decide +kernel
theorem dX11_checkGround_24 : decode cX11_checkGround 24 = .ok (.athrow, 1) := by decide +kernel
theorem dX11_checkGround_25 : decode cX11_checkGround 25 = .ok (.return_, 1) := by decide +kernel
theorem k_X11_checkGround_hat96 : ∀ w ∈ (vx_atS RX11 96 "java/lang/IndexOutOfBoundsException" ["java/lang/RuntimeException", "java/lang/Exception"]).filter goodWord, w ∈ wsX11_checkGround := by decide +kernel
theorem kx_hxw96 : ∀ w ∈ (vx_atS RX11 96 "java/lang/IndexOutOfBoundsException" ["java/lang/RuntimeException", "java/lang/Exception"]).filter (fun w => !goodWord w), w ∈ gN2 ∧ w.onTables = true := by decide +kernel
theorem kx_hg96_92 : ∀ w ∈ Cond.classLink RX11 92 "java/lang/IndexOutOfBoundsException" :: Cond.initialized "java/lang/IndexOutOfBoundsException" :: (vx_atS RX11 96 "java/lang/IndexOutOfBoundsException" ["java/lang/RuntimeException", "java/lang/Exception"]), vx_ot w = true := by decide +kernel
theorem k_X11_checkGround_cl92 : Cond.classLink RX11 92 "java/lang/IndexOutOfBoundsException" ∈ wsX11_checkGround := by decide +kernel
theorem k_X11_checkGround_ini92 : Cond.initialized "java/lang/IndexOutOfBoundsException" ∈ wsX11_checkGround := by decide +kernel
theorem k_X11_checkGround_f19 : Cond.fieldLink RX11 19 "TideLots" "shore" "LTideLots$Shore;" ∈ wsX11_checkGround := by decide +kernel
theorem i_X11_checkGround_X11 : ∀ w ∈ u_ws RX11 TX11 4, w ∈ wsX11_checkGround := by decide +kernel
theorem k_X11_checkGround_f68 : Cond.fieldLink RX11 68 "TideLots$Shore" "groundCount" "I" ∈ wsX11_checkGround := by decide +kernel
theorem i_X11_checkGround_X7 : ∀ w ∈ u_ws RX7 TX7 17, w ∈ wsX11_checkGround := by decide +kernel
abbrev rX11_checkGround : Room := { frames := 6, cells := 1, slots := 6, locals := 82 }
noncomputable def b_X11_checkGround_15 (M : gMem)  : Option ((Nat ⊕ Unit) × gMem) :=
  some (.inl 2, M)
noncomputable def b_X11_checkGround_0 (M : gMem) (x0 : Nat) (x1 : Int32) : Option ((Nat ⊕ Unit) × gMem) :=
  (if x1 < 0 then b_X11_checkGround_15 M  else ck (mT M x0 = 10) <| dr ((mR M x0 1)) fun a2 => ck (mT M a2 = 7) <| (if x1 < (mI M a2 2) then some (.inr (), M) else b_X11_checkGround_15 M ))
noncomputable def f_X11_checkGround (M : gMem) (x0 : Nat) (x1 : Int32) : Option ((Nat ⊕ Unit) × gMem) :=
  b_X11_checkGround_0 M x0 x1
set_option maxHeartbeats 4000000 in
set_option maxRecDepth 100000 in
theorem t_X11_checkGround_15 (X2 : gX p s m args meth c D cy B (gSt2 Z B H0) RX11 cX11_checkGround wsX11_checkGround 2) (hr : meth.sig.returnType = none) (hlx : l.stackTraces = false) (hH : ∀ q : Nat, q < B → s.heap[q]? = H0[q]?) (hne : ∀ x ∈ c.exceptionTable.toList, False) (hH0 : H0.size = B) {Q : State → Prop} : ∀ (M : gMem)  (z : (Nat ⊕ Unit) × gMem), b_X11_checkGround_15 M  = some z → (fun (r : (Nat ⊕ Unit) × gMem) => Q = gMX below D cy B H0 args s 1 6 (gzV r.1) r.2) z → gGo p l e rX11_checkGround s m args below meth c D cy B H0 2 0 0 Q 15 [] [] M := by
  intro M  z hf hK
  unfold b_X11_checkGround_15 at hf
  have X := gX_w X2
  cases hf
  refine g_eqQ hK ?_
  exact g_throwS (text := "no such ground") X2 hlx hH hH0 hne (by decide) k_X11_checkGround_cl92 k_X11_checkGround_ini92 (by decide) k_X11_checkGround_hat96 kx_hxw96 kx_hg96_92 rfl dX11_checkGround_15 dX11_checkGround_18 dX11_checkGround_19 dX11_checkGround_21 dX11_checkGround_24 (Nat.le_of_ble_eq_true rfl) (Nat.le_of_ble_eq_true rfl) (by decide) (by decide) (by decide) (by decide)
set_option maxHeartbeats 4000000 in
set_option maxRecDepth 100000 in
theorem t_X11_checkGround_0 (X2 : gX p s m args meth c D cy B (gSt2 Z B H0) RX11 cX11_checkGround wsX11_checkGround 2) (hr : meth.sig.returnType = none) (hlx : l.stackTraces = false) (hH : ∀ q : Nat, q < B → s.heap[q]? = H0[q]?) (hne : ∀ x ∈ c.exceptionTable.toList, False) (hH0 : H0.size = B) {Q : State → Prop} : ∀ (M : gMem) (x0 : Nat) (x1 : Int32) (z : (Nat ⊕ Unit) × gMem), b_X11_checkGround_0 M x0 x1 = some z → (fun (r : (Nat ⊕ Unit) × gMem) => Q = gMX below D cy B H0 args s 1 6 (gzV r.1) r.2) z → gGo p l e rX11_checkGround s m args below meth c D cy B H0 2 0 0 Q 0 [(0, vR (some x0)), (1, vI x1)] [] M := by
  intro M x0 x1 z hf hK
  unfold b_X11_checkGround_0 at hf
  have X := gX_w X2
  refine g_iload_n X dX11_checkGround_0 rfl rfl ?_
  refine g_if_lt (tgt := 15) X dX11_checkGround_1 (by decide) (fun hc => ?_) (fun hc => ?_)
  · have hf := ife_t hc hf
    refine g_sub (lvsub_of _ _ [] rfl) ?_
    exact t_X11_checkGround_15 X2 hr hlx hH hne hH0 _  _ hf hK
  · have hf := ife_f hc hf
    refine g_iload_n X dX11_checkGround_4 rfl rfl ?_
    refine g_aload_n X dX11_checkGround_5 rfl rfl ?_
    obtain ⟨hT1, hf⟩ := ck_e hf
    refine g_get (ci := 9) (v := vR (mR M x0 1)) 1 X cdX11 i_X11_checkGround_X11 (by decide) k_X11_checkGround_f19 rfl dX11_checkGround_6 rfl hT1 rfl ?_
    obtain ⟨a2, ha2, hf⟩ := dr_e hf
    obtain ⟨hT3, hf⟩ := ck_e hf
    refine g_get (ci := 6) (v := vI (mI M a2 2)) 2 X cdX7 i_X11_checkGround_X7 (by decide) k_X11_checkGround_f68 rfl dX11_checkGround_9 ha2 hT3 rfl ?_
    refine g_icmp_lt (tgt := 25) X dX11_checkGround_12 (by decide) (fun hc => ?_) (fun hc => ?_)
    · have hf := ife_t hc hf
      cases hf
      refine g_eqQ hK ?_
      refine g_wide (k' := 1) (n' := 6) (by decide) (by decide) ?_
      refine g_xret ?_
      exact g_vret X hr dX11_checkGround_25
    · have hf := ife_f hc hf
      refine g_sub (lvsub_of _ _ [] rfl) ?_
      exact t_X11_checkGround_15 X2 hr hlx hH hne hH0 _  _ hf hK
set_option maxHeartbeats 4000000 in
set_option maxRecDepth 100000 in
theorem m_X11_checkGround (l : Launch) (hlx : l.stackTraces = false) {D : va_G} {cy : Nat → ClassId} {B : Nat} {H0 : Heap} {Z : Nat → Nat} {M M1 : gMem} {x0 : Nat} {x1 : Int32} {r : (Nat ⊕ Unit)} (hH0 : H0.size = B) (hf : f_X11_checkGround M x0 x1 = some (r, M1)) : vx_Met l yX11_checkGround wsX11_checkGround rX11_checkGround (va_Pc (Value.ref x0 :: List.map gv [vI x1]) (gPre D cy B H0 (gSt2 Z B H0) M)) (gQX D cy B H0 (gzV r) M1) (gXC D cy B H0 (gzV r) M1) 1 6 (gA B) := by
  refine vx_ofW (cc := cX11_checkGround) (maxL := 2) (ret := none) (by decide) rfl ?_
  intro p e s m args below meth c s₁ Bd hml hne hv
  obtain ⟨rfl, hW, hKK, hFs⟩ := hv
  have X2 : gX p s m _ meth c D cy B (gSt2 Z B H0) RX11 cX11_checkGround wsX11_checkGround 2 := ⟨Bd.exec, Bd.bytes, atoms_spec (ws := wsX11_checkGround) Bd.pre, findClass_of_methodNamed Bd.named, hml, hKK, by rw [hW.1]; exact hW.2.1, Bd.notSynchronized, hFs⟩
  have hr := Bd.returns
  have hH : ∀ q : Nat, q < B → s.heap[q]? = H0[q]? := hW.2.2.1
  have hl := lv_entry ([.ref x0, .int x1]) (n := 2) (Nat.le_of_ble_eq_true rfl)
  show W p l e rX11_checkGround s m _ below meth c s.heap [] 0 0 _ (entryFrame m ([.ref x0, .int x1] : List Value).toArray 2)
  rw [lg_entry_eq]
  generalize (lg_sl ([.ref x0, .int x1]) ++ List.replicate (2 - (lg_sl ([.ref x0, .int x1])).length) Slot.unset).toArray = ls at hl ⊢
  have hl : lv_has ls 2 (List.map gq [(0, vR (some x0)), (1, vI x1)]) := hl
  exact t_X11_checkGround_0 X2 hr hlx hH hne hH0 _ _ _ _ hf rfl s.heap [] ls hW va_S.rf (lv_has_sub hl (lvsub_of _ _ [0, 1] rfl))
/-! ## TideLots.checkFisher(I)V -/
theorem dX11_checkFisher_0 : decode cX11_checkFisher 0 = .ok (.iload_n 1, 1) := by decide +kernel
theorem dX11_checkFisher_1 : decode cX11_checkFisher 1 = .ok (.ifCond .lt 14, 3) := by decide +kernel
theorem dX11_checkFisher_4 : decode cX11_checkFisher 4 = .ok (.iload_n 1, 1) := by decide +kernel
theorem dX11_checkFisher_5 : decode cX11_checkFisher 5 = .ok (.aload_n 0, 1) := by decide +kernel
theorem dX11_checkFisher_6 : decode cX11_checkFisher 6 = .ok (.getfield 19, 3) := by decide +kernel
theorem dX11_checkFisher_9 : decode cX11_checkFisher 9 = .ok (.getfield 71, 3) := by decide +kernel
theorem dX11_checkFisher_12 : decode cX11_checkFisher 12 = .ok (.if_icmp .lt 13, 3) := by decide +kernel
theorem dX11_checkFisher_15 : decode cX11_checkFisher 15 = .ok (.new 92, 3) := by decide +kernel
theorem dX11_checkFisher_18 : decode cX11_checkFisher 18 = .ok (.dup, 1) := by decide +kernel
theorem dX11_checkFisher_19 : decode cX11_checkFisher 19 = .ok (.ldc 247, 2) := by decide +kernel
theorem dX11_checkFisher_21 : decode cX11_checkFisher 21 = .ok (.invokespecial 96, 3) := by decide +kernel
theorem dX11_checkFisher_24 : decode cX11_checkFisher 24 = .ok (.athrow, 1) := by decide +kernel
theorem dX11_checkFisher_25 : decode cX11_checkFisher 25 = .ok (.return_, 1) := by decide +kernel
theorem k_X11_checkFisher_hat96 : ∀ w ∈ (vx_atS RX11 96 "java/lang/IndexOutOfBoundsException" ["java/lang/RuntimeException", "java/lang/Exception"]).filter goodWord, w ∈ wsX11_checkFisher := by decide +kernel
theorem k_X11_checkFisher_cl92 : Cond.classLink RX11 92 "java/lang/IndexOutOfBoundsException" ∈ wsX11_checkFisher := by decide +kernel
theorem k_X11_checkFisher_ini92 : Cond.initialized "java/lang/IndexOutOfBoundsException" ∈ wsX11_checkFisher := by decide +kernel
theorem k_X11_checkFisher_f19 : Cond.fieldLink RX11 19 "TideLots" "shore" "LTideLots$Shore;" ∈ wsX11_checkFisher := by decide +kernel
theorem i_X11_checkFisher_X11 : ∀ w ∈ u_ws RX11 TX11 4, w ∈ wsX11_checkFisher := by decide +kernel
theorem k_X11_checkFisher_f71 : Cond.fieldLink RX11 71 "TideLots$Shore" "fisherCount" "I" ∈ wsX11_checkFisher := by decide +kernel
theorem i_X11_checkFisher_X7 : ∀ w ∈ u_ws RX7 TX7 17, w ∈ wsX11_checkFisher := by decide +kernel
abbrev rX11_checkFisher : Room := { frames := 6, cells := 1, slots := 6, locals := 82 }
noncomputable def b_X11_checkFisher_15 (M : gMem)  : Option ((Nat ⊕ Unit) × gMem) :=
  some (.inl 2, M)
noncomputable def b_X11_checkFisher_0 (M : gMem) (x0 : Nat) (x1 : Int32) : Option ((Nat ⊕ Unit) × gMem) :=
  (if x1 < 0 then b_X11_checkFisher_15 M  else ck (mT M x0 = 10) <| dr ((mR M x0 1)) fun a2 => ck (mT M a2 = 7) <| (if x1 < (mI M a2 3) then some (.inr (), M) else b_X11_checkFisher_15 M ))
noncomputable def f_X11_checkFisher (M : gMem) (x0 : Nat) (x1 : Int32) : Option ((Nat ⊕ Unit) × gMem) :=
  b_X11_checkFisher_0 M x0 x1
set_option maxHeartbeats 4000000 in
set_option maxRecDepth 100000 in
theorem t_X11_checkFisher_15 (X2 : gX p s m args meth c D cy B (gSt2 Z B H0) RX11 cX11_checkFisher wsX11_checkFisher 2) (hr : meth.sig.returnType = none) (hlx : l.stackTraces = false) (hH : ∀ q : Nat, q < B → s.heap[q]? = H0[q]?) (hne : ∀ x ∈ c.exceptionTable.toList, False) (hH0 : H0.size = B) {Q : State → Prop} : ∀ (M : gMem)  (z : (Nat ⊕ Unit) × gMem), b_X11_checkFisher_15 M  = some z → (fun (r : (Nat ⊕ Unit) × gMem) => Q = gMX below D cy B H0 args s 1 6 (gzV r.1) r.2) z → gGo p l e rX11_checkFisher s m args below meth c D cy B H0 2 0 0 Q 15 [] [] M := by
  intro M  z hf hK
  unfold b_X11_checkFisher_15 at hf
  have X := gX_w X2
  cases hf
  refine g_eqQ hK ?_
  exact g_throwS (text := "no such fisher") X2 hlx hH hH0 hne (by decide) k_X11_checkFisher_cl92 k_X11_checkFisher_ini92 (by decide) k_X11_checkFisher_hat96 kx_hxw96 kx_hg96_92 rfl dX11_checkFisher_15 dX11_checkFisher_18 dX11_checkFisher_19 dX11_checkFisher_21 dX11_checkFisher_24 (Nat.le_of_ble_eq_true rfl) (Nat.le_of_ble_eq_true rfl) (by decide) (by decide) (by decide) (by decide)
set_option maxHeartbeats 4000000 in
set_option maxRecDepth 100000 in
theorem t_X11_checkFisher_0 (X2 : gX p s m args meth c D cy B (gSt2 Z B H0) RX11 cX11_checkFisher wsX11_checkFisher 2) (hr : meth.sig.returnType = none) (hlx : l.stackTraces = false) (hH : ∀ q : Nat, q < B → s.heap[q]? = H0[q]?) (hne : ∀ x ∈ c.exceptionTable.toList, False) (hH0 : H0.size = B) {Q : State → Prop} : ∀ (M : gMem) (x0 : Nat) (x1 : Int32) (z : (Nat ⊕ Unit) × gMem), b_X11_checkFisher_0 M x0 x1 = some z → (fun (r : (Nat ⊕ Unit) × gMem) => Q = gMX below D cy B H0 args s 1 6 (gzV r.1) r.2) z → gGo p l e rX11_checkFisher s m args below meth c D cy B H0 2 0 0 Q 0 [(0, vR (some x0)), (1, vI x1)] [] M := by
  intro M x0 x1 z hf hK
  unfold b_X11_checkFisher_0 at hf
  have X := gX_w X2
  refine g_iload_n X dX11_checkFisher_0 rfl rfl ?_
  refine g_if_lt (tgt := 15) X dX11_checkFisher_1 (by decide) (fun hc => ?_) (fun hc => ?_)
  · have hf := ife_t hc hf
    refine g_sub (lvsub_of _ _ [] rfl) ?_
    exact t_X11_checkFisher_15 X2 hr hlx hH hne hH0 _  _ hf hK
  · have hf := ife_f hc hf
    refine g_iload_n X dX11_checkFisher_4 rfl rfl ?_
    refine g_aload_n X dX11_checkFisher_5 rfl rfl ?_
    obtain ⟨hT1, hf⟩ := ck_e hf
    refine g_get (ci := 9) (v := vR (mR M x0 1)) 1 X cdX11 i_X11_checkFisher_X11 (by decide) k_X11_checkFisher_f19 rfl dX11_checkFisher_6 rfl hT1 rfl ?_
    obtain ⟨a2, ha2, hf⟩ := dr_e hf
    obtain ⟨hT3, hf⟩ := ck_e hf
    refine g_get (ci := 6) (v := vI (mI M a2 3)) 3 X cdX7 i_X11_checkFisher_X7 (by decide) k_X11_checkFisher_f71 rfl dX11_checkFisher_9 ha2 hT3 rfl ?_
    refine g_icmp_lt (tgt := 25) X dX11_checkFisher_12 (by decide) (fun hc => ?_) (fun hc => ?_)
    · have hf := ife_t hc hf
      cases hf
      refine g_eqQ hK ?_
      refine g_wide (k' := 1) (n' := 6) (by decide) (by decide) ?_
      refine g_xret ?_
      exact g_vret X hr dX11_checkFisher_25
    · have hf := ife_f hc hf
      refine g_sub (lvsub_of _ _ [] rfl) ?_
      exact t_X11_checkFisher_15 X2 hr hlx hH hne hH0 _  _ hf hK
set_option maxHeartbeats 4000000 in
set_option maxRecDepth 100000 in
theorem m_X11_checkFisher (l : Launch) (hlx : l.stackTraces = false) {D : va_G} {cy : Nat → ClassId} {B : Nat} {H0 : Heap} {Z : Nat → Nat} {M M1 : gMem} {x0 : Nat} {x1 : Int32} {r : (Nat ⊕ Unit)} (hH0 : H0.size = B) (hf : f_X11_checkFisher M x0 x1 = some (r, M1)) : vx_Met l yX11_checkFisher wsX11_checkFisher rX11_checkFisher (va_Pc (Value.ref x0 :: List.map gv [vI x1]) (gPre D cy B H0 (gSt2 Z B H0) M)) (gQX D cy B H0 (gzV r) M1) (gXC D cy B H0 (gzV r) M1) 1 6 (gA B) := by
  refine vx_ofW (cc := cX11_checkFisher) (maxL := 2) (ret := none) (by decide) rfl ?_
  intro p e s m args below meth c s₁ Bd hml hne hv
  obtain ⟨rfl, hW, hKK, hFs⟩ := hv
  have X2 : gX p s m _ meth c D cy B (gSt2 Z B H0) RX11 cX11_checkFisher wsX11_checkFisher 2 := ⟨Bd.exec, Bd.bytes, atoms_spec (ws := wsX11_checkFisher) Bd.pre, findClass_of_methodNamed Bd.named, hml, hKK, by rw [hW.1]; exact hW.2.1, Bd.notSynchronized, hFs⟩
  have hr := Bd.returns
  have hH : ∀ q : Nat, q < B → s.heap[q]? = H0[q]? := hW.2.2.1
  have hl := lv_entry ([.ref x0, .int x1]) (n := 2) (Nat.le_of_ble_eq_true rfl)
  show W p l e rX11_checkFisher s m _ below meth c s.heap [] 0 0 _ (entryFrame m ([.ref x0, .int x1] : List Value).toArray 2)
  rw [lg_entry_eq]
  generalize (lg_sl ([.ref x0, .int x1]) ++ List.replicate (2 - (lg_sl ([.ref x0, .int x1])).length) Slot.unset).toArray = ls at hl ⊢
  have hl : lv_has ls 2 (List.map gq [(0, vR (some x0)), (1, vI x1)]) := hl
  exact t_X11_checkFisher_0 X2 hr hlx hH hne hH0 _ _ _ _ hf rfl s.heap [] ls hW va_S.rf (lv_has_sub hl (lvsub_of _ _ [0, 1] rfl))
/-! ## TideLots.checkTides(II)V -/
theorem dX11_checkTides_0 : decode cX11_checkTides 0 = .ok (.iload_n 0, 1) := by decide +kernel
theorem dX11_checkTides_1 : decode cX11_checkTides 1 = .ok (.iconst 1, 1) := by decide +kernel
theorem dX11_checkTides_2 : decode cX11_checkTides 2 = .ok (.if_icmp .lt 8, 3) := by decide +kernel
theorem dX11_checkTides_5 : decode cX11_checkTides 5 = .ok (.iload_n 0, 1) := by decide +kernel
theorem dX11_checkTides_6 : decode cX11_checkTides 6 = .ok (.iload_n 1, 1) := by decide +kernel
theorem dX11_checkTides_7 : decode cX11_checkTides 7 = .ok (.if_icmp .le 13, 3) := by decide +kernel
theorem dX11_checkTides_10 : decode cX11_checkTides 10 = .ok (.new 44, 3) := by decide +kernel
theorem dX11_checkTides_13 : decode cX11_checkTides 13 = .ok (.dup, 1) := by decide +kernel
theorem dX11_checkTides_14 : decode cX11_checkTides 14 = .ok (.ldc 249, 2) := by decide +kernel
theorem dX11_checkTides_16 : decode cX11_checkTides 16 = .ok (.invokespecial 48, 3) := by decide +kernel
theorem dX11_checkTides_19 : decode cX11_checkTides 19 = .ok (.athrow, 1) := by decide +kernel
theorem dX11_checkTides_20 : decode cX11_checkTides 20 = .ok (.return_, 1) := by decide +kernel
theorem k_X11_checkTides_hat48 : ∀ w ∈ (vx_atS RX11 48 "java/lang/IllegalArgumentException" ["java/lang/RuntimeException", "java/lang/Exception"]).filter goodWord, w ∈ wsX11_checkTides := by decide +kernel
theorem kx_hxw48 : ∀ w ∈ (vx_atS RX11 48 "java/lang/IllegalArgumentException" ["java/lang/RuntimeException", "java/lang/Exception"]).filter (fun w => !goodWord w), w ∈ gN2 ∧ w.onTables = true := by decide +kernel
theorem kx_hg48_44 : ∀ w ∈ Cond.classLink RX11 44 "java/lang/IllegalArgumentException" :: Cond.initialized "java/lang/IllegalArgumentException" :: (vx_atS RX11 48 "java/lang/IllegalArgumentException" ["java/lang/RuntimeException", "java/lang/Exception"]), vx_ot w = true := by decide +kernel
theorem k_X11_checkTides_cl44 : Cond.classLink RX11 44 "java/lang/IllegalArgumentException" ∈ wsX11_checkTides := by decide +kernel
theorem k_X11_checkTides_ini44 : Cond.initialized "java/lang/IllegalArgumentException" ∈ wsX11_checkTides := by decide +kernel
abbrev rX11_checkTides : Room := { frames := 6, cells := 1, slots := 6, locals := 82 }
noncomputable def b_X11_checkTides_10 (M : gMem)  : Option ((Nat ⊕ Unit) × gMem) :=
  some (.inl 1, M)
noncomputable def b_X11_checkTides_0 (M : gMem) (x0 : Int32) (x1 : Int32) : Option ((Nat ⊕ Unit) × gMem) :=
  (if x0 < (1 : Int32) then b_X11_checkTides_10 M  else (if x0 ≤ x1 then some (.inr (), M) else b_X11_checkTides_10 M ))
noncomputable def f_X11_checkTides (M : gMem) (x0 : Int32) (x1 : Int32) : Option ((Nat ⊕ Unit) × gMem) :=
  b_X11_checkTides_0 M x0 x1
set_option maxHeartbeats 4000000 in
set_option maxRecDepth 100000 in
theorem t_X11_checkTides_10 (X2 : gX p s m args meth c D cy B (gSt2 Z B H0) RX11 cX11_checkTides wsX11_checkTides 2) (hr : meth.sig.returnType = none) (hlx : l.stackTraces = false) (hH : ∀ q : Nat, q < B → s.heap[q]? = H0[q]?) (hne : ∀ x ∈ c.exceptionTable.toList, False) (hH0 : H0.size = B) {Q : State → Prop} : ∀ (M : gMem)  (z : (Nat ⊕ Unit) × gMem), b_X11_checkTides_10 M  = some z → (fun (r : (Nat ⊕ Unit) × gMem) => Q = gMX below D cy B H0 args s 1 6 (gzV r.1) r.2) z → gGo p l e rX11_checkTides s m args below meth c D cy B H0 2 0 0 Q 10 [] [] M := by
  intro M  z hf hK
  unfold b_X11_checkTides_10 at hf
  have X := gX_w X2
  cases hf
  refine g_eqQ hK ?_
  exact g_throwS (text := "too few or too many tides") X2 hlx hH hH0 hne (by decide) k_X11_checkTides_cl44 k_X11_checkTides_ini44 (by decide) k_X11_checkTides_hat48 kx_hxw48 kx_hg48_44 rfl dX11_checkTides_10 dX11_checkTides_13 dX11_checkTides_14 dX11_checkTides_16 dX11_checkTides_19 (Nat.le_of_ble_eq_true rfl) (Nat.le_of_ble_eq_true rfl) (by decide) (by decide) (by decide) (by decide)
set_option maxHeartbeats 4000000 in
set_option maxRecDepth 100000 in
theorem t_X11_checkTides_0 (X2 : gX p s m args meth c D cy B (gSt2 Z B H0) RX11 cX11_checkTides wsX11_checkTides 2) (hr : meth.sig.returnType = none) (hlx : l.stackTraces = false) (hH : ∀ q : Nat, q < B → s.heap[q]? = H0[q]?) (hne : ∀ x ∈ c.exceptionTable.toList, False) (hH0 : H0.size = B) {Q : State → Prop} : ∀ (M : gMem) (x0 : Int32) (x1 : Int32) (z : (Nat ⊕ Unit) × gMem), b_X11_checkTides_0 M x0 x1 = some z → (fun (r : (Nat ⊕ Unit) × gMem) => Q = gMX below D cy B H0 args s 1 6 (gzV r.1) r.2) z → gGo p l e rX11_checkTides s m args below meth c D cy B H0 2 0 0 Q 0 [(0, vI x0), (1, vI x1)] [] M := by
  intro M x0 x1 z hf hK
  unfold b_X11_checkTides_0 at hf
  have X := gX_w X2
  refine g_iload_n X dX11_checkTides_0 rfl rfl ?_
  refine g_iconst (v := (1 : Int32)) X dX11_checkTides_1 (by decide) ?_
  refine g_icmp_lt (tgt := 10) X dX11_checkTides_2 (by decide) (fun hc => ?_) (fun hc => ?_)
  · have hf := ife_t hc hf
    refine g_sub (lvsub_of _ _ [] rfl) ?_
    exact t_X11_checkTides_10 X2 hr hlx hH hne hH0 _  _ hf hK
  · have hf := ife_f hc hf
    refine g_iload_n X dX11_checkTides_5 rfl rfl ?_
    refine g_iload_n X dX11_checkTides_6 rfl rfl ?_
    refine g_icmp_le (tgt := 20) X dX11_checkTides_7 (by decide) (fun hc => ?_) (fun hc => ?_)
    · have hf := ife_t hc hf
      cases hf
      refine g_eqQ hK ?_
      refine g_wide (k' := 1) (n' := 6) (by decide) (by decide) ?_
      refine g_xret ?_
      exact g_vret X hr dX11_checkTides_20
    · have hf := ife_f hc hf
      refine g_sub (lvsub_of _ _ [] rfl) ?_
      exact t_X11_checkTides_10 X2 hr hlx hH hne hH0 _  _ hf hK
set_option maxHeartbeats 4000000 in
set_option maxRecDepth 100000 in
theorem m_X11_checkTides (l : Launch) (hlx : l.stackTraces = false) {D : va_G} {cy : Nat → ClassId} {B : Nat} {H0 : Heap} {Z : Nat → Nat} {M M1 : gMem} {x0 : Int32} {x1 : Int32} {r : (Nat ⊕ Unit)} (hH0 : H0.size = B) (hf : f_X11_checkTides M x0 x1 = some (r, M1)) : vx_Met l yX11_checkTides wsX11_checkTides rX11_checkTides (va_Pc (List.map gv [vI x0, vI x1]) (gPre D cy B H0 (gSt2 Z B H0) M)) (gQX D cy B H0 (gzV r) M1) (gXC D cy B H0 (gzV r) M1) 1 6 (gA B) := by
  refine vx_ofW (cc := cX11_checkTides) (maxL := 2) (ret := none) (by decide) rfl ?_
  intro p e s m args below meth c s₁ Bd hml hne hv
  obtain ⟨rfl, hW, hKK, hFs⟩ := hv
  have X2 : gX p s m _ meth c D cy B (gSt2 Z B H0) RX11 cX11_checkTides wsX11_checkTides 2 := ⟨Bd.exec, Bd.bytes, atoms_spec (ws := wsX11_checkTides) Bd.pre, findClass_of_methodNamed Bd.named, hml, hKK, by rw [hW.1]; exact hW.2.1, Bd.notSynchronized, hFs⟩
  have hr := Bd.returns
  have hH : ∀ q : Nat, q < B → s.heap[q]? = H0[q]? := hW.2.2.1
  have hl := lv_entry ([.int x0, .int x1]) (n := 2) (Nat.le_of_ble_eq_true rfl)
  show W p l e rX11_checkTides s m _ below meth c s.heap [] 0 0 _ (entryFrame m ([.int x0, .int x1] : List Value).toArray 2)
  rw [lg_entry_eq]
  generalize (lg_sl ([.int x0, .int x1]) ++ List.replicate (2 - (lg_sl ([.int x0, .int x1])).length) Slot.unset).toArray = ls at hl ⊢
  have hl : lv_has ls 2 (List.map gq [(0, vI x0), (1, vI x1)]) := hl
  exact t_X11_checkTides_0 X2 hr hlx hH hne hH0 _ _ _ _ hf rfl s.heap [] ls hW va_S.rf (lv_has_sub hl (lvsub_of _ _ [0, 1] rfl))
/-! ## TideLots.lookAhead()LTideLots$Shore; -/
theorem dX11_lookAhead_0 : decode cX11_lookAhead 0 = .ok (.aload_n 0, 1) := by decide +kernel
theorem dX11_lookAhead_1 : decode cX11_lookAhead 1 = .ok (.getfield 23, 3) := by decide +kernel
theorem dX11_lookAhead_4 : decode cX11_lookAhead 4 = .ok (.aload_n 0, 1) := by decide +kernel
theorem dX11_lookAhead_5 : decode cX11_lookAhead 5 = .ok (.getfield 19, 3) := by decide +kernel
theorem dX11_lookAhead_8 : decode cX11_lookAhead 8 = .ok (.invokevirtual 241, 3) := by decide +kernel
theorem dX11_lookAhead_11 : decode cX11_lookAhead 11 = .ok (.aload_n 0, 1) := by decide +kernel
theorem dX11_lookAhead_12 : decode cX11_lookAhead 12 = .ok (.getfield 23, 3) := by decide +kernel
theorem dX11_lookAhead_15 : decode cX11_lookAhead 15 = .ok (.areturn, 1) := by decide +kernel
set_option maxRecDepth 20000 in
theorem ggX11_lookAhead_X7_copyFrom : GoodIn wsX11_lookAhead wsX7_copyFrom := goodIn_r _ [7, 8, 9, 10, 11, 12, 13, 14, 15, 16, 17, 18, 19, 20, 21, 22, 23, 24, 25, 26, 27, 28, 29, 30, 31, 32, 33, 34, 35, 36, 37, 38, 39, 40, 41, 42, 43, 44, 45, 46, 47, 48, 49, 50, 51, 52, 53, 54, 55, 56, 57, 58, 59, 60, 61, 62, 63, 64, 65, 66, 67, 68, 69, 70, 71, 72, 73, 78, 79, 80, 81, 82, 83, 84, 85, 86, 87, 88, 89, 90, 91, 92, 93, 94, 95, 96, 97, 98, 99, 100, 101, 102, 103, 104, 105, 106, 107, 108, 109, 110, 111, 112, 113, 114, 115, 116, 117, 118, 119, 120, 121, 122, 123, 124, 125] (by decide +kernel) (by decide +kernel)
set_option maxRecDepth 20000 in
theorem gX11_lookAhead_X7_copyFrom : GoodIn wsX11_lookAhead (wsV RX11 241 RX7 yX7_copyFrom wsX7_copyFrom) := goodIn_app (goodIn_of _ (by decide +kernel)) ggX11_lookAhead_X7_copyFrom
theorem k_X11_lookAhead_f23 : Cond.fieldLink RX11 23 "TideLots" "other" "LTideLots$Shore;" ∈ wsX11_lookAhead := by decide +kernel
theorem i_X11_lookAhead_X11 : ∀ w ∈ u_ws RX11 TX11 4, w ∈ wsX11_lookAhead := by decide +kernel
theorem k_X11_lookAhead_f19 : Cond.fieldLink RX11 19 "TideLots" "shore" "LTideLots$Shore;" ∈ wsX11_lookAhead := by decide +kernel
abbrev rX11_lookAhead : Room := { frames := 2, cells := 0, slots := 0, locals := 44 }
noncomputable def b_X11_lookAhead_0 (Z : Nat → Nat) (M : gMem) (x0 : Nat) : Option (Option Nat × gMem) :=
  ck (mT M x0 = 10) <| dr ((mR M x0 2)) fun a3 => ck (mT M a3 = 7) <| bd (f_X7_copyFrom Z M a3 ((mR M x0 1))) fun _ M2 => ck (mT M2 x0 = 10) <| some ((mR M2 x0 2), M2)
noncomputable def f_X11_lookAhead (Z : Nat → Nat) (M : gMem) (x0 : Nat) : Option (Option Nat × gMem) :=
  b_X11_lookAhead_0 Z M x0
set_option maxHeartbeats 4000000 in
set_option maxRecDepth 100000 in
theorem t_X11_lookAhead_0 (X : gX p s m args meth c D cy B (gSt Z B H0) RX11 cX11_lookAhead wsX11_lookAhead 1) (hr : meth.sig.returnType = (some (.object "TideLots$Shore"))) {Q : State → Prop} : ∀ (M : gMem) (x0 : Nat) (z : Option Nat × gMem), b_X11_lookAhead_0 Z M x0 = some z → (fun (r : Option Nat × gMem) => Q = gMQ below D cy B H0 args s 0 0 (some (vR r.1)) r.2) z → gGo p l e rX11_lookAhead s m args below meth c D cy B H0 1 0 0 Q 0 [(0, vR (some x0))] [] M := by
  intro M x0 z hf hK
  unfold b_X11_lookAhead_0 at hf
  refine g_aload_n X dX11_lookAhead_0 rfl rfl ?_
  obtain ⟨hT1, hf⟩ := ck_e hf
  refine g_get (ci := 9) (v := vR (mR M x0 2)) 2 X cdX11 i_X11_lookAhead_X11 (by decide) k_X11_lookAhead_f23 rfl dX11_lookAhead_1 rfl hT1 rfl ?_
  refine g_aload_n X dX11_lookAhead_4 rfl rfl ?_
  refine g_get (ci := 9) (v := vR (mR M x0 1)) 1 X cdX11 i_X11_lookAhead_X11 (by decide) k_X11_lookAhead_f19 rfl dX11_lookAhead_5 rfl hT1 rfl ?_
  obtain ⟨a3, ha3, hf⟩ := dr_e hf
  obtain ⟨hT4, hf⟩ := ck_e hf
  obtain ⟨r2, M2, hq2, hf⟩ := bd_e hf
  refine g_callV (ci := 6) (b := a3) (As := [vR (mR M x0 1)]) (st := []) (v := none) (M1 := M2) X (m_X7_copyFrom l hq2) (cwV 1 X.2.2.1 gX11_lookAhead_X7_copyFrom rfl rfl rfl (by decide +kernel) ⟨Nat.le_of_ble_eq_true rfl, Nat.le_of_ble_eq_true rfl⟩) rfl rfl ha3 hT4 (by decide) rfl (Nat.le_of_ble_eq_true rfl) dX11_lookAhead_8 ⟨by decide, by decide⟩ ?_
  refine g_aload_n X dX11_lookAhead_11 rfl rfl ?_
  obtain ⟨hT5, hf⟩ := ck_e hf
  refine g_get (ci := 9) (v := vR (mR M2 x0 2)) 2 X cdX11 i_X11_lookAhead_X11 (by decide) k_X11_lookAhead_f23 rfl dX11_lookAhead_12 rfl hT5 rfl ?_
  cases hf
  refine g_eqQ hK ?_
  exact g_aret X hr (Or.inl ⟨_, rfl⟩) dX11_lookAhead_15
set_option maxHeartbeats 4000000 in
set_option maxRecDepth 100000 in
theorem m_X11_lookAhead (l : Launch) {D : va_G} {cy : Nat → ClassId} {B : Nat} {H0 : Heap} {Z : Nat → Nat} {M M1 : gMem} {x0 : Nat} {r : Option Nat} (hf : f_X11_lookAhead Z M x0 = some (r, M1)) : Met l yX11_lookAhead wsX11_lookAhead rX11_lookAhead (va_Pc (Value.ref x0 :: List.map gv []) (gPre D cy B H0 (gSt Z B H0) M)) (gQ D cy B H0 (some (vR r)) M1) 0 0 (gA B) := by
  refine Met.ofW (cc := cX11_lookAhead) (maxL := 1) (ret := (some (.object "TideLots$Shore"))) (by decide) rfl ?_
  intro p e s m args below meth c s₁ Bd hml hv
  obtain ⟨rfl, hW, hKK, hFs⟩ := hv
  have X : gX p s m _ meth c D cy B (gSt Z B H0) RX11 cX11_lookAhead wsX11_lookAhead 1 := ⟨Bd.exec, Bd.bytes, atoms_spec (ws := wsX11_lookAhead) Bd.pre, findClass_of_methodNamed Bd.named, hml, hKK, by rw [hW.1]; exact hW.2.1, Bd.notSynchronized, hFs⟩
  have hr := Bd.returns
  have hl := lv_entry ([.ref x0]) (n := 1) (Nat.le_of_ble_eq_true rfl)
  show W p l e rX11_lookAhead s m _ below meth c s.heap [] 0 0 _ (entryFrame m ([.ref x0] : List Value).toArray 1)
  rw [lg_entry_eq]
  generalize (lg_sl ([.ref x0]) ++ List.replicate (1 - (lg_sl ([.ref x0])).length) Slot.unset).toArray = ls at hl ⊢
  have hl : lv_has ls 1 (List.map gq [(0, vR (some x0))]) := hl
  exact t_X11_lookAhead_0 X hr _ _ _ hf rfl s.heap [] ls hW va_S.rf (lv_has_sub hl (lvsub_of _ _ [0] rfl))
/-! ## TideLots.gap()I -/
theorem dX11_gap_0 : decode cX11_gap 0 = .ok (.aload_n 0, 1) := by decide +kernel
theorem dX11_gap_1 : decode cX11_gap 1 = .ok (.getfield 19, 3) := by decide +kernel
theorem dX11_gap_4 : decode cX11_gap 4 = .ok (.invokevirtual 206, 3) := by decide +kernel
theorem dX11_gap_7 : decode cX11_gap 7 = .ok (.ireturn, 1) := by decide +kernel
set_option maxRecDepth 20000 in
theorem ggX11_gap_X7_storeGap : GoodIn wsX11_gap wsX7_storeGap := goodIn_r _ [6, 7, 8, 9, 10, 11, 12, 13, 14, 15, 16, 21, 22, 23, 24, 25, 26, 27, 28, 29, 30, 31, 32, 33, 34, 35, 36, 37, 38, 39, 40, 41, 42, 43, 44, 45, 46, 47, 48] (by decide +kernel) (by decide +kernel)
set_option maxRecDepth 20000 in
theorem gX11_gap_X7_storeGap : GoodIn wsX11_gap (wsV RX11 206 RX7 yX7_storeGap wsX7_storeGap) := goodIn_app (goodIn_of _ (by decide +kernel)) ggX11_gap_X7_storeGap
theorem k_X11_gap_f19 : Cond.fieldLink RX11 19 "TideLots" "shore" "LTideLots$Shore;" ∈ wsX11_gap := by decide +kernel
theorem i_X11_gap_X11 : ∀ w ∈ u_ws RX11 TX11 4, w ∈ wsX11_gap := by decide +kernel
abbrev rX11_gap : Room := { frames := 2, cells := 0, slots := 0, locals := 36 }
noncomputable def b_X11_gap_0 (M : gMem) (x0 : Nat) : Option (Int32 × gMem) :=
  ck (mT M x0 = 10) <| dr ((mR M x0 1)) fun a3 => ck (mT M a3 = 7) <| bd (f_X7_storeGap M a3) fun r2 M2 => some (r2, M2)
noncomputable def f_X11_gap (M : gMem) (x0 : Nat) : Option (Int32 × gMem) :=
  b_X11_gap_0 M x0
set_option maxHeartbeats 4000000 in
set_option maxRecDepth 100000 in
theorem t_X11_gap_0 (X : gX p s m args meth c D cy B (gSt Z B H0) RX11 cX11_gap wsX11_gap 1) (hr : meth.sig.returnType = (some .int)) {Q : State → Prop} : ∀ (M : gMem) (x0 : Nat) (z : Int32 × gMem), b_X11_gap_0 M x0 = some z → (fun (r : Int32 × gMem) => Q = gMQ below D cy B H0 args s 0 0 (some (vI r.1)) r.2) z → gGo p l e rX11_gap s m args below meth c D cy B H0 1 0 0 Q 0 [(0, vR (some x0))] [] M := by
  intro M x0 z hf hK
  unfold b_X11_gap_0 at hf
  refine g_aload_n X dX11_gap_0 rfl rfl ?_
  obtain ⟨hT1, hf⟩ := ck_e hf
  refine g_get (ci := 9) (v := vR (mR M x0 1)) 1 X cdX11 i_X11_gap_X11 (by decide) k_X11_gap_f19 rfl dX11_gap_1 rfl hT1 rfl ?_
  obtain ⟨a3, ha3, hf⟩ := dr_e hf
  obtain ⟨hT4, hf⟩ := ck_e hf
  obtain ⟨r2, M2, hq2, hf⟩ := bd_e hf
  refine g_callV (ci := 6) (b := a3) (As := []) (st := []) (v := some (vI r2)) (M1 := M2) X (m_X7_storeGap l hq2) (cwV 0 X.2.2.1 gX11_gap_X7_storeGap rfl rfl rfl (by decide +kernel) ⟨Nat.le_of_ble_eq_true rfl, Nat.le_of_ble_eq_true rfl⟩) rfl rfl ha3 hT4 (by decide) rfl (Nat.le_of_ble_eq_true rfl) dX11_gap_4 ⟨by decide, by decide⟩ ?_
  cases hf
  refine g_eqQ hK ?_
  exact g_iret X hr dX11_gap_7
set_option maxHeartbeats 4000000 in
set_option maxRecDepth 100000 in
theorem m_X11_gap (l : Launch) {D : va_G} {cy : Nat → ClassId} {B : Nat} {H0 : Heap} {Z : Nat → Nat} {M M1 : gMem} {x0 : Nat} {r : Int32} (hf : f_X11_gap M x0 = some (r, M1)) : Met l yX11_gap wsX11_gap rX11_gap (va_Pc (Value.ref x0 :: List.map gv []) (gPre D cy B H0 (gSt Z B H0) M)) (gQ D cy B H0 (some (vI r)) M1) 0 0 (gA B) := by
  refine Met.ofW (cc := cX11_gap) (maxL := 1) (ret := (some .int)) (by decide) rfl ?_
  intro p e s m args below meth c s₁ Bd hml hv
  obtain ⟨rfl, hW, hKK, hFs⟩ := hv
  have X : gX p s m _ meth c D cy B (gSt Z B H0) RX11 cX11_gap wsX11_gap 1 := ⟨Bd.exec, Bd.bytes, atoms_spec (ws := wsX11_gap) Bd.pre, findClass_of_methodNamed Bd.named, hml, hKK, by rw [hW.1]; exact hW.2.1, Bd.notSynchronized, hFs⟩
  have hr := Bd.returns
  have hl := lv_entry ([.ref x0]) (n := 1) (Nat.le_of_ble_eq_true rfl)
  show W p l e rX11_gap s m _ below meth c s.heap [] 0 0 _ (entryFrame m ([.ref x0] : List Value).toArray 1)
  rw [lg_entry_eq]
  generalize (lg_sl ([.ref x0]) ++ List.replicate (1 - (lg_sl ([.ref x0])).length) Slot.unset).toArray = ls at hl ⊢
  have hl : lv_has ls 1 (List.map gq [(0, vR (some x0))]) := hl
  exact t_X11_gap_0 X hr _ _ _ hf rfl s.heap [] ls hW va_S.rf (lv_has_sub hl (lvsub_of _ _ [0] rfl))
/-! ## TideLots.feed(IIIII)I -/
theorem dX11_feed_0 : decode cX11_feed 0 = .ok (.aload_n 0, 1) := by decide +kernel
theorem dX11_feed_1 : decode cX11_feed 1 = .ok (.getfield 10, 3) := by decide +kernel
theorem dX11_feed_4 : decode cX11_feed 4 = .ok (.getfield 30, 3) := by decide +kernel
theorem dX11_feed_7 : decode cX11_feed 7 = .ok (.bipush 20, 2) := by decide +kernel
theorem dX11_feed_9 : decode cX11_feed 9 = .ok (.iadd, 1) := by decide +kernel
theorem dX11_feed_10 : decode cX11_feed 10 = .ok (.sipush 2000, 3) := by decide +kernel
theorem dX11_feed_13 : decode cX11_feed 13 = .ok (.if_icmp .le 13, 3) := by decide +kernel
theorem dX11_feed_16 : decode cX11_feed 16 = .ok (.new 33, 3) := by decide +kernel
theorem dX11_feed_19 : decode cX11_feed 19 = .ok (.dup, 1) := by decide +kernel
theorem dX11_feed_20 : decode cX11_feed 20 = .ok (.ldc 35, 2) := by decide +kernel
theorem dX11_feed_22 : decode cX11_feed 22 = .ok (.invokespecial 37, 3) := by decide +kernel
theorem dX11_feed_25 : decode cX11_feed 25 = .ok (.athrow, 1) := by decide +kernel
theorem dX11_feed_26 : decode cX11_feed 26 = .ok (.aload_n 0, 1) := by decide +kernel
theorem dX11_feed_27 : decode cX11_feed 27 = .ok (.getfield 10, 3) := by decide +kernel
theorem dX11_feed_30 : decode cX11_feed 30 = .ok (.iload_n 1, 1) := by decide +kernel
theorem dX11_feed_31 : decode cX11_feed 31 = .ok (.invokevirtual 40, 3) := by decide +kernel
theorem dX11_feed_34 : decode cX11_feed 34 = .ok (.aload_n 0, 1) := by decide +kernel
theorem dX11_feed_35 : decode cX11_feed 35 = .ok (.getfield 10, 3) := by decide +kernel
theorem dX11_feed_38 : decode cX11_feed 38 = .ok (.iload_n 2, 1) := by decide +kernel
theorem dX11_feed_39 : decode cX11_feed 39 = .ok (.invokevirtual 40, 3) := by decide +kernel
theorem dX11_feed_42 : decode cX11_feed 42 = .ok (.aload_n 0, 1) := by decide +kernel
theorem dX11_feed_43 : decode cX11_feed 43 = .ok (.getfield 10, 3) := by decide +kernel
theorem dX11_feed_46 : decode cX11_feed 46 = .ok (.iload_n 3, 1) := by decide +kernel
theorem dX11_feed_47 : decode cX11_feed 47 = .ok (.invokevirtual 40, 3) := by decide +kernel
theorem dX11_feed_50 : decode cX11_feed 50 = .ok (.aload_n 0, 1) := by decide +kernel
theorem dX11_feed_51 : decode cX11_feed 51 = .ok (.getfield 10, 3) := by decide +kernel
theorem dX11_feed_54 : decode cX11_feed 54 = .ok (.iload 4, 2) := by decide +kernel
theorem dX11_feed_56 : decode cX11_feed 56 = .ok (.invokevirtual 40, 3) := by decide +kernel
theorem dX11_feed_59 : decode cX11_feed 59 = .ok (.aload_n 0, 1) := by decide +kernel
theorem dX11_feed_60 : decode cX11_feed 60 = .ok (.getfield 10, 3) := by decide +kernel
theorem dX11_feed_63 : decode cX11_feed 63 = .ok (.iload 5, 2) := by decide +kernel
theorem dX11_feed_65 : decode cX11_feed 65 = .ok (.invokevirtual 40, 3) := by decide +kernel
theorem dX11_feed_68 : decode cX11_feed 68 = .ok (.aload_n 0, 1) := by decide +kernel
theorem dX11_feed_69 : decode cX11_feed 69 = .ok (.getfield 10, 3) := by decide +kernel
theorem dX11_feed_72 : decode cX11_feed 72 = .ok (.getfield 30, 3) := by decide +kernel
theorem dX11_feed_75 : decode cX11_feed 75 = .ok (.ireturn, 1) := by decide +kernel
set_option maxRecDepth 20000 in
theorem ggX11_feed_X10_append : GoodIn wsX11_feed wsX10_append := goodIn_r _ [9, 10, 11, 16, 17, 18, 19, 20, 21] (by decide +kernel) (by decide +kernel)
set_option maxRecDepth 20000 in
theorem gX11_feed_X10_append : GoodIn wsX11_feed (wsV RX11 40 RX10 yX10_append wsX10_append) := goodIn_app (goodIn_of _ (by decide +kernel)) ggX11_feed_X10_append
theorem k_X11_feed_f10 : Cond.fieldLink RX11 10 "TideLots" "tape" "LTideLots$Tape;" ∈ wsX11_feed := by decide +kernel
theorem i_X11_feed_X11 : ∀ w ∈ u_ws RX11 TX11 4, w ∈ wsX11_feed := by decide +kernel
theorem k_X11_feed_f30 : Cond.fieldLink RX11 30 "TideLots$Tape" "length" "I" ∈ wsX11_feed := by decide +kernel
theorem i_X11_feed_X10 : ∀ w ∈ u_ws RX10 TX10 6, w ∈ wsX11_feed := by decide +kernel
theorem k_X11_feed_hat37 : ∀ w ∈ (vx_atS RX11 37 "java/lang/IllegalStateException" ["java/lang/RuntimeException", "java/lang/Exception"]).filter goodWord, w ∈ wsX11_feed := by decide +kernel
theorem kx_hxw37 : ∀ w ∈ (vx_atS RX11 37 "java/lang/IllegalStateException" ["java/lang/RuntimeException", "java/lang/Exception"]).filter (fun w => !goodWord w), w ∈ gN2 ∧ w.onTables = true := by decide +kernel
theorem kx_hg37_33 : ∀ w ∈ Cond.classLink RX11 33 "java/lang/IllegalStateException" :: Cond.initialized "java/lang/IllegalStateException" :: (vx_atS RX11 37 "java/lang/IllegalStateException" ["java/lang/RuntimeException", "java/lang/Exception"]), vx_ot w = true := by decide +kernel
theorem k_X11_feed_cl33 : Cond.classLink RX11 33 "java/lang/IllegalStateException" ∈ wsX11_feed := by decide +kernel
theorem k_X11_feed_ini33 : Cond.initialized "java/lang/IllegalStateException" ∈ wsX11_feed := by decide +kernel
abbrev rX11_feed : Room := { frames := 6, cells := 1, slots := 6, locals := 82 }
noncomputable def b_X11_feed_0 (M : gMem) (x0 : Nat) (x1 : Int32) (x2 : Int32) (x3 : Int32) (x4 : Int32) (x5 : Int32) : Option ((Nat ⊕ Int32) × gMem) :=
  ck (mT M x0 = 10) <| dr ((mR M x0 0)) fun a2 => ck (mT M a2 = 9) <| (if ((mI M a2 0) + (20 : Int32)) ≤ (2000 : Int32) then bd (f_X10_append M a2 x1) fun _ M4 => ck (mT M4 x0 = 10) <| dr ((mR M4 x0 0)) fun a7 => ck (mT M4 a7 = 9) <| bd (f_X10_append M4 a7 x2) fun _ M6 => ck (mT M6 x0 = 10) <| dr ((mR M6 x0 0)) fun a11 => ck (mT M6 a11 = 9) <| bd (f_X10_append M6 a11 x3) fun _ M10 => ck (mT M10 x0 = 10) <| dr ((mR M10 x0 0)) fun a15 => ck (mT M10 a15 = 9) <| bd (f_X10_append M10 a15 x4) fun _ M14 => ck (mT M14 x0 = 10) <| dr ((mR M14 x0 0)) fun a19 => ck (mT M14 a19 = 9) <| bd (f_X10_append M14 a19 x5) fun _ M18 => ck (mT M18 x0 = 10) <| dr ((mR M18 x0 0)) fun a22 => ck (mT M18 a22 = 9) <| some (.inr (mI M18 a22 0), M18) else some (.inl 0, M))
noncomputable def f_X11_feed (M : gMem) (x0 : Nat) (x1 : Int32) (x2 : Int32) (x3 : Int32) (x4 : Int32) (x5 : Int32) : Option ((Nat ⊕ Int32) × gMem) :=
  b_X11_feed_0 M x0 x1 x2 x3 x4 x5
set_option maxHeartbeats 4000000 in
set_option maxRecDepth 100000 in
theorem t_X11_feed_0 (X2 : gX p s m args meth c D cy B (gSt2 Z B H0) RX11 cX11_feed wsX11_feed 6) (hr : meth.sig.returnType = (some .int)) (hlx : l.stackTraces = false) (hH : ∀ q : Nat, q < B → s.heap[q]? = H0[q]?) (hne : ∀ x ∈ c.exceptionTable.toList, False) (hH0 : H0.size = B) {Q : State → Prop} : ∀ (M : gMem) (x0 : Nat) (x1 : Int32) (x2 : Int32) (x3 : Int32) (x4 : Int32) (x5 : Int32) (z : (Nat ⊕ Int32) × gMem), b_X11_feed_0 M x0 x1 x2 x3 x4 x5 = some z → (fun (r : (Nat ⊕ Int32) × gMem) => Q = gMX below D cy B H0 args s 1 6 (gzI r.1) r.2) z → gGo p l e rX11_feed s m args below meth c D cy B H0 6 0 0 Q 0 [(0, vR (some x0)), (1, vI x1), (2, vI x2), (3, vI x3), (4, vI x4), (5, vI x5)] [] M := by
  intro M x0 x1 x2 x3 x4 x5 z hf hK
  unfold b_X11_feed_0 at hf
  have X := gX_w X2
  refine g_aload_n X dX11_feed_0 rfl rfl ?_
  obtain ⟨hT1, hf⟩ := ck_e hf
  refine g_get (ci := 9) (v := vR (mR M x0 0)) 0 X cdX11 i_X11_feed_X11 (by decide) k_X11_feed_f10 rfl dX11_feed_1 rfl hT1 rfl ?_
  obtain ⟨a2, ha2, hf⟩ := dr_e hf
  obtain ⟨hT3, hf⟩ := ck_e hf
  refine g_get (ci := 8) (v := vI (mI M a2 0)) 0 X cdX10 i_X11_feed_X10 (by decide) k_X11_feed_f30 rfl dX11_feed_4 ha2 hT3 rfl ?_
  refine g_bipush (v := (20 : Int32)) X dX11_feed_7 (by decide) ?_
  refine g_iadd X dX11_feed_9 ?_
  refine g_sipush (v := (2000 : Int32)) X dX11_feed_10 (by decide) ?_
  refine g_icmp_le (tgt := 26) X dX11_feed_13 (by decide) (fun hc => ?_) (fun hc => ?_)
  · have hf := ife_t hc hf
    refine g_aload_n X dX11_feed_26 rfl rfl ?_
    refine g_get (ci := 9) (v := vR (mR M x0 0)) 0 X cdX11 i_X11_feed_X11 (by decide) k_X11_feed_f10 rfl dX11_feed_27 rfl hT1 rfl ?_
    refine g_iload_n X dX11_feed_30 rfl rfl ?_
    obtain ⟨r4, M4, hq4, hf⟩ := bd_e hf
    refine g_callV (ci := 8) (b := a2) (As := [vI x1]) (st := []) (v := none) (M1 := M4) X (m_X10_append l hq4) (cwV 1 X.2.2.1 gX11_feed_X10_append rfl rfl rfl (by decide +kernel) ⟨Nat.le_of_ble_eq_true rfl, Nat.le_of_ble_eq_true rfl⟩) rfl rfl ha2 hT3 (by decide) rfl (Nat.le_of_ble_eq_true rfl) dX11_feed_31 ⟨by decide, by decide⟩ ?_
    refine g_aload_n X dX11_feed_34 rfl rfl ?_
    obtain ⟨hT5, hf⟩ := ck_e hf
    refine g_get (ci := 9) (v := vR (mR M4 x0 0)) 0 X cdX11 i_X11_feed_X11 (by decide) k_X11_feed_f10 rfl dX11_feed_35 rfl hT5 rfl ?_
    refine g_iload_n X dX11_feed_38 rfl rfl ?_
    obtain ⟨a7, ha7, hf⟩ := dr_e hf
    obtain ⟨hT8, hf⟩ := ck_e hf
    obtain ⟨r6, M6, hq6, hf⟩ := bd_e hf
    refine g_callV (ci := 8) (b := a7) (As := [vI x2]) (st := []) (v := none) (M1 := M6) X (m_X10_append l hq6) (cwV 1 X.2.2.1 gX11_feed_X10_append rfl rfl rfl (by decide +kernel) ⟨Nat.le_of_ble_eq_true rfl, Nat.le_of_ble_eq_true rfl⟩) rfl rfl ha7 hT8 (by decide) rfl (Nat.le_of_ble_eq_true rfl) dX11_feed_39 ⟨by decide, by decide⟩ ?_
    refine g_aload_n X dX11_feed_42 rfl rfl ?_
    obtain ⟨hT9, hf⟩ := ck_e hf
    refine g_get (ci := 9) (v := vR (mR M6 x0 0)) 0 X cdX11 i_X11_feed_X11 (by decide) k_X11_feed_f10 rfl dX11_feed_43 rfl hT9 rfl ?_
    refine g_iload_n X dX11_feed_46 rfl rfl ?_
    obtain ⟨a11, ha11, hf⟩ := dr_e hf
    obtain ⟨hT12, hf⟩ := ck_e hf
    obtain ⟨r10, M10, hq10, hf⟩ := bd_e hf
    refine g_callV (ci := 8) (b := a11) (As := [vI x3]) (st := []) (v := none) (M1 := M10) X (m_X10_append l hq10) (cwV 1 X.2.2.1 gX11_feed_X10_append rfl rfl rfl (by decide +kernel) ⟨Nat.le_of_ble_eq_true rfl, Nat.le_of_ble_eq_true rfl⟩) rfl rfl ha11 hT12 (by decide) rfl (Nat.le_of_ble_eq_true rfl) dX11_feed_47 ⟨by decide, by decide⟩ ?_
    refine g_aload_n X dX11_feed_50 rfl rfl ?_
    obtain ⟨hT13, hf⟩ := ck_e hf
    refine g_get (ci := 9) (v := vR (mR M10 x0 0)) 0 X cdX11 i_X11_feed_X11 (by decide) k_X11_feed_f10 rfl dX11_feed_51 rfl hT13 rfl ?_
    refine g_iload X dX11_feed_54 rfl ?_
    obtain ⟨a15, ha15, hf⟩ := dr_e hf
    obtain ⟨hT16, hf⟩ := ck_e hf
    obtain ⟨r14, M14, hq14, hf⟩ := bd_e hf
    refine g_callV (ci := 8) (b := a15) (As := [vI x4]) (st := []) (v := none) (M1 := M14) X (m_X10_append l hq14) (cwV 1 X.2.2.1 gX11_feed_X10_append rfl rfl rfl (by decide +kernel) ⟨Nat.le_of_ble_eq_true rfl, Nat.le_of_ble_eq_true rfl⟩) rfl rfl ha15 hT16 (by decide) rfl (Nat.le_of_ble_eq_true rfl) dX11_feed_56 ⟨by decide, by decide⟩ ?_
    refine g_aload_n X dX11_feed_59 rfl rfl ?_
    obtain ⟨hT17, hf⟩ := ck_e hf
    refine g_get (ci := 9) (v := vR (mR M14 x0 0)) 0 X cdX11 i_X11_feed_X11 (by decide) k_X11_feed_f10 rfl dX11_feed_60 rfl hT17 rfl ?_
    refine g_iload X dX11_feed_63 rfl ?_
    obtain ⟨a19, ha19, hf⟩ := dr_e hf
    obtain ⟨hT20, hf⟩ := ck_e hf
    obtain ⟨r18, M18, hq18, hf⟩ := bd_e hf
    refine g_callV (ci := 8) (b := a19) (As := [vI x5]) (st := []) (v := none) (M1 := M18) X (m_X10_append l hq18) (cwV 1 X.2.2.1 gX11_feed_X10_append rfl rfl rfl (by decide +kernel) ⟨Nat.le_of_ble_eq_true rfl, Nat.le_of_ble_eq_true rfl⟩) rfl rfl ha19 hT20 (by decide) rfl (Nat.le_of_ble_eq_true rfl) dX11_feed_65 ⟨by decide, by decide⟩ ?_
    refine g_aload_n X dX11_feed_68 rfl rfl ?_
    obtain ⟨hT21, hf⟩ := ck_e hf
    refine g_get (ci := 9) (v := vR (mR M18 x0 0)) 0 X cdX11 i_X11_feed_X11 (by decide) k_X11_feed_f10 rfl dX11_feed_69 rfl hT21 rfl ?_
    obtain ⟨a22, ha22, hf⟩ := dr_e hf
    obtain ⟨hT23, hf⟩ := ck_e hf
    refine g_get (ci := 8) (v := vI (mI M18 a22 0)) 0 X cdX10 i_X11_feed_X10 (by decide) k_X11_feed_f30 rfl dX11_feed_72 ha22 hT23 rfl ?_
    cases hf
    refine g_eqQ hK ?_
    refine g_wide (k' := 1) (n' := 6) (by decide) (by decide) ?_
    refine g_xret ?_
    exact g_iret X hr dX11_feed_75
  · have hf := ife_f hc hf
    cases hf
    refine g_eqQ hK ?_
    exact g_throwS (text := "the tape is full") X2 hlx hH hH0 hne (by decide) k_X11_feed_cl33 k_X11_feed_ini33 (by decide) k_X11_feed_hat37 kx_hxw37 kx_hg37_33 rfl dX11_feed_16 dX11_feed_19 dX11_feed_20 dX11_feed_22 dX11_feed_25 (Nat.le_of_ble_eq_true rfl) (Nat.le_of_ble_eq_true rfl) (by decide) (by decide) (by decide) (by decide)
set_option maxHeartbeats 4000000 in
set_option maxRecDepth 100000 in
theorem m_X11_feed (l : Launch) (hlx : l.stackTraces = false) {D : va_G} {cy : Nat → ClassId} {B : Nat} {H0 : Heap} {Z : Nat → Nat} {M M1 : gMem} {x0 : Nat} {x1 : Int32} {x2 : Int32} {x3 : Int32} {x4 : Int32} {x5 : Int32} {r : (Nat ⊕ Int32)} (hH0 : H0.size = B) (hf : f_X11_feed M x0 x1 x2 x3 x4 x5 = some (r, M1)) : vx_Met l yX11_feed wsX11_feed rX11_feed (va_Pc (Value.ref x0 :: List.map gv [vI x1, vI x2, vI x3, vI x4, vI x5]) (gPre D cy B H0 (gSt2 Z B H0) M)) (gQX D cy B H0 (gzI r) M1) (gXC D cy B H0 (gzI r) M1) 1 6 (gA B) := by
  refine vx_ofW (cc := cX11_feed) (maxL := 6) (ret := (some .int)) (by decide) rfl ?_
  intro p e s m args below meth c s₁ Bd hml hne hv
  obtain ⟨rfl, hW, hKK, hFs⟩ := hv
  have X2 : gX p s m _ meth c D cy B (gSt2 Z B H0) RX11 cX11_feed wsX11_feed 6 := ⟨Bd.exec, Bd.bytes, atoms_spec (ws := wsX11_feed) Bd.pre, findClass_of_methodNamed Bd.named, hml, hKK, by rw [hW.1]; exact hW.2.1, Bd.notSynchronized, hFs⟩
  have hr := Bd.returns
  have hH : ∀ q : Nat, q < B → s.heap[q]? = H0[q]? := hW.2.2.1
  have hl := lv_entry ([.ref x0, .int x1, .int x2, .int x3, .int x4, .int x5]) (n := 6) (Nat.le_of_ble_eq_true rfl)
  show W p l e rX11_feed s m _ below meth c s.heap [] 0 0 _ (entryFrame m ([.ref x0, .int x1, .int x2, .int x3, .int x4, .int x5] : List Value).toArray 6)
  rw [lg_entry_eq]
  generalize (lg_sl ([.ref x0, .int x1, .int x2, .int x3, .int x4, .int x5]) ++ List.replicate (6 - (lg_sl ([.ref x0, .int x1, .int x2, .int x3, .int x4, .int x5])).length) Slot.unset).toArray = ls at hl ⊢
  have hl : lv_has ls 6 (List.map gq [(0, vR (some x0)), (1, vI x1), (2, vI x2), (3, vI x3), (4, vI x4), (5, vI x5)]) := hl
  exact t_X11_feed_0 X2 hr hlx hH hne hH0 _ _ _ _ _ _ _ _ hf rfl s.heap [] ls hW va_S.rf (lv_has_sub hl (lvsub_of _ _ [0, 1, 2, 3, 4, 5] rfl))
/-! ## TideLots.trim(I)I -/
theorem dX11_trim_0 : decode cX11_trim 0 = .ok (.iload_n 1, 1) := by decide +kernel
theorem dX11_trim_1 : decode cX11_trim 1 = .ok (.ifCond .lt 14, 3) := by decide +kernel
theorem dX11_trim_4 : decode cX11_trim 4 = .ok (.iload_n 1, 1) := by decide +kernel
theorem dX11_trim_5 : decode cX11_trim 5 = .ok (.aload_n 0, 1) := by decide +kernel
theorem dX11_trim_6 : decode cX11_trim 6 = .ok (.getfield 10, 3) := by decide +kernel
theorem dX11_trim_9 : decode cX11_trim 9 = .ok (.getfield 30, 3) := by decide +kernel
theorem dX11_trim_12 : decode cX11_trim 12 = .ok (.if_icmp .le 13, 3) := by decide +kernel
theorem dX11_trim_15 : decode cX11_trim 15 = .ok (.new 44, 3) := by decide +kernel
theorem dX11_trim_18 : decode cX11_trim 18 = .ok (.dup, 1) := by decide +kernel
theorem dX11_trim_19 : decode cX11_trim 19 = .ok (.ldc 46, 2) := by decide +kernel
theorem dX11_trim_21 : decode cX11_trim 21 = .ok (.invokespecial 48, 3) := by decide +kernel
theorem dX11_trim_24 : decode cX11_trim 24 = .ok (.athrow, 1) := by decide +kernel
theorem dX11_trim_25 : decode cX11_trim 25 = .ok (.aload_n 0, 1) := by decide +kernel
theorem dX11_trim_26 : decode cX11_trim 26 = .ok (.getfield 10, 3) := by decide +kernel
theorem dX11_trim_29 : decode cX11_trim 29 = .ok (.iload_n 1, 1) := by decide +kernel
theorem dX11_trim_30 : decode cX11_trim 30 = .ok (.putfield 30, 3) := by decide +kernel
theorem dX11_trim_33 : decode cX11_trim 33 = .ok (.iload_n 1, 1) := by decide +kernel
theorem dX11_trim_34 : decode cX11_trim 34 = .ok (.ireturn, 1) := by decide +kernel
theorem k_X11_trim_hat48 : ∀ w ∈ (vx_atS RX11 48 "java/lang/IllegalArgumentException" ["java/lang/RuntimeException", "java/lang/Exception"]).filter goodWord, w ∈ wsX11_trim := by decide +kernel
theorem k_X11_trim_cl44 : Cond.classLink RX11 44 "java/lang/IllegalArgumentException" ∈ wsX11_trim := by decide +kernel
theorem k_X11_trim_ini44 : Cond.initialized "java/lang/IllegalArgumentException" ∈ wsX11_trim := by decide +kernel
theorem k_X11_trim_f10 : Cond.fieldLink RX11 10 "TideLots" "tape" "LTideLots$Tape;" ∈ wsX11_trim := by decide +kernel
theorem i_X11_trim_X11 : ∀ w ∈ u_ws RX11 TX11 4, w ∈ wsX11_trim := by decide +kernel
theorem k_X11_trim_f30 : Cond.fieldLink RX11 30 "TideLots$Tape" "length" "I" ∈ wsX11_trim := by decide +kernel
theorem i_X11_trim_X10 : ∀ w ∈ u_ws RX10 TX10 6, w ∈ wsX11_trim := by decide +kernel
abbrev rX11_trim : Room := { frames := 6, cells := 1, slots := 6, locals := 82 }
noncomputable def b_X11_trim_15 (M : gMem)  : Option ((Nat ⊕ Int32) × gMem) :=
  some (.inl 1, M)
noncomputable def b_X11_trim_0 (M : gMem) (x0 : Nat) (x1 : Int32) : Option ((Nat ⊕ Int32) × gMem) :=
  (if x1 < 0 then b_X11_trim_15 M  else ck (mT M x0 = 10) <| dr ((mR M x0 0)) fun a2 => ck (mT M a2 = 9) <| (if x1 ≤ (mI M a2 0) then lw (wI M a2 0 x1) fun M4 => some (.inr x1, M4) else b_X11_trim_15 M ))
noncomputable def f_X11_trim (M : gMem) (x0 : Nat) (x1 : Int32) : Option ((Nat ⊕ Int32) × gMem) :=
  b_X11_trim_0 M x0 x1
set_option maxHeartbeats 4000000 in
set_option maxRecDepth 100000 in
theorem t_X11_trim_15 (X2 : gX p s m args meth c D cy B (gSt2 Z B H0) RX11 cX11_trim wsX11_trim 2) (hr : meth.sig.returnType = (some .int)) (hlx : l.stackTraces = false) (hH : ∀ q : Nat, q < B → s.heap[q]? = H0[q]?) (hne : ∀ x ∈ c.exceptionTable.toList, False) (hH0 : H0.size = B) {Q : State → Prop} : ∀ (M : gMem)  (z : (Nat ⊕ Int32) × gMem), b_X11_trim_15 M  = some z → (fun (r : (Nat ⊕ Int32) × gMem) => Q = gMX below D cy B H0 args s 1 6 (gzI r.1) r.2) z → gGo p l e rX11_trim s m args below meth c D cy B H0 2 0 0 Q 15 [] [] M := by
  intro M  z hf hK
  unfold b_X11_trim_15 at hf
  have X := gX_w X2
  cases hf
  refine g_eqQ hK ?_
  exact g_throwS (text := "the tape is not as long") X2 hlx hH hH0 hne (by decide) k_X11_trim_cl44 k_X11_trim_ini44 (by decide) k_X11_trim_hat48 kx_hxw48 kx_hg48_44 rfl dX11_trim_15 dX11_trim_18 dX11_trim_19 dX11_trim_21 dX11_trim_24 (Nat.le_of_ble_eq_true rfl) (Nat.le_of_ble_eq_true rfl) (by decide) (by decide) (by decide) (by decide)
set_option maxHeartbeats 4000000 in
set_option maxRecDepth 100000 in
theorem t_X11_trim_0 (X2 : gX p s m args meth c D cy B (gSt2 Z B H0) RX11 cX11_trim wsX11_trim 2) (hr : meth.sig.returnType = (some .int)) (hlx : l.stackTraces = false) (hH : ∀ q : Nat, q < B → s.heap[q]? = H0[q]?) (hne : ∀ x ∈ c.exceptionTable.toList, False) (hH0 : H0.size = B) {Q : State → Prop} : ∀ (M : gMem) (x0 : Nat) (x1 : Int32) (z : (Nat ⊕ Int32) × gMem), b_X11_trim_0 M x0 x1 = some z → (fun (r : (Nat ⊕ Int32) × gMem) => Q = gMX below D cy B H0 args s 1 6 (gzI r.1) r.2) z → gGo p l e rX11_trim s m args below meth c D cy B H0 2 0 0 Q 0 [(0, vR (some x0)), (1, vI x1)] [] M := by
  intro M x0 x1 z hf hK
  unfold b_X11_trim_0 at hf
  have X := gX_w X2
  refine g_iload_n X dX11_trim_0 rfl rfl ?_
  refine g_if_lt (tgt := 15) X dX11_trim_1 (by decide) (fun hc => ?_) (fun hc => ?_)
  · have hf := ife_t hc hf
    refine g_sub (lvsub_of _ _ [] rfl) ?_
    exact t_X11_trim_15 X2 hr hlx hH hne hH0 _  _ hf hK
  · have hf := ife_f hc hf
    refine g_iload_n X dX11_trim_4 rfl rfl ?_
    refine g_aload_n X dX11_trim_5 rfl rfl ?_
    obtain ⟨hT1, hf⟩ := ck_e hf
    refine g_get (ci := 9) (v := vR (mR M x0 0)) 0 X cdX11 i_X11_trim_X11 (by decide) k_X11_trim_f10 rfl dX11_trim_6 rfl hT1 rfl ?_
    obtain ⟨a2, ha2, hf⟩ := dr_e hf
    obtain ⟨hT3, hf⟩ := ck_e hf
    refine g_get (ci := 8) (v := vI (mI M a2 0)) 0 X cdX10 i_X11_trim_X10 (by decide) k_X11_trim_f30 rfl dX11_trim_9 ha2 hT3 rfl ?_
    refine g_icmp_le (tgt := 25) X dX11_trim_12 (by decide) (fun hc => ?_) (fun hc => ?_)
    · have hf := ife_t hc hf
      refine g_aload_n X dX11_trim_25 rfl rfl ?_
      refine g_get (ci := 9) (v := vR (mR M x0 0)) 0 X cdX11 i_X11_trim_X11 (by decide) k_X11_trim_f10 rfl dX11_trim_26 rfl hT1 rfl ?_
      refine g_iload_n X dX11_trim_29 rfl rfl ?_
      refine g_putI (ci := 8) 0 X cdX10 i_X11_trim_X10 (by decide) k_X11_trim_f30 rfl dX11_trim_30 ha2 hT3 (Or.inl rfl) rfl rfl rfl ?_
      obtain ⟨M4, hM4, hf⟩ := lw_e hf
      rw [← hM4]
      have hT5 : mT M4 x0 = 10 := by rw [hM4]; exact hT1
      have hT6 : mT M4 a2 = 9 := by rw [hM4]; exact hT3
      refine g_iload_n X dX11_trim_33 rfl rfl ?_
      cases hf
      refine g_eqQ hK ?_
      refine g_wide (k' := 1) (n' := 6) (by decide) (by decide) ?_
      refine g_xret ?_
      exact g_iret X hr dX11_trim_34
    · have hf := ife_f hc hf
      refine g_sub (lvsub_of _ _ [] rfl) ?_
      exact t_X11_trim_15 X2 hr hlx hH hne hH0 _  _ hf hK
set_option maxHeartbeats 4000000 in
set_option maxRecDepth 100000 in
theorem m_X11_trim (l : Launch) (hlx : l.stackTraces = false) {D : va_G} {cy : Nat → ClassId} {B : Nat} {H0 : Heap} {Z : Nat → Nat} {M M1 : gMem} {x0 : Nat} {x1 : Int32} {r : (Nat ⊕ Int32)} (hH0 : H0.size = B) (hf : f_X11_trim M x0 x1 = some (r, M1)) : vx_Met l yX11_trim wsX11_trim rX11_trim (va_Pc (Value.ref x0 :: List.map gv [vI x1]) (gPre D cy B H0 (gSt2 Z B H0) M)) (gQX D cy B H0 (gzI r) M1) (gXC D cy B H0 (gzI r) M1) 1 6 (gA B) := by
  refine vx_ofW (cc := cX11_trim) (maxL := 2) (ret := (some .int)) (by decide) rfl ?_
  intro p e s m args below meth c s₁ Bd hml hne hv
  obtain ⟨rfl, hW, hKK, hFs⟩ := hv
  have X2 : gX p s m _ meth c D cy B (gSt2 Z B H0) RX11 cX11_trim wsX11_trim 2 := ⟨Bd.exec, Bd.bytes, atoms_spec (ws := wsX11_trim) Bd.pre, findClass_of_methodNamed Bd.named, hml, hKK, by rw [hW.1]; exact hW.2.1, Bd.notSynchronized, hFs⟩
  have hr := Bd.returns
  have hH : ∀ q : Nat, q < B → s.heap[q]? = H0[q]? := hW.2.2.1
  have hl := lv_entry ([.ref x0, .int x1]) (n := 2) (Nat.le_of_ble_eq_true rfl)
  show W p l e rX11_trim s m _ below meth c s.heap [] 0 0 _ (entryFrame m ([.ref x0, .int x1] : List Value).toArray 2)
  rw [lg_entry_eq]
  generalize (lg_sl ([.ref x0, .int x1]) ++ List.replicate (2 - (lg_sl ([.ref x0, .int x1])).length) Slot.unset).toArray = ls at hl ⊢
  have hl : lv_has ls 2 (List.map gq [(0, vR (some x0)), (1, vI x1)]) := hl
  exact t_X11_trim_0 X2 hr hlx hH hne hH0 _ _ _ _ hf rfl s.heap [] ls hW va_S.rf (lv_has_sub hl (lvsub_of _ _ [0, 1] rfl))
/-! ## TideLots.count(I)I -/
theorem dX11_count_0 : decode cX11_count 0 = .ok (.iload_n 1, 1) := by decide +kernel
theorem dX11_count_1 : decode cX11_count 1 = .ok (.tableswitch 135 0 9 #[55, 63, 71, 79, 87, 95, 103, 111, 119, 127], 55) := by decide +kernel
theorem dX11_count_56 : decode cX11_count 56 = .ok (.aload_n 0, 1) := by decide +kernel
theorem dX11_count_57 : decode cX11_count 57 = .ok (.getfield 19, 3) := by decide +kernel
theorem dX11_count_60 : decode cX11_count 60 = .ok (.getfield 62, 3) := by decide +kernel
theorem dX11_count_63 : decode cX11_count 63 = .ok (.ireturn, 1) := by decide +kernel
theorem dX11_count_64 : decode cX11_count 64 = .ok (.aload_n 0, 1) := by decide +kernel
theorem dX11_count_65 : decode cX11_count 65 = .ok (.getfield 19, 3) := by decide +kernel
theorem dX11_count_68 : decode cX11_count 68 = .ok (.getfield 68, 3) := by decide +kernel
theorem dX11_count_71 : decode cX11_count 71 = .ok (.ireturn, 1) := by decide +kernel
theorem dX11_count_72 : decode cX11_count 72 = .ok (.aload_n 0, 1) := by decide +kernel
theorem dX11_count_73 : decode cX11_count 73 = .ok (.getfield 19, 3) := by decide +kernel
theorem dX11_count_76 : decode cX11_count 76 = .ok (.getfield 71, 3) := by decide +kernel
theorem dX11_count_79 : decode cX11_count 79 = .ok (.ireturn, 1) := by decide +kernel
theorem dX11_count_80 : decode cX11_count 80 = .ok (.aload_n 0, 1) := by decide +kernel
theorem dX11_count_81 : decode cX11_count 81 = .ok (.getfield 19, 3) := by decide +kernel
theorem dX11_count_84 : decode cX11_count 84 = .ok (.getfield 74, 3) := by decide +kernel
theorem dX11_count_87 : decode cX11_count 87 = .ok (.ireturn, 1) := by decide +kernel
theorem dX11_count_88 : decode cX11_count 88 = .ok (.aload_n 0, 1) := by decide +kernel
theorem dX11_count_89 : decode cX11_count 89 = .ok (.getfield 19, 3) := by decide +kernel
theorem dX11_count_92 : decode cX11_count 92 = .ok (.getfield 77, 3) := by decide +kernel
theorem dX11_count_95 : decode cX11_count 95 = .ok (.ireturn, 1) := by decide +kernel
theorem dX11_count_96 : decode cX11_count 96 = .ok (.aload_n 0, 1) := by decide +kernel
theorem dX11_count_97 : decode cX11_count 97 = .ok (.getfield 19, 3) := by decide +kernel
theorem dX11_count_100 : decode cX11_count 100 = .ok (.invokevirtual 80, 3) := by decide +kernel
theorem dX11_count_103 : decode cX11_count 103 = .ok (.ireturn, 1) := by decide +kernel
theorem dX11_count_104 : decode cX11_count 104 = .ok (.aload_n 0, 1) := by decide +kernel
theorem dX11_count_105 : decode cX11_count 105 = .ok (.getfield 19, 3) := by decide +kernel
theorem dX11_count_108 : decode cX11_count 108 = .ok (.invokevirtual 83, 3) := by decide +kernel
theorem dX11_count_111 : decode cX11_count 111 = .ok (.ireturn, 1) := by decide +kernel
theorem dX11_count_112 : decode cX11_count 112 = .ok (.aload_n 0, 1) := by decide +kernel
theorem dX11_count_113 : decode cX11_count 113 = .ok (.getfield 19, 3) := by decide +kernel
theorem dX11_count_116 : decode cX11_count 116 = .ok (.invokevirtual 86, 3) := by decide +kernel
theorem dX11_count_119 : decode cX11_count 119 = .ok (.ireturn, 1) := by decide +kernel
theorem dX11_count_120 : decode cX11_count 120 = .ok (.aload_n 0, 1) := by decide +kernel
theorem dX11_count_121 : decode cX11_count 121 = .ok (.getfield 19, 3) := by decide +kernel
theorem dX11_count_124 : decode cX11_count 124 = .ok (.invokevirtual 89, 3) := by decide +kernel
theorem dX11_count_127 : decode cX11_count 127 = .ok (.ireturn, 1) := by decide +kernel
theorem dX11_count_128 : decode cX11_count 128 = .ok (.aload_n 0, 1) := by decide +kernel
theorem dX11_count_129 : decode cX11_count 129 = .ok (.getfield 10, 3) := by decide +kernel
theorem dX11_count_132 : decode cX11_count 132 = .ok (.getfield 30, 3) := by decide +kernel
theorem dX11_count_135 : decode cX11_count 135 = .ok (.ireturn, 1) := by decide +kernel
theorem dX11_count_136 : decode cX11_count 136 = .ok (.new 92, 3) := by decide +kernel
theorem dX11_count_139 : decode cX11_count 139 = .ok (.dup, 1) := by decide +kernel
theorem dX11_count_140 : decode cX11_count 140 = .ok (.ldc 94, 2) := by decide +kernel
theorem dX11_count_142 : decode cX11_count 142 = .ok (.invokespecial 96, 3) := by decide +kernel
theorem dX11_count_145 : decode cX11_count 145 = .ok (.athrow, 1) := by decide +kernel
set_option maxRecDepth 20000 in
theorem ggX11_count_X7_allFish : GoodIn wsX11_count wsX7_allFish := goodIn_r _ [15, 16, 17, 18, 19, 20, 21, 22, 23, 46, 47, 48, 49, 50, 51, 52, 53, 54, 55, 56, 57, 58, 59, 60, 61, 62, 69, 70, 71, 72] (by decide +kernel) (by decide +kernel)
set_option maxRecDepth 20000 in
theorem gX11_count_X7_allFish : GoodIn wsX11_count (wsV RX11 80 RX7 yX7_allFish wsX7_allFish) := goodIn_app (goodIn_of _ (by decide +kernel)) ggX11_count_X7_allFish
set_option maxRecDepth 20000 in
theorem ggX11_count_X7_allStores : GoodIn wsX11_count wsX7_allStores := goodIn_r _ [27, 28, 29, 30, 46, 47, 48, 49, 50, 51, 52, 53, 54, 55, 56, 57, 58, 59, 60, 61, 62, 73, 74, 75, 76, 77, 78, 79, 80, 81, 82, 83] (by decide +kernel) (by decide +kernel)
set_option maxRecDepth 20000 in
theorem gX11_count_X7_allStores : GoodIn wsX11_count (wsV RX11 83 RX7 yX7_allStores wsX7_allStores) := goodIn_app (goodIn_of _ (by decide +kernel)) ggX11_count_X7_allStores
set_option maxRecDepth 20000 in
theorem ggX11_count_X7_widenedNets : GoodIn wsX11_count wsX7_widenedNets := goodIn_r _ [34, 28, 29, 35, 36, 46, 47, 48, 49, 50, 51, 52, 53, 54, 55, 56, 57, 58, 59, 60, 61, 62, 73, 74, 75, 76, 77, 78, 79, 80, 81, 82, 83] (by decide +kernel) (by decide +kernel)
set_option maxRecDepth 20000 in
theorem gX11_count_X7_widenedNets : GoodIn wsX11_count (wsV RX11 86 RX7 yX7_widenedNets wsX7_widenedNets) := goodIn_app (goodIn_of _ (by decide +kernel)) ggX11_count_X7_widenedNets
set_option maxRecDepth 20000 in
theorem ggX11_count_X7_allCheats : GoodIn wsX11_count wsX7_allCheats := goodIn_r _ [40, 28, 29, 41, 46, 47, 48, 49, 50, 51, 52, 53, 54, 55, 56, 57, 58, 59, 60, 61, 62, 73, 74, 75, 76, 77, 78, 79, 80, 81, 82, 83] (by decide +kernel) (by decide +kernel)
set_option maxRecDepth 20000 in
theorem gX11_count_X7_allCheats : GoodIn wsX11_count (wsV RX11 89 RX7 yX7_allCheats wsX7_allCheats) := goodIn_app (goodIn_of _ (by decide +kernel)) ggX11_count_X7_allCheats
theorem k_X11_count_f19 : Cond.fieldLink RX11 19 "TideLots" "shore" "LTideLots$Shore;" ∈ wsX11_count := by decide +kernel
theorem i_X11_count_X11 : ∀ w ∈ u_ws RX11 TX11 4, w ∈ wsX11_count := by decide +kernel
theorem k_X11_count_f62 : Cond.fieldLink RX11 62 "TideLots$Shore" "tide" "I" ∈ wsX11_count := by decide +kernel
theorem i_X11_count_X7 : ∀ w ∈ u_ws RX7 TX7 17, w ∈ wsX11_count := by decide +kernel
theorem k_X11_count_f68 : Cond.fieldLink RX11 68 "TideLots$Shore" "groundCount" "I" ∈ wsX11_count := by decide +kernel
theorem k_X11_count_f71 : Cond.fieldLink RX11 71 "TideLots$Shore" "fisherCount" "I" ∈ wsX11_count := by decide +kernel
theorem k_X11_count_f74 : Cond.fieldLink RX11 74 "TideLots$Shore" "goCount" "I" ∈ wsX11_count := by decide +kernel
theorem k_X11_count_f77 : Cond.fieldLink RX11 77 "TideLots$Shore" "pactCount" "I" ∈ wsX11_count := by decide +kernel
theorem k_X11_count_f10 : Cond.fieldLink RX11 10 "TideLots" "tape" "LTideLots$Tape;" ∈ wsX11_count := by decide +kernel
theorem k_X11_count_f30 : Cond.fieldLink RX11 30 "TideLots$Tape" "length" "I" ∈ wsX11_count := by decide +kernel
theorem i_X11_count_X10 : ∀ w ∈ u_ws RX10 TX10 6, w ∈ wsX11_count := by decide +kernel
theorem k_X11_count_hat96 : ∀ w ∈ (vx_atS RX11 96 "java/lang/IndexOutOfBoundsException" ["java/lang/RuntimeException", "java/lang/Exception"]).filter goodWord, w ∈ wsX11_count := by decide +kernel
theorem k_X11_count_cl92 : Cond.classLink RX11 92 "java/lang/IndexOutOfBoundsException" ∈ wsX11_count := by decide +kernel
theorem k_X11_count_ini92 : Cond.initialized "java/lang/IndexOutOfBoundsException" ∈ wsX11_count := by decide +kernel
abbrev rX11_count : Room := { frames := 6, cells := 1, slots := 6, locals := 82 }
noncomputable def b_X11_count_0 (M : gMem) (x0 : Nat) (x1 : Int32) : Option ((Nat ⊕ Int32) × gMem) :=
  (if x1 = (0 : Int32) then ck (mT M x0 = 10) <| dr ((mR M x0 1)) fun a3 => ck (mT M a3 = 7) <| some (.inr (mI M a3 0), M) else (if x1 = (1 : Int32) then ck (mT M x0 = 10) <| dr ((mR M x0 1)) fun a7 => ck (mT M a7 = 7) <| some (.inr (mI M a7 2), M) else (if x1 = (2 : Int32) then ck (mT M x0 = 10) <| dr ((mR M x0 1)) fun a11 => ck (mT M a11 = 7) <| some (.inr (mI M a11 3), M) else (if x1 = (3 : Int32) then ck (mT M x0 = 10) <| dr ((mR M x0 1)) fun a15 => ck (mT M a15 = 7) <| some (.inr (mI M a15 4), M) else (if x1 = (4 : Int32) then ck (mT M x0 = 10) <| dr ((mR M x0 1)) fun a19 => ck (mT M a19 = 7) <| some (.inr (mI M a19 5), M) else (if x1 = (5 : Int32) then ck (mT M x0 = 10) <| dr ((mR M x0 1)) fun a24 => ck (mT M a24 = 7) <| bd (f_X7_allFish M a24) fun r23 M23 => some (.inr r23, M23) else (if x1 = (6 : Int32) then ck (mT M x0 = 10) <| dr ((mR M x0 1)) fun a29 => ck (mT M a29 = 7) <| bd (f_X7_allStores M a29) fun r28 M28 => some (.inr r28, M28) else (if x1 = (7 : Int32) then ck (mT M x0 = 10) <| dr ((mR M x0 1)) fun a34 => ck (mT M a34 = 7) <| bd (f_X7_widenedNets M a34) fun r33 M33 => some (.inr r33, M33) else (if x1 = (8 : Int32) then ck (mT M x0 = 10) <| dr ((mR M x0 1)) fun a39 => ck (mT M a39 = 7) <| bd (f_X7_allCheats M a39) fun r38 M38 => some (.inr r38, M38) else (if x1 = (9 : Int32) then ck (mT M x0 = 10) <| dr ((mR M x0 0)) fun a43 => ck (mT M a43 = 9) <| some (.inr (mI M a43 0), M) else some (.inl 2, M)))))))))))
noncomputable def f_X11_count (M : gMem) (x0 : Nat) (x1 : Int32) : Option ((Nat ⊕ Int32) × gMem) :=
  b_X11_count_0 M x0 x1
set_option maxHeartbeats 4000000 in
set_option maxRecDepth 100000 in
theorem t_X11_count_0 (X2 : gX p s m args meth c D cy B (gSt2 Z B H0) RX11 cX11_count wsX11_count 2) (hr : meth.sig.returnType = (some .int)) (hlx : l.stackTraces = false) (hH : ∀ q : Nat, q < B → s.heap[q]? = H0[q]?) (hne : ∀ x ∈ c.exceptionTable.toList, False) (hH0 : H0.size = B) {Q : State → Prop} : ∀ (M : gMem) (x0 : Nat) (x1 : Int32) (z : (Nat ⊕ Int32) × gMem), b_X11_count_0 M x0 x1 = some z → (fun (r : (Nat ⊕ Int32) × gMem) => Q = gMX below D cy B H0 args s 1 6 (gzI r.1) r.2) z → gGo p l e rX11_count s m args below meth c D cy B H0 2 0 0 Q 0 [(0, vR (some x0)), (1, vI x1)] [] M := by
  intro M x0 x1 z hf hK
  unfold b_X11_count_0 at hf
  have X := gX_w X2
  refine g_iload_n X dX11_count_0 rfl rfl ?_
  by_cases hs1 : x1 = (0 : Int32)
  · have hf := ife_t hs1 hf
    refine g_tabin (tgt := 56) X dX11_count_1 hs1 (by decide) (by decide) rfl (by decide) ?_
    refine g_aload_n X dX11_count_56 rfl rfl ?_
    obtain ⟨hT2, hf⟩ := ck_e hf
    refine g_get (ci := 9) (v := vR (mR M x0 1)) 1 X cdX11 i_X11_count_X11 (by decide) k_X11_count_f19 rfl dX11_count_57 rfl hT2 rfl ?_
    obtain ⟨a3, ha3, hf⟩ := dr_e hf
    obtain ⟨hT4, hf⟩ := ck_e hf
    refine g_get (ci := 6) (v := vI (mI M a3 0)) 0 X cdX7 i_X11_count_X7 (by decide) k_X11_count_f62 rfl dX11_count_60 ha3 hT4 rfl ?_
    cases hf
    refine g_eqQ hK ?_
    refine g_wide (k' := 1) (n' := 6) (by decide) (by decide) ?_
    refine g_xret ?_
    exact g_iret X hr dX11_count_63
  · have hf := ife_f hs1 hf
    by_cases hs5 : x1 = (1 : Int32)
    · have hf := ife_t hs5 hf
      refine g_tabin (tgt := 64) X dX11_count_1 hs5 (by decide) (by decide) rfl (by decide) ?_
      refine g_aload_n X dX11_count_64 rfl rfl ?_
      obtain ⟨hT6, hf⟩ := ck_e hf
      refine g_get (ci := 9) (v := vR (mR M x0 1)) 1 X cdX11 i_X11_count_X11 (by decide) k_X11_count_f19 rfl dX11_count_65 rfl hT6 rfl ?_
      obtain ⟨a7, ha7, hf⟩ := dr_e hf
      obtain ⟨hT8, hf⟩ := ck_e hf
      refine g_get (ci := 6) (v := vI (mI M a7 2)) 2 X cdX7 i_X11_count_X7 (by decide) k_X11_count_f68 rfl dX11_count_68 ha7 hT8 rfl ?_
      cases hf
      refine g_eqQ hK ?_
      refine g_wide (k' := 1) (n' := 6) (by decide) (by decide) ?_
      refine g_xret ?_
      exact g_iret X hr dX11_count_71
    · have hf := ife_f hs5 hf
      by_cases hs9 : x1 = (2 : Int32)
      · have hf := ife_t hs9 hf
        refine g_tabin (tgt := 72) X dX11_count_1 hs9 (by decide) (by decide) rfl (by decide) ?_
        refine g_aload_n X dX11_count_72 rfl rfl ?_
        obtain ⟨hT10, hf⟩ := ck_e hf
        refine g_get (ci := 9) (v := vR (mR M x0 1)) 1 X cdX11 i_X11_count_X11 (by decide) k_X11_count_f19 rfl dX11_count_73 rfl hT10 rfl ?_
        obtain ⟨a11, ha11, hf⟩ := dr_e hf
        obtain ⟨hT12, hf⟩ := ck_e hf
        refine g_get (ci := 6) (v := vI (mI M a11 3)) 3 X cdX7 i_X11_count_X7 (by decide) k_X11_count_f71 rfl dX11_count_76 ha11 hT12 rfl ?_
        cases hf
        refine g_eqQ hK ?_
        refine g_wide (k' := 1) (n' := 6) (by decide) (by decide) ?_
        refine g_xret ?_
        exact g_iret X hr dX11_count_79
      · have hf := ife_f hs9 hf
        by_cases hs13 : x1 = (3 : Int32)
        · have hf := ife_t hs13 hf
          refine g_tabin (tgt := 80) X dX11_count_1 hs13 (by decide) (by decide) rfl (by decide) ?_
          refine g_aload_n X dX11_count_80 rfl rfl ?_
          obtain ⟨hT14, hf⟩ := ck_e hf
          refine g_get (ci := 9) (v := vR (mR M x0 1)) 1 X cdX11 i_X11_count_X11 (by decide) k_X11_count_f19 rfl dX11_count_81 rfl hT14 rfl ?_
          obtain ⟨a15, ha15, hf⟩ := dr_e hf
          obtain ⟨hT16, hf⟩ := ck_e hf
          refine g_get (ci := 6) (v := vI (mI M a15 4)) 4 X cdX7 i_X11_count_X7 (by decide) k_X11_count_f74 rfl dX11_count_84 ha15 hT16 rfl ?_
          cases hf
          refine g_eqQ hK ?_
          refine g_wide (k' := 1) (n' := 6) (by decide) (by decide) ?_
          refine g_xret ?_
          exact g_iret X hr dX11_count_87
        · have hf := ife_f hs13 hf
          by_cases hs17 : x1 = (4 : Int32)
          · have hf := ife_t hs17 hf
            refine g_tabin (tgt := 88) X dX11_count_1 hs17 (by decide) (by decide) rfl (by decide) ?_
            refine g_aload_n X dX11_count_88 rfl rfl ?_
            obtain ⟨hT18, hf⟩ := ck_e hf
            refine g_get (ci := 9) (v := vR (mR M x0 1)) 1 X cdX11 i_X11_count_X11 (by decide) k_X11_count_f19 rfl dX11_count_89 rfl hT18 rfl ?_
            obtain ⟨a19, ha19, hf⟩ := dr_e hf
            obtain ⟨hT20, hf⟩ := ck_e hf
            refine g_get (ci := 6) (v := vI (mI M a19 5)) 5 X cdX7 i_X11_count_X7 (by decide) k_X11_count_f77 rfl dX11_count_92 ha19 hT20 rfl ?_
            cases hf
            refine g_eqQ hK ?_
            refine g_wide (k' := 1) (n' := 6) (by decide) (by decide) ?_
            refine g_xret ?_
            exact g_iret X hr dX11_count_95
          · have hf := ife_f hs17 hf
            by_cases hs21 : x1 = (5 : Int32)
            · have hf := ife_t hs21 hf
              refine g_tabin (tgt := 96) X dX11_count_1 hs21 (by decide) (by decide) rfl (by decide) ?_
              refine g_aload_n X dX11_count_96 rfl rfl ?_
              obtain ⟨hT22, hf⟩ := ck_e hf
              refine g_get (ci := 9) (v := vR (mR M x0 1)) 1 X cdX11 i_X11_count_X11 (by decide) k_X11_count_f19 rfl dX11_count_97 rfl hT22 rfl ?_
              obtain ⟨a24, ha24, hf⟩ := dr_e hf
              obtain ⟨hT25, hf⟩ := ck_e hf
              obtain ⟨r23, M23, hq23, hf⟩ := bd_e hf
              refine g_callV (ci := 6) (b := a24) (As := []) (st := []) (v := some (vI r23)) (M1 := M23) X (m_X7_allFish l hq23) (cwV 0 X.2.2.1 gX11_count_X7_allFish rfl rfl rfl (by decide +kernel) ⟨Nat.le_of_ble_eq_true rfl, Nat.le_of_ble_eq_true rfl⟩) rfl rfl ha24 hT25 (by decide) rfl (Nat.le_of_ble_eq_true rfl) dX11_count_100 ⟨by decide, by decide⟩ ?_
              cases hf
              refine g_eqQ hK ?_
              refine g_wide (k' := 1) (n' := 6) (by decide) (by decide) ?_
              refine g_xret ?_
              exact g_iret X hr dX11_count_103
            · have hf := ife_f hs21 hf
              by_cases hs26 : x1 = (6 : Int32)
              · have hf := ife_t hs26 hf
                refine g_tabin (tgt := 104) X dX11_count_1 hs26 (by decide) (by decide) rfl (by decide) ?_
                refine g_aload_n X dX11_count_104 rfl rfl ?_
                obtain ⟨hT27, hf⟩ := ck_e hf
                refine g_get (ci := 9) (v := vR (mR M x0 1)) 1 X cdX11 i_X11_count_X11 (by decide) k_X11_count_f19 rfl dX11_count_105 rfl hT27 rfl ?_
                obtain ⟨a29, ha29, hf⟩ := dr_e hf
                obtain ⟨hT30, hf⟩ := ck_e hf
                obtain ⟨r28, M28, hq28, hf⟩ := bd_e hf
                refine g_callV (ci := 6) (b := a29) (As := []) (st := []) (v := some (vI r28)) (M1 := M28) X (m_X7_allStores l hq28) (cwV 0 X.2.2.1 gX11_count_X7_allStores rfl rfl rfl (by decide +kernel) ⟨Nat.le_of_ble_eq_true rfl, Nat.le_of_ble_eq_true rfl⟩) rfl rfl ha29 hT30 (by decide) rfl (Nat.le_of_ble_eq_true rfl) dX11_count_108 ⟨by decide, by decide⟩ ?_
                cases hf
                refine g_eqQ hK ?_
                refine g_wide (k' := 1) (n' := 6) (by decide) (by decide) ?_
                refine g_xret ?_
                exact g_iret X hr dX11_count_111
              · have hf := ife_f hs26 hf
                by_cases hs31 : x1 = (7 : Int32)
                · have hf := ife_t hs31 hf
                  refine g_tabin (tgt := 112) X dX11_count_1 hs31 (by decide) (by decide) rfl (by decide) ?_
                  refine g_aload_n X dX11_count_112 rfl rfl ?_
                  obtain ⟨hT32, hf⟩ := ck_e hf
                  refine g_get (ci := 9) (v := vR (mR M x0 1)) 1 X cdX11 i_X11_count_X11 (by decide) k_X11_count_f19 rfl dX11_count_113 rfl hT32 rfl ?_
                  obtain ⟨a34, ha34, hf⟩ := dr_e hf
                  obtain ⟨hT35, hf⟩ := ck_e hf
                  obtain ⟨r33, M33, hq33, hf⟩ := bd_e hf
                  refine g_callV (ci := 6) (b := a34) (As := []) (st := []) (v := some (vI r33)) (M1 := M33) X (m_X7_widenedNets l hq33) (cwV 0 X.2.2.1 gX11_count_X7_widenedNets rfl rfl rfl (by decide +kernel) ⟨Nat.le_of_ble_eq_true rfl, Nat.le_of_ble_eq_true rfl⟩) rfl rfl ha34 hT35 (by decide) rfl (Nat.le_of_ble_eq_true rfl) dX11_count_116 ⟨by decide, by decide⟩ ?_
                  cases hf
                  refine g_eqQ hK ?_
                  refine g_wide (k' := 1) (n' := 6) (by decide) (by decide) ?_
                  refine g_xret ?_
                  exact g_iret X hr dX11_count_119
                · have hf := ife_f hs31 hf
                  by_cases hs36 : x1 = (8 : Int32)
                  · have hf := ife_t hs36 hf
                    refine g_tabin (tgt := 120) X dX11_count_1 hs36 (by decide) (by decide) rfl (by decide) ?_
                    refine g_aload_n X dX11_count_120 rfl rfl ?_
                    obtain ⟨hT37, hf⟩ := ck_e hf
                    refine g_get (ci := 9) (v := vR (mR M x0 1)) 1 X cdX11 i_X11_count_X11 (by decide) k_X11_count_f19 rfl dX11_count_121 rfl hT37 rfl ?_
                    obtain ⟨a39, ha39, hf⟩ := dr_e hf
                    obtain ⟨hT40, hf⟩ := ck_e hf
                    obtain ⟨r38, M38, hq38, hf⟩ := bd_e hf
                    refine g_callV (ci := 6) (b := a39) (As := []) (st := []) (v := some (vI r38)) (M1 := M38) X (m_X7_allCheats l hq38) (cwV 0 X.2.2.1 gX11_count_X7_allCheats rfl rfl rfl (by decide +kernel) ⟨Nat.le_of_ble_eq_true rfl, Nat.le_of_ble_eq_true rfl⟩) rfl rfl ha39 hT40 (by decide) rfl (Nat.le_of_ble_eq_true rfl) dX11_count_124 ⟨by decide, by decide⟩ ?_
                    cases hf
                    refine g_eqQ hK ?_
                    refine g_wide (k' := 1) (n' := 6) (by decide) (by decide) ?_
                    refine g_xret ?_
                    exact g_iret X hr dX11_count_127
                  · have hf := ife_f hs36 hf
                    by_cases hs41 : x1 = (9 : Int32)
                    · have hf := ife_t hs41 hf
                      refine g_tabin (tgt := 128) X dX11_count_1 hs41 (by decide) (by decide) rfl (by decide) ?_
                      refine g_aload_n X dX11_count_128 rfl rfl ?_
                      obtain ⟨hT42, hf⟩ := ck_e hf
                      refine g_get (ci := 9) (v := vR (mR M x0 0)) 0 X cdX11 i_X11_count_X11 (by decide) k_X11_count_f10 rfl dX11_count_129 rfl hT42 rfl ?_
                      obtain ⟨a43, ha43, hf⟩ := dr_e hf
                      obtain ⟨hT44, hf⟩ := ck_e hf
                      refine g_get (ci := 8) (v := vI (mI M a43 0)) 0 X cdX10 i_X11_count_X10 (by decide) k_X11_count_f30 rfl dX11_count_132 ha43 hT44 rfl ?_
                      cases hf
                      refine g_eqQ hK ?_
                      refine g_wide (k' := 1) (n' := 6) (by decide) (by decide) ?_
                      refine g_xret ?_
                      exact g_iret X hr dX11_count_135
                    · have hf := ife_f hs41 hf
                      refine g_tabout (tgt := 136) X dX11_count_1 (gtab_out 10 (0) (by decide) (by decide) (fun i hi => match i, hi with | 0, _ => fun e => hs1 (e.trans (by decide)) | 1, _ => fun e => hs5 (e.trans (by decide)) | 2, _ => fun e => hs9 (e.trans (by decide)) | 3, _ => fun e => hs13 (e.trans (by decide)) | 4, _ => fun e => hs17 (e.trans (by decide)) | 5, _ => fun e => hs21 (e.trans (by decide)) | 6, _ => fun e => hs26 (e.trans (by decide)) | 7, _ => fun e => hs31 (e.trans (by decide)) | 8, _ => fun e => hs36 (e.trans (by decide)) | 9, _ => fun e => hs41 (e.trans (by decide)) | i + 10, h => absurd h (by omega))) (by decide) ?_
                      cases hf
                      refine g_eqQ hK ?_
                      exact g_throwS (text := "nothing of this number is counted") X2 hlx hH hH0 hne (by decide) k_X11_count_cl92 k_X11_count_ini92 (by decide) k_X11_count_hat96 kx_hxw96 kx_hg96_92 rfl dX11_count_136 dX11_count_139 dX11_count_140 dX11_count_142 dX11_count_145 (Nat.le_of_ble_eq_true rfl) (Nat.le_of_ble_eq_true rfl) (by decide) (by decide) (by decide) (by decide)
set_option maxHeartbeats 4000000 in
set_option maxRecDepth 100000 in
theorem m_X11_count (l : Launch) (hlx : l.stackTraces = false) {D : va_G} {cy : Nat → ClassId} {B : Nat} {H0 : Heap} {Z : Nat → Nat} {M M1 : gMem} {x0 : Nat} {x1 : Int32} {r : (Nat ⊕ Int32)} (hH0 : H0.size = B) (hf : f_X11_count M x0 x1 = some (r, M1)) : vx_Met l yX11_count wsX11_count rX11_count (va_Pc (Value.ref x0 :: List.map gv [vI x1]) (gPre D cy B H0 (gSt2 Z B H0) M)) (gQX D cy B H0 (gzI r) M1) (gXC D cy B H0 (gzI r) M1) 1 6 (gA B) := by
  refine vx_ofW (cc := cX11_count) (maxL := 2) (ret := (some .int)) (by decide) rfl ?_
  intro p e s m args below meth c s₁ Bd hml hne hv
  obtain ⟨rfl, hW, hKK, hFs⟩ := hv
  have X2 : gX p s m _ meth c D cy B (gSt2 Z B H0) RX11 cX11_count wsX11_count 2 := ⟨Bd.exec, Bd.bytes, atoms_spec (ws := wsX11_count) Bd.pre, findClass_of_methodNamed Bd.named, hml, hKK, by rw [hW.1]; exact hW.2.1, Bd.notSynchronized, hFs⟩
  have hr := Bd.returns
  have hH : ∀ q : Nat, q < B → s.heap[q]? = H0[q]? := hW.2.2.1
  have hl := lv_entry ([.ref x0, .int x1]) (n := 2) (Nat.le_of_ble_eq_true rfl)
  show W p l e rX11_count s m _ below meth c s.heap [] 0 0 _ (entryFrame m ([.ref x0, .int x1] : List Value).toArray 2)
  rw [lg_entry_eq]
  generalize (lg_sl ([.ref x0, .int x1]) ++ List.replicate (2 - (lg_sl ([.ref x0, .int x1])).length) Slot.unset).toArray = ls at hl ⊢
  have hl : lv_has ls 2 (List.map gq [(0, vR (some x0)), (1, vI x1)]) := hl
  exact t_X11_count_0 X2 hr hlx hH hne hH0 _ _ _ _ hf rfl s.heap [] ls hW va_S.rf (lv_has_sub hl (lvsub_of _ _ [0, 1] rfl))
/-! ## TideLots.ground(II)I -/
theorem dX11_ground_0 : decode cX11_ground 0 = .ok (.aload_n 0, 1) := by decide +kernel
theorem dX11_ground_1 : decode cX11_ground 1 = .ok (.iload_n 1, 1) := by decide +kernel
theorem dX11_ground_2 : decode cX11_ground 2 = .ok (.invokevirtual 97, 3) := by decide +kernel
theorem dX11_ground_5 : decode cX11_ground 5 = .ok (.aload_n 0, 1) := by decide +kernel
theorem dX11_ground_6 : decode cX11_ground 6 = .ok (.getfield 19, 3) := by decide +kernel
theorem dX11_ground_9 : decode cX11_ground 9 = .ok (.getfield 100, 3) := by decide +kernel
theorem dX11_ground_12 : decode cX11_ground 12 = .ok (.iload_n 1, 1) := by decide +kernel
theorem dX11_ground_13 : decode cX11_ground 13 = .ok (.aaload, 1) := by decide +kernel
theorem dX11_ground_14 : decode cX11_ground 14 = .ok (.astore_n 3, 1) := by decide +kernel
theorem dX11_ground_15 : decode cX11_ground 15 = .ok (.iload_n 2, 1) := by decide +kernel
theorem dX11_ground_16 : decode cX11_ground 16 = .ok (.tableswitch 79 0 8 #[52, 57, 57, 57, 57, 57, 64, 69, 74], 52) := by decide +kernel
theorem dX11_ground_68 : decode cX11_ground 68 = .ok (.aload_n 3, 1) := by decide +kernel
theorem dX11_ground_69 : decode cX11_ground 69 = .ok (.invokevirtual 104, 3) := by decide +kernel
theorem dX11_ground_72 : decode cX11_ground 72 = .ok (.ireturn, 1) := by decide +kernel
theorem dX11_ground_73 : decode cX11_ground 73 = .ok (.aload_n 3, 1) := by decide +kernel
theorem dX11_ground_74 : decode cX11_ground 74 = .ok (.getfield 107, 3) := by decide +kernel
theorem dX11_ground_77 : decode cX11_ground 77 = .ok (.iload_n 2, 1) := by decide +kernel
theorem dX11_ground_78 : decode cX11_ground 78 = .ok (.iaload, 1) := by decide +kernel
theorem dX11_ground_79 : decode cX11_ground 79 = .ok (.ireturn, 1) := by decide +kernel
theorem dX11_ground_80 : decode cX11_ground 80 = .ok (.aload_n 3, 1) := by decide +kernel
theorem dX11_ground_81 : decode cX11_ground 81 = .ok (.getfield 111, 3) := by decide +kernel
theorem dX11_ground_84 : decode cX11_ground 84 = .ok (.ireturn, 1) := by decide +kernel
theorem dX11_ground_85 : decode cX11_ground 85 = .ok (.aload_n 3, 1) := by decide +kernel
theorem dX11_ground_86 : decode cX11_ground 86 = .ok (.getfield 114, 3) := by decide +kernel
theorem dX11_ground_89 : decode cX11_ground 89 = .ok (.ireturn, 1) := by decide +kernel
theorem dX11_ground_90 : decode cX11_ground 90 = .ok (.aload_n 3, 1) := by decide +kernel
theorem dX11_ground_91 : decode cX11_ground 91 = .ok (.getfield 117, 3) := by decide +kernel
theorem dX11_ground_94 : decode cX11_ground 94 = .ok (.ireturn, 1) := by decide +kernel
theorem dX11_ground_95 : decode cX11_ground 95 = .ok (.new 92, 3) := by decide +kernel
theorem dX11_ground_98 : decode cX11_ground 98 = .ok (.dup, 1) := by decide +kernel
theorem dX11_ground_99 : decode cX11_ground 99 = .ok (.ldc 120, 2) := by decide +kernel
theorem dX11_ground_101 : decode cX11_ground 101 = .ok (.invokespecial 96, 3) := by decide +kernel
theorem dX11_ground_104 : decode cX11_ground 104 = .ok (.athrow, 1) := by decide +kernel
set_option maxRecDepth 20000 in
theorem ggX11_ground_X11_checkGround : GoodIn wsX11_ground wsX11_checkGround := goodIn_ca (goodIn_r _ [13, 1, 2, 3, 14, 21, 22, 23, 24, 25, 26, 27, 28, 29, 30, 31, 32, 33, 34, 35, 36, 37, 38, 39, 40, 41] (by decide +kernel) (by decide +kernel)) (goodIn_sub (fun _ h => List.mem_cons_of_mem _ (List.mem_append_right _ h)) (by decide +kernel))
set_option maxRecDepth 20000 in
theorem gX11_ground_X11_checkGround : GoodIn wsX11_ground (wsV RX11 97 RX11 yX11_checkGround wsX11_checkGround) := goodIn_app (goodIn_of _ (by decide +kernel)) ggX11_ground_X11_checkGround
set_option maxRecDepth 20000 in
theorem ggX11_ground_X3_allFish : GoodIn wsX11_ground wsX3_allFish := goodIn_r _ [19, 20, 42, 43, 44, 45] (by decide +kernel) (by decide +kernel)
set_option maxRecDepth 20000 in
theorem gX11_ground_X3_allFish : GoodIn wsX11_ground (wsV RX11 104 RX3 yX3_allFish wsX3_allFish) := goodIn_app (goodIn_of _ (by decide +kernel)) ggX11_ground_X3_allFish
theorem k_X11_ground_f107 : Cond.fieldLink RX11 107 "TideLots$Ground" "fish" "[I" ∈ wsX11_ground := by decide +kernel
theorem i_X11_ground_X3 : ∀ w ∈ u_ws RX3 TX3 4, w ∈ wsX11_ground := by decide +kernel
theorem k_X11_ground_f19 : Cond.fieldLink RX11 19 "TideLots" "shore" "LTideLots$Shore;" ∈ wsX11_ground := by decide +kernel
theorem i_X11_ground_X11 : ∀ w ∈ u_ws RX11 TX11 4, w ∈ wsX11_ground := by decide +kernel
theorem k_X11_ground_f100 : Cond.fieldLink RX11 100 "TideLots$Shore" "grounds" "[LTideLots$Ground;" ∈ wsX11_ground := by decide +kernel
theorem i_X11_ground_X7 : ∀ w ∈ u_ws RX7 TX7 17, w ∈ wsX11_ground := by decide +kernel
theorem k_X11_ground_f111 : Cond.fieldLink RX11 111 "TideLots$Ground" "room" "I" ∈ wsX11_ground := by decide +kernel
theorem k_X11_ground_f114 : Cond.fieldLink RX11 114 "TideLots$Ground" "boats" "I" ∈ wsX11_ground := by decide +kernel
theorem k_X11_ground_f117 : Cond.fieldLink RX11 117 "TideLots$Ground" "caught" "I" ∈ wsX11_ground := by decide +kernel
theorem k_X11_ground_hat96 : ∀ w ∈ (vx_atS RX11 96 "java/lang/IndexOutOfBoundsException" ["java/lang/RuntimeException", "java/lang/Exception"]).filter goodWord, w ∈ wsX11_ground := by decide +kernel
theorem k_X11_ground_cl92 : Cond.classLink RX11 92 "java/lang/IndexOutOfBoundsException" ∈ wsX11_ground := by decide +kernel
theorem k_X11_ground_ini92 : Cond.initialized "java/lang/IndexOutOfBoundsException" ∈ wsX11_ground := by decide +kernel
abbrev rX11_ground : Room := { frames := 7, cells := 2, slots := 12, locals := 103 }
noncomputable def b_X11_ground_73 (M : gMem) (x2 : Int32) (x3 : Option Nat) : Option ((Nat ⊕ Int32) × gMem) :=
  dr x3 fun a1 => ck (mT M a1 = 3) <| dr ((mR M a1 3)) fun a3 => ck (mT M a3 = 20) <| ck (inb x2 (mL M a3)) <| some (.inr (mI M a3 x2.toNatClampNeg), M)
noncomputable def b_X11_ground_0 (M : gMem) (x0 : Nat) (x1 : Int32) (x2 : Int32) : Option ((Nat ⊕ Int32) × gMem) :=
  ck (mT M x0 = 10) <| bx (f_X11_checkGround M x0 x1) (fun e6 M6 => some (.inl e6, M6)) fun _ M6 => ck (mT M6 x0 = 10) <| dr ((mR M6 x0 1)) fun a9 => ck (mT M6 a9 = 7) <| dr ((mR M6 a9 6)) fun a11 => ck (mT M6 a11 = 23) <| ck (inb x1 (mL M6 a11)) <| (if x2 = (0 : Int32) then dr ((mR M6 a11 x1.toNatClampNeg)) fun a16 => ck (mT M6 a16 = 3) <| bd (f_X3_allFish M6 a16) fun r15 M15 => some (.inr r15, M15) else (if x2 = (1 : Int32) then b_X11_ground_73 M6 x2 ((mR M6 a11 x1.toNatClampNeg)) else (if x2 = (2 : Int32) then b_X11_ground_73 M6 x2 ((mR M6 a11 x1.toNatClampNeg)) else (if x2 = (3 : Int32) then b_X11_ground_73 M6 x2 ((mR M6 a11 x1.toNatClampNeg)) else (if x2 = (4 : Int32) then b_X11_ground_73 M6 x2 ((mR M6 a11 x1.toNatClampNeg)) else (if x2 = (5 : Int32) then b_X11_ground_73 M6 x2 ((mR M6 a11 x1.toNatClampNeg)) else (if x2 = (6 : Int32) then dr ((mR M6 a11 x1.toNatClampNeg)) fun a24 => ck (mT M6 a24 = 3) <| some (.inr (mI M6 a24 0), M6) else (if x2 = (7 : Int32) then dr ((mR M6 a11 x1.toNatClampNeg)) fun a27 => ck (mT M6 a27 = 3) <| some (.inr (mI M6 a27 1), M6) else (if x2 = (8 : Int32) then dr ((mR M6 a11 x1.toNatClampNeg)) fun a30 => ck (mT M6 a30 = 3) <| some (.inr (mI M6 a30 2), M6) else some (.inl 2, M6))))))))))
noncomputable def f_X11_ground (M : gMem) (x0 : Nat) (x1 : Int32) (x2 : Int32) : Option ((Nat ⊕ Int32) × gMem) :=
  b_X11_ground_0 M x0 x1 x2
set_option maxHeartbeats 4000000 in
set_option maxRecDepth 100000 in
theorem t_X11_ground_73 (X2 : gX p s m args meth c D cy B (gSt2 Z B H0) RX11 cX11_ground wsX11_ground 4) (hr : meth.sig.returnType = (some .int)) (hlx : l.stackTraces = false) (hH : ∀ q : Nat, q < B → s.heap[q]? = H0[q]?) (hne : ∀ x ∈ c.exceptionTable.toList, False) (hH0 : H0.size = B) {Q : State → Prop} : ∀ (M : gMem) (x2 : Int32) (x3 : Option Nat) (z : (Nat ⊕ Int32) × gMem), b_X11_ground_73 M x2 x3 = some z → (fun (r : (Nat ⊕ Int32) × gMem) => Q = gMX below D cy B H0 args s 2 12 (gzI r.1) r.2) z → gGo p l e rX11_ground s m args below meth c D cy B H0 4 1 6 Q 73 [(2, vI x2), (3, vR x3)] [] M := by
  intro M x2 x3 z hf hK
  unfold b_X11_ground_73 at hf
  have X := gX_w X2
  refine g_aload_n X dX11_ground_73 rfl rfl ?_
  obtain ⟨a1, ha1, hf⟩ := dr_e hf
  obtain ⟨hT2, hf⟩ := ck_e hf
  refine g_get (ci := 2) (v := vR (mR M a1 3)) 3 X cdX3 i_X11_ground_X3 (by decide) k_X11_ground_f107 rfl dX11_ground_74 ha1 hT2 rfl ?_
  refine g_iload_n X dX11_ground_77 rfl rfl ?_
  obtain ⟨a3, ha3, hf⟩ := dr_e hf
  obtain ⟨hT4, hf⟩ := ck_e hf
  obtain ⟨hg5, hf⟩ := ck_e hf
  refine g_iald X dX11_ground_78 ha3 hT4 hg5 ?_
  cases hf
  refine g_eqQ hK ?_
  refine g_wide (k' := 2) (n' := 12) (by decide) (by decide) ?_
  refine g_xret ?_
  exact g_iret X hr dX11_ground_79
set_option maxHeartbeats 4000000 in
set_option maxRecDepth 100000 in
theorem t_X11_ground_0 (X2 : gX p s m args meth c D cy B (gSt2 Z B H0) RX11 cX11_ground wsX11_ground 4) (hr : meth.sig.returnType = (some .int)) (hlx : l.stackTraces = false) (hH : ∀ q : Nat, q < B → s.heap[q]? = H0[q]?) (hne : ∀ x ∈ c.exceptionTable.toList, False) (hH0 : H0.size = B) {Q : State → Prop} : ∀ (M : gMem) (x0 : Nat) (x1 : Int32) (x2 : Int32) (z : (Nat ⊕ Int32) × gMem), b_X11_ground_0 M x0 x1 x2 = some z → (fun (r : (Nat ⊕ Int32) × gMem) => Q = gMX below D cy B H0 args s 2 12 (gzI r.1) r.2) z → gGo p l e rX11_ground s m args below meth c D cy B H0 4 0 0 Q 0 [(0, vR (some x0)), (1, vI x1), (2, vI x2)] [] M := by
  intro M x0 x1 x2 z hf hK
  unfold b_X11_ground_0 at hf
  have X := gX_w X2
  refine g_aload_n X dX11_ground_0 rfl rfl ?_
  refine g_iload_n X dX11_ground_1 rfl rfl ?_
  obtain ⟨hT7, hf⟩ := ck_e hf
  rcases bx_e hf with ⟨e6, M6, hq6, hf⟩ | ⟨r6, M6, hq6, hf⟩
  · cases hf
    refine g_eqQ hK ?_
    exact g_callTV (ci := 9) (b := x0) (As := [vI x1]) (st := []) (M1 := M6) X2 hne (m_X11_checkGround l hlx hH0 hq6) (cwV 1 X.2.2.1 gX11_ground_X11_checkGround rfl rfl rfl (by decide +kernel) ⟨Nat.le_of_ble_eq_true rfl, Nat.le_of_ble_eq_true rfl⟩) rfl rfl rfl hT7 (by decide) rfl (Nat.le_of_ble_eq_true rfl) dX11_ground_2 ⟨(by decide), (by decide)⟩ (by decide) (by decide)
  refine g_callXV (ci := 9) (b := x0) (As := [vI x1]) (st := []) (v := none) (M1 := M6) X2 (m_X11_checkGround l hlx hH0 hq6) (cwV 1 X.2.2.1 gX11_ground_X11_checkGround rfl rfl rfl (by decide +kernel) ⟨Nat.le_of_ble_eq_true rfl, Nat.le_of_ble_eq_true rfl⟩) rfl rfl rfl hT7 (by decide) rfl (Nat.le_of_ble_eq_true rfl) dX11_ground_2 ⟨(by decide), (by decide)⟩ ?_
  refine g_aload_n X dX11_ground_5 rfl rfl ?_
  obtain ⟨hT8, hf⟩ := ck_e hf
  refine g_get (ci := 9) (v := vR (mR M6 x0 1)) 1 X cdX11 i_X11_ground_X11 (by decide) k_X11_ground_f19 rfl dX11_ground_6 rfl hT8 rfl ?_
  obtain ⟨a9, ha9, hf⟩ := dr_e hf
  obtain ⟨hT10, hf⟩ := ck_e hf
  refine g_get (ci := 6) (v := vR (mR M6 a9 6)) 6 X cdX7 i_X11_ground_X7 (by decide) k_X11_ground_f100 rfl dX11_ground_9 ha9 hT10 rfl ?_
  refine g_iload_n X dX11_ground_12 rfl rfl ?_
  obtain ⟨a11, ha11, hf⟩ := dr_e hf
  obtain ⟨hT12, hf⟩ := ck_e hf
  obtain ⟨hg13, hf⟩ := ck_e hf
  refine g_aald (t0 := 3) X dX11_ground_13 ha11 hT12 (by decide) rfl hg13 ?_
  refine g_astore_n (lv' := [(3, vR (mR M6 a11 x1.toNatClampNeg)), (0, vR (some x0)), (1, vI x1), (2, vI x2)]) X dX11_ground_14 rfl (by decide) rfl ?_
  refine g_iload_n X dX11_ground_15 rfl rfl ?_
  by_cases hs14 : x2 = (0 : Int32)
  · have hf := ife_t hs14 hf
    refine g_tabin (tgt := 68) X dX11_ground_16 hs14 (by decide) (by decide) rfl (by decide) ?_
    refine g_aload_n X dX11_ground_68 rfl rfl ?_
    obtain ⟨a16, ha16, hf⟩ := dr_e hf
    obtain ⟨hT17, hf⟩ := ck_e hf
    obtain ⟨r15, M15, hq15, hf⟩ := bd_e hf
    refine g_callV (ci := 2) (b := a16) (As := []) (st := []) (v := some (vI r15)) (M1 := M15) X (m_X3_allFish l hq15) (cwV 0 X.2.2.1 gX11_ground_X3_allFish rfl rfl rfl (by decide +kernel) ⟨Nat.le_of_ble_eq_true rfl, Nat.le_of_ble_eq_true rfl⟩) rfl rfl ha16 hT17 (by decide) rfl (Nat.le_of_ble_eq_true rfl) dX11_ground_69 ⟨by decide, by decide⟩ ?_
    cases hf
    refine g_eqQ hK ?_
    refine g_wide (k' := 2) (n' := 12) (by decide) (by decide) ?_
    refine g_xret ?_
    exact g_iret X hr dX11_ground_72
  · have hf := ife_f hs14 hf
    by_cases hs18 : x2 = (1 : Int32)
    · have hf := ife_t hs18 hf
      refine g_tabin (tgt := 73) X dX11_ground_16 hs18 (by decide) (by decide) rfl (by decide) ?_
      refine g_sub (lvsub_of _ _ [3, 0] rfl) ?_
      exact t_X11_ground_73 X2 hr hlx hH hne hH0 _ _ _ _ hf hK
    · have hf := ife_f hs18 hf
      by_cases hs19 : x2 = (2 : Int32)
      · have hf := ife_t hs19 hf
        refine g_tabin (tgt := 73) X dX11_ground_16 hs19 (by decide) (by decide) rfl (by decide) ?_
        refine g_sub (lvsub_of _ _ [3, 0] rfl) ?_
        exact t_X11_ground_73 X2 hr hlx hH hne hH0 _ _ _ _ hf hK
      · have hf := ife_f hs19 hf
        by_cases hs20 : x2 = (3 : Int32)
        · have hf := ife_t hs20 hf
          refine g_tabin (tgt := 73) X dX11_ground_16 hs20 (by decide) (by decide) rfl (by decide) ?_
          refine g_sub (lvsub_of _ _ [3, 0] rfl) ?_
          exact t_X11_ground_73 X2 hr hlx hH hne hH0 _ _ _ _ hf hK
        · have hf := ife_f hs20 hf
          by_cases hs21 : x2 = (4 : Int32)
          · have hf := ife_t hs21 hf
            refine g_tabin (tgt := 73) X dX11_ground_16 hs21 (by decide) (by decide) rfl (by decide) ?_
            refine g_sub (lvsub_of _ _ [3, 0] rfl) ?_
            exact t_X11_ground_73 X2 hr hlx hH hne hH0 _ _ _ _ hf hK
          · have hf := ife_f hs21 hf
            by_cases hs22 : x2 = (5 : Int32)
            · have hf := ife_t hs22 hf
              refine g_tabin (tgt := 73) X dX11_ground_16 hs22 (by decide) (by decide) rfl (by decide) ?_
              refine g_sub (lvsub_of _ _ [3, 0] rfl) ?_
              exact t_X11_ground_73 X2 hr hlx hH hne hH0 _ _ _ _ hf hK
            · have hf := ife_f hs22 hf
              by_cases hs23 : x2 = (6 : Int32)
              · have hf := ife_t hs23 hf
                refine g_tabin (tgt := 80) X dX11_ground_16 hs23 (by decide) (by decide) rfl (by decide) ?_
                refine g_aload_n X dX11_ground_80 rfl rfl ?_
                obtain ⟨a24, ha24, hf⟩ := dr_e hf
                obtain ⟨hT25, hf⟩ := ck_e hf
                refine g_get (ci := 2) (v := vI (mI M6 a24 0)) 0 X cdX3 i_X11_ground_X3 (by decide) k_X11_ground_f111 rfl dX11_ground_81 ha24 hT25 rfl ?_
                cases hf
                refine g_eqQ hK ?_
                refine g_wide (k' := 2) (n' := 12) (by decide) (by decide) ?_
                refine g_xret ?_
                exact g_iret X hr dX11_ground_84
              · have hf := ife_f hs23 hf
                by_cases hs26 : x2 = (7 : Int32)
                · have hf := ife_t hs26 hf
                  refine g_tabin (tgt := 85) X dX11_ground_16 hs26 (by decide) (by decide) rfl (by decide) ?_
                  refine g_aload_n X dX11_ground_85 rfl rfl ?_
                  obtain ⟨a27, ha27, hf⟩ := dr_e hf
                  obtain ⟨hT28, hf⟩ := ck_e hf
                  refine g_get (ci := 2) (v := vI (mI M6 a27 1)) 1 X cdX3 i_X11_ground_X3 (by decide) k_X11_ground_f114 rfl dX11_ground_86 ha27 hT28 rfl ?_
                  cases hf
                  refine g_eqQ hK ?_
                  refine g_wide (k' := 2) (n' := 12) (by decide) (by decide) ?_
                  refine g_xret ?_
                  exact g_iret X hr dX11_ground_89
                · have hf := ife_f hs26 hf
                  by_cases hs29 : x2 = (8 : Int32)
                  · have hf := ife_t hs29 hf
                    refine g_tabin (tgt := 90) X dX11_ground_16 hs29 (by decide) (by decide) rfl (by decide) ?_
                    refine g_aload_n X dX11_ground_90 rfl rfl ?_
                    obtain ⟨a30, ha30, hf⟩ := dr_e hf
                    obtain ⟨hT31, hf⟩ := ck_e hf
                    refine g_get (ci := 2) (v := vI (mI M6 a30 2)) 2 X cdX3 i_X11_ground_X3 (by decide) k_X11_ground_f117 rfl dX11_ground_91 ha30 hT31 rfl ?_
                    cases hf
                    refine g_eqQ hK ?_
                    refine g_wide (k' := 2) (n' := 12) (by decide) (by decide) ?_
                    refine g_xret ?_
                    exact g_iret X hr dX11_ground_94
                  · have hf := ife_f hs29 hf
                    refine g_tabout (tgt := 95) X dX11_ground_16 (gtab_out 9 (0) (by decide) (by decide) (fun i hi => match i, hi with | 0, _ => fun e => hs14 (e.trans (by decide)) | 1, _ => fun e => hs18 (e.trans (by decide)) | 2, _ => fun e => hs19 (e.trans (by decide)) | 3, _ => fun e => hs20 (e.trans (by decide)) | 4, _ => fun e => hs21 (e.trans (by decide)) | 5, _ => fun e => hs22 (e.trans (by decide)) | 6, _ => fun e => hs23 (e.trans (by decide)) | 7, _ => fun e => hs26 (e.trans (by decide)) | 8, _ => fun e => hs29 (e.trans (by decide)) | i + 9, h => absurd h (by omega))) (by decide) ?_
                    cases hf
                    refine g_eqQ hK ?_
                    exact g_throwS (text := "nothing of this number is told of a ground") X2 hlx hH hH0 hne (by decide) k_X11_ground_cl92 k_X11_ground_ini92 (by decide) k_X11_ground_hat96 kx_hxw96 kx_hg96_92 rfl dX11_ground_95 dX11_ground_98 dX11_ground_99 dX11_ground_101 dX11_ground_104 (Nat.le_of_ble_eq_true rfl) (Nat.le_of_ble_eq_true rfl) (by decide) (by decide) (by decide) (by decide)
set_option maxHeartbeats 4000000 in
set_option maxRecDepth 100000 in
theorem m_X11_ground (l : Launch) (hlx : l.stackTraces = false) {D : va_G} {cy : Nat → ClassId} {B : Nat} {H0 : Heap} {Z : Nat → Nat} {M M1 : gMem} {x0 : Nat} {x1 : Int32} {x2 : Int32} {r : (Nat ⊕ Int32)} (hH0 : H0.size = B) (hf : f_X11_ground M x0 x1 x2 = some (r, M1)) : vx_Met l yX11_ground wsX11_ground rX11_ground (va_Pc (Value.ref x0 :: List.map gv [vI x1, vI x2]) (gPre D cy B H0 (gSt2 Z B H0) M)) (gQX D cy B H0 (gzI r) M1) (gXC D cy B H0 (gzI r) M1) 2 12 (gA B) := by
  refine vx_ofW (cc := cX11_ground) (maxL := 4) (ret := (some .int)) (by decide) rfl ?_
  intro p e s m args below meth c s₁ Bd hml hne hv
  obtain ⟨rfl, hW, hKK, hFs⟩ := hv
  have X2 : gX p s m _ meth c D cy B (gSt2 Z B H0) RX11 cX11_ground wsX11_ground 4 := ⟨Bd.exec, Bd.bytes, atoms_spec (ws := wsX11_ground) Bd.pre, findClass_of_methodNamed Bd.named, hml, hKK, by rw [hW.1]; exact hW.2.1, Bd.notSynchronized, hFs⟩
  have hr := Bd.returns
  have hH : ∀ q : Nat, q < B → s.heap[q]? = H0[q]? := hW.2.2.1
  have hl := lv_entry ([.ref x0, .int x1, .int x2]) (n := 4) (Nat.le_of_ble_eq_true rfl)
  show W p l e rX11_ground s m _ below meth c s.heap [] 0 0 _ (entryFrame m ([.ref x0, .int x1, .int x2] : List Value).toArray 4)
  rw [lg_entry_eq]
  generalize (lg_sl ([.ref x0, .int x1, .int x2]) ++ List.replicate (4 - (lg_sl ([.ref x0, .int x1, .int x2])).length) Slot.unset).toArray = ls at hl ⊢
  have hl : lv_has ls 4 (List.map gq [(0, vR (some x0)), (1, vI x1), (2, vI x2)]) := hl
  exact t_X11_ground_0 X2 hr hlx hH hne hH0 _ _ _ _ _ hf rfl s.heap [] ls hW va_S.rf (lv_has_sub hl (lvsub_of _ _ [0, 1, 2] rfl))
/-! ## TideLots.fisher(II)I -/
theorem dX11_fisher_0 : decode cX11_fisher 0 = .ok (.aload_n 0, 1) := by decide +kernel
theorem dX11_fisher_1 : decode cX11_fisher 1 = .ok (.iload_n 1, 1) := by decide +kernel
theorem dX11_fisher_2 : decode cX11_fisher 2 = .ok (.invokevirtual 122, 3) := by decide +kernel
theorem dX11_fisher_5 : decode cX11_fisher 5 = .ok (.aload_n 0, 1) := by decide +kernel
theorem dX11_fisher_6 : decode cX11_fisher 6 = .ok (.getfield 19, 3) := by decide +kernel
theorem dX11_fisher_9 : decode cX11_fisher 9 = .ok (.getfield 125, 3) := by decide +kernel
theorem dX11_fisher_12 : decode cX11_fisher 12 = .ok (.iload_n 1, 1) := by decide +kernel
theorem dX11_fisher_13 : decode cX11_fisher 13 = .ok (.aaload, 1) := by decide +kernel
theorem dX11_fisher_14 : decode cX11_fisher 14 = .ok (.astore_n 3, 1) := by decide +kernel
theorem dX11_fisher_15 : decode cX11_fisher 15 = .ok (.iload_n 2, 1) := by decide +kernel
theorem dX11_fisher_16 : decode cX11_fisher 16 = .ok (.tableswitch 114 0 9 #[56, 61, 66, 71, 76, 81, 86, 91, 96, 109], 56) := by decide +kernel
theorem dX11_fisher_72 : decode cX11_fisher 72 = .ok (.aload_n 3, 1) := by decide +kernel
theorem dX11_fisher_73 : decode cX11_fisher 73 = .ok (.getfield 129, 3) := by decide +kernel
theorem dX11_fisher_76 : decode cX11_fisher 76 = .ok (.ireturn, 1) := by decide +kernel
theorem dX11_fisher_77 : decode cX11_fisher 77 = .ok (.aload_n 3, 1) := by decide +kernel
theorem dX11_fisher_78 : decode cX11_fisher 78 = .ok (.getfield 134, 3) := by decide +kernel
theorem dX11_fisher_81 : decode cX11_fisher 81 = .ok (.ireturn, 1) := by decide +kernel
theorem dX11_fisher_82 : decode cX11_fisher 82 = .ok (.aload_n 3, 1) := by decide +kernel
theorem dX11_fisher_83 : decode cX11_fisher 83 = .ok (.getfield 137, 3) := by decide +kernel
theorem dX11_fisher_86 : decode cX11_fisher 86 = .ok (.ireturn, 1) := by decide +kernel
theorem dX11_fisher_87 : decode cX11_fisher 87 = .ok (.aload_n 3, 1) := by decide +kernel
theorem dX11_fisher_88 : decode cX11_fisher 88 = .ok (.getfield 140, 3) := by decide +kernel
theorem dX11_fisher_91 : decode cX11_fisher 91 = .ok (.ireturn, 1) := by decide +kernel
theorem dX11_fisher_92 : decode cX11_fisher 92 = .ok (.aload_n 3, 1) := by decide +kernel
theorem dX11_fisher_93 : decode cX11_fisher 93 = .ok (.getfield 143, 3) := by decide +kernel
theorem dX11_fisher_96 : decode cX11_fisher 96 = .ok (.ireturn, 1) := by decide +kernel
theorem dX11_fisher_97 : decode cX11_fisher 97 = .ok (.aload_n 3, 1) := by decide +kernel
theorem dX11_fisher_98 : decode cX11_fisher 98 = .ok (.getfield 146, 3) := by decide +kernel
theorem dX11_fisher_101 : decode cX11_fisher 101 = .ok (.ireturn, 1) := by decide +kernel
theorem dX11_fisher_102 : decode cX11_fisher 102 = .ok (.aload_n 3, 1) := by decide +kernel
theorem dX11_fisher_103 : decode cX11_fisher 103 = .ok (.getfield 149, 3) := by decide +kernel
theorem dX11_fisher_106 : decode cX11_fisher 106 = .ok (.ireturn, 1) := by decide +kernel
theorem dX11_fisher_107 : decode cX11_fisher 107 = .ok (.aload_n 3, 1) := by decide +kernel
theorem dX11_fisher_108 : decode cX11_fisher 108 = .ok (.getfield 152, 3) := by decide +kernel
theorem dX11_fisher_111 : decode cX11_fisher 111 = .ok (.ireturn, 1) := by decide +kernel
theorem dX11_fisher_112 : decode cX11_fisher 112 = .ok (.aload_n 3, 1) := by decide +kernel
theorem dX11_fisher_113 : decode cX11_fisher 113 = .ok (.getfield 155, 3) := by decide +kernel
theorem dX11_fisher_116 : decode cX11_fisher 116 = .ok (.ifCond .eq 7, 3) := by decide +kernel
theorem dX11_fisher_119 : decode cX11_fisher 119 = .ok (.iconst 1, 1) := by decide +kernel
theorem dX11_fisher_120 : decode cX11_fisher 120 = .ok (.goto 4, 3) := by decide +kernel
theorem dX11_fisher_123 : decode cX11_fisher 123 = .ok (.iconst 0, 1) := by decide +kernel
theorem dX11_fisher_124 : decode cX11_fisher 124 = .ok (.ireturn, 1) := by decide +kernel
theorem dX11_fisher_125 : decode cX11_fisher 125 = .ok (.aload_n 3, 1) := by decide +kernel
theorem dX11_fisher_126 : decode cX11_fisher 126 = .ok (.getfield 159, 3) := by decide +kernel
theorem dX11_fisher_129 : decode cX11_fisher 129 = .ok (.ireturn, 1) := by decide +kernel
theorem dX11_fisher_130 : decode cX11_fisher 130 = .ok (.new 92, 3) := by decide +kernel
theorem dX11_fisher_133 : decode cX11_fisher 133 = .ok (.dup, 1) := by decide +kernel
theorem dX11_fisher_134 : decode cX11_fisher 134 = .ok (.ldc 160, 2) := by decide +kernel
theorem dX11_fisher_136 : decode cX11_fisher 136 = .ok (.invokespecial 96, 3) := by decide +kernel
theorem dX11_fisher_139 : decode cX11_fisher 139 = .ok (.athrow, 1) := by decide +kernel
set_option maxRecDepth 20000 in
theorem ggX11_fisher_X11_checkFisher : GoodIn wsX11_fisher wsX11_checkFisher := goodIn_ca (goodIn_r _ [19, 1, 2, 3, 20, 21, 22, 23, 24, 25, 26, 27, 28, 29, 30, 31, 32, 33, 34, 35, 36, 37, 38, 39, 40, 41] (by decide +kernel) (by decide +kernel)) (goodIn_sub (fun _ h => List.mem_cons_of_mem _ (List.mem_append_right _ h)) (by decide +kernel))
set_option maxRecDepth 20000 in
theorem gX11_fisher_X11_checkFisher : GoodIn wsX11_fisher (wsV RX11 122 RX11 yX11_checkFisher wsX11_checkFisher) := goodIn_app (goodIn_of _ (by decide +kernel)) ggX11_fisher_X11_checkFisher
theorem k_X11_fisher_f19 : Cond.fieldLink RX11 19 "TideLots" "shore" "LTideLots$Shore;" ∈ wsX11_fisher := by decide +kernel
theorem i_X11_fisher_X11 : ∀ w ∈ u_ws RX11 TX11 4, w ∈ wsX11_fisher := by decide +kernel
theorem k_X11_fisher_f125 : Cond.fieldLink RX11 125 "TideLots$Shore" "fishers" "[LTideLots$Fisher;" ∈ wsX11_fisher := by decide +kernel
theorem i_X11_fisher_X7 : ∀ w ∈ u_ws RX7 TX7 17, w ∈ wsX11_fisher := by decide +kernel
theorem k_X11_fisher_f129 : Cond.fieldLink RX11 129 "TideLots$Fisher" "mesh" "I" ∈ wsX11_fisher := by decide +kernel
theorem i_X11_fisher_X1 : ∀ w ∈ u_ws RX1 TX1 11, w ∈ wsX11_fisher := by decide +kernel
theorem k_X11_fisher_f134 : Cond.fieldLink RX11 134 "TideLots$Fisher" "toldMesh" "I" ∈ wsX11_fisher := by decide +kernel
theorem k_X11_fisher_f137 : Cond.fieldLink RX11 137 "TideLots$Fisher" "net" "I" ∈ wsX11_fisher := by decide +kernel
theorem k_X11_fisher_f140 : Cond.fieldLink RX11 140 "TideLots$Fisher" "hold" "I" ∈ wsX11_fisher := by decide +kernel
theorem k_X11_fisher_f143 : Cond.fieldLink RX11 143 "TideLots$Fisher" "store" "I" ∈ wsX11_fisher := by decide +kernel
theorem k_X11_fisher_f146 : Cond.fieldLink RX11 146 "TideLots$Fisher" "latest" "I" ∈ wsX11_fisher := by decide +kernel
theorem k_X11_fisher_f149 : Cond.fieldLink RX11 149 "TideLots$Fisher" "place" "I" ∈ wsX11_fisher := by decide +kernel
theorem k_X11_fisher_f152 : Cond.fieldLink RX11 152 "TideLots$Fisher" "tears" "I" ∈ wsX11_fisher := by decide +kernel
theorem k_X11_fisher_f155 : Cond.fieldLink RX11 155 "TideLots$Fisher" "isCheat" "Z" ∈ wsX11_fisher := by decide +kernel
theorem k_X11_fisher_f159 : Cond.fieldLink RX11 159 "TideLots$Fisher" "caught" "I" ∈ wsX11_fisher := by decide +kernel
theorem k_X11_fisher_hat96 : ∀ w ∈ (vx_atS RX11 96 "java/lang/IndexOutOfBoundsException" ["java/lang/RuntimeException", "java/lang/Exception"]).filter goodWord, w ∈ wsX11_fisher := by decide +kernel
theorem k_X11_fisher_cl92 : Cond.classLink RX11 92 "java/lang/IndexOutOfBoundsException" ∈ wsX11_fisher := by decide +kernel
theorem k_X11_fisher_ini92 : Cond.initialized "java/lang/IndexOutOfBoundsException" ∈ wsX11_fisher := by decide +kernel
abbrev rX11_fisher : Room := { frames := 7, cells := 2, slots := 12, locals := 103 }
noncomputable def b_X11_fisher_124 (M : gMem) (s0 : Int32) : Option ((Nat ⊕ Int32) × gMem) :=
  some (.inr s0, M)
noncomputable def b_X11_fisher_0 (M : gMem) (x0 : Nat) (x1 : Int32) (x2 : Int32) : Option ((Nat ⊕ Int32) × gMem) :=
  ck (mT M x0 = 10) <| bx (f_X11_checkFisher M x0 x1) (fun e1 M1 => some (.inl e1, M1)) fun _ M1 => ck (mT M1 x0 = 10) <| dr ((mR M1 x0 1)) fun a4 => ck (mT M1 a4 = 7) <| dr ((mR M1 a4 7)) fun a6 => ck (mT M1 a6 = 24) <| ck (inb x1 (mL M1 a6)) <| (if x2 = (0 : Int32) then dr ((mR M1 a6 x1.toNatClampNeg)) fun a10 => ck (mT M1 a10 = 1) <| some (.inr (mI M1 a10 1), M1) else (if x2 = (1 : Int32) then dr ((mR M1 a6 x1.toNatClampNeg)) fun a13 => ck (mT M1 a13 = 1) <| some (.inr (mI M1 a13 0), M1) else (if x2 = (2 : Int32) then dr ((mR M1 a6 x1.toNatClampNeg)) fun a16 => ck (mT M1 a16 = 1) <| some (.inr (mI M1 a16 2), M1) else (if x2 = (3 : Int32) then dr ((mR M1 a6 x1.toNatClampNeg)) fun a19 => ck (mT M1 a19 = 1) <| some (.inr (mI M1 a19 3), M1) else (if x2 = (4 : Int32) then dr ((mR M1 a6 x1.toNatClampNeg)) fun a22 => ck (mT M1 a22 = 1) <| some (.inr (mI M1 a22 4), M1) else (if x2 = (5 : Int32) then dr ((mR M1 a6 x1.toNatClampNeg)) fun a25 => ck (mT M1 a25 = 1) <| some (.inr (mI M1 a25 5), M1) else (if x2 = (6 : Int32) then dr ((mR M1 a6 x1.toNatClampNeg)) fun a28 => ck (mT M1 a28 = 1) <| some (.inr (mI M1 a28 6), M1) else (if x2 = (7 : Int32) then dr ((mR M1 a6 x1.toNatClampNeg)) fun a31 => ck (mT M1 a31 = 1) <| some (.inr (mI M1 a31 7), M1) else (if x2 = (8 : Int32) then dr ((mR M1 a6 x1.toNatClampNeg)) fun a34 => ck (mT M1 a34 = 1) <| (if (mI M1 a34 9) = 0 then b_X11_fisher_124 M1 ((0 : Int32)) else b_X11_fisher_124 M1 ((1 : Int32))) else (if x2 = (9 : Int32) then dr ((mR M1 a6 x1.toNatClampNeg)) fun a37 => ck (mT M1 a37 = 1) <| some (.inr (mI M1 a37 8), M1) else some (.inl 2, M1)))))))))))
noncomputable def f_X11_fisher (M : gMem) (x0 : Nat) (x1 : Int32) (x2 : Int32) : Option ((Nat ⊕ Int32) × gMem) :=
  b_X11_fisher_0 M x0 x1 x2
set_option maxHeartbeats 4000000 in
set_option maxRecDepth 100000 in
theorem t_X11_fisher_124 (X2 : gX p s m args meth c D cy B (gSt2 Z B H0) RX11 cX11_fisher wsX11_fisher 4) (hr : meth.sig.returnType = (some .int)) (hlx : l.stackTraces = false) (hH : ∀ q : Nat, q < B → s.heap[q]? = H0[q]?) (hne : ∀ x ∈ c.exceptionTable.toList, False) (hH0 : H0.size = B) {Q : State → Prop} : ∀ (M : gMem) (s0 : Int32) (z : (Nat ⊕ Int32) × gMem), b_X11_fisher_124 M s0 = some z → (fun (r : (Nat ⊕ Int32) × gMem) => Q = gMX below D cy B H0 args s 2 12 (gzI r.1) r.2) z → gGo p l e rX11_fisher s m args below meth c D cy B H0 4 1 6 Q 124 [] [vI s0] M := by
  intro M s0 z hf hK
  unfold b_X11_fisher_124 at hf
  have X := gX_w X2
  cases hf
  refine g_eqQ hK ?_
  refine g_wide (k' := 2) (n' := 12) (by decide) (by decide) ?_
  refine g_xret ?_
  exact g_iret X hr dX11_fisher_124
set_option maxHeartbeats 4000000 in
set_option maxRecDepth 100000 in
theorem t_X11_fisher_0 (X2 : gX p s m args meth c D cy B (gSt2 Z B H0) RX11 cX11_fisher wsX11_fisher 4) (hr : meth.sig.returnType = (some .int)) (hlx : l.stackTraces = false) (hH : ∀ q : Nat, q < B → s.heap[q]? = H0[q]?) (hne : ∀ x ∈ c.exceptionTable.toList, False) (hH0 : H0.size = B) {Q : State → Prop} : ∀ (M : gMem) (x0 : Nat) (x1 : Int32) (x2 : Int32) (z : (Nat ⊕ Int32) × gMem), b_X11_fisher_0 M x0 x1 x2 = some z → (fun (r : (Nat ⊕ Int32) × gMem) => Q = gMX below D cy B H0 args s 2 12 (gzI r.1) r.2) z → gGo p l e rX11_fisher s m args below meth c D cy B H0 4 0 0 Q 0 [(0, vR (some x0)), (1, vI x1), (2, vI x2)] [] M := by
  intro M x0 x1 x2 z hf hK
  unfold b_X11_fisher_0 at hf
  have X := gX_w X2
  refine g_aload_n X dX11_fisher_0 rfl rfl ?_
  refine g_iload_n X dX11_fisher_1 rfl rfl ?_
  obtain ⟨hT2, hf⟩ := ck_e hf
  rcases bx_e hf with ⟨e1, M1, hq1, hf⟩ | ⟨r1, M1, hq1, hf⟩
  · cases hf
    refine g_eqQ hK ?_
    exact g_callTV (ci := 9) (b := x0) (As := [vI x1]) (st := []) (M1 := M1) X2 hne (m_X11_checkFisher l hlx hH0 hq1) (cwV 1 X.2.2.1 gX11_fisher_X11_checkFisher rfl rfl rfl (by decide +kernel) ⟨Nat.le_of_ble_eq_true rfl, Nat.le_of_ble_eq_true rfl⟩) rfl rfl rfl hT2 (by decide) rfl (Nat.le_of_ble_eq_true rfl) dX11_fisher_2 ⟨(by decide), (by decide)⟩ (by decide) (by decide)
  refine g_callXV (ci := 9) (b := x0) (As := [vI x1]) (st := []) (v := none) (M1 := M1) X2 (m_X11_checkFisher l hlx hH0 hq1) (cwV 1 X.2.2.1 gX11_fisher_X11_checkFisher rfl rfl rfl (by decide +kernel) ⟨Nat.le_of_ble_eq_true rfl, Nat.le_of_ble_eq_true rfl⟩) rfl rfl rfl hT2 (by decide) rfl (Nat.le_of_ble_eq_true rfl) dX11_fisher_2 ⟨(by decide), (by decide)⟩ ?_
  refine g_aload_n X dX11_fisher_5 rfl rfl ?_
  obtain ⟨hT3, hf⟩ := ck_e hf
  refine g_get (ci := 9) (v := vR (mR M1 x0 1)) 1 X cdX11 i_X11_fisher_X11 (by decide) k_X11_fisher_f19 rfl dX11_fisher_6 rfl hT3 rfl ?_
  obtain ⟨a4, ha4, hf⟩ := dr_e hf
  obtain ⟨hT5, hf⟩ := ck_e hf
  refine g_get (ci := 6) (v := vR (mR M1 a4 7)) 7 X cdX7 i_X11_fisher_X7 (by decide) k_X11_fisher_f125 rfl dX11_fisher_9 ha4 hT5 rfl ?_
  refine g_iload_n X dX11_fisher_12 rfl rfl ?_
  obtain ⟨a6, ha6, hf⟩ := dr_e hf
  obtain ⟨hT7, hf⟩ := ck_e hf
  obtain ⟨hg8, hf⟩ := ck_e hf
  refine g_aald (t0 := 4) X dX11_fisher_13 ha6 hT7 (by decide) rfl hg8 ?_
  refine g_astore_n (lv' := [(3, vR (mR M1 a6 x1.toNatClampNeg)), (0, vR (some x0)), (1, vI x1), (2, vI x2)]) X dX11_fisher_14 rfl (by decide) rfl ?_
  refine g_iload_n X dX11_fisher_15 rfl rfl ?_
  by_cases hs9 : x2 = (0 : Int32)
  · have hf := ife_t hs9 hf
    refine g_tabin (tgt := 72) X dX11_fisher_16 hs9 (by decide) (by decide) rfl (by decide) ?_
    refine g_aload_n X dX11_fisher_72 rfl rfl ?_
    obtain ⟨a10, ha10, hf⟩ := dr_e hf
    obtain ⟨hT11, hf⟩ := ck_e hf
    refine g_get (ci := 0) (v := vI (mI M1 a10 1)) 1 X cdX1 i_X11_fisher_X1 (by decide) k_X11_fisher_f129 rfl dX11_fisher_73 ha10 hT11 rfl ?_
    cases hf
    refine g_eqQ hK ?_
    refine g_wide (k' := 2) (n' := 12) (by decide) (by decide) ?_
    refine g_xret ?_
    exact g_iret X hr dX11_fisher_76
  · have hf := ife_f hs9 hf
    by_cases hs12 : x2 = (1 : Int32)
    · have hf := ife_t hs12 hf
      refine g_tabin (tgt := 77) X dX11_fisher_16 hs12 (by decide) (by decide) rfl (by decide) ?_
      refine g_aload_n X dX11_fisher_77 rfl rfl ?_
      obtain ⟨a13, ha13, hf⟩ := dr_e hf
      obtain ⟨hT14, hf⟩ := ck_e hf
      refine g_get (ci := 0) (v := vI (mI M1 a13 0)) 0 X cdX1 i_X11_fisher_X1 (by decide) k_X11_fisher_f134 rfl dX11_fisher_78 ha13 hT14 rfl ?_
      cases hf
      refine g_eqQ hK ?_
      refine g_wide (k' := 2) (n' := 12) (by decide) (by decide) ?_
      refine g_xret ?_
      exact g_iret X hr dX11_fisher_81
    · have hf := ife_f hs12 hf
      by_cases hs15 : x2 = (2 : Int32)
      · have hf := ife_t hs15 hf
        refine g_tabin (tgt := 82) X dX11_fisher_16 hs15 (by decide) (by decide) rfl (by decide) ?_
        refine g_aload_n X dX11_fisher_82 rfl rfl ?_
        obtain ⟨a16, ha16, hf⟩ := dr_e hf
        obtain ⟨hT17, hf⟩ := ck_e hf
        refine g_get (ci := 0) (v := vI (mI M1 a16 2)) 2 X cdX1 i_X11_fisher_X1 (by decide) k_X11_fisher_f137 rfl dX11_fisher_83 ha16 hT17 rfl ?_
        cases hf
        refine g_eqQ hK ?_
        refine g_wide (k' := 2) (n' := 12) (by decide) (by decide) ?_
        refine g_xret ?_
        exact g_iret X hr dX11_fisher_86
      · have hf := ife_f hs15 hf
        by_cases hs18 : x2 = (3 : Int32)
        · have hf := ife_t hs18 hf
          refine g_tabin (tgt := 87) X dX11_fisher_16 hs18 (by decide) (by decide) rfl (by decide) ?_
          refine g_aload_n X dX11_fisher_87 rfl rfl ?_
          obtain ⟨a19, ha19, hf⟩ := dr_e hf
          obtain ⟨hT20, hf⟩ := ck_e hf
          refine g_get (ci := 0) (v := vI (mI M1 a19 3)) 3 X cdX1 i_X11_fisher_X1 (by decide) k_X11_fisher_f140 rfl dX11_fisher_88 ha19 hT20 rfl ?_
          cases hf
          refine g_eqQ hK ?_
          refine g_wide (k' := 2) (n' := 12) (by decide) (by decide) ?_
          refine g_xret ?_
          exact g_iret X hr dX11_fisher_91
        · have hf := ife_f hs18 hf
          by_cases hs21 : x2 = (4 : Int32)
          · have hf := ife_t hs21 hf
            refine g_tabin (tgt := 92) X dX11_fisher_16 hs21 (by decide) (by decide) rfl (by decide) ?_
            refine g_aload_n X dX11_fisher_92 rfl rfl ?_
            obtain ⟨a22, ha22, hf⟩ := dr_e hf
            obtain ⟨hT23, hf⟩ := ck_e hf
            refine g_get (ci := 0) (v := vI (mI M1 a22 4)) 4 X cdX1 i_X11_fisher_X1 (by decide) k_X11_fisher_f143 rfl dX11_fisher_93 ha22 hT23 rfl ?_
            cases hf
            refine g_eqQ hK ?_
            refine g_wide (k' := 2) (n' := 12) (by decide) (by decide) ?_
            refine g_xret ?_
            exact g_iret X hr dX11_fisher_96
          · have hf := ife_f hs21 hf
            by_cases hs24 : x2 = (5 : Int32)
            · have hf := ife_t hs24 hf
              refine g_tabin (tgt := 97) X dX11_fisher_16 hs24 (by decide) (by decide) rfl (by decide) ?_
              refine g_aload_n X dX11_fisher_97 rfl rfl ?_
              obtain ⟨a25, ha25, hf⟩ := dr_e hf
              obtain ⟨hT26, hf⟩ := ck_e hf
              refine g_get (ci := 0) (v := vI (mI M1 a25 5)) 5 X cdX1 i_X11_fisher_X1 (by decide) k_X11_fisher_f146 rfl dX11_fisher_98 ha25 hT26 rfl ?_
              cases hf
              refine g_eqQ hK ?_
              refine g_wide (k' := 2) (n' := 12) (by decide) (by decide) ?_
              refine g_xret ?_
              exact g_iret X hr dX11_fisher_101
            · have hf := ife_f hs24 hf
              by_cases hs27 : x2 = (6 : Int32)
              · have hf := ife_t hs27 hf
                refine g_tabin (tgt := 102) X dX11_fisher_16 hs27 (by decide) (by decide) rfl (by decide) ?_
                refine g_aload_n X dX11_fisher_102 rfl rfl ?_
                obtain ⟨a28, ha28, hf⟩ := dr_e hf
                obtain ⟨hT29, hf⟩ := ck_e hf
                refine g_get (ci := 0) (v := vI (mI M1 a28 6)) 6 X cdX1 i_X11_fisher_X1 (by decide) k_X11_fisher_f149 rfl dX11_fisher_103 ha28 hT29 rfl ?_
                cases hf
                refine g_eqQ hK ?_
                refine g_wide (k' := 2) (n' := 12) (by decide) (by decide) ?_
                refine g_xret ?_
                exact g_iret X hr dX11_fisher_106
              · have hf := ife_f hs27 hf
                by_cases hs30 : x2 = (7 : Int32)
                · have hf := ife_t hs30 hf
                  refine g_tabin (tgt := 107) X dX11_fisher_16 hs30 (by decide) (by decide) rfl (by decide) ?_
                  refine g_aload_n X dX11_fisher_107 rfl rfl ?_
                  obtain ⟨a31, ha31, hf⟩ := dr_e hf
                  obtain ⟨hT32, hf⟩ := ck_e hf
                  refine g_get (ci := 0) (v := vI (mI M1 a31 7)) 7 X cdX1 i_X11_fisher_X1 (by decide) k_X11_fisher_f152 rfl dX11_fisher_108 ha31 hT32 rfl ?_
                  cases hf
                  refine g_eqQ hK ?_
                  refine g_wide (k' := 2) (n' := 12) (by decide) (by decide) ?_
                  refine g_xret ?_
                  exact g_iret X hr dX11_fisher_111
                · have hf := ife_f hs30 hf
                  by_cases hs33 : x2 = (8 : Int32)
                  · have hf := ife_t hs33 hf
                    refine g_tabin (tgt := 112) X dX11_fisher_16 hs33 (by decide) (by decide) rfl (by decide) ?_
                    refine g_aload_n X dX11_fisher_112 rfl rfl ?_
                    obtain ⟨a34, ha34, hf⟩ := dr_e hf
                    obtain ⟨hT35, hf⟩ := ck_e hf
                    refine g_get (ci := 0) (v := vI (mI M1 a34 9)) 9 X cdX1 i_X11_fisher_X1 (by decide) k_X11_fisher_f155 rfl dX11_fisher_113 ha34 hT35 rfl ?_
                    refine g_if_eq (tgt := 123) X dX11_fisher_116 (by decide) (fun hc => ?_) (fun hc => ?_)
                    · have hf := ife_t hc hf
                      refine g_iconst (v := (0 : Int32)) X dX11_fisher_123 (by decide) ?_
                      refine g_sub (lvsub_of _ _ [] rfl) ?_
                      exact t_X11_fisher_124 X2 hr hlx hH hne hH0 _ _ _ hf hK
                    · have hf := ife_f hc hf
                      refine g_iconst (v := (1 : Int32)) X dX11_fisher_119 (by decide) ?_
                      refine g_goto (tgt := 124) X dX11_fisher_120 (by decide) ?_
                      refine g_sub (lvsub_of _ _ [] rfl) ?_
                      exact t_X11_fisher_124 X2 hr hlx hH hne hH0 _ _ _ hf hK
                  · have hf := ife_f hs33 hf
                    by_cases hs36 : x2 = (9 : Int32)
                    · have hf := ife_t hs36 hf
                      refine g_tabin (tgt := 125) X dX11_fisher_16 hs36 (by decide) (by decide) rfl (by decide) ?_
                      refine g_aload_n X dX11_fisher_125 rfl rfl ?_
                      obtain ⟨a37, ha37, hf⟩ := dr_e hf
                      obtain ⟨hT38, hf⟩ := ck_e hf
                      refine g_get (ci := 0) (v := vI (mI M1 a37 8)) 8 X cdX1 i_X11_fisher_X1 (by decide) k_X11_fisher_f159 rfl dX11_fisher_126 ha37 hT38 rfl ?_
                      cases hf
                      refine g_eqQ hK ?_
                      refine g_wide (k' := 2) (n' := 12) (by decide) (by decide) ?_
                      refine g_xret ?_
                      exact g_iret X hr dX11_fisher_129
                    · have hf := ife_f hs36 hf
                      refine g_tabout (tgt := 130) X dX11_fisher_16 (gtab_out 10 (0) (by decide) (by decide) (fun i hi => match i, hi with | 0, _ => fun e => hs9 (e.trans (by decide)) | 1, _ => fun e => hs12 (e.trans (by decide)) | 2, _ => fun e => hs15 (e.trans (by decide)) | 3, _ => fun e => hs18 (e.trans (by decide)) | 4, _ => fun e => hs21 (e.trans (by decide)) | 5, _ => fun e => hs24 (e.trans (by decide)) | 6, _ => fun e => hs27 (e.trans (by decide)) | 7, _ => fun e => hs30 (e.trans (by decide)) | 8, _ => fun e => hs33 (e.trans (by decide)) | 9, _ => fun e => hs36 (e.trans (by decide)) | i + 10, h => absurd h (by omega))) (by decide) ?_
                      cases hf
                      refine g_eqQ hK ?_
                      exact g_throwS (text := "nothing of this number is told of a fisher") X2 hlx hH hH0 hne (by decide) k_X11_fisher_cl92 k_X11_fisher_ini92 (by decide) k_X11_fisher_hat96 kx_hxw96 kx_hg96_92 rfl dX11_fisher_130 dX11_fisher_133 dX11_fisher_134 dX11_fisher_136 dX11_fisher_139 (Nat.le_of_ble_eq_true rfl) (Nat.le_of_ble_eq_true rfl) (by decide) (by decide) (by decide) (by decide)
set_option maxHeartbeats 4000000 in
set_option maxRecDepth 100000 in
theorem m_X11_fisher (l : Launch) (hlx : l.stackTraces = false) {D : va_G} {cy : Nat → ClassId} {B : Nat} {H0 : Heap} {Z : Nat → Nat} {M M1 : gMem} {x0 : Nat} {x1 : Int32} {x2 : Int32} {r : (Nat ⊕ Int32)} (hH0 : H0.size = B) (hf : f_X11_fisher M x0 x1 x2 = some (r, M1)) : vx_Met l yX11_fisher wsX11_fisher rX11_fisher (va_Pc (Value.ref x0 :: List.map gv [vI x1, vI x2]) (gPre D cy B H0 (gSt2 Z B H0) M)) (gQX D cy B H0 (gzI r) M1) (gXC D cy B H0 (gzI r) M1) 2 12 (gA B) := by
  refine vx_ofW (cc := cX11_fisher) (maxL := 4) (ret := (some .int)) (by decide) rfl ?_
  intro p e s m args below meth c s₁ Bd hml hne hv
  obtain ⟨rfl, hW, hKK, hFs⟩ := hv
  have X2 : gX p s m _ meth c D cy B (gSt2 Z B H0) RX11 cX11_fisher wsX11_fisher 4 := ⟨Bd.exec, Bd.bytes, atoms_spec (ws := wsX11_fisher) Bd.pre, findClass_of_methodNamed Bd.named, hml, hKK, by rw [hW.1]; exact hW.2.1, Bd.notSynchronized, hFs⟩
  have hr := Bd.returns
  have hH : ∀ q : Nat, q < B → s.heap[q]? = H0[q]? := hW.2.2.1
  have hl := lv_entry ([.ref x0, .int x1, .int x2]) (n := 4) (Nat.le_of_ble_eq_true rfl)
  show W p l e rX11_fisher s m _ below meth c s.heap [] 0 0 _ (entryFrame m ([.ref x0, .int x1, .int x2] : List Value).toArray 4)
  rw [lg_entry_eq]
  generalize (lg_sl ([.ref x0, .int x1, .int x2]) ++ List.replicate (4 - (lg_sl ([.ref x0, .int x1, .int x2])).length) Slot.unset).toArray = ls at hl ⊢
  have hl : lv_has ls 4 (List.map gq [(0, vR (some x0)), (1, vI x1), (2, vI x2)]) := hl
  exact t_X11_fisher_0 X2 hr hlx hH hne hH0 _ _ _ _ _ hf rfl s.heap [] ls hW va_S.rf (lv_has_sub hl (lvsub_of _ _ [0, 1, 2] rfl))
/-! ## TideLots.pact(II)I -/
theorem dX11_pact_0 : decode cX11_pact 0 = .ok (.iload_n 1, 1) := by decide +kernel
theorem dX11_pact_1 : decode cX11_pact 1 = .ok (.ifCond .lt 14, 3) := by decide +kernel
theorem dX11_pact_4 : decode cX11_pact 4 = .ok (.iload_n 1, 1) := by decide +kernel
theorem dX11_pact_5 : decode cX11_pact 5 = .ok (.aload_n 0, 1) := by decide +kernel
theorem dX11_pact_6 : decode cX11_pact 6 = .ok (.getfield 19, 3) := by decide +kernel
theorem dX11_pact_9 : decode cX11_pact 9 = .ok (.getfield 77, 3) := by decide +kernel
theorem dX11_pact_12 : decode cX11_pact 12 = .ok (.if_icmp .lt 13, 3) := by decide +kernel
theorem dX11_pact_15 : decode cX11_pact 15 = .ok (.new 92, 3) := by decide +kernel
theorem dX11_pact_18 : decode cX11_pact 18 = .ok (.dup, 1) := by decide +kernel
theorem dX11_pact_19 : decode cX11_pact 19 = .ok (.ldc 162, 2) := by decide +kernel
theorem dX11_pact_21 : decode cX11_pact 21 = .ok (.invokespecial 96, 3) := by decide +kernel
theorem dX11_pact_24 : decode cX11_pact 24 = .ok (.athrow, 1) := by decide +kernel
theorem dX11_pact_25 : decode cX11_pact 25 = .ok (.aload_n 0, 1) := by decide +kernel
theorem dX11_pact_26 : decode cX11_pact 26 = .ok (.getfield 19, 3) := by decide +kernel
theorem dX11_pact_29 : decode cX11_pact 29 = .ok (.getfield 164, 3) := by decide +kernel
theorem dX11_pact_32 : decode cX11_pact 32 = .ok (.iload_n 1, 1) := by decide +kernel
theorem dX11_pact_33 : decode cX11_pact 33 = .ok (.aaload, 1) := by decide +kernel
theorem dX11_pact_34 : decode cX11_pact 34 = .ok (.astore_n 3, 1) := by decide +kernel
theorem dX11_pact_35 : decode cX11_pact 35 = .ok (.iload_n 2, 1) := by decide +kernel
theorem dX11_pact_36 : decode cX11_pact 36 = .ok (.tableswitch 89 0 6 #[44, 57, 62, 67, 74, 79, 84], 44) := by decide +kernel
theorem dX11_pact_80 : decode cX11_pact 80 = .ok (.aload_n 3, 1) := by decide +kernel
theorem dX11_pact_81 : decode cX11_pact 81 = .ok (.invokevirtual 168, 3) := by decide +kernel
theorem dX11_pact_84 : decode cX11_pact 84 = .ok (.ifCond .eq 7, 3) := by decide +kernel
theorem dX11_pact_87 : decode cX11_pact 87 = .ok (.iconst 0, 1) := by decide +kernel
theorem dX11_pact_88 : decode cX11_pact 88 = .ok (.goto 4, 3) := by decide +kernel
theorem dX11_pact_91 : decode cX11_pact 91 = .ok (.iconst 1, 1) := by decide +kernel
theorem dX11_pact_92 : decode cX11_pact 92 = .ok (.ireturn, 1) := by decide +kernel
theorem dX11_pact_93 : decode cX11_pact 93 = .ok (.aload_n 3, 1) := by decide +kernel
theorem dX11_pact_94 : decode cX11_pact 94 = .ok (.getfield 174, 3) := by decide +kernel
theorem dX11_pact_97 : decode cX11_pact 97 = .ok (.ireturn, 1) := by decide +kernel
theorem dX11_pact_98 : decode cX11_pact 98 = .ok (.aload_n 3, 1) := by decide +kernel
theorem dX11_pact_99 : decode cX11_pact 99 = .ok (.getfield 177, 3) := by decide +kernel
theorem dX11_pact_102 : decode cX11_pact 102 = .ok (.ireturn, 1) := by decide +kernel
theorem dX11_pact_103 : decode cX11_pact 103 = .ok (.aload_n 3, 1) := by decide +kernel
theorem dX11_pact_104 : decode cX11_pact 104 = .ok (.getfield 180, 3) := by decide +kernel
theorem dX11_pact_107 : decode cX11_pact 107 = .ok (.iconst 0, 1) := by decide +kernel
theorem dX11_pact_108 : decode cX11_pact 108 = .ok (.iaload, 1) := by decide +kernel
theorem dX11_pact_109 : decode cX11_pact 109 = .ok (.ireturn, 1) := by decide +kernel
theorem dX11_pact_110 : decode cX11_pact 110 = .ok (.aload_n 3, 1) := by decide +kernel
theorem dX11_pact_111 : decode cX11_pact 111 = .ok (.getfield 182, 3) := by decide +kernel
theorem dX11_pact_114 : decode cX11_pact 114 = .ok (.ireturn, 1) := by decide +kernel
theorem dX11_pact_115 : decode cX11_pact 115 = .ok (.aload_n 3, 1) := by decide +kernel
theorem dX11_pact_116 : decode cX11_pact 116 = .ok (.getfield 185, 3) := by decide +kernel
theorem dX11_pact_119 : decode cX11_pact 119 = .ok (.ireturn, 1) := by decide +kernel
theorem dX11_pact_120 : decode cX11_pact 120 = .ok (.aload_n 3, 1) := by decide +kernel
theorem dX11_pact_121 : decode cX11_pact 121 = .ok (.getfield 188, 3) := by decide +kernel
theorem dX11_pact_124 : decode cX11_pact 124 = .ok (.ireturn, 1) := by decide +kernel
theorem dX11_pact_125 : decode cX11_pact 125 = .ok (.new 92, 3) := by decide +kernel
theorem dX11_pact_128 : decode cX11_pact 128 = .ok (.dup, 1) := by decide +kernel
theorem dX11_pact_129 : decode cX11_pact 129 = .ok (.ldc 191, 2) := by decide +kernel
theorem dX11_pact_131 : decode cX11_pact 131 = .ok (.invokespecial 96, 3) := by decide +kernel
theorem dX11_pact_134 : decode cX11_pact 134 = .ok (.athrow, 1) := by decide +kernel
set_option maxRecDepth 20000 in
theorem ggX11_pact_X5_splits : GoodIn wsX11_pact wsX5_splits := goodIn_r _ [16, 17, 39, 40, 41, 42, 43, 44, 45, 46] (by decide +kernel) (by decide +kernel)
set_option maxRecDepth 20000 in
theorem gX11_pact_X5_splits : GoodIn wsX11_pact (wsV RX11 168 RX5 yX5_splits wsX5_splits) := goodIn_app (goodIn_of _ (by decide +kernel)) ggX11_pact_X5_splits
theorem k_X11_pact_hat96 : ∀ w ∈ (vx_atS RX11 96 "java/lang/IndexOutOfBoundsException" ["java/lang/RuntimeException", "java/lang/Exception"]).filter goodWord, w ∈ wsX11_pact := by decide +kernel
theorem k_X11_pact_cl92 : Cond.classLink RX11 92 "java/lang/IndexOutOfBoundsException" ∈ wsX11_pact := by decide +kernel
theorem k_X11_pact_ini92 : Cond.initialized "java/lang/IndexOutOfBoundsException" ∈ wsX11_pact := by decide +kernel
theorem k_X11_pact_f19 : Cond.fieldLink RX11 19 "TideLots" "shore" "LTideLots$Shore;" ∈ wsX11_pact := by decide +kernel
theorem i_X11_pact_X11 : ∀ w ∈ u_ws RX11 TX11 4, w ∈ wsX11_pact := by decide +kernel
theorem k_X11_pact_f77 : Cond.fieldLink RX11 77 "TideLots$Shore" "pactCount" "I" ∈ wsX11_pact := by decide +kernel
theorem i_X11_pact_X7 : ∀ w ∈ u_ws RX7 TX7 17, w ∈ wsX11_pact := by decide +kernel
theorem k_X11_pact_f164 : Cond.fieldLink RX11 164 "TideLots$Shore" "pacts" "[LTideLots$Pact;" ∈ wsX11_pact := by decide +kernel
theorem k_X11_pact_f174 : Cond.fieldLink RX11 174 "TideLots$Pact" "ground" "I" ∈ wsX11_pact := by decide +kernel
theorem i_X11_pact_X5 : ∀ w ∈ u_ws RX5 TX5 8, w ∈ wsX11_pact := by decide +kernel
theorem k_X11_pact_f177 : Cond.fieldLink RX11 177 "TideLots$Pact" "size" "I" ∈ wsX11_pact := by decide +kernel
theorem k_X11_pact_f180 : Cond.fieldLink RX11 180 "TideLots$Pact" "fishers" "[I" ∈ wsX11_pact := by decide +kernel
theorem k_X11_pact_f182 : Cond.fieldLink RX11 182 "TideLots$Pact" "shown" "I" ∈ wsX11_pact := by decide +kernel
theorem k_X11_pact_f185 : Cond.fieldLink RX11 185 "TideLots$Pact" "hidden" "I" ∈ wsX11_pact := by decide +kernel
theorem k_X11_pact_f188 : Cond.fieldLink RX11 188 "TideLots$Pact" "hidingTides" "I" ∈ wsX11_pact := by decide +kernel
abbrev rX11_pact : Room := { frames := 6, cells := 1, slots := 6, locals := 82 }
noncomputable def b_X11_pact_92 (M : gMem) (s0 : Int32) : Option ((Nat ⊕ Int32) × gMem) :=
  some (.inr s0, M)
noncomputable def b_X11_pact_15 (M : gMem)  : Option ((Nat ⊕ Int32) × gMem) :=
  some (.inl 2, M)
noncomputable def b_X11_pact_0 (M : gMem) (x0 : Nat) (x1 : Int32) (x2 : Int32) : Option ((Nat ⊕ Int32) × gMem) :=
  (if x1 < 0 then b_X11_pact_15 M  else ck (mT M x0 = 10) <| dr ((mR M x0 1)) fun a2 => ck (mT M a2 = 7) <| (if x1 < (mI M a2 5) then dr ((mR M a2 9)) fun a4 => ck (mT M a4 = 26) <| ck (inb x1 (mL M a4)) <| (if x2 = (0 : Int32) then dr ((mR M a4 x1.toNatClampNeg)) fun a9 => ck (mT M a9 = 5) <| bd (f_X5_splits M a9) fun r8 M8 => (if r8 = 0 then b_X11_pact_92 M8 ((1 : Int32)) else b_X11_pact_92 M8 ((0 : Int32))) else (if x2 = (1 : Int32) then dr ((mR M a4 x1.toNatClampNeg)) fun a12 => ck (mT M a12 = 5) <| some (.inr (mI M a12 0), M) else (if x2 = (2 : Int32) then dr ((mR M a4 x1.toNatClampNeg)) fun a15 => ck (mT M a15 = 5) <| some (.inr (mI M a15 3), M) else (if x2 = (3 : Int32) then dr ((mR M a4 x1.toNatClampNeg)) fun a18 => ck (mT M a18 = 5) <| dr ((mR M a18 4)) fun a20 => ck (mT M a20 = 20) <| ck (inb (0 : Int32) (mL M a20)) <| some (.inr (mI M a20 ((0 : Int32)).toNatClampNeg), M) else (if x2 = (4 : Int32) then dr ((mR M a4 x1.toNatClampNeg)) fun a24 => ck (mT M a24 = 5) <| some (.inr (mI M a24 5), M) else (if x2 = (5 : Int32) then dr ((mR M a4 x1.toNatClampNeg)) fun a27 => ck (mT M a27 = 5) <| some (.inr (mI M a27 6), M) else (if x2 = (6 : Int32) then dr ((mR M a4 x1.toNatClampNeg)) fun a30 => ck (mT M a30 = 5) <| some (.inr (mI M a30 7), M) else some (.inl 2, M)))))))) else b_X11_pact_15 M ))
noncomputable def f_X11_pact (M : gMem) (x0 : Nat) (x1 : Int32) (x2 : Int32) : Option ((Nat ⊕ Int32) × gMem) :=
  b_X11_pact_0 M x0 x1 x2
set_option maxHeartbeats 4000000 in
set_option maxRecDepth 100000 in
theorem t_X11_pact_92 (X2 : gX p s m args meth c D cy B (gSt2 Z B H0) RX11 cX11_pact wsX11_pact 4) (hr : meth.sig.returnType = (some .int)) (hlx : l.stackTraces = false) (hH : ∀ q : Nat, q < B → s.heap[q]? = H0[q]?) (hne : ∀ x ∈ c.exceptionTable.toList, False) (hH0 : H0.size = B) {Q : State → Prop} : ∀ (M : gMem) (s0 : Int32) (z : (Nat ⊕ Int32) × gMem), b_X11_pact_92 M s0 = some z → (fun (r : (Nat ⊕ Int32) × gMem) => Q = gMX below D cy B H0 args s 1 6 (gzI r.1) r.2) z → gGo p l e rX11_pact s m args below meth c D cy B H0 4 0 0 Q 92 [] [vI s0] M := by
  intro M s0 z hf hK
  unfold b_X11_pact_92 at hf
  have X := gX_w X2
  cases hf
  refine g_eqQ hK ?_
  refine g_wide (k' := 1) (n' := 6) (by decide) (by decide) ?_
  refine g_xret ?_
  exact g_iret X hr dX11_pact_92
set_option maxHeartbeats 4000000 in
set_option maxRecDepth 100000 in
theorem t_X11_pact_15 (X2 : gX p s m args meth c D cy B (gSt2 Z B H0) RX11 cX11_pact wsX11_pact 4) (hr : meth.sig.returnType = (some .int)) (hlx : l.stackTraces = false) (hH : ∀ q : Nat, q < B → s.heap[q]? = H0[q]?) (hne : ∀ x ∈ c.exceptionTable.toList, False) (hH0 : H0.size = B) {Q : State → Prop} : ∀ (M : gMem)  (z : (Nat ⊕ Int32) × gMem), b_X11_pact_15 M  = some z → (fun (r : (Nat ⊕ Int32) × gMem) => Q = gMX below D cy B H0 args s 1 6 (gzI r.1) r.2) z → gGo p l e rX11_pact s m args below meth c D cy B H0 4 0 0 Q 15 [] [] M := by
  intro M  z hf hK
  unfold b_X11_pact_15 at hf
  have X := gX_w X2
  cases hf
  refine g_eqQ hK ?_
  exact g_throwS (text := "no such pact") X2 hlx hH hH0 hne (by decide) k_X11_pact_cl92 k_X11_pact_ini92 (by decide) k_X11_pact_hat96 kx_hxw96 kx_hg96_92 rfl dX11_pact_15 dX11_pact_18 dX11_pact_19 dX11_pact_21 dX11_pact_24 (Nat.le_of_ble_eq_true rfl) (Nat.le_of_ble_eq_true rfl) (by decide) (by decide) (by decide) (by decide)
set_option maxHeartbeats 4000000 in
set_option maxRecDepth 100000 in
theorem t_X11_pact_0 (X2 : gX p s m args meth c D cy B (gSt2 Z B H0) RX11 cX11_pact wsX11_pact 4) (hr : meth.sig.returnType = (some .int)) (hlx : l.stackTraces = false) (hH : ∀ q : Nat, q < B → s.heap[q]? = H0[q]?) (hne : ∀ x ∈ c.exceptionTable.toList, False) (hH0 : H0.size = B) {Q : State → Prop} : ∀ (M : gMem) (x0 : Nat) (x1 : Int32) (x2 : Int32) (z : (Nat ⊕ Int32) × gMem), b_X11_pact_0 M x0 x1 x2 = some z → (fun (r : (Nat ⊕ Int32) × gMem) => Q = gMX below D cy B H0 args s 1 6 (gzI r.1) r.2) z → gGo p l e rX11_pact s m args below meth c D cy B H0 4 0 0 Q 0 [(0, vR (some x0)), (1, vI x1), (2, vI x2)] [] M := by
  intro M x0 x1 x2 z hf hK
  unfold b_X11_pact_0 at hf
  have X := gX_w X2
  refine g_iload_n X dX11_pact_0 rfl rfl ?_
  refine g_if_lt (tgt := 15) X dX11_pact_1 (by decide) (fun hc => ?_) (fun hc => ?_)
  · have hf := ife_t hc hf
    refine g_sub (lvsub_of _ _ [] rfl) ?_
    exact t_X11_pact_15 X2 hr hlx hH hne hH0 _  _ hf hK
  · have hf := ife_f hc hf
    refine g_iload_n X dX11_pact_4 rfl rfl ?_
    refine g_aload_n X dX11_pact_5 rfl rfl ?_
    obtain ⟨hT1, hf⟩ := ck_e hf
    refine g_get (ci := 9) (v := vR (mR M x0 1)) 1 X cdX11 i_X11_pact_X11 (by decide) k_X11_pact_f19 rfl dX11_pact_6 rfl hT1 rfl ?_
    obtain ⟨a2, ha2, hf⟩ := dr_e hf
    obtain ⟨hT3, hf⟩ := ck_e hf
    refine g_get (ci := 6) (v := vI (mI M a2 5)) 5 X cdX7 i_X11_pact_X7 (by decide) k_X11_pact_f77 rfl dX11_pact_9 ha2 hT3 rfl ?_
    refine g_icmp_lt (tgt := 25) X dX11_pact_12 (by decide) (fun hc => ?_) (fun hc => ?_)
    · have hf := ife_t hc hf
      refine g_aload_n X dX11_pact_25 rfl rfl ?_
      refine g_get (ci := 9) (v := vR (mR M x0 1)) 1 X cdX11 i_X11_pact_X11 (by decide) k_X11_pact_f19 rfl dX11_pact_26 rfl hT1 rfl ?_
      refine g_get (ci := 6) (v := vR (mR M a2 9)) 9 X cdX7 i_X11_pact_X7 (by decide) k_X11_pact_f164 rfl dX11_pact_29 ha2 hT3 rfl ?_
      refine g_iload_n X dX11_pact_32 rfl rfl ?_
      obtain ⟨a4, ha4, hf⟩ := dr_e hf
      obtain ⟨hT5, hf⟩ := ck_e hf
      obtain ⟨hg6, hf⟩ := ck_e hf
      refine g_aald (t0 := 6) X dX11_pact_33 ha4 hT5 (by decide) rfl hg6 ?_
      refine g_astore_n (lv' := [(3, vR (mR M a4 x1.toNatClampNeg)), (0, vR (some x0)), (1, vI x1), (2, vI x2)]) X dX11_pact_34 rfl (by decide) rfl ?_
      refine g_iload_n X dX11_pact_35 rfl rfl ?_
      by_cases hs7 : x2 = (0 : Int32)
      · have hf := ife_t hs7 hf
        refine g_tabin (tgt := 80) X dX11_pact_36 hs7 (by decide) (by decide) rfl (by decide) ?_
        refine g_aload_n X dX11_pact_80 rfl rfl ?_
        obtain ⟨a9, ha9, hf⟩ := dr_e hf
        obtain ⟨hT10, hf⟩ := ck_e hf
        obtain ⟨r8, M8, hq8, hf⟩ := bd_e hf
        refine g_callV (ci := 4) (b := a9) (As := []) (st := []) (v := some (vI r8)) (M1 := M8) X (m_X5_splits l hq8) (cwV 0 X.2.2.1 gX11_pact_X5_splits rfl rfl rfl (by decide +kernel) ⟨Nat.le_of_ble_eq_true rfl, Nat.le_of_ble_eq_true rfl⟩) rfl rfl ha9 hT10 (by decide) rfl (Nat.le_of_ble_eq_true rfl) dX11_pact_81 ⟨by decide, by decide⟩ ?_
        refine g_if_eq (tgt := 91) X dX11_pact_84 (by decide) (fun hc => ?_) (fun hc => ?_)
        · have hf := ife_t hc hf
          refine g_iconst (v := (1 : Int32)) X dX11_pact_91 (by decide) ?_
          refine g_sub (lvsub_of _ _ [] rfl) ?_
          exact t_X11_pact_92 X2 hr hlx hH hne hH0 _ _ _ hf hK
        · have hf := ife_f hc hf
          refine g_iconst (v := (0 : Int32)) X dX11_pact_87 (by decide) ?_
          refine g_goto (tgt := 92) X dX11_pact_88 (by decide) ?_
          refine g_sub (lvsub_of _ _ [] rfl) ?_
          exact t_X11_pact_92 X2 hr hlx hH hne hH0 _ _ _ hf hK
      · have hf := ife_f hs7 hf
        by_cases hs11 : x2 = (1 : Int32)
        · have hf := ife_t hs11 hf
          refine g_tabin (tgt := 93) X dX11_pact_36 hs11 (by decide) (by decide) rfl (by decide) ?_
          refine g_aload_n X dX11_pact_93 rfl rfl ?_
          obtain ⟨a12, ha12, hf⟩ := dr_e hf
          obtain ⟨hT13, hf⟩ := ck_e hf
          refine g_get (ci := 4) (v := vI (mI M a12 0)) 0 X cdX5 i_X11_pact_X5 (by decide) k_X11_pact_f174 rfl dX11_pact_94 ha12 hT13 rfl ?_
          cases hf
          refine g_eqQ hK ?_
          refine g_wide (k' := 1) (n' := 6) (by decide) (by decide) ?_
          refine g_xret ?_
          exact g_iret X hr dX11_pact_97
        · have hf := ife_f hs11 hf
          by_cases hs14 : x2 = (2 : Int32)
          · have hf := ife_t hs14 hf
            refine g_tabin (tgt := 98) X dX11_pact_36 hs14 (by decide) (by decide) rfl (by decide) ?_
            refine g_aload_n X dX11_pact_98 rfl rfl ?_
            obtain ⟨a15, ha15, hf⟩ := dr_e hf
            obtain ⟨hT16, hf⟩ := ck_e hf
            refine g_get (ci := 4) (v := vI (mI M a15 3)) 3 X cdX5 i_X11_pact_X5 (by decide) k_X11_pact_f177 rfl dX11_pact_99 ha15 hT16 rfl ?_
            cases hf
            refine g_eqQ hK ?_
            refine g_wide (k' := 1) (n' := 6) (by decide) (by decide) ?_
            refine g_xret ?_
            exact g_iret X hr dX11_pact_102
          · have hf := ife_f hs14 hf
            by_cases hs17 : x2 = (3 : Int32)
            · have hf := ife_t hs17 hf
              refine g_tabin (tgt := 103) X dX11_pact_36 hs17 (by decide) (by decide) rfl (by decide) ?_
              refine g_aload_n X dX11_pact_103 rfl rfl ?_
              obtain ⟨a18, ha18, hf⟩ := dr_e hf
              obtain ⟨hT19, hf⟩ := ck_e hf
              refine g_get (ci := 4) (v := vR (mR M a18 4)) 4 X cdX5 i_X11_pact_X5 (by decide) k_X11_pact_f180 rfl dX11_pact_104 ha18 hT19 rfl ?_
              refine g_iconst (v := (0 : Int32)) X dX11_pact_107 (by decide) ?_
              obtain ⟨a20, ha20, hf⟩ := dr_e hf
              obtain ⟨hT21, hf⟩ := ck_e hf
              obtain ⟨hg22, hf⟩ := ck_e hf
              refine g_iald X dX11_pact_108 ha20 hT21 hg22 ?_
              cases hf
              refine g_eqQ hK ?_
              refine g_wide (k' := 1) (n' := 6) (by decide) (by decide) ?_
              refine g_xret ?_
              exact g_iret X hr dX11_pact_109
            · have hf := ife_f hs17 hf
              by_cases hs23 : x2 = (4 : Int32)
              · have hf := ife_t hs23 hf
                refine g_tabin (tgt := 110) X dX11_pact_36 hs23 (by decide) (by decide) rfl (by decide) ?_
                refine g_aload_n X dX11_pact_110 rfl rfl ?_
                obtain ⟨a24, ha24, hf⟩ := dr_e hf
                obtain ⟨hT25, hf⟩ := ck_e hf
                refine g_get (ci := 4) (v := vI (mI M a24 5)) 5 X cdX5 i_X11_pact_X5 (by decide) k_X11_pact_f182 rfl dX11_pact_111 ha24 hT25 rfl ?_
                cases hf
                refine g_eqQ hK ?_
                refine g_wide (k' := 1) (n' := 6) (by decide) (by decide) ?_
                refine g_xret ?_
                exact g_iret X hr dX11_pact_114
              · have hf := ife_f hs23 hf
                by_cases hs26 : x2 = (5 : Int32)
                · have hf := ife_t hs26 hf
                  refine g_tabin (tgt := 115) X dX11_pact_36 hs26 (by decide) (by decide) rfl (by decide) ?_
                  refine g_aload_n X dX11_pact_115 rfl rfl ?_
                  obtain ⟨a27, ha27, hf⟩ := dr_e hf
                  obtain ⟨hT28, hf⟩ := ck_e hf
                  refine g_get (ci := 4) (v := vI (mI M a27 6)) 6 X cdX5 i_X11_pact_X5 (by decide) k_X11_pact_f185 rfl dX11_pact_116 ha27 hT28 rfl ?_
                  cases hf
                  refine g_eqQ hK ?_
                  refine g_wide (k' := 1) (n' := 6) (by decide) (by decide) ?_
                  refine g_xret ?_
                  exact g_iret X hr dX11_pact_119
                · have hf := ife_f hs26 hf
                  by_cases hs29 : x2 = (6 : Int32)
                  · have hf := ife_t hs29 hf
                    refine g_tabin (tgt := 120) X dX11_pact_36 hs29 (by decide) (by decide) rfl (by decide) ?_
                    refine g_aload_n X dX11_pact_120 rfl rfl ?_
                    obtain ⟨a30, ha30, hf⟩ := dr_e hf
                    obtain ⟨hT31, hf⟩ := ck_e hf
                    refine g_get (ci := 4) (v := vI (mI M a30 7)) 7 X cdX5 i_X11_pact_X5 (by decide) k_X11_pact_f188 rfl dX11_pact_121 ha30 hT31 rfl ?_
                    cases hf
                    refine g_eqQ hK ?_
                    refine g_wide (k' := 1) (n' := 6) (by decide) (by decide) ?_
                    refine g_xret ?_
                    exact g_iret X hr dX11_pact_124
                  · have hf := ife_f hs29 hf
                    refine g_tabout (tgt := 125) X dX11_pact_36 (gtab_out 7 (0) (by decide) (by decide) (fun i hi => match i, hi with | 0, _ => fun e => hs7 (e.trans (by decide)) | 1, _ => fun e => hs11 (e.trans (by decide)) | 2, _ => fun e => hs14 (e.trans (by decide)) | 3, _ => fun e => hs17 (e.trans (by decide)) | 4, _ => fun e => hs23 (e.trans (by decide)) | 5, _ => fun e => hs26 (e.trans (by decide)) | 6, _ => fun e => hs29 (e.trans (by decide)) | i + 7, h => absurd h (by omega))) (by decide) ?_
                    cases hf
                    refine g_eqQ hK ?_
                    exact g_throwS (text := "nothing of this number is told of a pact") X2 hlx hH hH0 hne (by decide) k_X11_pact_cl92 k_X11_pact_ini92 (by decide) k_X11_pact_hat96 kx_hxw96 kx_hg96_92 rfl dX11_pact_125 dX11_pact_128 dX11_pact_129 dX11_pact_131 dX11_pact_134 (Nat.le_of_ble_eq_true rfl) (Nat.le_of_ble_eq_true rfl) (by decide) (by decide) (by decide) (by decide)
    · have hf := ife_f hc hf
      refine g_sub (lvsub_of _ _ [] rfl) ?_
      exact t_X11_pact_15 X2 hr hlx hH hne hH0 _  _ hf hK
set_option maxHeartbeats 4000000 in
set_option maxRecDepth 100000 in
theorem m_X11_pact (l : Launch) (hlx : l.stackTraces = false) {D : va_G} {cy : Nat → ClassId} {B : Nat} {H0 : Heap} {Z : Nat → Nat} {M M1 : gMem} {x0 : Nat} {x1 : Int32} {x2 : Int32} {r : (Nat ⊕ Int32)} (hH0 : H0.size = B) (hf : f_X11_pact M x0 x1 x2 = some (r, M1)) : vx_Met l yX11_pact wsX11_pact rX11_pact (va_Pc (Value.ref x0 :: List.map gv [vI x1, vI x2]) (gPre D cy B H0 (gSt2 Z B H0) M)) (gQX D cy B H0 (gzI r) M1) (gXC D cy B H0 (gzI r) M1) 1 6 (gA B) := by
  refine vx_ofW (cc := cX11_pact) (maxL := 4) (ret := (some .int)) (by decide) rfl ?_
  intro p e s m args below meth c s₁ Bd hml hne hv
  obtain ⟨rfl, hW, hKK, hFs⟩ := hv
  have X2 : gX p s m _ meth c D cy B (gSt2 Z B H0) RX11 cX11_pact wsX11_pact 4 := ⟨Bd.exec, Bd.bytes, atoms_spec (ws := wsX11_pact) Bd.pre, findClass_of_methodNamed Bd.named, hml, hKK, by rw [hW.1]; exact hW.2.1, Bd.notSynchronized, hFs⟩
  have hr := Bd.returns
  have hH : ∀ q : Nat, q < B → s.heap[q]? = H0[q]? := hW.2.2.1
  have hl := lv_entry ([.ref x0, .int x1, .int x2]) (n := 4) (Nat.le_of_ble_eq_true rfl)
  show W p l e rX11_pact s m _ below meth c s.heap [] 0 0 _ (entryFrame m ([.ref x0, .int x1, .int x2] : List Value).toArray 4)
  rw [lg_entry_eq]
  generalize (lg_sl ([.ref x0, .int x1, .int x2]) ++ List.replicate (4 - (lg_sl ([.ref x0, .int x1, .int x2])).length) Slot.unset).toArray = ls at hl ⊢
  have hl : lv_has ls 4 (List.map gq [(0, vR (some x0)), (1, vI x1), (2, vI x2)]) := hl
  exact t_X11_pact_0 X2 hr hlx hH hne hH0 _ _ _ _ _ hf rfl s.heap [] ls hW va_S.rf (lv_has_sub hl (lvsub_of _ _ [0, 1, 2] rfl))
/-! ## TideLots.cheat(IZ)I -/
theorem dX11_cheat_0 : decode cX11_cheat 0 = .ok (.aload_n 0, 1) := by decide +kernel
theorem dX11_cheat_1 : decode cX11_cheat 1 = .ok (.iload_n 1, 1) := by decide +kernel
theorem dX11_cheat_2 : decode cX11_cheat 2 = .ok (.invokevirtual 122, 3) := by decide +kernel
theorem dX11_cheat_5 : decode cX11_cheat 5 = .ok (.aload_n 0, 1) := by decide +kernel
theorem dX11_cheat_6 : decode cX11_cheat 6 = .ok (.getfield 19, 3) := by decide +kernel
theorem dX11_cheat_9 : decode cX11_cheat 9 = .ok (.getfield 125, 3) := by decide +kernel
theorem dX11_cheat_12 : decode cX11_cheat 12 = .ok (.iload_n 1, 1) := by decide +kernel
theorem dX11_cheat_13 : decode cX11_cheat 13 = .ok (.aaload, 1) := by decide +kernel
theorem dX11_cheat_14 : decode cX11_cheat 14 = .ok (.iload_n 2, 1) := by decide +kernel
theorem dX11_cheat_15 : decode cX11_cheat 15 = .ok (.putfield 155, 3) := by decide +kernel
theorem dX11_cheat_18 : decode cX11_cheat 18 = .ok (.aload_n 0, 1) := by decide +kernel
theorem dX11_cheat_19 : decode cX11_cheat 19 = .ok (.getfield 19, 3) := by decide +kernel
theorem dX11_cheat_22 : decode cX11_cheat 22 = .ok (.invokevirtual 89, 3) := by decide +kernel
theorem dX11_cheat_25 : decode cX11_cheat 25 = .ok (.ireturn, 1) := by decide +kernel
set_option maxRecDepth 20000 in
theorem ggX11_cheat_X11_checkFisher : GoodIn wsX11_cheat wsX11_checkFisher := goodIn_ca (goodIn_r _ [8, 9, 10, 1, 11, 20, 21, 22, 23, 24, 25, 26, 27, 28, 29, 30, 31, 32, 33, 34, 35, 36, 37, 38, 39, 40] (by decide +kernel) (by decide +kernel)) (goodIn_sub (fun _ h => List.mem_cons_of_mem _ (List.mem_append_right _ h)) (by decide +kernel))
set_option maxRecDepth 20000 in
theorem gX11_cheat_X11_checkFisher : GoodIn wsX11_cheat (wsV RX11 122 RX11 yX11_checkFisher wsX11_checkFisher) := goodIn_app (goodIn_of _ (by decide +kernel)) ggX11_cheat_X11_checkFisher
set_option maxRecDepth 20000 in
theorem ggX11_cheat_X7_allCheats : GoodIn wsX11_cheat wsX7_allCheats := goodIn_r _ [16, 17, 18, 19, 24, 25, 26, 27, 28, 29, 30, 31, 32, 33, 34, 35, 36, 37, 38, 39, 40, 41, 42, 43, 44, 45, 46, 47, 48, 49, 50, 51] (by decide +kernel) (by decide +kernel)
set_option maxRecDepth 20000 in
theorem gX11_cheat_X7_allCheats : GoodIn wsX11_cheat (wsV RX11 89 RX7 yX7_allCheats wsX7_allCheats) := goodIn_app (goodIn_of _ (by decide +kernel)) ggX11_cheat_X7_allCheats
theorem k_X11_cheat_f19 : Cond.fieldLink RX11 19 "TideLots" "shore" "LTideLots$Shore;" ∈ wsX11_cheat := by decide +kernel
theorem i_X11_cheat_X11 : ∀ w ∈ u_ws RX11 TX11 4, w ∈ wsX11_cheat := by decide +kernel
theorem k_X11_cheat_f125 : Cond.fieldLink RX11 125 "TideLots$Shore" "fishers" "[LTideLots$Fisher;" ∈ wsX11_cheat := by decide +kernel
theorem i_X11_cheat_X7 : ∀ w ∈ u_ws RX7 TX7 17, w ∈ wsX11_cheat := by decide +kernel
theorem k_X11_cheat_f155 : Cond.fieldLink RX11 155 "TideLots$Fisher" "isCheat" "Z" ∈ wsX11_cheat := by decide +kernel
theorem i_X11_cheat_X1 : ∀ w ∈ u_ws RX1 TX1 11, w ∈ wsX11_cheat := by decide +kernel
abbrev rX11_cheat : Room := { frames := 7, cells := 1, slots := 6, locals := 103 }
noncomputable def b_X11_cheat_0 (M : gMem) (x0 : Nat) (x1 : Int32) (x2 : Int32) : Option ((Nat ⊕ Int32) × gMem) :=
  ck (mT M x0 = 10) <| bx (f_X11_checkFisher M x0 x1) (fun e1 M1 => some (.inl e1, M1)) fun _ M1 => ck (mT M1 x0 = 10) <| dr ((mR M1 x0 1)) fun a4 => ck (mT M1 a4 = 7) <| dr ((mR M1 a4 7)) fun a6 => ck (mT M1 a6 = 24) <| ck (inb x1 (mL M1 a6)) <| dr ((mR M1 a6 x1.toNatClampNeg)) fun a9 => ck (mT M1 a9 = 1) <| ck (x2 = 0 ∨ x2 = 1) <| lw (wI M1 a9 9 x2) fun M12 => dr ((mR M12 x0 1)) fun a18 => ck (mT M12 a18 = 7) <| bd (f_X7_allCheats M12 a18) fun r17 M17 => some (.inr r17, M17)
noncomputable def f_X11_cheat (M : gMem) (x0 : Nat) (x1 : Int32) (x2 : Int32) : Option ((Nat ⊕ Int32) × gMem) :=
  b_X11_cheat_0 M x0 x1 x2
set_option maxHeartbeats 4000000 in
set_option maxRecDepth 100000 in
theorem t_X11_cheat_0 (X2 : gX p s m args meth c D cy B (gSt2 Z B H0) RX11 cX11_cheat wsX11_cheat 3) (hr : meth.sig.returnType = (some .int)) (hlx : l.stackTraces = false) (hH : ∀ q : Nat, q < B → s.heap[q]? = H0[q]?) (hne : ∀ x ∈ c.exceptionTable.toList, False) (hH0 : H0.size = B) {Q : State → Prop} : ∀ (M : gMem) (x0 : Nat) (x1 : Int32) (x2 : Int32) (z : (Nat ⊕ Int32) × gMem), b_X11_cheat_0 M x0 x1 x2 = some z → (fun (r : (Nat ⊕ Int32) × gMem) => Q = gMX below D cy B H0 args s 1 6 (gzI r.1) r.2) z → gGo p l e rX11_cheat s m args below meth c D cy B H0 3 0 0 Q 0 [(0, vR (some x0)), (1, vI x1), (2, vI x2)] [] M := by
  intro M x0 x1 x2 z hf hK
  unfold b_X11_cheat_0 at hf
  have X := gX_w X2
  refine g_aload_n X dX11_cheat_0 rfl rfl ?_
  refine g_iload_n X dX11_cheat_1 rfl rfl ?_
  obtain ⟨hT2, hf⟩ := ck_e hf
  rcases bx_e hf with ⟨e1, M1, hq1, hf⟩ | ⟨r1, M1, hq1, hf⟩
  · cases hf
    refine g_eqQ hK ?_
    exact g_callTV (ci := 9) (b := x0) (As := [vI x1]) (st := []) (M1 := M1) X2 hne (m_X11_checkFisher l hlx hH0 hq1) (cwV 1 X.2.2.1 gX11_cheat_X11_checkFisher rfl rfl rfl (by decide +kernel) ⟨Nat.le_of_ble_eq_true rfl, Nat.le_of_ble_eq_true rfl⟩) rfl rfl rfl hT2 (by decide) rfl (Nat.le_of_ble_eq_true rfl) dX11_cheat_2 ⟨(by decide), (by decide)⟩ (by decide) (by decide)
  refine g_callXV (ci := 9) (b := x0) (As := [vI x1]) (st := []) (v := none) (M1 := M1) X2 (m_X11_checkFisher l hlx hH0 hq1) (cwV 1 X.2.2.1 gX11_cheat_X11_checkFisher rfl rfl rfl (by decide +kernel) ⟨Nat.le_of_ble_eq_true rfl, Nat.le_of_ble_eq_true rfl⟩) rfl rfl rfl hT2 (by decide) rfl (Nat.le_of_ble_eq_true rfl) dX11_cheat_2 ⟨(by decide), (by decide)⟩ ?_
  refine g_aload_n X dX11_cheat_5 rfl rfl ?_
  obtain ⟨hT3, hf⟩ := ck_e hf
  refine g_get (ci := 9) (v := vR (mR M1 x0 1)) 1 X cdX11 i_X11_cheat_X11 (by decide) k_X11_cheat_f19 rfl dX11_cheat_6 rfl hT3 rfl ?_
  obtain ⟨a4, ha4, hf⟩ := dr_e hf
  obtain ⟨hT5, hf⟩ := ck_e hf
  refine g_get (ci := 6) (v := vR (mR M1 a4 7)) 7 X cdX7 i_X11_cheat_X7 (by decide) k_X11_cheat_f125 rfl dX11_cheat_9 ha4 hT5 rfl ?_
  refine g_iload_n X dX11_cheat_12 rfl rfl ?_
  obtain ⟨a6, ha6, hf⟩ := dr_e hf
  obtain ⟨hT7, hf⟩ := ck_e hf
  obtain ⟨hg8, hf⟩ := ck_e hf
  refine g_aald (t0 := 4) X dX11_cheat_13 ha6 hT7 (by decide) rfl hg8 ?_
  refine g_iload_n X dX11_cheat_14 rfl rfl ?_
  obtain ⟨a9, ha9, hf⟩ := dr_e hf
  obtain ⟨hT10, hf⟩ := ck_e hf
  obtain ⟨hg11, hf⟩ := ck_e hf
  refine g_putI (ci := 0) 9 X cdX1 i_X11_cheat_X1 (by decide) k_X11_cheat_f155 rfl dX11_cheat_15 ha9 hT10 (Or.inl rfl) (gnb hg11) (gfb hg11) rfl ?_
  obtain ⟨M12, hM12, hf⟩ := lw_e hf
  rw [← hM12]
  have hT13 : mT M12 x0 = 10 := by rw [hM12]; exact hT3
  have hT14 : mT M12 a4 = 7 := by rw [hM12]; exact hT5
  have hT15 : mT M12 a6 = 24 := by rw [hM12]; exact hT7
  have hT16 : mT M12 a9 = 1 := by rw [hM12]; exact hT10
  refine g_aload_n X dX11_cheat_18 rfl rfl ?_
  refine g_get (ci := 9) (v := vR (mR M12 x0 1)) 1 X cdX11 i_X11_cheat_X11 (by decide) k_X11_cheat_f19 rfl dX11_cheat_19 rfl hT13 rfl ?_
  obtain ⟨a18, ha18, hf⟩ := dr_e hf
  obtain ⟨hT19, hf⟩ := ck_e hf
  obtain ⟨r17, M17, hq17, hf⟩ := bd_e hf
  refine g_callV (ci := 6) (b := a18) (As := []) (st := []) (v := some (vI r17)) (M1 := M17) X (m_X7_allCheats l hq17) (cwV 0 X.2.2.1 gX11_cheat_X7_allCheats rfl rfl rfl (by decide +kernel) ⟨Nat.le_of_ble_eq_true rfl, Nat.le_of_ble_eq_true rfl⟩) rfl rfl ha18 hT19 (by decide) rfl (Nat.le_of_ble_eq_true rfl) dX11_cheat_22 ⟨by decide, by decide⟩ ?_
  cases hf
  refine g_eqQ hK ?_
  refine g_xret ?_
  exact g_iret X hr dX11_cheat_25
set_option maxHeartbeats 4000000 in
set_option maxRecDepth 100000 in
theorem m_X11_cheat (l : Launch) (hlx : l.stackTraces = false) {D : va_G} {cy : Nat → ClassId} {B : Nat} {H0 : Heap} {Z : Nat → Nat} {M M1 : gMem} {x0 : Nat} {x1 : Int32} {x2 : Int32} {r : (Nat ⊕ Int32)} (hH0 : H0.size = B) (hf : f_X11_cheat M x0 x1 x2 = some (r, M1)) : vx_Met l yX11_cheat wsX11_cheat rX11_cheat (va_Pc (Value.ref x0 :: List.map gv [vI x1, vI x2]) (gPre D cy B H0 (gSt2 Z B H0) M)) (gQX D cy B H0 (gzI r) M1) (gXC D cy B H0 (gzI r) M1) 1 6 (gA B) := by
  refine vx_ofW (cc := cX11_cheat) (maxL := 3) (ret := (some .int)) (by decide) rfl ?_
  intro p e s m args below meth c s₁ Bd hml hne hv
  obtain ⟨rfl, hW, hKK, hFs⟩ := hv
  have X2 : gX p s m _ meth c D cy B (gSt2 Z B H0) RX11 cX11_cheat wsX11_cheat 3 := ⟨Bd.exec, Bd.bytes, atoms_spec (ws := wsX11_cheat) Bd.pre, findClass_of_methodNamed Bd.named, hml, hKK, by rw [hW.1]; exact hW.2.1, Bd.notSynchronized, hFs⟩
  have hr := Bd.returns
  have hH : ∀ q : Nat, q < B → s.heap[q]? = H0[q]? := hW.2.2.1
  have hl := lv_entry ([.ref x0, .int x1, .int x2]) (n := 3) (Nat.le_of_ble_eq_true rfl)
  show W p l e rX11_cheat s m _ below meth c s.heap [] 0 0 _ (entryFrame m ([.ref x0, .int x1, .int x2] : List Value).toArray 3)
  rw [lg_entry_eq]
  generalize (lg_sl ([.ref x0, .int x1, .int x2]) ++ List.replicate (3 - (lg_sl ([.ref x0, .int x1, .int x2])).length) Slot.unset).toArray = ls at hl ⊢
  have hl : lv_has ls 3 (List.map gq [(0, vR (some x0)), (1, vI x1), (2, vI x2)]) := hl
  exact t_X11_cheat_0 X2 hr hlx hH hne hH0 _ _ _ _ _ hf rfl s.heap [] ls hW va_S.rf (lv_has_sub hl (lvsub_of _ _ [0, 1, 2] rfl))
/-! ## TideLots.lot(I)I -/
theorem dX11_lot_0 : decode cX11_lot 0 = .ok (.iload_n 1, 1) := by decide +kernel
theorem dX11_lot_1 : decode cX11_lot 1 = .ok (.ifCond .lt 14, 3) := by decide +kernel
theorem dX11_lot_4 : decode cX11_lot 4 = .ok (.iload_n 1, 1) := by decide +kernel
theorem dX11_lot_5 : decode cX11_lot 5 = .ok (.aload_n 0, 1) := by decide +kernel
theorem dX11_lot_6 : decode cX11_lot 6 = .ok (.getfield 19, 3) := by decide +kernel
theorem dX11_lot_9 : decode cX11_lot 9 = .ok (.getfield 71, 3) := by decide +kernel
theorem dX11_lot_12 : decode cX11_lot 12 = .ok (.if_icmp .lt 13, 3) := by decide +kernel
theorem dX11_lot_15 : decode cX11_lot 15 = .ok (.new 92, 3) := by decide +kernel
theorem dX11_lot_18 : decode cX11_lot 18 = .ok (.dup, 1) := by decide +kernel
theorem dX11_lot_19 : decode cX11_lot 19 = .ok (.ldc 195, 2) := by decide +kernel
theorem dX11_lot_21 : decode cX11_lot 21 = .ok (.invokespecial 96, 3) := by decide +kernel
theorem dX11_lot_24 : decode cX11_lot 24 = .ok (.athrow, 1) := by decide +kernel
theorem dX11_lot_25 : decode cX11_lot 25 = .ok (.aload_n 0, 1) := by decide +kernel
theorem dX11_lot_26 : decode cX11_lot 26 = .ok (.getfield 19, 3) := by decide +kernel
theorem dX11_lot_29 : decode cX11_lot 29 = .ok (.invokevirtual 197, 3) := by decide +kernel
theorem dX11_lot_32 : decode cX11_lot 32 = .ok (.pop, 1) := by decide +kernel
theorem dX11_lot_33 : decode cX11_lot 33 = .ok (.aload_n 0, 1) := by decide +kernel
theorem dX11_lot_34 : decode cX11_lot 34 = .ok (.getfield 19, 3) := by decide +kernel
theorem dX11_lot_37 : decode cX11_lot 37 = .ok (.getfield 200, 3) := by decide +kernel
theorem dX11_lot_40 : decode cX11_lot 40 = .ok (.iload_n 1, 1) := by decide +kernel
theorem dX11_lot_41 : decode cX11_lot 41 = .ok (.iaload, 1) := by decide +kernel
theorem dX11_lot_42 : decode cX11_lot 42 = .ok (.ireturn, 1) := by decide +kernel
set_option maxRecDepth 20000 in
theorem ggX11_lot_X7_drawLots : GoodIn wsX11_lot wsX7_drawLots := goodIn_r _ [10, 11, 12, 13, 14, 15, 20, 21, 22, 23, 24, 25, 26, 27, 28, 29, 30, 31, 32, 33, 34, 35, 36] (by decide +kernel) (by decide +kernel)
set_option maxRecDepth 20000 in
theorem gX11_lot_X7_drawLots : GoodIn wsX11_lot (wsV RX11 197 RX7 yX7_drawLots wsX7_drawLots) := goodIn_app (goodIn_of _ (by decide +kernel)) ggX11_lot_X7_drawLots
theorem k_X11_lot_hat96 : ∀ w ∈ (vx_atS RX11 96 "java/lang/IndexOutOfBoundsException" ["java/lang/RuntimeException", "java/lang/Exception"]).filter goodWord, w ∈ wsX11_lot := by decide +kernel
theorem k_X11_lot_cl92 : Cond.classLink RX11 92 "java/lang/IndexOutOfBoundsException" ∈ wsX11_lot := by decide +kernel
theorem k_X11_lot_ini92 : Cond.initialized "java/lang/IndexOutOfBoundsException" ∈ wsX11_lot := by decide +kernel
theorem k_X11_lot_f19 : Cond.fieldLink RX11 19 "TideLots" "shore" "LTideLots$Shore;" ∈ wsX11_lot := by decide +kernel
theorem i_X11_lot_X11 : ∀ w ∈ u_ws RX11 TX11 4, w ∈ wsX11_lot := by decide +kernel
theorem k_X11_lot_f71 : Cond.fieldLink RX11 71 "TideLots$Shore" "fisherCount" "I" ∈ wsX11_lot := by decide +kernel
theorem i_X11_lot_X7 : ∀ w ∈ u_ws RX7 TX7 17, w ∈ wsX11_lot := by decide +kernel
theorem k_X11_lot_f200 : Cond.fieldLink RX11 200 "TideLots$Shore" "lots" "[I" ∈ wsX11_lot := by decide +kernel
abbrev rX11_lot : Room := { frames := 6, cells := 1, slots := 6, locals := 82 }
noncomputable def b_X11_lot_15 (M : gMem)  : Option ((Nat ⊕ Int32) × gMem) :=
  some (.inl 2, M)
noncomputable def b_X11_lot_0 (M : gMem) (x0 : Nat) (x1 : Int32) : Option ((Nat ⊕ Int32) × gMem) :=
  (if x1 < 0 then b_X11_lot_15 M  else ck (mT M x0 = 10) <| dr ((mR M x0 1)) fun a2 => ck (mT M a2 = 7) <| (if x1 < (mI M a2 3) then bd (f_X7_drawLots M a2) fun r4 M4 => ck (mT M4 x0 = 10) <| dr ((mR M4 x0 1)) fun a6 => ck (mT M4 a6 = 7) <| dr ((mR M4 a6 11)) fun a8 => ck (mT M4 a8 = 20) <| ck (inb x1 (mL M4 a8)) <| some (.inr (mI M4 a8 x1.toNatClampNeg), M4) else b_X11_lot_15 M ))
noncomputable def f_X11_lot (M : gMem) (x0 : Nat) (x1 : Int32) : Option ((Nat ⊕ Int32) × gMem) :=
  b_X11_lot_0 M x0 x1
set_option maxHeartbeats 4000000 in
set_option maxRecDepth 100000 in
theorem t_X11_lot_15 (X2 : gX p s m args meth c D cy B (gSt2 Z B H0) RX11 cX11_lot wsX11_lot 2) (hr : meth.sig.returnType = (some .int)) (hlx : l.stackTraces = false) (hH : ∀ q : Nat, q < B → s.heap[q]? = H0[q]?) (hne : ∀ x ∈ c.exceptionTable.toList, False) (hH0 : H0.size = B) {Q : State → Prop} : ∀ (M : gMem)  (z : (Nat ⊕ Int32) × gMem), b_X11_lot_15 M  = some z → (fun (r : (Nat ⊕ Int32) × gMem) => Q = gMX below D cy B H0 args s 1 6 (gzI r.1) r.2) z → gGo p l e rX11_lot s m args below meth c D cy B H0 2 0 0 Q 15 [] [] M := by
  intro M  z hf hK
  unfold b_X11_lot_15 at hf
  have X := gX_w X2
  cases hf
  refine g_eqQ hK ?_
  exact g_throwS (text := "no such lot") X2 hlx hH hH0 hne (by decide) k_X11_lot_cl92 k_X11_lot_ini92 (by decide) k_X11_lot_hat96 kx_hxw96 kx_hg96_92 rfl dX11_lot_15 dX11_lot_18 dX11_lot_19 dX11_lot_21 dX11_lot_24 (Nat.le_of_ble_eq_true rfl) (Nat.le_of_ble_eq_true rfl) (by decide) (by decide) (by decide) (by decide)
set_option maxHeartbeats 4000000 in
set_option maxRecDepth 100000 in
theorem t_X11_lot_0 (X2 : gX p s m args meth c D cy B (gSt2 Z B H0) RX11 cX11_lot wsX11_lot 2) (hr : meth.sig.returnType = (some .int)) (hlx : l.stackTraces = false) (hH : ∀ q : Nat, q < B → s.heap[q]? = H0[q]?) (hne : ∀ x ∈ c.exceptionTable.toList, False) (hH0 : H0.size = B) {Q : State → Prop} : ∀ (M : gMem) (x0 : Nat) (x1 : Int32) (z : (Nat ⊕ Int32) × gMem), b_X11_lot_0 M x0 x1 = some z → (fun (r : (Nat ⊕ Int32) × gMem) => Q = gMX below D cy B H0 args s 1 6 (gzI r.1) r.2) z → gGo p l e rX11_lot s m args below meth c D cy B H0 2 0 0 Q 0 [(0, vR (some x0)), (1, vI x1)] [] M := by
  intro M x0 x1 z hf hK
  unfold b_X11_lot_0 at hf
  have X := gX_w X2
  refine g_iload_n X dX11_lot_0 rfl rfl ?_
  refine g_if_lt (tgt := 15) X dX11_lot_1 (by decide) (fun hc => ?_) (fun hc => ?_)
  · have hf := ife_t hc hf
    refine g_sub (lvsub_of _ _ [] rfl) ?_
    exact t_X11_lot_15 X2 hr hlx hH hne hH0 _  _ hf hK
  · have hf := ife_f hc hf
    refine g_iload_n X dX11_lot_4 rfl rfl ?_
    refine g_aload_n X dX11_lot_5 rfl rfl ?_
    obtain ⟨hT1, hf⟩ := ck_e hf
    refine g_get (ci := 9) (v := vR (mR M x0 1)) 1 X cdX11 i_X11_lot_X11 (by decide) k_X11_lot_f19 rfl dX11_lot_6 rfl hT1 rfl ?_
    obtain ⟨a2, ha2, hf⟩ := dr_e hf
    obtain ⟨hT3, hf⟩ := ck_e hf
    refine g_get (ci := 6) (v := vI (mI M a2 3)) 3 X cdX7 i_X11_lot_X7 (by decide) k_X11_lot_f71 rfl dX11_lot_9 ha2 hT3 rfl ?_
    refine g_icmp_lt (tgt := 25) X dX11_lot_12 (by decide) (fun hc => ?_) (fun hc => ?_)
    · have hf := ife_t hc hf
      refine g_aload_n X dX11_lot_25 rfl rfl ?_
      refine g_get (ci := 9) (v := vR (mR M x0 1)) 1 X cdX11 i_X11_lot_X11 (by decide) k_X11_lot_f19 rfl dX11_lot_26 rfl hT1 rfl ?_
      obtain ⟨r4, M4, hq4, hf⟩ := bd_e hf
      refine g_callV (ci := 6) (b := a2) (As := []) (st := []) (v := some (vI r4)) (M1 := M4) X (m_X7_drawLots l hq4) (cwV 0 X.2.2.1 gX11_lot_X7_drawLots rfl rfl rfl (by decide +kernel) ⟨Nat.le_of_ble_eq_true rfl, Nat.le_of_ble_eq_true rfl⟩) rfl rfl ha2 hT3 (by decide) rfl (Nat.le_of_ble_eq_true rfl) dX11_lot_29 ⟨by decide, by decide⟩ ?_
      refine g_pop X dX11_lot_32 rfl ?_
      refine g_aload_n X dX11_lot_33 rfl rfl ?_
      obtain ⟨hT5, hf⟩ := ck_e hf
      refine g_get (ci := 9) (v := vR (mR M4 x0 1)) 1 X cdX11 i_X11_lot_X11 (by decide) k_X11_lot_f19 rfl dX11_lot_34 rfl hT5 rfl ?_
      obtain ⟨a6, ha6, hf⟩ := dr_e hf
      obtain ⟨hT7, hf⟩ := ck_e hf
      refine g_get (ci := 6) (v := vR (mR M4 a6 11)) 11 X cdX7 i_X11_lot_X7 (by decide) k_X11_lot_f200 rfl dX11_lot_37 ha6 hT7 rfl ?_
      refine g_iload_n X dX11_lot_40 rfl rfl ?_
      obtain ⟨a8, ha8, hf⟩ := dr_e hf
      obtain ⟨hT9, hf⟩ := ck_e hf
      obtain ⟨hg10, hf⟩ := ck_e hf
      refine g_iald X dX11_lot_41 ha8 hT9 hg10 ?_
      cases hf
      refine g_eqQ hK ?_
      refine g_wide (k' := 1) (n' := 6) (by decide) (by decide) ?_
      refine g_xret ?_
      exact g_iret X hr dX11_lot_42
    · have hf := ife_f hc hf
      refine g_sub (lvsub_of _ _ [] rfl) ?_
      exact t_X11_lot_15 X2 hr hlx hH hne hH0 _  _ hf hK
set_option maxHeartbeats 4000000 in
set_option maxRecDepth 100000 in
theorem m_X11_lot (l : Launch) (hlx : l.stackTraces = false) {D : va_G} {cy : Nat → ClassId} {B : Nat} {H0 : Heap} {Z : Nat → Nat} {M M1 : gMem} {x0 : Nat} {x1 : Int32} {r : (Nat ⊕ Int32)} (hH0 : H0.size = B) (hf : f_X11_lot M x0 x1 = some (r, M1)) : vx_Met l yX11_lot wsX11_lot rX11_lot (va_Pc (Value.ref x0 :: List.map gv [vI x1]) (gPre D cy B H0 (gSt2 Z B H0) M)) (gQX D cy B H0 (gzI r) M1) (gXC D cy B H0 (gzI r) M1) 1 6 (gA B) := by
  refine vx_ofW (cc := cX11_lot) (maxL := 2) (ret := (some .int)) (by decide) rfl ?_
  intro p e s m args below meth c s₁ Bd hml hne hv
  obtain ⟨rfl, hW, hKK, hFs⟩ := hv
  have X2 : gX p s m _ meth c D cy B (gSt2 Z B H0) RX11 cX11_lot wsX11_lot 2 := ⟨Bd.exec, Bd.bytes, atoms_spec (ws := wsX11_lot) Bd.pre, findClass_of_methodNamed Bd.named, hml, hKK, by rw [hW.1]; exact hW.2.1, Bd.notSynchronized, hFs⟩
  have hr := Bd.returns
  have hH : ∀ q : Nat, q < B → s.heap[q]? = H0[q]? := hW.2.2.1
  have hl := lv_entry ([.ref x0, .int x1]) (n := 2) (Nat.le_of_ble_eq_true rfl)
  show W p l e rX11_lot s m _ below meth c s.heap [] 0 0 _ (entryFrame m ([.ref x0, .int x1] : List Value).toArray 2)
  rw [lg_entry_eq]
  generalize (lg_sl ([.ref x0, .int x1]) ++ List.replicate (2 - (lg_sl ([.ref x0, .int x1])).length) Slot.unset).toArray = ls at hl ⊢
  have hl : lv_has ls 2 (List.map gq [(0, vR (some x0)), (1, vI x1)]) := hl
  exact t_X11_lot_0 X2 hr hlx hH hne hH0 _ _ _ _ hf rfl s.heap [] ls hW va_S.rf (lv_has_sub hl (lvsub_of _ _ [0, 1] rfl))
/-! ## TideLots.took(II)I -/
theorem dX11_took_0 : decode cX11_took 0 = .ok (.aload_n 0, 1) := by decide +kernel
theorem dX11_took_1 : decode cX11_took 1 = .ok (.iload_n 1, 1) := by decide +kernel
theorem dX11_took_2 : decode cX11_took 2 = .ok (.invokevirtual 97, 3) := by decide +kernel
theorem dX11_took_5 : decode cX11_took 5 = .ok (.aload_n 0, 1) := by decide +kernel
theorem dX11_took_6 : decode cX11_took 6 = .ok (.iload_n 2, 1) := by decide +kernel
theorem dX11_took_7 : decode cX11_took 7 = .ok (.invokevirtual 122, 3) := by decide +kernel
theorem dX11_took_10 : decode cX11_took 10 = .ok (.aload_n 0, 1) := by decide +kernel
theorem dX11_took_11 : decode cX11_took 11 = .ok (.getfield 19, 3) := by decide +kernel
theorem dX11_took_14 : decode cX11_took 14 = .ok (.getfield 125, 3) := by decide +kernel
theorem dX11_took_17 : decode cX11_took 17 = .ok (.iload_n 2, 1) := by decide +kernel
theorem dX11_took_18 : decode cX11_took 18 = .ok (.aaload, 1) := by decide +kernel
theorem dX11_took_19 : decode cX11_took 19 = .ok (.getfield 203, 3) := by decide +kernel
theorem dX11_took_22 : decode cX11_took 22 = .ok (.iload_n 1, 1) := by decide +kernel
theorem dX11_took_23 : decode cX11_took 23 = .ok (.iaload, 1) := by decide +kernel
theorem dX11_took_24 : decode cX11_took 24 = .ok (.ireturn, 1) := by decide +kernel
set_option maxRecDepth 20000 in
theorem ggX11_took_X11_checkGround : GoodIn wsX11_took wsX11_checkGround := goodIn_ca (goodIn_r _ [8, 9, 10, 1, 11, 17, 18, 19, 20, 21, 22, 23, 24, 25, 26, 27, 28, 29, 30, 31, 32, 33, 34, 35, 36, 37] (by decide +kernel) (by decide +kernel)) (goodIn_sub (fun _ h => List.mem_cons_of_mem _ (List.mem_append_right _ h)) (by decide +kernel))
set_option maxRecDepth 20000 in
theorem gX11_took_X11_checkGround : GoodIn wsX11_took (wsV RX11 97 RX11 yX11_checkGround wsX11_checkGround) := goodIn_app (goodIn_of _ (by decide +kernel)) ggX11_took_X11_checkGround
set_option maxRecDepth 20000 in
theorem ggX11_took_X11_checkFisher : GoodIn wsX11_took wsX11_checkFisher := goodIn_ca (goodIn_r _ [15, 9, 10, 1, 16, 17, 18, 19, 20, 21, 22, 23, 24, 25, 26, 27, 28, 29, 30, 31, 32, 33, 34, 35, 36, 37] (by decide +kernel) (by decide +kernel)) (goodIn_sub (fun _ h => List.mem_cons_of_mem _ (List.mem_append_right _ h)) (by decide +kernel))
set_option maxRecDepth 20000 in
theorem gX11_took_X11_checkFisher : GoodIn wsX11_took (wsV RX11 122 RX11 yX11_checkFisher wsX11_checkFisher) := goodIn_app (goodIn_of _ (by decide +kernel)) ggX11_took_X11_checkFisher
theorem k_X11_took_f19 : Cond.fieldLink RX11 19 "TideLots" "shore" "LTideLots$Shore;" ∈ wsX11_took := by decide +kernel
theorem i_X11_took_X11 : ∀ w ∈ u_ws RX11 TX11 4, w ∈ wsX11_took := by decide +kernel
theorem k_X11_took_f125 : Cond.fieldLink RX11 125 "TideLots$Shore" "fishers" "[LTideLots$Fisher;" ∈ wsX11_took := by decide +kernel
theorem i_X11_took_X7 : ∀ w ∈ u_ws RX7 TX7 17, w ∈ wsX11_took := by decide +kernel
theorem k_X11_took_f203 : Cond.fieldLink RX11 203 "TideLots$Fisher" "took" "[I" ∈ wsX11_took := by decide +kernel
theorem i_X11_took_X1 : ∀ w ∈ u_ws RX1 TX1 11, w ∈ wsX11_took := by decide +kernel
abbrev rX11_took : Room := { frames := 7, cells := 2, slots := 12, locals := 103 }
noncomputable def b_X11_took_0 (M : gMem) (x0 : Nat) (x1 : Int32) (x2 : Int32) : Option ((Nat ⊕ Int32) × gMem) :=
  ck (mT M x0 = 10) <| bx (f_X11_checkGround M x0 x1) (fun e1 M1 => some (.inl e1, M1)) fun _ M1 => ck (mT M1 x0 = 10) <| bx (f_X11_checkFisher M1 x0 x2) (fun e3 M3 => some (.inl e3, M3)) fun _ M3 => ck (mT M3 x0 = 10) <| dr ((mR M3 x0 1)) fun a6 => ck (mT M3 a6 = 7) <| dr ((mR M3 a6 7)) fun a8 => ck (mT M3 a8 = 24) <| ck (inb x2 (mL M3 a8)) <| dr ((mR M3 a8 x2.toNatClampNeg)) fun a11 => ck (mT M3 a11 = 1) <| dr ((mR M3 a11 10)) fun a13 => ck (mT M3 a13 = 20) <| ck (inb x1 (mL M3 a13)) <| some (.inr (mI M3 a13 x1.toNatClampNeg), M3)
noncomputable def f_X11_took (M : gMem) (x0 : Nat) (x1 : Int32) (x2 : Int32) : Option ((Nat ⊕ Int32) × gMem) :=
  b_X11_took_0 M x0 x1 x2
set_option maxHeartbeats 4000000 in
set_option maxRecDepth 100000 in
theorem t_X11_took_0 (X2 : gX p s m args meth c D cy B (gSt2 Z B H0) RX11 cX11_took wsX11_took 3) (hr : meth.sig.returnType = (some .int)) (hlx : l.stackTraces = false) (hH : ∀ q : Nat, q < B → s.heap[q]? = H0[q]?) (hne : ∀ x ∈ c.exceptionTable.toList, False) (hH0 : H0.size = B) {Q : State → Prop} : ∀ (M : gMem) (x0 : Nat) (x1 : Int32) (x2 : Int32) (z : (Nat ⊕ Int32) × gMem), b_X11_took_0 M x0 x1 x2 = some z → (fun (r : (Nat ⊕ Int32) × gMem) => Q = gMX below D cy B H0 args s 2 12 (gzI r.1) r.2) z → gGo p l e rX11_took s m args below meth c D cy B H0 3 0 0 Q 0 [(0, vR (some x0)), (1, vI x1), (2, vI x2)] [] M := by
  intro M x0 x1 x2 z hf hK
  unfold b_X11_took_0 at hf
  have X := gX_w X2
  refine g_aload_n X dX11_took_0 rfl rfl ?_
  refine g_iload_n X dX11_took_1 rfl rfl ?_
  obtain ⟨hT2, hf⟩ := ck_e hf
  rcases bx_e hf with ⟨e1, M1, hq1, hf⟩ | ⟨r1, M1, hq1, hf⟩
  · cases hf
    refine g_eqQ hK ?_
    exact g_callTV (ci := 9) (b := x0) (As := [vI x1]) (st := []) (M1 := M1) X2 hne (m_X11_checkGround l hlx hH0 hq1) (cwV 1 X.2.2.1 gX11_took_X11_checkGround rfl rfl rfl (by decide +kernel) ⟨Nat.le_of_ble_eq_true rfl, Nat.le_of_ble_eq_true rfl⟩) rfl rfl rfl hT2 (by decide) rfl (Nat.le_of_ble_eq_true rfl) dX11_took_2 ⟨(by decide), (by decide)⟩ (by decide) (by decide)
  refine g_callXV (ci := 9) (b := x0) (As := [vI x1]) (st := []) (v := none) (M1 := M1) X2 (m_X11_checkGround l hlx hH0 hq1) (cwV 1 X.2.2.1 gX11_took_X11_checkGround rfl rfl rfl (by decide +kernel) ⟨Nat.le_of_ble_eq_true rfl, Nat.le_of_ble_eq_true rfl⟩) rfl rfl rfl hT2 (by decide) rfl (Nat.le_of_ble_eq_true rfl) dX11_took_2 ⟨(by decide), (by decide)⟩ ?_
  refine g_aload_n X dX11_took_5 rfl rfl ?_
  refine g_iload_n X dX11_took_6 rfl rfl ?_
  obtain ⟨hT4, hf⟩ := ck_e hf
  rcases bx_e hf with ⟨e3, M3, hq3, hf⟩ | ⟨r3, M3, hq3, hf⟩
  · cases hf
    refine g_eqQ hK ?_
    exact g_callTV (ci := 9) (b := x0) (As := [vI x2]) (st := []) (M1 := M3) X2 hne (m_X11_checkFisher l hlx hH0 hq3) (cwV 1 X.2.2.1 gX11_took_X11_checkFisher rfl rfl rfl (by decide +kernel) ⟨Nat.le_of_ble_eq_true rfl, Nat.le_of_ble_eq_true rfl⟩) rfl rfl rfl hT4 (by decide) rfl (Nat.le_of_ble_eq_true rfl) dX11_took_7 ⟨(by decide), (by decide)⟩ (by decide) (by decide)
  refine g_callXV (ci := 9) (b := x0) (As := [vI x2]) (st := []) (v := none) (M1 := M3) X2 (m_X11_checkFisher l hlx hH0 hq3) (cwV 1 X.2.2.1 gX11_took_X11_checkFisher rfl rfl rfl (by decide +kernel) ⟨Nat.le_of_ble_eq_true rfl, Nat.le_of_ble_eq_true rfl⟩) rfl rfl rfl hT4 (by decide) rfl (Nat.le_of_ble_eq_true rfl) dX11_took_7 ⟨(by decide), (by decide)⟩ ?_
  refine g_aload_n X dX11_took_10 rfl rfl ?_
  obtain ⟨hT5, hf⟩ := ck_e hf
  refine g_get (ci := 9) (v := vR (mR M3 x0 1)) 1 X cdX11 i_X11_took_X11 (by decide) k_X11_took_f19 rfl dX11_took_11 rfl hT5 rfl ?_
  obtain ⟨a6, ha6, hf⟩ := dr_e hf
  obtain ⟨hT7, hf⟩ := ck_e hf
  refine g_get (ci := 6) (v := vR (mR M3 a6 7)) 7 X cdX7 i_X11_took_X7 (by decide) k_X11_took_f125 rfl dX11_took_14 ha6 hT7 rfl ?_
  refine g_iload_n X dX11_took_17 rfl rfl ?_
  obtain ⟨a8, ha8, hf⟩ := dr_e hf
  obtain ⟨hT9, hf⟩ := ck_e hf
  obtain ⟨hg10, hf⟩ := ck_e hf
  refine g_aald (t0 := 4) X dX11_took_18 ha8 hT9 (by decide) rfl hg10 ?_
  obtain ⟨a11, ha11, hf⟩ := dr_e hf
  obtain ⟨hT12, hf⟩ := ck_e hf
  refine g_get (ci := 0) (v := vR (mR M3 a11 10)) 10 X cdX1 i_X11_took_X1 (by decide) k_X11_took_f203 rfl dX11_took_19 ha11 hT12 rfl ?_
  refine g_iload_n X dX11_took_22 rfl rfl ?_
  obtain ⟨a13, ha13, hf⟩ := dr_e hf
  obtain ⟨hT14, hf⟩ := ck_e hf
  obtain ⟨hg15, hf⟩ := ck_e hf
  refine g_iald X dX11_took_23 ha13 hT14 hg15 ?_
  cases hf
  refine g_eqQ hK ?_
  refine g_xret ?_
  exact g_iret X hr dX11_took_24
set_option maxHeartbeats 4000000 in
set_option maxRecDepth 100000 in
theorem m_X11_took (l : Launch) (hlx : l.stackTraces = false) {D : va_G} {cy : Nat → ClassId} {B : Nat} {H0 : Heap} {Z : Nat → Nat} {M M1 : gMem} {x0 : Nat} {x1 : Int32} {x2 : Int32} {r : (Nat ⊕ Int32)} (hH0 : H0.size = B) (hf : f_X11_took M x0 x1 x2 = some (r, M1)) : vx_Met l yX11_took wsX11_took rX11_took (va_Pc (Value.ref x0 :: List.map gv [vI x1, vI x2]) (gPre D cy B H0 (gSt2 Z B H0) M)) (gQX D cy B H0 (gzI r) M1) (gXC D cy B H0 (gzI r) M1) 2 12 (gA B) := by
  refine vx_ofW (cc := cX11_took) (maxL := 3) (ret := (some .int)) (by decide) rfl ?_
  intro p e s m args below meth c s₁ Bd hml hne hv
  obtain ⟨rfl, hW, hKK, hFs⟩ := hv
  have X2 : gX p s m _ meth c D cy B (gSt2 Z B H0) RX11 cX11_took wsX11_took 3 := ⟨Bd.exec, Bd.bytes, atoms_spec (ws := wsX11_took) Bd.pre, findClass_of_methodNamed Bd.named, hml, hKK, by rw [hW.1]; exact hW.2.1, Bd.notSynchronized, hFs⟩
  have hr := Bd.returns
  have hH : ∀ q : Nat, q < B → s.heap[q]? = H0[q]? := hW.2.2.1
  have hl := lv_entry ([.ref x0, .int x1, .int x2]) (n := 3) (Nat.le_of_ble_eq_true rfl)
  show W p l e rX11_took s m _ below meth c s.heap [] 0 0 _ (entryFrame m ([.ref x0, .int x1, .int x2] : List Value).toArray 3)
  rw [lg_entry_eq]
  generalize (lg_sl ([.ref x0, .int x1, .int x2]) ++ List.replicate (3 - (lg_sl ([.ref x0, .int x1, .int x2])).length) Slot.unset).toArray = ls at hl ⊢
  have hl : lv_has ls 3 (List.map gq [(0, vR (some x0)), (1, vI x1), (2, vI x2)]) := hl
  exact t_X11_took_0 X2 hr hlx hH hne hH0 _ _ _ _ _ hf rfl s.heap [] ls hW va_S.rf (lv_has_sub hl (lvsub_of _ _ [0, 1, 2] rfl))
/-! ## TideLots.blame(I)I -/
theorem dX11_blame_0 : decode cX11_blame 0 = .ok (.aload_n 0, 1) := by decide +kernel
theorem dX11_blame_1 : decode cX11_blame 1 = .ok (.iload_n 1, 1) := by decide +kernel
theorem dX11_blame_2 : decode cX11_blame 2 = .ok (.invokevirtual 97, 3) := by decide +kernel
theorem dX11_blame_5 : decode cX11_blame 5 = .ok (.iconst (-1), 1) := by decide +kernel
theorem dX11_blame_6 : decode cX11_blame 6 = .ok (.istore_n 2, 1) := by decide +kernel
theorem dX11_blame_7 : decode cX11_blame 7 = .ok (.iconst 0, 1) := by decide +kernel
theorem dX11_blame_8 : decode cX11_blame 8 = .ok (.istore_n 3, 1) := by decide +kernel
theorem dX11_blame_9 : decode cX11_blame 9 = .ok (.iconst 0, 1) := by decide +kernel
theorem dX11_blame_10 : decode cX11_blame 10 = .ok (.istore 4, 2) := by decide +kernel
theorem dX11_blame_12 : decode cX11_blame 12 = .ok (.iload 4, 2) := by decide +kernel
theorem dX11_blame_14 : decode cX11_blame 14 = .ok (.aload_n 0, 1) := by decide +kernel
theorem dX11_blame_15 : decode cX11_blame 15 = .ok (.getfield 19, 3) := by decide +kernel
theorem dX11_blame_18 : decode cX11_blame 18 = .ok (.getfield 71, 3) := by decide +kernel
theorem dX11_blame_21 : decode cX11_blame 21 = .ok (.if_icmp .ge 38, 3) := by decide +kernel
theorem dX11_blame_24 : decode cX11_blame 24 = .ok (.aload_n 0, 1) := by decide +kernel
theorem dX11_blame_25 : decode cX11_blame 25 = .ok (.getfield 19, 3) := by decide +kernel
theorem dX11_blame_28 : decode cX11_blame 28 = .ok (.getfield 125, 3) := by decide +kernel
theorem dX11_blame_31 : decode cX11_blame 31 = .ok (.iload 4, 2) := by decide +kernel
theorem dX11_blame_33 : decode cX11_blame 33 = .ok (.aaload, 1) := by decide +kernel
theorem dX11_blame_34 : decode cX11_blame 34 = .ok (.getfield 203, 3) := by decide +kernel
theorem dX11_blame_37 : decode cX11_blame 37 = .ok (.iload_n 1, 1) := by decide +kernel
theorem dX11_blame_38 : decode cX11_blame 38 = .ok (.iaload, 1) := by decide +kernel
theorem dX11_blame_39 : decode cX11_blame 39 = .ok (.istore 5, 2) := by decide +kernel
theorem dX11_blame_41 : decode cX11_blame 41 = .ok (.iload 5, 2) := by decide +kernel
theorem dX11_blame_43 : decode cX11_blame 43 = .ok (.iload_n 3, 1) := by decide +kernel
theorem dX11_blame_44 : decode cX11_blame 44 = .ok (.if_icmp .le 9, 3) := by decide +kernel
theorem dX11_blame_47 : decode cX11_blame 47 = .ok (.iload 5, 2) := by decide +kernel
theorem dX11_blame_49 : decode cX11_blame 49 = .ok (.istore_n 3, 1) := by decide +kernel
theorem dX11_blame_50 : decode cX11_blame 50 = .ok (.iload 4, 2) := by decide +kernel
theorem dX11_blame_52 : decode cX11_blame 52 = .ok (.istore_n 2, 1) := by decide +kernel
theorem dX11_blame_53 : decode cX11_blame 53 = .ok (.iinc 4 1, 3) := by decide +kernel
theorem dX11_blame_56 : decode cX11_blame 56 = .ok (.goto (-44), 3) := by decide +kernel
theorem dX11_blame_59 : decode cX11_blame 59 = .ok (.iload_n 2, 1) := by decide +kernel
theorem dX11_blame_60 : decode cX11_blame 60 = .ok (.ireturn, 1) := by decide +kernel
set_option maxRecDepth 20000 in
theorem ggX11_blame_X11_checkGround : GoodIn wsX11_blame wsX11_checkGround := goodIn_ca (goodIn_r _ [9, 10, 11, 1, 12, 13, 14, 15, 16, 17, 18, 19, 20, 21, 22, 23, 24, 25, 26, 27, 28, 29, 30, 31, 32, 33] (by decide +kernel) (by decide +kernel)) (goodIn_sub (fun _ h => List.mem_cons_of_mem _ (List.mem_append_right _ h)) (by decide +kernel))
set_option maxRecDepth 20000 in
theorem gX11_blame_X11_checkGround : GoodIn wsX11_blame (wsV RX11 97 RX11 yX11_checkGround wsX11_checkGround) := goodIn_app (goodIn_of _ (by decide +kernel)) ggX11_blame_X11_checkGround
theorem k_X11_blame_f19 : Cond.fieldLink RX11 19 "TideLots" "shore" "LTideLots$Shore;" ∈ wsX11_blame := by decide +kernel
theorem i_X11_blame_X11 : ∀ w ∈ u_ws RX11 TX11 4, w ∈ wsX11_blame := by decide +kernel
theorem k_X11_blame_f71 : Cond.fieldLink RX11 71 "TideLots$Shore" "fisherCount" "I" ∈ wsX11_blame := by decide +kernel
theorem i_X11_blame_X7 : ∀ w ∈ u_ws RX7 TX7 17, w ∈ wsX11_blame := by decide +kernel
theorem k_X11_blame_f125 : Cond.fieldLink RX11 125 "TideLots$Shore" "fishers" "[LTideLots$Fisher;" ∈ wsX11_blame := by decide +kernel
theorem k_X11_blame_f203 : Cond.fieldLink RX11 203 "TideLots$Fisher" "took" "[I" ∈ wsX11_blame := by decide +kernel
theorem i_X11_blame_X1 : ∀ w ∈ u_ws RX1 TX1 11, w ∈ wsX11_blame := by decide +kernel
abbrev rX11_blame : Room := { frames := 7, cells := 1, slots := 6, locals := 103 }
noncomputable def b_X11_blame_53 (M : gMem) (x0 : Nat) (x1 : Int32) (x2 : Int32) (x3 : Int32) (x4 : Int32) : Option ((gMem × Int32 × Int32 × Int32) ⊕ ((Nat ⊕ Int32) × gMem)) :=
  some (.inl (M, x2, x3, (x4 + (1 : Int32))))
noncomputable def bb_X11_blame_12 (M : gMem) (x0 : Nat) (x1 : Int32) (x2 : Int32) (x3 : Int32) (x4 : Int32) : Option ((gMem × Int32 × Int32 × Int32) ⊕ ((Nat ⊕ Int32) × gMem)) :=
  ck (mT M x0 = 10) <| dr ((mR M x0 1)) fun a2 => ck (mT M a2 = 7) <| (if (mI M a2 3) ≤ x4 then oI (some (.inr x2, M)) else dr ((mR M a2 7)) fun a5 => ck (mT M a5 = 24) <| ck (inb x4 (mL M a5)) <| dr ((mR M a5 x4.toNatClampNeg)) fun a8 => ck (mT M a8 = 1) <| dr ((mR M a8 10)) fun a10 => ck (mT M a10 = 20) <| ck (inb x1 (mL M a10)) <| (if (mI M a10 x1.toNatClampNeg) ≤ x3 then b_X11_blame_53 M x0 x1 x2 x3 x4 else b_X11_blame_53 M x0 x1 x4 ((mI M a10 x1.toNatClampNeg)) x4))
noncomputable def lp_X11_blame_12 (M : gMem) (x0 : Nat) (x1 : Int32) (x2 : Int32) (x3 : Int32) (x4 : Int32) : Option ((Nat ⊕ Int32) × gMem) :=
  lp (fun (q : gMem × Int32 × Int32 × Int32) => bb_X11_blame_12 q.1 x0 x1 q.2.1 q.2.2.1 q.2.2.2) (M, x2, x3, x4)
noncomputable def b_X11_blame_0 (M : gMem) (x0 : Nat) (x1 : Int32) : Option ((Nat ⊕ Int32) × gMem) :=
  ck (mT M x0 = 10) <| bx (f_X11_checkGround M x0 x1) (fun e13 M13 => some (.inl e13, M13)) fun _ M13 => lp_X11_blame_12 M13 x0 x1 ((-1 : Int32)) ((0 : Int32)) ((0 : Int32))
noncomputable def f_X11_blame (M : gMem) (x0 : Nat) (x1 : Int32) : Option ((Nat ⊕ Int32) × gMem) :=
  b_X11_blame_0 M x0 x1
set_option maxHeartbeats 4000000 in
set_option maxRecDepth 100000 in
theorem t_X11_blame_53 (X2 : gX p s m args meth c D cy B (gSt2 Z B H0) RX11 cX11_blame wsX11_blame 6) (hr : meth.sig.returnType = (some .int)) (hlx : l.stackTraces = false) (hH : ∀ q : Nat, q < B → s.heap[q]? = H0[q]?) (hne : ∀ x ∈ c.exceptionTable.toList, False) (hH0 : H0.size = B) {Q : State → Prop} : ∀ (M : gMem) (x0 : Nat) (x1 : Int32) (x2 : Int32) (x3 : Int32) (x4 : Int32) (z : (gMem × Int32 × Int32 × Int32) ⊕ ((Nat ⊕ Int32) × gMem)), b_X11_blame_53 M x0 x1 x2 x3 x4 = some z → (Sum.elim (fun (q : gMem × Int32 × Int32 × Int32) => gGo p l e rX11_blame s m args below meth c D cy B H0 6 1 6 Q 12 [(0, vR (some x0)), (1, vI x1), (2, vI q.2.1), (3, vI q.2.2.1), (4, vI q.2.2.2)] [] q.1) (fun (r : (Nat ⊕ Int32) × gMem) => Q = gMX below D cy B H0 args s 1 6 (gzI r.1) r.2)) z → gGo p l e rX11_blame s m args below meth c D cy B H0 6 1 6 Q 53 [(0, vR (some x0)), (1, vI x1), (2, vI x2), (3, vI x3), (4, vI x4)] [] M := by
  intro M x0 x1 x2 x3 x4 z hf hK
  unfold b_X11_blame_53 at hf
  have X := gX_w X2
  refine g_iinc (v := (1 : Int32)) (lv' := [(4, vI (x4 + (1 : Int32))), (0, vR (some x0)), (1, vI x1), (2, vI x2), (3, vI x3)]) X dX11_blame_53 rfl (by decide) (by decide) rfl ?_
  refine g_goto (tgt := 12) X dX11_blame_56 (by decide) ?_
  cases hf
  refine g_sub (lvsub_of _ _ [1, 2, 3, 4, 0] rfl) ?_
  exact hK
set_option maxHeartbeats 4000000 in
set_option maxRecDepth 100000 in
theorem tb_X11_blame_12 (X2 : gX p s m args meth c D cy B (gSt2 Z B H0) RX11 cX11_blame wsX11_blame 6) (hr : meth.sig.returnType = (some .int)) (hlx : l.stackTraces = false) (hH : ∀ q : Nat, q < B → s.heap[q]? = H0[q]?) (hne : ∀ x ∈ c.exceptionTable.toList, False) (hH0 : H0.size = B) {Q : State → Prop} : ∀ (M : gMem) (x0 : Nat) (x1 : Int32) (x2 : Int32) (x3 : Int32) (x4 : Int32) (z : (gMem × Int32 × Int32 × Int32) ⊕ ((Nat ⊕ Int32) × gMem)), bb_X11_blame_12 M x0 x1 x2 x3 x4 = some z → (Sum.elim (fun (q : gMem × Int32 × Int32 × Int32) => gGo p l e rX11_blame s m args below meth c D cy B H0 6 1 6 Q 12 [(0, vR (some x0)), (1, vI x1), (2, vI q.2.1), (3, vI q.2.2.1), (4, vI q.2.2.2)] [] q.1) (fun (r : (Nat ⊕ Int32) × gMem) => Q = gMX below D cy B H0 args s 1 6 (gzI r.1) r.2)) z → gGo p l e rX11_blame s m args below meth c D cy B H0 6 1 6 Q 12 [(0, vR (some x0)), (1, vI x1), (2, vI x2), (3, vI x3), (4, vI x4)] [] M := by
  intro M x0 x1 x2 x3 x4 z hf hK
  unfold bb_X11_blame_12 at hf
  have X := gX_w X2
  refine g_iload X dX11_blame_12 rfl ?_
  refine g_aload_n X dX11_blame_14 rfl rfl ?_
  obtain ⟨hT1, hf⟩ := ck_e hf
  refine g_get (ci := 9) (v := vR (mR M x0 1)) 1 X cdX11 i_X11_blame_X11 (by decide) k_X11_blame_f19 rfl dX11_blame_15 rfl hT1 rfl ?_
  obtain ⟨a2, ha2, hf⟩ := dr_e hf
  obtain ⟨hT3, hf⟩ := ck_e hf
  refine g_get (ci := 6) (v := vI (mI M a2 3)) 3 X cdX7 i_X11_blame_X7 (by decide) k_X11_blame_f71 rfl dX11_blame_18 ha2 hT3 rfl ?_
  refine g_icmp_ge (tgt := 59) X dX11_blame_21 (by decide) (fun hc => ?_) (fun hc => ?_)
  · have hf := ife_t hc hf
    refine g_iload_n X dX11_blame_59 rfl rfl ?_
    obtain ⟨w4, hw4, hz4⟩ := oI_e hf
    subst hz4
    have hf := hw4
    cases hf
    refine g_eqQ hK ?_
    refine g_xret ?_
    exact g_iret X hr dX11_blame_60
  · have hf := ife_f hc hf
    refine g_aload_n X dX11_blame_24 rfl rfl ?_
    refine g_get (ci := 9) (v := vR (mR M x0 1)) 1 X cdX11 i_X11_blame_X11 (by decide) k_X11_blame_f19 rfl dX11_blame_25 rfl hT1 rfl ?_
    refine g_get (ci := 6) (v := vR (mR M a2 7)) 7 X cdX7 i_X11_blame_X7 (by decide) k_X11_blame_f125 rfl dX11_blame_28 ha2 hT3 rfl ?_
    refine g_iload X dX11_blame_31 rfl ?_
    obtain ⟨a5, ha5, hf⟩ := dr_e hf
    obtain ⟨hT6, hf⟩ := ck_e hf
    obtain ⟨hg7, hf⟩ := ck_e hf
    refine g_aald (t0 := 4) X dX11_blame_33 ha5 hT6 (by decide) rfl hg7 ?_
    obtain ⟨a8, ha8, hf⟩ := dr_e hf
    obtain ⟨hT9, hf⟩ := ck_e hf
    refine g_get (ci := 0) (v := vR (mR M a8 10)) 10 X cdX1 i_X11_blame_X1 (by decide) k_X11_blame_f203 rfl dX11_blame_34 ha8 hT9 rfl ?_
    refine g_iload_n X dX11_blame_37 rfl rfl ?_
    obtain ⟨a10, ha10, hf⟩ := dr_e hf
    obtain ⟨hT11, hf⟩ := ck_e hf
    obtain ⟨hg12, hf⟩ := ck_e hf
    refine g_iald X dX11_blame_38 ha10 hT11 hg12 ?_
    refine g_istore (lv' := [(5, vI (mI M a10 x1.toNatClampNeg)), (0, vR (some x0)), (1, vI x1), (2, vI x2), (3, vI x3), (4, vI x4)]) X dX11_blame_39 (by decide) rfl ?_
    refine g_iload X dX11_blame_41 rfl ?_
    refine g_iload_n X dX11_blame_43 rfl rfl ?_
    refine g_icmp_le (tgt := 53) X dX11_blame_44 (by decide) (fun hc => ?_) (fun hc => ?_)
    · have hf := ife_t hc hf
      refine g_sub (lvsub_of _ _ [1, 2, 3, 4, 5] rfl) ?_
      exact t_X11_blame_53 X2 hr hlx hH hne hH0 _ _ _ _ _ _ _ hf hK
    · have hf := ife_f hc hf
      refine g_iload X dX11_blame_47 rfl ?_
      refine g_istore_n (lv' := [(3, vI (mI M a10 x1.toNatClampNeg)), (5, vI (mI M a10 x1.toNatClampNeg)), (0, vR (some x0)), (1, vI x1), (2, vI x2), (4, vI x4)]) X dX11_blame_49 rfl (by decide) rfl ?_
      refine g_iload X dX11_blame_50 rfl ?_
      refine g_istore_n (lv' := [(2, vI x4), (3, vI (mI M a10 x1.toNatClampNeg)), (5, vI (mI M a10 x1.toNatClampNeg)), (0, vR (some x0)), (1, vI x1), (4, vI x4)]) X dX11_blame_52 rfl (by decide) rfl ?_
      refine g_sub (lvsub_of _ _ [3, 4, 0, 1, 5] rfl) ?_
      exact t_X11_blame_53 X2 hr hlx hH hne hH0 _ _ _ _ _ _ _ hf hK
set_option maxHeartbeats 4000000 in
set_option maxRecDepth 100000 in
theorem tl_X11_blame_12 (X2 : gX p s m args meth c D cy B (gSt2 Z B H0) RX11 cX11_blame wsX11_blame 6) (hr : meth.sig.returnType = (some .int)) (hlx : l.stackTraces = false) (hH : ∀ q : Nat, q < B → s.heap[q]? = H0[q]?) (hne : ∀ x ∈ c.exceptionTable.toList, False) (hH0 : H0.size = B) {Q : State → Prop} : ∀ (M : gMem) (x0 : Nat) (x1 : Int32) (x2 : Int32) (x3 : Int32) (x4 : Int32) (z : (Nat ⊕ Int32) × gMem), lp_X11_blame_12 M x0 x1 x2 x3 x4 = some z → (fun (r : (Nat ⊕ Int32) × gMem) => Q = gMX below D cy B H0 args s 1 6 (gzI r.1) r.2) z → gGo p l e rX11_blame s m args below meth c D cy B H0 6 1 6 Q 12 [(0, vR (some x0)), (1, vI x1), (2, vI x2), (3, vI x3), (4, vI x4)] [] M := by
  intro M x0 x1 x2 x3 x4 z hf hK
  refine lp_ind (P := (fun (q : gMem × Int32 × Int32 × Int32) (z : (Nat ⊕ Int32) × gMem) => (fun (r : (Nat ⊕ Int32) × gMem) => Q = gMX below D cy B H0 args s 1 6 (gzI r.1) r.2) z → gGo p l e rX11_blame s m args below meth c D cy B H0 6 1 6 Q 12 [(0, vR (some x0)), (1, vI x1), (2, vI q.2.1), (3, vI q.2.2.1), (4, vI q.2.2.2)] [] q.1)) (fun q z hq => ?_) _ _ hf hK
  intro hK
  obtain ⟨w, hw, hm⟩ := hq
  refine tb_X11_blame_12 X2 hr hlx hH hne hH0 _ _ _ _ _ _ w hw ?_
  cases w with
  | inl a => exact hm hK
  | inr b => cases hm; exact hK
set_option maxHeartbeats 4000000 in
set_option maxRecDepth 100000 in
theorem t_X11_blame_0 (X2 : gX p s m args meth c D cy B (gSt2 Z B H0) RX11 cX11_blame wsX11_blame 6) (hr : meth.sig.returnType = (some .int)) (hlx : l.stackTraces = false) (hH : ∀ q : Nat, q < B → s.heap[q]? = H0[q]?) (hne : ∀ x ∈ c.exceptionTable.toList, False) (hH0 : H0.size = B) {Q : State → Prop} : ∀ (M : gMem) (x0 : Nat) (x1 : Int32) (z : (Nat ⊕ Int32) × gMem), b_X11_blame_0 M x0 x1 = some z → (fun (r : (Nat ⊕ Int32) × gMem) => Q = gMX below D cy B H0 args s 1 6 (gzI r.1) r.2) z → gGo p l e rX11_blame s m args below meth c D cy B H0 6 0 0 Q 0 [(0, vR (some x0)), (1, vI x1)] [] M := by
  intro M x0 x1 z hf hK
  unfold b_X11_blame_0 at hf
  have X := gX_w X2
  refine g_aload_n X dX11_blame_0 rfl rfl ?_
  refine g_iload_n X dX11_blame_1 rfl rfl ?_
  obtain ⟨hT14, hf⟩ := ck_e hf
  rcases bx_e hf with ⟨e13, M13, hq13, hf⟩ | ⟨r13, M13, hq13, hf⟩
  · cases hf
    refine g_eqQ hK ?_
    exact g_callTV (ci := 9) (b := x0) (As := [vI x1]) (st := []) (M1 := M13) X2 hne (m_X11_checkGround l hlx hH0 hq13) (cwV 1 X.2.2.1 gX11_blame_X11_checkGround rfl rfl rfl (by decide +kernel) ⟨Nat.le_of_ble_eq_true rfl, Nat.le_of_ble_eq_true rfl⟩) rfl rfl rfl hT14 (by decide) rfl (Nat.le_of_ble_eq_true rfl) dX11_blame_2 ⟨(by decide), (by decide)⟩ (by decide) (by decide)
  refine g_callXV (ci := 9) (b := x0) (As := [vI x1]) (st := []) (v := none) (M1 := M13) X2 (m_X11_checkGround l hlx hH0 hq13) (cwV 1 X.2.2.1 gX11_blame_X11_checkGround rfl rfl rfl (by decide +kernel) ⟨Nat.le_of_ble_eq_true rfl, Nat.le_of_ble_eq_true rfl⟩) rfl rfl rfl hT14 (by decide) rfl (Nat.le_of_ble_eq_true rfl) dX11_blame_2 ⟨(by decide), (by decide)⟩ ?_
  refine g_iconst (v := (-1 : Int32)) X dX11_blame_5 (by decide) ?_
  refine g_istore_n (lv' := [(2, vI (-1 : Int32)), (0, vR (some x0)), (1, vI x1)]) X dX11_blame_6 rfl (by decide) rfl ?_
  refine g_iconst (v := (0 : Int32)) X dX11_blame_7 (by decide) ?_
  refine g_istore_n (lv' := [(3, vI (0 : Int32)), (2, vI (-1 : Int32)), (0, vR (some x0)), (1, vI x1)]) X dX11_blame_8 rfl (by decide) rfl ?_
  refine g_iconst (v := (0 : Int32)) X dX11_blame_9 (by decide) ?_
  refine g_istore (lv' := [(4, vI (0 : Int32)), (3, vI (0 : Int32)), (2, vI (-1 : Int32)), (0, vR (some x0)), (1, vI x1)]) X dX11_blame_10 (by decide) rfl ?_
  refine g_sub (lvsub_of _ _ [3, 4, 2, 1, 0] rfl) ?_
  exact tl_X11_blame_12 X2 hr hlx hH hne hH0 _ _ _ _ _ _ _ hf hK
set_option maxHeartbeats 4000000 in
set_option maxRecDepth 100000 in
theorem m_X11_blame (l : Launch) (hlx : l.stackTraces = false) {D : va_G} {cy : Nat → ClassId} {B : Nat} {H0 : Heap} {Z : Nat → Nat} {M M1 : gMem} {x0 : Nat} {x1 : Int32} {r : (Nat ⊕ Int32)} (hH0 : H0.size = B) (hf : f_X11_blame M x0 x1 = some (r, M1)) : vx_Met l yX11_blame wsX11_blame rX11_blame (va_Pc (Value.ref x0 :: List.map gv [vI x1]) (gPre D cy B H0 (gSt2 Z B H0) M)) (gQX D cy B H0 (gzI r) M1) (gXC D cy B H0 (gzI r) M1) 1 6 (gA B) := by
  refine vx_ofW (cc := cX11_blame) (maxL := 6) (ret := (some .int)) (by decide) rfl ?_
  intro p e s m args below meth c s₁ Bd hml hne hv
  obtain ⟨rfl, hW, hKK, hFs⟩ := hv
  have X2 : gX p s m _ meth c D cy B (gSt2 Z B H0) RX11 cX11_blame wsX11_blame 6 := ⟨Bd.exec, Bd.bytes, atoms_spec (ws := wsX11_blame) Bd.pre, findClass_of_methodNamed Bd.named, hml, hKK, by rw [hW.1]; exact hW.2.1, Bd.notSynchronized, hFs⟩
  have hr := Bd.returns
  have hH : ∀ q : Nat, q < B → s.heap[q]? = H0[q]? := hW.2.2.1
  have hl := lv_entry ([.ref x0, .int x1]) (n := 6) (Nat.le_of_ble_eq_true rfl)
  show W p l e rX11_blame s m _ below meth c s.heap [] 0 0 _ (entryFrame m ([.ref x0, .int x1] : List Value).toArray 6)
  rw [lg_entry_eq]
  generalize (lg_sl ([.ref x0, .int x1]) ++ List.replicate (6 - (lg_sl ([.ref x0, .int x1])).length) Slot.unset).toArray = ls at hl ⊢
  have hl : lv_has ls 6 (List.map gq [(0, vR (some x0)), (1, vI x1)]) := hl
  exact t_X11_blame_0 X2 hr hlx hH hne hH0 _ _ _ _ hf rfl s.heap [] ls hW va_S.rf (lv_has_sub hl (lvsub_of _ _ [0, 1] rfl))
/-! ## TideLots.pass(I)I -/
theorem dX11_pass_0 : decode cX11_pass 0 = .ok (.iload_n 1, 1) := by decide +kernel
theorem dX11_pass_1 : decode cX11_pass 1 = .ok (.bipush 60, 2) := by decide +kernel
theorem dX11_pass_3 : decode cX11_pass 3 = .ok (.invokestatic 209, 3) := by decide +kernel
theorem dX11_pass_6 : decode cX11_pass 6 = .ok (.aload_n 0, 1) := by decide +kernel
theorem dX11_pass_7 : decode cX11_pass 7 = .ok (.getfield 19, 3) := by decide +kernel
theorem dX11_pass_10 : decode cX11_pass 10 = .ok (.iload_n 1, 1) := by decide +kernel
theorem dX11_pass_11 : decode cX11_pass 11 = .ok (.invokevirtual 213, 3) := by decide +kernel
theorem dX11_pass_14 : decode cX11_pass 14 = .ok (.ireturn, 1) := by decide +kernel
set_option maxRecDepth 20000 in
theorem ggX11_pass_X11_checkTides : GoodIn wsX11_pass wsX11_checkTides := goodIn_ca (goodIn_r _ [5, 6, 7] (by decide +kernel) (by decide +kernel)) (goodIn_sub (fun _ h => List.mem_cons_of_mem _ (List.mem_append_right _ h)) (by decide +kernel))
set_option maxRecDepth 20000 in
theorem gX11_pass_X11_checkTides : GoodIn wsX11_pass (va_wsS RX11 209 yX11_checkTides wsX11_checkTides) := goodIn_app (goodIn_of _ (by decide +kernel)) ggX11_pass_X11_checkTides
set_option maxRecDepth 20000 in
theorem ggX11_pass_X7_passTides : GoodIn wsX11_pass wsX7_passTides := goodIn_r _ [12, 13, 14, 15, 16, 17, 18, 19, 20, 21, 22, 23, 11, 24, 25, 26, 27, 28, 29, 30, 31, 32, 33, 34, 35, 36, 37, 38, 39, 40, 41, 42, 43, 44, 45, 46, 47, 48, 49, 50, 51, 52, 53, 54, 55, 56, 57, 58, 59, 60, 61, 62, 63, 64, 65, 66, 67, 68, 69, 70, 71, 72, 73, 74, 75, 76, 77, 78, 79, 80, 81, 82, 83, 84, 85, 86, 87, 88, 89, 90, 91, 92, 93, 94, 95, 96, 97, 98, 99, 100, 101, 102, 103, 104, 105, 106, 107, 108, 109, 110, 111, 112, 113, 114, 115, 116, 117, 118, 119, 120, 121, 122, 123, 124, 125, 126, 127, 128, 129, 130, 131, 132, 133, 134, 135, 136, 137, 138, 139, 140, 141, 142, 143, 144, 145, 146, 147, 148, 149, 150, 151, 152, 153, 154, 155, 156, 157, 158, 159, 160, 161, 166, 167, 168, 169, 170, 171, 172, 173, 174, 175, 176, 177, 178, 179, 180, 181, 182, 183, 184, 185, 186, 187, 188, 189, 190, 191, 192, 193, 194, 195, 196, 197, 198, 199, 200, 201, 202, 203, 204, 205, 206, 207, 208, 209, 210, 211, 212, 213] (by decide +kernel) (by decide +kernel)
set_option maxRecDepth 20000 in
theorem gX11_pass_X7_passTides : GoodIn wsX11_pass (wsV RX11 213 RX7 yX7_passTides wsX7_passTides) := goodIn_app (goodIn_of _ (by decide +kernel)) ggX11_pass_X7_passTides
theorem k_X11_pass_f19 : Cond.fieldLink RX11 19 "TideLots" "shore" "LTideLots$Shore;" ∈ wsX11_pass := by decide +kernel
theorem i_X11_pass_X11 : ∀ w ∈ u_ws RX11 TX11 4, w ∈ wsX11_pass := by decide +kernel
abbrev rX11_pass : Room := { frames := 7, cells := 1, slots := 6, locals := 141 }
noncomputable def b_X11_pass_0 (Z : Nat → Nat) (M : gMem) (x0 : Nat) (x1 : Int32) : Option ((Nat ⊕ Int32) × gMem) :=
  bx (f_X11_checkTides M x1 ((60 : Int32))) (fun e1 M1 => some (.inl e1, M1)) fun _ M1 => ck (mT M1 x0 = 10) <| dr ((mR M1 x0 1)) fun a4 => ck (mT M1 a4 = 7) <| bd (f_X7_passTides Z M1 a4 x1) fun r3 M3 => some (.inr r3, M3)
noncomputable def f_X11_pass (Z : Nat → Nat) (M : gMem) (x0 : Nat) (x1 : Int32) : Option ((Nat ⊕ Int32) × gMem) :=
  b_X11_pass_0 Z M x0 x1
set_option maxHeartbeats 4000000 in
set_option maxRecDepth 100000 in
theorem t_X11_pass_0 (X2 : gX p s m args meth c D cy B (gSt2 Z B H0) RX11 cX11_pass wsX11_pass 2) (hr : meth.sig.returnType = (some .int)) (hlx : l.stackTraces = false) (hH : ∀ q : Nat, q < B → s.heap[q]? = H0[q]?) (hne : ∀ x ∈ c.exceptionTable.toList, False) (hH0 : H0.size = B) {Q : State → Prop} : ∀ (M : gMem) (x0 : Nat) (x1 : Int32) (z : (Nat ⊕ Int32) × gMem), b_X11_pass_0 Z M x0 x1 = some z → (fun (r : (Nat ⊕ Int32) × gMem) => Q = gMX below D cy B H0 args s 1 6 (gzI r.1) r.2) z → gGo p l e rX11_pass s m args below meth c D cy B H0 2 0 0 Q 0 [(0, vR (some x0)), (1, vI x1)] [] M := by
  intro M x0 x1 z hf hK
  unfold b_X11_pass_0 at hf
  have X := gX_w X2
  refine g_iload_n X dX11_pass_0 rfl rfl ?_
  refine g_bipush (v := (60 : Int32)) X dX11_pass_1 (by decide) ?_
  rcases bx_e hf with ⟨e1, M1, hq1, hf⟩ | ⟨r1, M1, hq1, hf⟩
  · cases hf
    refine g_eqQ hK ?_
    exact g_callTS (As := [vI x1, vI (60 : Int32)]) (st := []) (M1 := M1) X2 hne (m_X11_checkTides l hlx hH0 hq1) (va_cwS 2 X.2.2.1 gX11_pass_X11_checkTides rfl rfl rfl (by decide +kernel) ⟨Nat.le_of_ble_eq_true rfl, Nat.le_of_ble_eq_true rfl⟩) rfl rfl (Nat.le_of_ble_eq_true rfl) dX11_pass_3 ⟨(by decide), (by decide)⟩ (by decide) (by decide)
  refine g_callXS (As := [vI x1, vI (60 : Int32)]) (st := []) (v := none) (M1 := M1) X2 (m_X11_checkTides l hlx hH0 hq1) (va_cwS 2 X.2.2.1 gX11_pass_X11_checkTides rfl rfl rfl (by decide +kernel) ⟨Nat.le_of_ble_eq_true rfl, Nat.le_of_ble_eq_true rfl⟩) rfl rfl (Nat.le_of_ble_eq_true rfl) dX11_pass_3 ⟨(by decide), (by decide)⟩ ?_
  refine g_aload_n X dX11_pass_6 rfl rfl ?_
  obtain ⟨hT2, hf⟩ := ck_e hf
  refine g_get (ci := 9) (v := vR (mR M1 x0 1)) 1 X cdX11 i_X11_pass_X11 (by decide) k_X11_pass_f19 rfl dX11_pass_7 rfl hT2 rfl ?_
  refine g_iload_n X dX11_pass_10 rfl rfl ?_
  obtain ⟨a4, ha4, hf⟩ := dr_e hf
  obtain ⟨hT5, hf⟩ := ck_e hf
  obtain ⟨r3, M3, hq3, hf⟩ := bd_e hf
  refine g_callV (ci := 6) (b := a4) (As := [vI x1]) (st := []) (v := some (vI r3)) (M1 := M3) X (m_X7_passTides l hq3) (cwV 1 X.2.2.1 gX11_pass_X7_passTides rfl rfl rfl (by decide +kernel) ⟨Nat.le_of_ble_eq_true rfl, Nat.le_of_ble_eq_true rfl⟩) rfl rfl ha4 hT5 (by decide) rfl (Nat.le_of_ble_eq_true rfl) dX11_pass_11 ⟨by decide, by decide⟩ ?_
  cases hf
  refine g_eqQ hK ?_
  refine g_xret ?_
  exact g_iret X hr dX11_pass_14
set_option maxHeartbeats 4000000 in
set_option maxRecDepth 100000 in
theorem m_X11_pass (l : Launch) (hlx : l.stackTraces = false) {D : va_G} {cy : Nat → ClassId} {B : Nat} {H0 : Heap} {Z : Nat → Nat} {M M1 : gMem} {x0 : Nat} {x1 : Int32} {r : (Nat ⊕ Int32)} (hH0 : H0.size = B) (hf : f_X11_pass Z M x0 x1 = some (r, M1)) : vx_Met l yX11_pass wsX11_pass rX11_pass (va_Pc (Value.ref x0 :: List.map gv [vI x1]) (gPre D cy B H0 (gSt2 Z B H0) M)) (gQX D cy B H0 (gzI r) M1) (gXC D cy B H0 (gzI r) M1) 1 6 (gA B) := by
  refine vx_ofW (cc := cX11_pass) (maxL := 2) (ret := (some .int)) (by decide) rfl ?_
  intro p e s m args below meth c s₁ Bd hml hne hv
  obtain ⟨rfl, hW, hKK, hFs⟩ := hv
  have X2 : gX p s m _ meth c D cy B (gSt2 Z B H0) RX11 cX11_pass wsX11_pass 2 := ⟨Bd.exec, Bd.bytes, atoms_spec (ws := wsX11_pass) Bd.pre, findClass_of_methodNamed Bd.named, hml, hKK, by rw [hW.1]; exact hW.2.1, Bd.notSynchronized, hFs⟩
  have hr := Bd.returns
  have hH : ∀ q : Nat, q < B → s.heap[q]? = H0[q]? := hW.2.2.1
  have hl := lv_entry ([.ref x0, .int x1]) (n := 2) (Nat.le_of_ble_eq_true rfl)
  show W p l e rX11_pass s m _ below meth c s.heap [] 0 0 _ (entryFrame m ([.ref x0, .int x1] : List Value).toArray 2)
  rw [lg_entry_eq]
  generalize (lg_sl ([.ref x0, .int x1]) ++ List.replicate (2 - (lg_sl ([.ref x0, .int x1])).length) Slot.unset).toArray = ls at hl ⊢
  have hl : lv_has ls 2 (List.map gq [(0, vR (some x0)), (1, vI x1)]) := hl
  exact t_X11_pass_0 X2 hr hlx hH hne hH0 _ _ _ _ hf rfl s.heap [] ls hW va_S.rf (lv_has_sub hl (lvsub_of _ _ [0, 1] rfl))
end
