section
variable {p : Program} {l : Launch} {e : Env} {s : State} {m : MethodId} {args : Array Value} {below : List Frame} {meth : Method} {c : Code} {D : va_G} {cy : Nat → ClassId} {B : Nat} {H0 : Heap} {Z : Nat → Nat}
/-! ## TideLots.checkGround(I)V -/
theorem dX11_checkGround_0 : decode cX11_checkGround 0 = .ok (.iload_n 1, 1) := by decide +kernel
theorem dX11_checkGround_1 : decode cX11_checkGround 1 = .ok (.ifCond .lt 14, 3) := by decide +kernel
theorem dX11_checkGround_4 : decode cX11_checkGround 4 = .ok (.iload_n 1, 1) := by decide +kernel
theorem dX11_checkGround_5 : decode cX11_checkGround 5 = .ok (.aload_n 0, 1) := by decide +kernel
theorem dX11_checkGround_6 : decode cX11_checkGround 6 = .ok (.getfield 19, 3) := by decide +kernel
theorem dX11_checkGround_9 : decode cX11_checkGround 9 = .ok (.getfield 68, 3) := by decide +kernel
theorem dX11_checkGround_12 : decode cX11_checkGround 12 = .ok (.if_icmp .lt 13, 3) := by decide +kernel
theorem dX11_checkGround_15 : decode cX11_checkGround 15 = .ok (.new 92, 3) := by decide +kernel
theorem dX11_checkGround_18 : decode cX11_checkGround 18 = .ok (.dup, 1) := by decide +kernel
theorem dX11_checkGround_19 : decode cX11_checkGround 19 = .ok (.ldc 245, 2) := by decide +kernel
theorem dX11_checkGround_21 : decode cX11_checkGround 21 = .ok (.invokespecial 96, 3) := by decide +kernel
theorem dX11_checkGround_24 : decode cX11_checkGround 24 = .ok (.athrow, 1) := by decide +kernel
theorem dX11_checkGround_25 : decode cX11_checkGround 25 = .ok (.return_, 1) := by decide +kernel
theorem k_X11_checkGround_hat96 : ∀ w ∈ (vx_atS RX11 96 "java/lang/IndexOutOfBoundsException" ["java/lang/RuntimeException", "java/lang/Exception"]).filter goodWord, w ∈ wsX11_checkGround := by decide +kernel
theorem kx_hxw96 : ∀ w ∈ (vx_atS RX11 96 "java/lang/IndexOutOfBoundsException" ["java/lang/RuntimeException", "java/lang/Exception"]).filter (fun w => !goodWord w), w ∈ gN2 ∧ w.onTables = true := by decide +kernel
theorem kx_hg96_92 : ∀ w ∈ Cond.classLink RX11 92 "java/lang/IndexOutOfBoundsException" :: Cond.initialized "java/lang/IndexOutOfBoundsException" :: (vx_atS RX11 96 "java/lang/IndexOutOfBoundsException" ["java/lang/RuntimeException", "java/lang/Exception"]), vx_ot w = true := by decide +kernel
theorem k_X11_checkGround_cl92 : Cond.classLink RX11 92 "java/lang/IndexOutOfBoundsException" ∈ wsX11_checkGround := by decide +kernel
theorem k_X11_checkGround_ini92 : Cond.initialized "java/lang/IndexOutOfBoundsException" ∈ wsX11_checkGround := by decide +kernel
theorem k_X11_checkGround_f19 : Cond.fieldLink RX11 19 "TideLots" "shore" "LTideLots$Shore;" ∈ wsX11_checkGround := by decide +kernel
theorem i_X11_checkGround_X11 : ∀ w ∈ u_ws RX11 TX11 4, w ∈ wsX11_checkGround := by decide +kernel
theorem k_X11_checkGround_f68 : Cond.fieldLink RX11 68 "TideLots$Shore" "groundCount" "I" ∈ wsX11_checkGround := by decide +kernel
theorem i_X11_checkGround_X7 : ∀ w ∈ u_ws RX7 TX7 17, w ∈ wsX11_checkGround := by decide +kernel
abbrev rX11_checkGround : Room := { frames := 6, cells := 1, slots := 6, locals := 82 }
noncomputable def b_X11_checkGround_15 (M : gMem)  : Option ((Nat ⊕ Unit) × gMem) :=
  some (.inl 2, M)
noncomputable def b_X11_checkGround_0 (M : gMem) (x0 : Nat) (x1 : Int32) : Option ((Nat ⊕ Unit) × gMem) :=
  (if x1 < 0 then b_X11_checkGround_15 M  else ck (mT M x0 = 10) <| dr ((mR M x0 1)) fun a2 => ck (mT M a2 = 7) <| (if x1 < (mI M a2 2) then some (.inr (), M) else b_X11_checkGround_15 M ))
noncomputable def f_X11_checkGround (M : gMem) (x0 : Nat) (x1 : Int32) : Option ((Nat ⊕ Unit) × gMem) :=
  b_X11_checkGround_0 M x0 x1
set_option maxHeartbeats 4000000 in
set_option maxRecDepth 100000 in
theorem t_X11_checkGround_15 (X2 : gX p s m args meth c D cy B (gSt2 Z B H0) RX11 cX11_checkGround wsX11_checkGround 2) (hr : meth.sig.returnType = none) (hlx : l.stackTraces = false) (hH : ∀ q : Nat, q < B → s.heap[q]? = H0[q]?) (hne : ∀ x ∈ c.exceptionTable.toList, False) (hH0 : H0.size = B) {Q : State → Prop} : ∀ (M : gMem)  (z : (Nat ⊕ Unit) × gMem), b_X11_checkGround_15 M  = some z → (fun (r : (Nat ⊕ Unit) × gMem) => Q = gMX below D cy B H0 args s 1 6 (gzV r.1) r.2) z → gGo p l e rX11_checkGround s m args below meth c D cy B H0 2 0 0 Q 15 [] [] M := by
  intro M  z hf hK
  unfold b_X11_checkGround_15 at hf
  have X := gX_w X2
  cases hf
  refine g_eqQ hK ?_
  exact g_throwS (text := "no such ground") X2 hlx hH hH0 hne (by decide) k_X11_checkGround_cl92 k_X11_checkGround_ini92 (by decide) k_X11_checkGround_hat96 kx_hxw96 kx_hg96_92 rfl dX11_checkGround_15 dX11_checkGround_18 dX11_checkGround_19 dX11_checkGround_21 dX11_checkGround_24 (Nat.le_of_ble_eq_true rfl) (Nat.le_of_ble_eq_true rfl) (by decide) (by decide) (by decide) (by decide)
set_option maxHeartbeats 4000000 in
set_option maxRecDepth 100000 in
theorem t_X11_checkGround_0 (X2 : gX p s m args meth c D cy B (gSt2 Z B H0) RX11 cX11_checkGround wsX11_checkGround 2) (hr : meth.sig.returnType = none) (hlx : l.stackTraces = false) (hH : ∀ q : Nat, q < B → s.heap[q]? = H0[q]?) (hne : ∀ x ∈ c.exceptionTable.toList, False) (hH0 : H0.size = B) {Q : State → Prop} : ∀ (M : gMem) (x0 : Nat) (x1 : Int32) (z : (Nat ⊕ Unit) × gMem), b_X11_checkGround_0 M x0 x1 = some z → (fun (r : (Nat ⊕ Unit) × gMem) => Q = gMX below D cy B H0 args s 1 6 (gzV r.1) r.2) z → gGo p l e rX11_checkGround s m args below meth c D cy B H0 2 0 0 Q 0 [(0, vR (some x0)), (1, vI x1)] [] M := by
  intro M x0 x1 z hf hK
  unfold b_X11_checkGround_0 at hf
  have X := gX_w X2
  refine g_iload_n X dX11_checkGround_0 rfl rfl ?_
  refine g_if_lt (tgt := 15) X dX11_checkGround_1 (by decide) (fun hc => ?_) (fun hc => ?_)
  · have hf := ife_t hc hf
    refine g_sub (lvsub_of _ _ [] rfl) ?_
    exact t_X11_checkGround_15 X2 hr hlx hH hne hH0 _  _ hf hK
  · have hf := ife_f hc hf
    refine g_iload_n X dX11_checkGround_4 rfl rfl ?_
    refine g_aload_n X dX11_checkGround_5 rfl rfl ?_
    obtain ⟨hT1, hf⟩ := ck_e hf
    refine g_get (ci := 9) (v := vR (mR M x0 1)) 1 X cdX11 i_X11_checkGround_X11 (by decide) k_X11_checkGround_f19 rfl dX11_checkGround_6 rfl hT1 rfl ?_
    obtain ⟨a2, ha2, hf⟩ := dr_e hf
    obtain ⟨hT3, hf⟩ := ck_e hf
    refine g_get (ci := 6) (v := vI (mI M a2 2)) 2 X cdX7 i_X11_checkGround_X7 (by decide) k_X11_checkGround_f68 rfl dX11_checkGround_9 ha2 hT3 rfl ?_
    refine g_icmp_lt (tgt := 25) X dX11_checkGround_12 (by decide) (fun hc => ?_) (fun hc => ?_)
    · have hf := ife_t hc hf
      cases hf
      refine g_eqQ hK ?_
      refine g_wide (k' := 1) (n' := 6) (by decide) (by decide) ?_
      refine g_xret ?_
      exact g_vret X hr dX11_checkGround_25
    · have hf := ife_f hc hf
      refine g_sub (lvsub_of _ _ [] rfl) ?_
      exact t_X11_checkGround_15 X2 hr hlx hH hne hH0 _  _ hf hK
set_option maxHeartbeats 4000000 in
set_option maxRecDepth 100000 in
theorem m_X11_checkGround (l : Launch) (hlx : l.stackTraces = false) {D : va_G} {cy : Nat → ClassId} {B : Nat} {H0 : Heap} {Z : Nat → Nat} {M M1 : gMem} {x0 : Nat} {x1 : Int32} {r : (Nat ⊕ Unit)} (hH0 : H0.size = B) (hf : f_X11_checkGround M x0 x1 = some (r, M1)) : vx_Met l yX11_checkGround wsX11_checkGround rX11_checkGround (va_Pc (Value.ref x0 :: List.map gv [vI x1]) (gPre D cy B H0 (gSt2 Z B H0) M)) (gQX D cy B H0 (gzV r) M1) (gXC D cy B H0 (gzV r) M1) 1 6 (gA B) := by
  refine vx_ofW (cc := cX11_checkGround) (maxL := 2) (ret := none) (by decide) rfl ?_
  intro p e s m args below meth c s₁ Bd hml hne hv
  obtain ⟨rfl, hW, hKK, hFs⟩ := hv
  have X2 : gX p s m _ meth c D cy B (gSt2 Z B H0) RX11 cX11_checkGround wsX11_checkGround 2 := ⟨Bd.exec, Bd.bytes, atoms_spec (ws := wsX11_checkGround) Bd.pre, findClass_of_methodNamed Bd.named, hml, hKK, by rw [hW.1]; exact hW.2.1, Bd.notSynchronized, hFs⟩
  have hr := Bd.returns
  have hH : ∀ q : Nat, q < B → s.heap[q]? = H0[q]? := hW.2.2.1
  have hl := lv_entry ([.ref x0, .int x1]) (n := 2) (Nat.le_of_ble_eq_true rfl)
  show W p l e rX11_checkGround s m _ below meth c s.heap [] 0 0 _ (entryFrame m ([.ref x0, .int x1] : List Value).toArray 2)
  rw [lg_entry_eq]
  generalize (lg_sl ([.ref x0, .int x1]) ++ List.replicate (2 - (lg_sl ([.ref x0, .int x1])).length) Slot.unset).toArray = ls at hl ⊢
  have hl : lv_has ls 2 (List.map gq [(0, vR (some x0)), (1, vI x1)]) := hl
  exact t_X11_checkGround_0 X2 hr hlx hH hne hH0 _ _ _ _ hf rfl s.heap [] ls hW va_S.rf (lv_has_sub hl (lvsub_of _ _ [0, 1] rfl))
/-! ## TideLots.checkFisher(I)V -/
theorem dX11_checkFisher_0 : decode cX11_checkFisher 0 = .ok (.iload_n 1, 1) := by decide +kernel
theorem dX11_checkFisher_1 : decode cX11_checkFisher 1 = .ok (.ifCond .lt 14, 3) := by decide +kernel
theorem dX11_checkFisher_4 : decode cX11_checkFisher 4 = .ok (.iload_n 1, 1) := by decide +kernel
theorem dX11_checkFisher_5 : decode cX11_checkFisher 5 = .ok (.aload_n 0, 1) := by decide +kernel
theorem dX11_checkFisher_6 : decode cX11_checkFisher 6 = .ok (.getfield 19, 3) := by decide +kernel
theorem dX11_checkFisher_9 : decode cX11_checkFisher 9 = .ok (.getfield 71, 3) := by decide +kernel
theorem dX11_checkFisher_12 : decode cX11_checkFisher 12 = .ok (.if_icmp .lt 13, 3) := by decide +kernel
theorem dX11_checkFisher_15 : decode cX11_checkFisher 15 = .ok (.new 92, 3) := by decide +kernel
theorem dX11_checkFisher_18 : decode cX11_checkFisher 18 = .ok (.dup, 1) := by decide +kernel
theorem dX11_checkFisher_19 : decode cX11_checkFisher 19 = .ok (.ldc 247, 2) := by decide +kernel
theorem dX11_checkFisher_21 : decode cX11_checkFisher 21 = .ok (.invokespecial 96, 3) := by decide +kernel
theorem dX11_checkFisher_24 : decode cX11_checkFisher 24 = .ok (.athrow, 1) := by decide +kernel
theorem dX11_checkFisher_25 : decode cX11_checkFisher 25 = .ok (.return_, 1) := by decide +kernel
theorem k_X11_checkFisher_hat96 : ∀ w ∈ (vx_atS RX11 96 "java/lang/IndexOutOfBoundsException" ["java/lang/RuntimeException", "java/lang/Exception"]).filter goodWord, w ∈ wsX11_checkFisher := by decide +kernel
theorem k_X11_checkFisher_cl92 : Cond.classLink RX11 92 "java/lang/IndexOutOfBoundsException" ∈ wsX11_checkFisher := by decide +kernel
theorem k_X11_checkFisher_ini92 : Cond.initialized "java/lang/IndexOutOfBoundsException" ∈ wsX11_checkFisher := by decide +kernel
theorem k_X11_checkFisher_f19 : Cond.fieldLink RX11 19 "TideLots" "shore" "LTideLots$Shore;" ∈ wsX11_checkFisher := by decide +kernel
theorem i_X11_checkFisher_X11 : ∀ w ∈ u_ws RX11 TX11 4, w ∈ wsX11_checkFisher := by decide +kernel
theorem k_X11_checkFisher_f71 : Cond.fieldLink RX11 71 "TideLots$Shore" "fisherCount" "I" ∈ wsX11_checkFisher := by decide +kernel
theorem i_X11_checkFisher_X7 : ∀ w ∈ u_ws RX7 TX7 17, w ∈ wsX11_checkFisher := by decide +kernel
abbrev rX11_checkFisher : Room := { frames := 6, cells := 1, slots := 6, locals := 82 }
noncomputable def b_X11_checkFisher_15 (M : gMem)  : Option ((Nat ⊕ Unit) × gMem) :=
  some (.inl 2, M)
noncomputable def b_X11_checkFisher_0 (M : gMem) (x0 : Nat) (x1 : Int32) : Option ((Nat ⊕ Unit) × gMem) :=
  (if x1 < 0 then b_X11_checkFisher_15 M  else ck (mT M x0 = 10) <| dr ((mR M x0 1)) fun a2 => ck (mT M a2 = 7) <| (if x1 < (mI M a2 3) then some (.inr (), M) else b_X11_checkFisher_15 M ))
noncomputable def f_X11_checkFisher (M : gMem) (x0 : Nat) (x1 : Int32) : Option ((Nat ⊕ Unit) × gMem) :=
  b_X11_checkFisher_0 M x0 x1
set_option maxHeartbeats 4000000 in
set_option maxRecDepth 100000 in
theorem t_X11_checkFisher_15 (X2 : gX p s m args meth c D cy B (gSt2 Z B H0) RX11 cX11_checkFisher wsX11_checkFisher 2) (hr : meth.sig.returnType = none) (hlx : l.stackTraces = false) (hH : ∀ q : Nat, q < B → s.heap[q]? = H0[q]?) (hne : ∀ x ∈ c.exceptionTable.toList, False) (hH0 : H0.size = B) {Q : State → Prop} : ∀ (M : gMem)  (z : (Nat ⊕ Unit) × gMem), b_X11_checkFisher_15 M  = some z → (fun (r : (Nat ⊕ Unit) × gMem) => Q = gMX below D cy B H0 args s 1 6 (gzV r.1) r.2) z → gGo p l e rX11_checkFisher s m args below meth c D cy B H0 2 0 0 Q 15 [] [] M := by
  intro M  z hf hK
  unfold b_X11_checkFisher_15 at hf
  have X := gX_w X2
  cases hf
  refine g_eqQ hK ?_
  exact g_throwS (text := "no such fisher") X2 hlx hH hH0 hne (by decide) k_X11_checkFisher_cl92 k_X11_checkFisher_ini92 (by decide) k_X11_checkFisher_hat96 kx_hxw96 kx_hg96_92 rfl dX11_checkFisher_15 dX11_checkFisher_18 dX11_checkFisher_19 dX11_checkFisher_21 dX11_checkFisher_24 (Nat.le_of_ble_eq_true rfl) (Nat.le_of_ble_eq_true rfl) (by decide) (by decide) (by decide) (by decide)
set_option maxHeartbeats 4000000 in
set_option maxRecDepth 100000 in
theorem t_X11_checkFisher_0 (X2 : gX p s m args meth c D cy B (gSt2 Z B H0) RX11 cX11_checkFisher wsX11_checkFisher 2) (hr : meth.sig.returnType = none) (hlx : l.stackTraces = false) (hH : ∀ q : Nat, q < B → s.heap[q]? = H0[q]?) (hne : ∀ x ∈ c.exceptionTable.toList, False) (hH0 : H0.size = B) {Q : State → Prop} : ∀ (M : gMem) (x0 : Nat) (x1 : Int32) (z : (Nat ⊕ Unit) × gMem), b_X11_checkFisher_0 M x0 x1 = some z → (fun (r : (Nat ⊕ Unit) × gMem) => Q = gMX below D cy B H0 args s 1 6 (gzV r.1) r.2) z → gGo p l e rX11_checkFisher s m args below meth c D cy B H0 2 0 0 Q 0 [(0, vR (some x0)), (1, vI x1)] [] M := by
  intro M x0 x1 z hf hK
  unfold b_X11_checkFisher_0 at hf
  have X := gX_w X2
  refine g_iload_n X dX11_checkFisher_0 rfl rfl ?_
  refine g_if_lt (tgt := 15) X dX11_checkFisher_1 (by decide) (fun hc => ?_) (fun hc => ?_)
  · have hf := ife_t hc hf
    refine g_sub (lvsub_of _ _ [] rfl) ?_
    exact t_X11_checkFisher_15 X2 hr hlx hH hne hH0 _  _ hf hK
  · have hf := ife_f hc hf
    refine g_iload_n X dX11_checkFisher_4 rfl rfl ?_
    refine g_aload_n X dX11_checkFisher_5 rfl rfl ?_
    obtain ⟨hT1, hf⟩ := ck_e hf
    refine g_get (ci := 9) (v := vR (mR M x0 1)) 1 X cdX11 i_X11_checkFisher_X11 (by decide) k_X11_checkFisher_f19 rfl dX11_checkFisher_6 rfl hT1 rfl ?_
    obtain ⟨a2, ha2, hf⟩ := dr_e hf
    obtain ⟨hT3, hf⟩ := ck_e hf
    refine g_get (ci := 6) (v := vI (mI M a2 3)) 3 X cdX7 i_X11_checkFisher_X7 (by decide) k_X11_checkFisher_f71 rfl dX11_checkFisher_9 ha2 hT3 rfl ?_
    refine g_icmp_lt (tgt := 25) X dX11_checkFisher_12 (by decide) (fun hc => ?_) (fun hc => ?_)
    · have hf := ife_t hc hf
      cases hf
      refine g_eqQ hK ?_
      refine g_wide (k' := 1) (n' := 6) (by decide) (by decide) ?_
      refine g_xret ?_
      exact g_vret X hr dX11_checkFisher_25
    · have hf := ife_f hc hf
      refine g_sub (lvsub_of _ _ [] rfl) ?_
      exact t_X11_checkFisher_15 X2 hr hlx hH hne hH0 _  _ hf hK
set_option maxHeartbeats 4000000 in
set_option maxRecDepth 100000 in
theorem m_X11_checkFisher (l : Launch) (hlx : l.stackTraces = false) {D : va_G} {cy : Nat → ClassId} {B : Nat} {H0 : Heap} {Z : Nat → Nat} {M M1 : gMem} {x0 : Nat} {x1 : Int32} {r : (Nat ⊕ Unit)} (hH0 : H0.size = B) (hf : f_X11_checkFisher M x0 x1 = some (r, M1)) : vx_Met l yX11_checkFisher wsX11_checkFisher rX11_checkFisher (va_Pc (Value.ref x0 :: List.map gv [vI x1]) (gPre D cy B H0 (gSt2 Z B H0) M)) (gQX D cy B H0 (gzV r) M1) (gXC D cy B H0 (gzV r) M1) 1 6 (gA B) := by
  refine vx_ofW (cc := cX11_checkFisher) (maxL := 2) (ret := none) (by decide) rfl ?_
  intro p e s m args below meth c s₁ Bd hml hne hv
  obtain ⟨rfl, hW, hKK, hFs⟩ := hv
  have X2 : gX p s m _ meth c D cy B (gSt2 Z B H0) RX11 cX11_checkFisher wsX11_checkFisher 2 := ⟨Bd.exec, Bd.bytes, atoms_spec (ws := wsX11_checkFisher) Bd.pre, findClass_of_methodNamed Bd.named, hml, hKK, by rw [hW.1]; exact hW.2.1, Bd.notSynchronized, hFs⟩
  have hr := Bd.returns
  have hH : ∀ q : Nat, q < B → s.heap[q]? = H0[q]? := hW.2.2.1
  have hl := lv_entry ([.ref x0, .int x1]) (n := 2) (Nat.le_of_ble_eq_true rfl)
  show W p l e rX11_checkFisher s m _ below meth c s.heap [] 0 0 _ (entryFrame m ([.ref x0, .int x1] : List Value).toArray 2)
  rw [lg_entry_eq]
  generalize (lg_sl ([.ref x0, .int x1]) ++ List.replicate (2 - (lg_sl ([.ref x0, .int x1])).length) Slot.unset).toArray = ls at hl ⊢
  have hl : lv_has ls 2 (List.map gq [(0, vR (some x0)), (1, vI x1)]) := hl
  exact t_X11_checkFisher_0 X2 hr hlx hH hne hH0 _ _ _ _ hf rfl s.heap [] ls hW va_S.rf (lv_has_sub hl (lvsub_of _ _ [0, 1] rfl))
/-! ## TideLots.checkTides(II)V -/
theorem dX11_checkTides_0 : decode cX11_checkTides 0 = .ok (.iload_n 0, 1) := by decide +kernel
theorem dX11_checkTides_1 : decode cX11_checkTides 1 = .ok (.iconst 1, 1) := by decide +kernel
theorem dX11_checkTides_2 : decode cX11_checkTides 2 = .ok (.if_icmp .lt 8, 3) := by decide +kernel
theorem dX11_checkTides_5 : decode cX11_checkTides 5 = .ok (.iload_n 0, 1) := by decide +kernel
theorem dX11_checkTides_6 : decode cX11_checkTides 6 = .ok (.iload_n 1, 1) := by decide +kernel
theorem dX11_checkTides_7 : decode cX11_checkTides 7 = .ok (.if_icmp .le 13, 3) := by decide +kernel
theorem dX11_checkTides_10 : decode cX11_checkTides 10 = .ok (.new 44, 3) := by decide +kernel
theorem dX11_checkTides_13 : decode cX11_checkTides 13 = .ok (.dup, 1) := by decide +kernel
theorem dX11_checkTides_14 : decode cX11_checkTides 14 = .ok (.ldc 249, 2) := by decide +kernel
theorem dX11_checkTides_16 : decode cX11_checkTides 16 = .ok (.invokespecial 48, 3) := by decide +kernel
theorem dX11_checkTides_19 : decode cX11_checkTides 19 = .ok (.athrow, 1) := by decide +kernel
theorem dX11_checkTides_20 : decode cX11_checkTides 20 = .ok (.return_, 1) := by decide +kernel
theorem k_X11_checkTides_hat48 : ∀ w ∈ (vx_atS RX11 48 "java/lang/IllegalArgumentException" ["java/lang/RuntimeException", "java/lang/Exception"]).filter goodWord, w ∈ wsX11_checkTides := by decide +kernel
theorem kx_hxw48 : ∀ w ∈ (vx_atS RX11 48 "java/lang/IllegalArgumentException" ["java/lang/RuntimeException", "java/lang/Exception"]).filter (fun w => !goodWord w), w ∈ gN2 ∧ w.onTables = true := by decide +kernel
theorem kx_hg48_44 : ∀ w ∈ Cond.classLink RX11 44 "java/lang/IllegalArgumentException" :: Cond.initialized "java/lang/IllegalArgumentException" :: (vx_atS RX11 48 "java/lang/IllegalArgumentException" ["java/lang/RuntimeException", "java/lang/Exception"]), vx_ot w = true := by decide +kernel
theorem k_X11_checkTides_cl44 : Cond.classLink RX11 44 "java/lang/IllegalArgumentException" ∈ wsX11_checkTides := by decide +kernel
theorem k_X11_checkTides_ini44 : Cond.initialized "java/lang/IllegalArgumentException" ∈ wsX11_checkTides := by decide +kernel
abbrev rX11_checkTides : Room := { frames := 6, cells := 1, slots := 6, locals := 82 }
noncomputable def b_X11_checkTides_10 (M : gMem)  : Option ((Nat ⊕ Unit) × gMem) :=
  some (.inl 1, M)
noncomputable def b_X11_checkTides_0 (M : gMem) (x0 : Int32) (x1 : Int32) : Option ((Nat ⊕ Unit) × gMem) :=
  (if x0 < (1 : Int32) then b_X11_checkTides_10 M  else (if x0 ≤ x1 then some (.inr (), M) else b_X11_checkTides_10 M ))
noncomputable def f_X11_checkTides (M : gMem) (x0 : Int32) (x1 : Int32) : Option ((Nat ⊕ Unit) × gMem) :=
  b_X11_checkTides_0 M x0 x1
set_option maxHeartbeats 4000000 in
set_option maxRecDepth 100000 in
theorem t_X11_checkTides_10 (X2 : gX p s m args meth c D cy B (gSt2 Z B H0) RX11 cX11_checkTides wsX11_checkTides 2) (hr : meth.sig.returnType = none) (hlx : l.stackTraces = false) (hH : ∀ q : Nat, q < B → s.heap[q]? = H0[q]?) (hne : ∀ x ∈ c.exceptionTable.toList, False) (hH0 : H0.size = B) {Q : State → Prop} : ∀ (M : gMem)  (z : (Nat ⊕ Unit) × gMem), b_X11_checkTides_10 M  = some z → (fun (r : (Nat ⊕ Unit) × gMem) => Q = gMX below D cy B H0 args s 1 6 (gzV r.1) r.2) z → gGo p l e rX11_checkTides s m args below meth c D cy B H0 2 0 0 Q 10 [] [] M := by
  intro M  z hf hK
  unfold b_X11_checkTides_10 at hf
  have X := gX_w X2
  cases hf
  refine g_eqQ hK ?_
  exact g_throwS (text := "too few or too many tides") X2 hlx hH hH0 hne (by decide) k_X11_checkTides_cl44 k_X11_checkTides_ini44 (by decide) k_X11_checkTides_hat48 kx_hxw48 kx_hg48_44 rfl dX11_checkTides_10 dX11_checkTides_13 dX11_checkTides_14 dX11_checkTides_16 dX11_checkTides_19 (Nat.le_of_ble_eq_true rfl) (Nat.le_of_ble_eq_true rfl) (by decide) (by decide) (by decide) (by decide)
set_option maxHeartbeats 4000000 in
set_option maxRecDepth 100000 in
theorem t_X11_checkTides_0 (X2 : gX p s m args meth c D cy B (gSt2 Z B H0) RX11 cX11_checkTides wsX11_checkTides 2) (hr : meth.sig.returnType = none) (hlx : l.stackTraces = false) (hH : ∀ q : Nat, q < B → s.heap[q]? = H0[q]?) (hne : ∀ x ∈ c.exceptionTable.toList, False) (hH0 : H0.size = B) {Q : State → Prop} : ∀ (M : gMem) (x0 : Int32) (x1 : Int32) (z : (Nat ⊕ Unit) × gMem), b_X11_checkTides_0 M x0 x1 = some z → (fun (r : (Nat ⊕ Unit) × gMem) => Q = gMX below D cy B H0 args s 1 6 (gzV r.1) r.2) z → gGo p l e rX11_checkTides s m args below meth c D cy B H0 2 0 0 Q 0 [(0, vI x0), (1, vI x1)] [] M := by
  intro M x0 x1 z hf hK
  unfold b_X11_checkTides_0 at hf
  have X := gX_w X2
  refine g_iload_n X dX11_checkTides_0 rfl rfl ?_
  refine g_iconst (v := (1 : Int32)) X dX11_checkTides_1 (by decide) ?_
  refine g_icmp_lt (tgt := 10) X dX11_checkTides_2 (by decide) (fun hc => ?_) (fun hc => ?_)
  · have hf := ife_t hc hf
    refine g_sub (lvsub_of _ _ [] rfl) ?_
    exact t_X11_checkTides_10 X2 hr hlx hH hne hH0 _  _ hf hK
  · have hf := ife_f hc hf
    refine g_iload_n X dX11_checkTides_5 rfl rfl ?_
    refine g_iload_n X dX11_checkTides_6 rfl rfl ?_
    refine g_icmp_le (tgt := 20) X dX11_checkTides_7 (by decide) (fun hc => ?_) (fun hc => ?_)
    · have hf := ife_t hc hf
      cases hf
      refine g_eqQ hK ?_
      refine g_wide (k' := 1) (n' := 6) (by decide) (by decide) ?_
      refine g_xret ?_
      exact g_vret X hr dX11_checkTides_20
    · have hf := ife_f hc hf
      refine g_sub (lvsub_of _ _ [] rfl) ?_
      exact t_X11_checkTides_10 X2 hr hlx hH hne hH0 _  _ hf hK
set_option maxHeartbeats 4000000 in
set_option maxRecDepth 100000 in
theorem m_X11_checkTides (l : Launch) (hlx : l.stackTraces = false) {D : va_G} {cy : Nat → ClassId} {B : Nat} {H0 : Heap} {Z : Nat → Nat} {M M1 : gMem} {x0 : Int32} {x1 : Int32} {r : (Nat ⊕ Unit)} (hH0 : H0.size = B) (hf : f_X11_checkTides M x0 x1 = some (r, M1)) : vx_Met l yX11_checkTides wsX11_checkTides rX11_checkTides (va_Pc (List.map gv [vI x0, vI x1]) (gPre D cy B H0 (gSt2 Z B H0) M)) (gQX D cy B H0 (gzV r) M1) (gXC D cy B H0 (gzV r) M1) 1 6 (gA B) := by
  refine vx_ofW (cc := cX11_checkTides) (maxL := 2) (ret := none) (by decide) rfl ?_
  intro p e s m args below meth c s₁ Bd hml hne hv
  obtain ⟨rfl, hW, hKK, hFs⟩ := hv
  have X2 : gX p s m _ meth c D cy B (gSt2 Z B H0) RX11 cX11_checkTides wsX11_checkTides 2 := ⟨Bd.exec, Bd.bytes, atoms_spec (ws := wsX11_checkTides) Bd.pre, findClass_of_methodNamed Bd.named, hml, hKK, by rw [hW.1]; exact hW.2.1, Bd.notSynchronized, hFs⟩
  have hr := Bd.returns
  have hH : ∀ q : Nat, q < B → s.heap[q]? = H0[q]? := hW.2.2.1
  have hl := lv_entry ([.int x0, .int x1]) (n := 2) (Nat.le_of_ble_eq_true rfl)
  show W p l e rX11_checkTides s m _ below meth c s.heap [] 0 0 _ (entryFrame m ([.int x0, .int x1] : List Value).toArray 2)
  rw [lg_entry_eq]
  generalize (lg_sl ([.int x0, .int x1]) ++ List.replicate (2 - (lg_sl ([.int x0, .int x1])).length) Slot.unset).toArray = ls at hl ⊢
  have hl : lv_has ls 2 (List.map gq [(0, vI x0), (1, vI x1)]) := hl
  exact t_X11_checkTides_0 X2 hr hlx hH hne hH0 _ _ _ _ hf rfl s.heap [] ls hW va_S.rf (lv_has_sub hl (lvsub_of _ _ [0, 1] rfl))
/-! ## TideLots.lookAhead()LTideLots$Shore; -/
theorem dX11_lookAhead_0 : decode cX11_lookAhead 0 = .ok (.aload_n 0, 1) := by decide +kernel
theorem dX11_lookAhead_1 : decode cX11_lookAhead 1 = .ok (.getfield 23, 3) := by decide +kernel
theorem dX11_lookAhead_4 : decode cX11_lookAhead 4 = .ok (.aload_n 0, 1) := by decide +kernel
theorem dX11_lookAhead_5 : decode cX11_lookAhead 5 = .ok (.getfield 19, 3) := by decide +kernel
theorem dX11_lookAhead_8 : decode cX11_lookAhead 8 = .ok (.invokevirtual 241, 3) := by decide +kernel
theorem dX11_lookAhead_11 : decode cX11_lookAhead 11 = .ok (.aload_n 0, 1) := by decide +kernel
theorem dX11_lookAhead_12 : decode cX11_lookAhead 12 = .ok (.getfield 23, 3) := by decide +kernel
theorem dX11_lookAhead_15 : decode cX11_lookAhead 15 = .ok (.areturn, 1) := by decide +kernel
set_option maxRecDepth 20000 in
theorem ggX11_lookAhead_X7_copyFrom : GoodIn wsX11_lookAhead wsX7_copyFrom := goodIn_2 24 (goodIn_r _ [7, 8, 9, 10, 11, 12, 13, 14, 15, 16, 17, 18, 19, 20, 21, 22, 23, 24, 25, 26, 27, 28, 29, 30] (by decide +kernel) (by decide +kernel)) (goodIn_2 24 (goodIn_r _ [31, 32, 33, 34, 35, 36, 37, 38, 39, 40, 41, 42, 43, 44, 45, 46, 47, 48, 49, 50, 51, 52, 53, 54] (by decide +kernel) (by decide +kernel)) (goodIn_2 24 (goodIn_r _ [55, 56, 57, 58, 59, 60, 61, 62, 63, 64, 65, 66, 67, 68, 69, 70, 71, 72, 73, 78, 79, 80, 81, 82] (by decide +kernel) (by decide +kernel)) (goodIn_2 24 (goodIn_r _ [83, 84, 85, 86, 87, 88, 89, 90, 91, 92, 93, 94, 95, 96, 97, 98, 99, 100, 101, 102, 103, 104, 105, 106] (by decide +kernel) (by decide +kernel)) (goodIn_r _ [107, 108, 109, 110, 111, 112, 113, 114, 115, 116, 117, 118, 119, 120, 121, 122, 123, 124, 125] (by decide +kernel) (by decide +kernel)))))
set_option maxRecDepth 20000 in
theorem gX11_lookAhead_X7_copyFrom : GoodIn wsX11_lookAhead (wsV RX11 241 RX7 yX7_copyFrom wsX7_copyFrom) := goodIn_app (goodIn_of _ (by decide +kernel)) ggX11_lookAhead_X7_copyFrom
theorem k_X11_lookAhead_f23 : Cond.fieldLink RX11 23 "TideLots" "other" "LTideLots$Shore;" ∈ wsX11_lookAhead := by decide +kernel
theorem i_X11_lookAhead_X11 : ∀ w ∈ u_ws RX11 TX11 4, w ∈ wsX11_lookAhead := by decide +kernel
theorem k_X11_lookAhead_f19 : Cond.fieldLink RX11 19 "TideLots" "shore" "LTideLots$Shore;" ∈ wsX11_lookAhead := by decide +kernel
abbrev rX11_lookAhead : Room := { frames := 2, cells := 0, slots := 0, locals := 44 }
noncomputable def b_X11_lookAhead_0 (Z : Nat → Nat) (M : gMem) (x0 : Nat) : Option (Option Nat × gMem) :=
  ck (mT M x0 = 10) <| dr ((mR M x0 2)) fun a3 => ck (mT M a3 = 7) <| bd (f_X7_copyFrom Z M a3 ((mR M x0 1))) fun _ M2 => ck (mT M2 x0 = 10) <| some ((mR M2 x0 2), M2)
noncomputable def f_X11_lookAhead (Z : Nat → Nat) (M : gMem) (x0 : Nat) : Option (Option Nat × gMem) :=
  b_X11_lookAhead_0 Z M x0
set_option maxHeartbeats 4000000 in
set_option maxRecDepth 100000 in
theorem t_X11_lookAhead_0 (X : gX p s m args meth c D cy B (gSt Z B H0) RX11 cX11_lookAhead wsX11_lookAhead 1) (hr : meth.sig.returnType = (some (.object "TideLots$Shore"))) {Q : State → Prop} : ∀ (M : gMem) (x0 : Nat) (z : Option Nat × gMem), b_X11_lookAhead_0 Z M x0 = some z → (fun (r : Option Nat × gMem) => Q = gMQ below D cy B H0 args s 0 0 (some (vR r.1)) r.2) z → gGo p l e rX11_lookAhead s m args below meth c D cy B H0 1 0 0 Q 0 [(0, vR (some x0))] [] M := by
  intro M x0 z hf hK
  unfold b_X11_lookAhead_0 at hf
  refine g_aload_n X dX11_lookAhead_0 rfl rfl ?_
  obtain ⟨hT1, hf⟩ := ck_e hf
  refine g_get (ci := 9) (v := vR (mR M x0 2)) 2 X cdX11 i_X11_lookAhead_X11 (by decide) k_X11_lookAhead_f23 rfl dX11_lookAhead_1 rfl hT1 rfl ?_
  refine g_aload_n X dX11_lookAhead_4 rfl rfl ?_
  refine g_get (ci := 9) (v := vR (mR M x0 1)) 1 X cdX11 i_X11_lookAhead_X11 (by decide) k_X11_lookAhead_f19 rfl dX11_lookAhead_5 rfl hT1 rfl ?_
  obtain ⟨a3, ha3, hf⟩ := dr_e hf
  obtain ⟨hT4, hf⟩ := ck_e hf
  obtain ⟨r2, M2, hq2, hf⟩ := bd_e hf
  refine g_callV (ci := 6) (b := a3) (As := [vR (mR M x0 1)]) (st := []) (v := none) (M1 := M2) X (m_X7_copyFrom l hq2) (cwV 1 X.2.2.1 gX11_lookAhead_X7_copyFrom rfl rfl rfl (by decide +kernel) ⟨Nat.le_of_ble_eq_true rfl, Nat.le_of_ble_eq_true rfl⟩) rfl rfl ha3 hT4 (by decide) rfl (Nat.le_of_ble_eq_true rfl) dX11_lookAhead_8 ⟨by decide, by decide⟩ ?_
  refine g_aload_n X dX11_lookAhead_11 rfl rfl ?_
  obtain ⟨hT5, hf⟩ := ck_e hf
  refine g_get (ci := 9) (v := vR (mR M2 x0 2)) 2 X cdX11 i_X11_lookAhead_X11 (by decide) k_X11_lookAhead_f23 rfl dX11_lookAhead_12 rfl hT5 rfl ?_
  cases hf
  refine g_eqQ hK ?_
  exact g_aret X hr (Or.inl ⟨_, rfl⟩) dX11_lookAhead_15
set_option maxHeartbeats 4000000 in
set_option maxRecDepth 100000 in
theorem m_X11_lookAhead (l : Launch) {D : va_G} {cy : Nat → ClassId} {B : Nat} {H0 : Heap} {Z : Nat → Nat} {M M1 : gMem} {x0 : Nat} {r : Option Nat} (hf : f_X11_lookAhead Z M x0 = some (r, M1)) : Met l yX11_lookAhead wsX11_lookAhead rX11_lookAhead (va_Pc (Value.ref x0 :: List.map gv []) (gPre D cy B H0 (gSt Z B H0) M)) (gQ D cy B H0 (some (vR r)) M1) 0 0 (gA B) := by
  refine Met.ofW (cc := cX11_lookAhead) (maxL := 1) (ret := (some (.object "TideLots$Shore"))) (by decide) rfl ?_
  intro p e s m args below meth c s₁ Bd hml hv
  obtain ⟨rfl, hW, hKK, hFs⟩ := hv
  have X : gX p s m _ meth c D cy B (gSt Z B H0) RX11 cX11_lookAhead wsX11_lookAhead 1 := ⟨Bd.exec, Bd.bytes, atoms_spec (ws := wsX11_lookAhead) Bd.pre, findClass_of_methodNamed Bd.named, hml, hKK, by rw [hW.1]; exact hW.2.1, Bd.notSynchronized, hFs⟩
  have hr := Bd.returns
  have hl := lv_entry ([.ref x0]) (n := 1) (Nat.le_of_ble_eq_true rfl)
  show W p l e rX11_lookAhead s m _ below meth c s.heap [] 0 0 _ (entryFrame m ([.ref x0] : List Value).toArray 1)
  rw [lg_entry_eq]
  generalize (lg_sl ([.ref x0]) ++ List.replicate (1 - (lg_sl ([.ref x0])).length) Slot.unset).toArray = ls at hl ⊢
  have hl : lv_has ls 1 (List.map gq [(0, vR (some x0))]) := hl
  exact t_X11_lookAhead_0 X hr _ _ _ hf rfl s.heap [] ls hW va_S.rf (lv_has_sub hl (lvsub_of _ _ [0] rfl))
/-! ## TideLots.gap()I -/
theorem dX11_gap_0 : decode cX11_gap 0 = .ok (.aload_n 0, 1) := by decide +kernel
theorem dX11_gap_1 : decode cX11_gap 1 = .ok (.getfield 19, 3) := by decide +kernel
theorem dX11_gap_4 : decode cX11_gap 4 = .ok (.invokevirtual 206, 3) := by decide +kernel
theorem dX11_gap_7 : decode cX11_gap 7 = .ok (.ireturn, 1) := by decide +kernel
set_option maxRecDepth 20000 in
theorem ggX11_gap_X7_storeGap : GoodIn wsX11_gap wsX7_storeGap := goodIn_r _ [6, 7, 8, 9, 10, 11, 12, 13, 14, 15, 16, 21, 22, 23, 24, 25, 26, 27, 28, 29, 30, 31, 32, 33, 34, 35, 36, 37, 38, 39, 40, 41, 42, 43, 44, 45, 46, 47, 48] (by decide +kernel) (by decide +kernel)
set_option maxRecDepth 20000 in
theorem gX11_gap_X7_storeGap : GoodIn wsX11_gap (wsV RX11 206 RX7 yX7_storeGap wsX7_storeGap) := goodIn_app (goodIn_of _ (by decide +kernel)) ggX11_gap_X7_storeGap
theorem k_X11_gap_f19 : Cond.fieldLink RX11 19 "TideLots" "shore" "LTideLots$Shore;" ∈ wsX11_gap := by decide +kernel
theorem i_X11_gap_X11 : ∀ w ∈ u_ws RX11 TX11 4, w ∈ wsX11_gap := by decide +kernel
abbrev rX11_gap : Room := { frames := 2, cells := 0, slots := 0, locals := 36 }
noncomputable def b_X11_gap_0 (M : gMem) (x0 : Nat) : Option (Int32 × gMem) :=
  ck (mT M x0 = 10) <| dr ((mR M x0 1)) fun a3 => ck (mT M a3 = 7) <| bd (f_X7_storeGap M a3) fun r2 M2 => some (r2, M2)
noncomputable def f_X11_gap (M : gMem) (x0 : Nat) : Option (Int32 × gMem) :=
  b_X11_gap_0 M x0
set_option maxHeartbeats 4000000 in
set_option maxRecDepth 100000 in
theorem t_X11_gap_0 (X : gX p s m args meth c D cy B (gSt Z B H0) RX11 cX11_gap wsX11_gap 1) (hr : meth.sig.returnType = (some .int)) {Q : State → Prop} : ∀ (M : gMem) (x0 : Nat) (z : Int32 × gMem), b_X11_gap_0 M x0 = some z → (fun (r : Int32 × gMem) => Q = gMQ below D cy B H0 args s 0 0 (some (vI r.1)) r.2) z → gGo p l e rX11_gap s m args below meth c D cy B H0 1 0 0 Q 0 [(0, vR (some x0))] [] M := by
  intro M x0 z hf hK
  unfold b_X11_gap_0 at hf
  refine g_aload_n X dX11_gap_0 rfl rfl ?_
  obtain ⟨hT1, hf⟩ := ck_e hf
  refine g_get (ci := 9) (v := vR (mR M x0 1)) 1 X cdX11 i_X11_gap_X11 (by decide) k_X11_gap_f19 rfl dX11_gap_1 rfl hT1 rfl ?_
  obtain ⟨a3, ha3, hf⟩ := dr_e hf
  obtain ⟨hT4, hf⟩ := ck_e hf
  obtain ⟨r2, M2, hq2, hf⟩ := bd_e hf
  refine g_callV (ci := 6) (b := a3) (As := []) (st := []) (v := some (vI r2)) (M1 := M2) X (m_X7_storeGap l hq2) (cwV 0 X.2.2.1 gX11_gap_X7_storeGap rfl rfl rfl (by decide +kernel) ⟨Nat.le_of_ble_eq_true rfl, Nat.le_of_ble_eq_true rfl⟩) rfl rfl ha3 hT4 (by decide) rfl (Nat.le_of_ble_eq_true rfl) dX11_gap_4 ⟨by decide, by decide⟩ ?_
  cases hf
  refine g_eqQ hK ?_
  exact g_iret X hr dX11_gap_7
set_option maxHeartbeats 4000000 in
set_option maxRecDepth 100000 in
theorem m_X11_gap (l : Launch) {D : va_G} {cy : Nat → ClassId} {B : Nat} {H0 : Heap} {Z : Nat → Nat} {M M1 : gMem} {x0 : Nat} {r : Int32} (hf : f_X11_gap M x0 = some (r, M1)) : Met l yX11_gap wsX11_gap rX11_gap (va_Pc (Value.ref x0 :: List.map gv []) (gPre D cy B H0 (gSt Z B H0) M)) (gQ D cy B H0 (some (vI r)) M1) 0 0 (gA B) := by
  refine Met.ofW (cc := cX11_gap) (maxL := 1) (ret := (some .int)) (by decide) rfl ?_
  intro p e s m args below meth c s₁ Bd hml hv
  obtain ⟨rfl, hW, hKK, hFs⟩ := hv
  have X : gX p s m _ meth c D cy B (gSt Z B H0) RX11 cX11_gap wsX11_gap 1 := ⟨Bd.exec, Bd.bytes, atoms_spec (ws := wsX11_gap) Bd.pre, findClass_of_methodNamed Bd.named, hml, hKK, by rw [hW.1]; exact hW.2.1, Bd.notSynchronized, hFs⟩
  have hr := Bd.returns
  have hl := lv_entry ([.ref x0]) (n := 1) (Nat.le_of_ble_eq_true rfl)
  show W p l e rX11_gap s m _ below meth c s.heap [] 0 0 _ (entryFrame m ([.ref x0] : List Value).toArray 1)
  rw [lg_entry_eq]
  generalize (lg_sl ([.ref x0]) ++ List.replicate (1 - (lg_sl ([.ref x0])).length) Slot.unset).toArray = ls at hl ⊢
  have hl : lv_has ls 1 (List.map gq [(0, vR (some x0))]) := hl
  exact t_X11_gap_0 X hr _ _ _ hf rfl s.heap [] ls hW va_S.rf (lv_has_sub hl (lvsub_of _ _ [0] rfl))
/-! ## TideLots.feed(IIIII)I -/
theorem dX11_feed_0 : decode cX11_feed 0 = .ok (.aload_n 0, 1) := by decide +kernel
theorem dX11_feed_1 : decode cX11_feed 1 = .ok (.getfield 10, 3) := by decide +kernel
theorem dX11_feed_4 : decode cX11_feed 4 = .ok (.getfield 30, 3) := by decide +kernel
theorem dX11_feed_7 : decode cX11_feed 7 = .ok (.bipush 20, 2) := by decide +kernel
theorem dX11_feed_9 : decode cX11_feed 9 = .ok (.iadd, 1) := by decide +kernel
theorem dX11_feed_10 : decode cX11_feed 10 = .ok (.sipush 2000, 3) := by decide +kernel
theorem dX11_feed_13 : decode cX11_feed 13 = .ok (.if_icmp .le 13, 3) := by decide +kernel
theorem dX11_feed_16 : decode cX11_feed 16 = .ok (.new 33, 3) := by decide +kernel
theorem dX11_feed_19 : decode cX11_feed 19 = .ok (.dup, 1) := by decide +kernel
theorem dX11_feed_20 : decode cX11_feed 20 = .ok (.ldc 35, 2) := by decide +kernel
theorem dX11_feed_22 : decode cX11_feed 22 = .ok (.invokespecial 37, 3) := by decide +kernel
theorem dX11_feed_25 : decode cX11_feed 25 = .ok (.athrow, 1) := by decide +kernel
theorem dX11_feed_26 : decode cX11_feed 26 = .ok (.aload_n 0, 1) := by decide +kernel
theorem dX11_feed_27 : decode cX11_feed 27 = .ok (.getfield 10, 3) := by decide +kernel
theorem dX11_feed_30 : decode cX11_feed 30 = .ok (.iload_n 1, 1) := by decide +kernel
theorem dX11_feed_31 : decode cX11_feed 31 = .ok (.invokevirtual 40, 3) := by decide +kernel
theorem dX11_feed_34 : decode cX11_feed 34 = .ok (.aload_n 0, 1) := by decide +kernel
theorem dX11_feed_35 : decode cX11_feed 35 = .ok (.getfield 10, 3) := by decide +kernel
theorem dX11_feed_38 : decode cX11_feed 38 = .ok (.iload_n 2, 1) := by decide +kernel
theorem dX11_feed_39 : decode cX11_feed 39 = .ok (.invokevirtual 40, 3) := by decide +kernel
theorem dX11_feed_42 : decode cX11_feed 42 = .ok (.aload_n 0, 1) := by decide +kernel
theorem dX11_feed_43 : decode cX11_feed 43 = .ok (.getfield 10, 3) := by decide +kernel
theorem dX11_feed_46 : decode cX11_feed 46 = .ok (.iload_n 3, 1) := by decide +kernel
theorem dX11_feed_47 : decode cX11_feed 47 = .ok (.invokevirtual 40, 3) := by decide +kernel
theorem dX11_feed_50 : decode cX11_feed 50 = .ok (.aload_n 0, 1) := by decide +kernel
theorem dX11_feed_51 : decode cX11_feed 51 = .ok (.getfield 10, 3) := by decide +kernel
theorem dX11_feed_54 : decode cX11_feed 54 = .ok (.iload 4, 2) := by decide +kernel
theorem dX11_feed_56 : decode cX11_feed 56 = .ok (.invokevirtual 40, 3) := by decide +kernel
theorem dX11_feed_59 : decode cX11_feed 59 = .ok (.aload_n 0, 1) := by decide +kernel
theorem dX11_feed_60 : decode cX11_feed 60 = .ok (.getfield 10, 3) := by decide +kernel
theorem dX11_feed_63 : decode cX11_feed 63 = .ok (.iload 5, 2) := by decide +kernel
theorem dX11_feed_65 : decode cX11_feed 65 = .ok (.invokevirtual 40, 3) := by decide +kernel
theorem dX11_feed_68 : decode cX11_feed 68 = .ok (.aload_n 0, 1) := by decide +kernel
theorem dX11_feed_69 : decode cX11_feed 69 = .ok (.getfield 10, 3) := by decide +kernel
theorem dX11_feed_72 : decode cX11_feed 72 = .ok (.getfield 30, 3) := by decide +kernel
theorem dX11_feed_75 : decode cX11_feed 75 = .ok (.ireturn, 1) := by decide +kernel
set_option maxRecDepth 20000 in
theorem ggX11_feed_X10_append : GoodIn wsX11_feed wsX10_append := goodIn_r _ [9, 10, 11, 16, 17, 18, 19, 20, 21] (by decide +kernel) (by decide +kernel)
set_option maxRecDepth 20000 in
theorem gX11_feed_X10_append : GoodIn wsX11_feed (wsV RX11 40 RX10 yX10_append wsX10_append) := goodIn_app (goodIn_of _ (by decide +kernel)) ggX11_feed_X10_append
theorem k_X11_feed_f10 : Cond.fieldLink RX11 10 "TideLots" "tape" "LTideLots$Tape;" ∈ wsX11_feed := by decide +kernel
theorem i_X11_feed_X11 : ∀ w ∈ u_ws RX11 TX11 4, w ∈ wsX11_feed := by decide +kernel
theorem k_X11_feed_f30 : Cond.fieldLink RX11 30 "TideLots$Tape" "length" "I" ∈ wsX11_feed := by decide +kernel
theorem i_X11_feed_X10 : ∀ w ∈ u_ws RX10 TX10 6, w ∈ wsX11_feed := by decide +kernel
theorem k_X11_feed_hat37 : ∀ w ∈ (vx_atS RX11 37 "java/lang/IllegalStateException" ["java/lang/RuntimeException", "java/lang/Exception"]).filter goodWord, w ∈ wsX11_feed := by decide +kernel
theorem kx_hxw37 : ∀ w ∈ (vx_atS RX11 37 "java/lang/IllegalStateException" ["java/lang/RuntimeException", "java/lang/Exception"]).filter (fun w => !goodWord w), w ∈ gN2 ∧ w.onTables = true := by decide +kernel
theorem kx_hg37_33 : ∀ w ∈ Cond.classLink RX11 33 "java/lang/IllegalStateException" :: Cond.initialized "java/lang/IllegalStateException" :: (vx_atS RX11 37 "java/lang/IllegalStateException" ["java/lang/RuntimeException", "java/lang/Exception"]), vx_ot w = true := by decide +kernel
theorem k_X11_feed_cl33 : Cond.classLink RX11 33 "java/lang/IllegalStateException" ∈ wsX11_feed := by decide +kernel
theorem k_X11_feed_ini33 : Cond.initialized "java/lang/IllegalStateException" ∈ wsX11_feed := by decide +kernel
abbrev rX11_feed : Room := { frames := 6, cells := 1, slots := 6, locals := 82 }
noncomputable def b_X11_feed_0 (M : gMem) (x0 : Nat) (x1 : Int32) (x2 : Int32) (x3 : Int32) (x4 : Int32) (x5 : Int32) : Option ((Nat ⊕ Int32) × gMem) :=
  ck (mT M x0 = 10) <| dr ((mR M x0 0)) fun a2 => ck (mT M a2 = 9) <| (if ((mI M a2 0) + (20 : Int32)) ≤ (2000 : Int32) then bd (f_X10_append M a2 x1) fun _ M4 => ck (mT M4 x0 = 10) <| dr ((mR M4 x0 0)) fun a7 => ck (mT M4 a7 = 9) <| bd (f_X10_append M4 a7 x2) fun _ M6 => ck (mT M6 x0 = 10) <| dr ((mR M6 x0 0)) fun a11 => ck (mT M6 a11 = 9) <| bd (f_X10_append M6 a11 x3) fun _ M10 => ck (mT M10 x0 = 10) <| dr ((mR M10 x0 0)) fun a15 => ck (mT M10 a15 = 9) <| bd (f_X10_append M10 a15 x4) fun _ M14 => ck (mT M14 x0 = 10) <| dr ((mR M14 x0 0)) fun a19 => ck (mT M14 a19 = 9) <| bd (f_X10_append M14 a19 x5) fun _ M18 => ck (mT M18 x0 = 10) <| dr ((mR M18 x0 0)) fun a22 => ck (mT M18 a22 = 9) <| some (.inr (mI M18 a22 0), M18) else some (.inl 0, M))
noncomputable def f_X11_feed (M : gMem) (x0 : Nat) (x1 : Int32) (x2 : Int32) (x3 : Int32) (x4 : Int32) (x5 : Int32) : Option ((Nat ⊕ Int32) × gMem) :=
  b_X11_feed_0 M x0 x1 x2 x3 x4 x5
set_option maxHeartbeats 4000000 in
set_option maxRecDepth 100000 in
theorem t_X11_feed_0 (X2 : gX p s m args meth c D cy B (gSt2 Z B H0) RX11 cX11_feed wsX11_feed 6) (hr : meth.sig.returnType = (some .int)) (hlx : l.stackTraces = false) (hH : ∀ q : Nat, q < B → s.heap[q]? = H0[q]?) (hne : ∀ x ∈ c.exceptionTable.toList, False) (hH0 : H0.size = B) {Q : State → Prop} : ∀ (M : gMem) (x0 : Nat) (x1 : Int32) (x2 : Int32) (x3 : Int32) (x4 : Int32) (x5 : Int32) (z : (Nat ⊕ Int32) × gMem), b_X11_feed_0 M x0 x1 x2 x3 x4 x5 = some z → (fun (r : (Nat ⊕ Int32) × gMem) => Q = gMX below D cy B H0 args s 1 6 (gzI r.1) r.2) z → gGo p l e rX11_feed s m args below meth c D cy B H0 6 0 0 Q 0 [(0, vR (some x0)), (1, vI x1), (2, vI x2), (3, vI x3), (4, vI x4), (5, vI x5)] [] M := by
  intro M x0 x1 x2 x3 x4 x5 z hf hK
  unfold b_X11_feed_0 at hf
  have X := gX_w X2
  refine g_aload_n X dX11_feed_0 rfl rfl ?_
  obtain ⟨hT1, hf⟩ := ck_e hf
  refine g_get (ci := 9) (v := vR (mR M x0 0)) 0 X cdX11 i_X11_feed_X11 (by decide) k_X11_feed_f10 rfl dX11_feed_1 rfl hT1 rfl ?_
  obtain ⟨a2, ha2, hf⟩ := dr_e hf
  obtain ⟨hT3, hf⟩ := ck_e hf
  refine g_get (ci := 8) (v := vI (mI M a2 0)) 0 X cdX10 i_X11_feed_X10 (by decide) k_X11_feed_f30 rfl dX11_feed_4 ha2 hT3 rfl ?_
  refine g_bipush (v := (20 : Int32)) X dX11_feed_7 (by decide) ?_
  refine g_iadd X dX11_feed_9 ?_
  refine g_sipush (v := (2000 : Int32)) X dX11_feed_10 (by decide) ?_
  refine g_icmp_le (tgt := 26) X dX11_feed_13 (by decide) (fun hc => ?_) (fun hc => ?_)
  · have hf := ife_t hc hf
    refine g_aload_n X dX11_feed_26 rfl rfl ?_
    refine g_get (ci := 9) (v := vR (mR M x0 0)) 0 X cdX11 i_X11_feed_X11 (by decide) k_X11_feed_f10 rfl dX11_feed_27 rfl hT1 rfl ?_
    refine g_iload_n X dX11_feed_30 rfl rfl ?_
    obtain ⟨r4, M4, hq4, hf⟩ := bd_e hf
    refine g_callV (ci := 8) (b := a2) (As := [vI x1]) (st := []) (v := none) (M1 := M4) X (m_X10_append l hq4) (cwV 1 X.2.2.1 gX11_feed_X10_append rfl rfl rfl (by decide +kernel) ⟨Nat.le_of_ble_eq_true rfl, Nat.le_of_ble_eq_true rfl⟩) rfl rfl ha2 hT3 (by decide) rfl (Nat.le_of_ble_eq_true rfl) dX11_feed_31 ⟨by decide, by decide⟩ ?_
    refine g_aload_n X dX11_feed_34 rfl rfl ?_
    obtain ⟨hT5, hf⟩ := ck_e hf
    refine g_get (ci := 9) (v := vR (mR M4 x0 0)) 0 X cdX11 i_X11_feed_X11 (by decide) k_X11_feed_f10 rfl dX11_feed_35 rfl hT5 rfl ?_
    refine g_iload_n X dX11_feed_38 rfl rfl ?_
    obtain ⟨a7, ha7, hf⟩ := dr_e hf
    obtain ⟨hT8, hf⟩ := ck_e hf
    obtain ⟨r6, M6, hq6, hf⟩ := bd_e hf
    refine g_callV (ci := 8) (b := a7) (As := [vI x2]) (st := []) (v := none) (M1 := M6) X (m_X10_append l hq6) (cwV 1 X.2.2.1 gX11_feed_X10_append rfl rfl rfl (by decide +kernel) ⟨Nat.le_of_ble_eq_true rfl, Nat.le_of_ble_eq_true rfl⟩) rfl rfl ha7 hT8 (by decide) rfl (Nat.le_of_ble_eq_true rfl) dX11_feed_39 ⟨by decide, by decide⟩ ?_
    refine g_aload_n X dX11_feed_42 rfl rfl ?_
    obtain ⟨hT9, hf⟩ := ck_e hf
    refine g_get (ci := 9) (v := vR (mR M6 x0 0)) 0 X cdX11 i_X11_feed_X11 (by decide) k_X11_feed_f10 rfl dX11_feed_43 rfl hT9 rfl ?_
    refine g_iload_n X dX11_feed_46 rfl rfl ?_
    obtain ⟨a11, ha11, hf⟩ := dr_e hf
    obtain ⟨hT12, hf⟩ := ck_e hf
    obtain ⟨r10, M10, hq10, hf⟩ := bd_e hf
    refine g_callV (ci := 8) (b := a11) (As := [vI x3]) (st := []) (v := none) (M1 := M10) X (m_X10_append l hq10) (cwV 1 X.2.2.1 gX11_feed_X10_append rfl rfl rfl (by decide +kernel) ⟨Nat.le_of_ble_eq_true rfl, Nat.le_of_ble_eq_true rfl⟩) rfl rfl ha11 hT12 (by decide) rfl (Nat.le_of_ble_eq_true rfl) dX11_feed_47 ⟨by decide, by decide⟩ ?_
    refine g_aload_n X dX11_feed_50 rfl rfl ?_
    obtain ⟨hT13, hf⟩ := ck_e hf
    refine g_get (ci := 9) (v := vR (mR M10 x0 0)) 0 X cdX11 i_X11_feed_X11 (by decide) k_X11_feed_f10 rfl dX11_feed_51 rfl hT13 rfl ?_
    refine g_iload X dX11_feed_54 rfl ?_
    obtain ⟨a15, ha15, hf⟩ := dr_e hf
    obtain ⟨hT16, hf⟩ := ck_e hf
    obtain ⟨r14, M14, hq14, hf⟩ := bd_e hf
    refine g_callV (ci := 8) (b := a15) (As := [vI x4]) (st := []) (v := none) (M1 := M14) X (m_X10_append l hq14) (cwV 1 X.2.2.1 gX11_feed_X10_append rfl rfl rfl (by decide +kernel) ⟨Nat.le_of_ble_eq_true rfl, Nat.le_of_ble_eq_true rfl⟩) rfl rfl ha15 hT16 (by decide) rfl (Nat.le_of_ble_eq_true rfl) dX11_feed_56 ⟨by decide, by decide⟩ ?_
    refine g_aload_n X dX11_feed_59 rfl rfl ?_
    obtain ⟨hT17, hf⟩ := ck_e hf
    refine g_get (ci := 9) (v := vR (mR M14 x0 0)) 0 X cdX11 i_X11_feed_X11 (by decide) k_X11_feed_f10 rfl dX11_feed_60 rfl hT17 rfl ?_
    refine g_iload X dX11_feed_63 rfl ?_
    obtain ⟨a19, ha19, hf⟩ := dr_e hf
    obtain ⟨hT20, hf⟩ := ck_e hf
    obtain ⟨r18, M18, hq18, hf⟩ := bd_e hf
    refine g_callV (ci := 8) (b := a19) (As := [vI x5]) (st := []) (v := none) (M1 := M18) X (m_X10_append l hq18) (cwV 1 X.2.2.1 gX11_feed_X10_append rfl rfl rfl (by decide +kernel) ⟨Nat.le_of_ble_eq_true rfl, Nat.le_of_ble_eq_true rfl⟩) rfl rfl ha19 hT20 (by decide) rfl (Nat.le_of_ble_eq_true rfl) dX11_feed_65 ⟨by decide, by decide⟩ ?_
    refine g_aload_n X dX11_feed_68 rfl rfl ?_
    obtain ⟨hT21, hf⟩ := ck_e hf
    refine g_get (ci := 9) (v := vR (mR M18 x0 0)) 0 X cdX11 i_X11_feed_X11 (by decide) k_X11_feed_f10 rfl dX11_feed_69 rfl hT21 rfl ?_
    obtain ⟨a22, ha22, hf⟩ := dr_e hf
    obtain ⟨hT23, hf⟩ := ck_e hf
    refine g_get (ci := 8) (v := vI (mI M18 a22 0)) 0 X cdX10 i_X11_feed_X10 (by decide) k_X11_feed_f30 rfl dX11_feed_72 ha22 hT23 rfl ?_
    cases hf
    refine g_eqQ hK ?_
    refine g_wide (k' := 1) (n' := 6) (by decide) (by decide) ?_
    refine g_xret ?_
    exact g_iret X hr dX11_feed_75
  · have hf := ife_f hc hf
    cases hf
    refine g_eqQ hK ?_
    exact g_throwS (text := "the tape is full") X2 hlx hH hH0 hne (by decide) k_X11_feed_cl33 k_X11_feed_ini33 (by decide) k_X11_feed_hat37 kx_hxw37 kx_hg37_33 rfl dX11_feed_16 dX11_feed_19 dX11_feed_20 dX11_feed_22 dX11_feed_25 (Nat.le_of_ble_eq_true rfl) (Nat.le_of_ble_eq_true rfl) (by decide) (by decide) (by decide) (by decide)
set_option maxHeartbeats 4000000 in
set_option maxRecDepth 100000 in
theorem m_X11_feed (l : Launch) (hlx : l.stackTraces = false) {D : va_G} {cy : Nat → ClassId} {B : Nat} {H0 : Heap} {Z : Nat → Nat} {M M1 : gMem} {x0 : Nat} {x1 : Int32} {x2 : Int32} {x3 : Int32} {x4 : Int32} {x5 : Int32} {r : (Nat ⊕ Int32)} (hH0 : H0.size = B) (hf : f_X11_feed M x0 x1 x2 x3 x4 x5 = some (r, M1)) : vx_Met l yX11_feed wsX11_feed rX11_feed (va_Pc (Value.ref x0 :: List.map gv [vI x1, vI x2, vI x3, vI x4, vI x5]) (gPre D cy B H0 (gSt2 Z B H0) M)) (gQX D cy B H0 (gzI r) M1) (gXC D cy B H0 (gzI r) M1) 1 6 (gA B) := by
  refine vx_ofW (cc := cX11_feed) (maxL := 6) (ret := (some .int)) (by decide) rfl ?_
  intro p e s m args below meth c s₁ Bd hml hne hv
  obtain ⟨rfl, hW, hKK, hFs⟩ := hv
  have X2 : gX p s m _ meth c D cy B (gSt2 Z B H0) RX11 cX11_feed wsX11_feed 6 := ⟨Bd.exec, Bd.bytes, atoms_spec (ws := wsX11_feed) Bd.pre, findClass_of_methodNamed Bd.named, hml, hKK, by rw [hW.1]; exact hW.2.1, Bd.notSynchronized, hFs⟩
  have hr := Bd.returns
  have hH : ∀ q : Nat, q < B → s.heap[q]? = H0[q]? := hW.2.2.1
  have hl := lv_entry ([.ref x0, .int x1, .int x2, .int x3, .int x4, .int x5]) (n := 6) (Nat.le_of_ble_eq_true rfl)
  show W p l e rX11_feed s m _ below meth c s.heap [] 0 0 _ (entryFrame m ([.ref x0, .int x1, .int x2, .int x3, .int x4, .int x5] : List Value).toArray 6)
  rw [lg_entry_eq]
  generalize (lg_sl ([.ref x0, .int x1, .int x2, .int x3, .int x4, .int x5]) ++ List.replicate (6 - (lg_sl ([.ref x0, .int x1, .int x2, .int x3, .int x4, .int x5])).length) Slot.unset).toArray = ls at hl ⊢
  have hl : lv_has ls 6 (List.map gq [(0, vR (some x0)), (1, vI x1), (2, vI x2), (3, vI x3), (4, vI x4), (5, vI x5)]) := hl
  exact t_X11_feed_0 X2 hr hlx hH hne hH0 _ _ _ _ _ _ _ _ hf rfl s.heap [] ls hW va_S.rf (lv_has_sub hl (lvsub_of _ _ [0, 1, 2, 3, 4, 5] rfl))
/-! ## TideLots.trim(I)I -/
theorem dX11_trim_0 : decode cX11_trim 0 = .ok (.iload_n 1, 1) := by decide +kernel
theorem dX11_trim_1 : decode cX11_trim 1 = .ok (.ifCond .lt 14, 3) := by decide +kernel
theorem dX11_trim_4 : decode cX11_trim 4 = .ok (.iload_n 1, 1) := by decide +kernel
theorem dX11_trim_5 : decode cX11_trim 5 = .ok (.aload_n 0, 1) := by decide +kernel
theorem dX11_trim_6 : decode cX11_trim 6 = .ok (.getfield 10, 3) := by decide +kernel
theorem dX11_trim_9 : decode cX11_trim 9 = .ok (.getfield 30, 3) := by decide +kernel
theorem dX11_trim_12 : decode cX11_trim 12 = .ok (.if_icmp .le 13, 3) := by decide +kernel
theorem dX11_trim_15 : decode cX11_trim 15 = .ok (.new 44, 3) := by decide +kernel
theorem dX11_trim_18 : decode cX11_trim 18 = .ok (.dup, 1) := by decide +kernel
theorem dX11_trim_19 : decode cX11_trim 19 = .ok (.ldc 46, 2) := by decide +kernel
theorem dX11_trim_21 : decode cX11_trim 21 = .ok (.invokespecial 48, 3) := by decide +kernel
theorem dX11_trim_24 : decode cX11_trim 24 = .ok (.athrow, 1) := by decide +kernel
theorem dX11_trim_25 : decode cX11_trim 25 = .ok (.aload_n 0, 1) := by decide +kernel
theorem dX11_trim_26 : decode cX11_trim 26 = .ok (.getfield 10, 3) := by decide +kernel
theorem dX11_trim_29 : decode cX11_trim 29 = .ok (.iload_n 1, 1) := by decide +kernel
theorem dX11_trim_30 : decode cX11_trim 30 = .ok (.putfield 30, 3) := by decide +kernel
theorem dX11_trim_33 : decode cX11_trim 33 = .ok (.iload_n 1, 1) := by decide +kernel
theorem dX11_trim_34 : decode cX11_trim 34 = .ok (.ireturn, 1) := by decide +kernel
theorem k_X11_trim_hat48 : ∀ w ∈ (vx_atS RX11 48 "java/lang/IllegalArgumentException" ["java/lang/RuntimeException", "java/lang/Exception"]).filter goodWord, w ∈ wsX11_trim := by decide +kernel
theorem k_X11_trim_cl44 : Cond.classLink RX11 44 "java/lang/IllegalArgumentException" ∈ wsX11_trim := by decide +kernel
theorem k_X11_trim_ini44 : Cond.initialized "java/lang/IllegalArgumentException" ∈ wsX11_trim := by decide +kernel
theorem k_X11_trim_f10 : Cond.fieldLink RX11 10 "TideLots" "tape" "LTideLots$Tape;" ∈ wsX11_trim := by decide +kernel
theorem i_X11_trim_X11 : ∀ w ∈ u_ws RX11 TX11 4, w ∈ wsX11_trim := by decide +kernel
theorem k_X11_trim_f30 : Cond.fieldLink RX11 30 "TideLots$Tape" "length" "I" ∈ wsX11_trim := by decide +kernel
theorem i_X11_trim_X10 : ∀ w ∈ u_ws RX10 TX10 6, w ∈ wsX11_trim := by decide +kernel
abbrev rX11_trim : Room := { frames := 6, cells := 1, slots := 6, locals := 82 }
noncomputable def b_X11_trim_15 (M : gMem)  : Option ((Nat ⊕ Int32) × gMem) :=
  some (.inl 1, M)
noncomputable def b_X11_trim_0 (M : gMem) (x0 : Nat) (x1 : Int32) : Option ((Nat ⊕ Int32) × gMem) :=
  (if x1 < 0 then b_X11_trim_15 M  else ck (mT M x0 = 10) <| dr ((mR M x0 0)) fun a2 => ck (mT M a2 = 9) <| (if x1 ≤ (mI M a2 0) then lw (wI M a2 0 x1) fun M4 => some (.inr x1, M4) else b_X11_trim_15 M ))
noncomputable def f_X11_trim (M : gMem) (x0 : Nat) (x1 : Int32) : Option ((Nat ⊕ Int32) × gMem) :=
  b_X11_trim_0 M x0 x1
set_option maxHeartbeats 4000000 in
set_option maxRecDepth 100000 in
theorem t_X11_trim_15 (X2 : gX p s m args meth c D cy B (gSt2 Z B H0) RX11 cX11_trim wsX11_trim 2) (hr : meth.sig.returnType = (some .int)) (hlx : l.stackTraces = false) (hH : ∀ q : Nat, q < B → s.heap[q]? = H0[q]?) (hne : ∀ x ∈ c.exceptionTable.toList, False) (hH0 : H0.size = B) {Q : State → Prop} : ∀ (M : gMem)  (z : (Nat ⊕ Int32) × gMem), b_X11_trim_15 M  = some z → (fun (r : (Nat ⊕ Int32) × gMem) => Q = gMX below D cy B H0 args s 1 6 (gzI r.1) r.2) z → gGo p l e rX11_trim s m args below meth c D cy B H0 2 0 0 Q 15 [] [] M := by
  intro M  z hf hK
  unfold b_X11_trim_15 at hf
  have X := gX_w X2
  cases hf
  refine g_eqQ hK ?_
  exact g_throwS (text := "the tape is not as long") X2 hlx hH hH0 hne (by decide) k_X11_trim_cl44 k_X11_trim_ini44 (by decide) k_X11_trim_hat48 kx_hxw48 kx_hg48_44 rfl dX11_trim_15 dX11_trim_18 dX11_trim_19 dX11_trim_21 dX11_trim_24 (Nat.le_of_ble_eq_true rfl) (Nat.le_of_ble_eq_true rfl) (by decide) (by decide) (by decide) (by decide)
set_option maxHeartbeats 4000000 in
set_option maxRecDepth 100000 in
theorem t_X11_trim_0 (X2 : gX p s m args meth c D cy B (gSt2 Z B H0) RX11 cX11_trim wsX11_trim 2) (hr : meth.sig.returnType = (some .int)) (hlx : l.stackTraces = false) (hH : ∀ q : Nat, q < B → s.heap[q]? = H0[q]?) (hne : ∀ x ∈ c.exceptionTable.toList, False) (hH0 : H0.size = B) {Q : State → Prop} : ∀ (M : gMem) (x0 : Nat) (x1 : Int32) (z : (Nat ⊕ Int32) × gMem), b_X11_trim_0 M x0 x1 = some z → (fun (r : (Nat ⊕ Int32) × gMem) => Q = gMX below D cy B H0 args s 1 6 (gzI r.1) r.2) z → gGo p l e rX11_trim s m args below meth c D cy B H0 2 0 0 Q 0 [(0, vR (some x0)), (1, vI x1)] [] M := by
  intro M x0 x1 z hf hK
  unfold b_X11_trim_0 at hf
  have X := gX_w X2
  refine g_iload_n X dX11_trim_0 rfl rfl ?_
  refine g_if_lt (tgt := 15) X dX11_trim_1 (by decide) (fun hc => ?_) (fun hc => ?_)
  · have hf := ife_t hc hf
    refine g_sub (lvsub_of _ _ [] rfl) ?_
    exact t_X11_trim_15 X2 hr hlx hH hne hH0 _  _ hf hK
  · have hf := ife_f hc hf
    refine g_iload_n X dX11_trim_4 rfl rfl ?_
    refine g_aload_n X dX11_trim_5 rfl rfl ?_
    obtain ⟨hT1, hf⟩ := ck_e hf
    refine g_get (ci := 9) (v := vR (mR M x0 0)) 0 X cdX11 i_X11_trim_X11 (by decide) k_X11_trim_f10 rfl dX11_trim_6 rfl hT1 rfl ?_
    obtain ⟨a2, ha2, hf⟩ := dr_e hf
    obtain ⟨hT3, hf⟩ := ck_e hf
    refine g_get (ci := 8) (v := vI (mI M a2 0)) 0 X cdX10 i_X11_trim_X10 (by decide) k_X11_trim_f30 rfl dX11_trim_9 ha2 hT3 rfl ?_
    refine g_icmp_le (tgt := 25) X dX11_trim_12 (by decide) (fun hc => ?_) (fun hc => ?_)
    · have hf := ife_t hc hf
      refine g_aload_n X dX11_trim_25 rfl rfl ?_
      refine g_get (ci := 9) (v := vR (mR M x0 0)) 0 X cdX11 i_X11_trim_X11 (by decide) k_X11_trim_f10 rfl dX11_trim_26 rfl hT1 rfl ?_
      refine g_iload_n X dX11_trim_29 rfl rfl ?_
      refine g_putI (ci := 8) 0 X cdX10 i_X11_trim_X10 (by decide) k_X11_trim_f30 rfl dX11_trim_30 ha2 hT3 (Or.inl rfl) rfl rfl rfl ?_
      obtain ⟨M4, hM4, hf⟩ := lw_e hf
      rw [← hM4]
      have hT5 : mT M4 x0 = 10 := by rw [hM4]; exact hT1
      have hT6 : mT M4 a2 = 9 := by rw [hM4]; exact hT3
      refine g_iload_n X dX11_trim_33 rfl rfl ?_
      cases hf
      refine g_eqQ hK ?_
      refine g_wide (k' := 1) (n' := 6) (by decide) (by decide) ?_
      refine g_xret ?_
      exact g_iret X hr dX11_trim_34
    · have hf := ife_f hc hf
      refine g_sub (lvsub_of _ _ [] rfl) ?_
      exact t_X11_trim_15 X2 hr hlx hH hne hH0 _  _ hf hK
set_option maxHeartbeats 4000000 in
set_option maxRecDepth 100000 in
theorem m_X11_trim (l : Launch) (hlx : l.stackTraces = false) {D : va_G} {cy : Nat → ClassId} {B : Nat} {H0 : Heap} {Z : Nat → Nat} {M M1 : gMem} {x0 : Nat} {x1 : Int32} {r : (Nat ⊕ Int32)} (hH0 : H0.size = B) (hf : f_X11_trim M x0 x1 = some (r, M1)) : vx_Met l yX11_trim wsX11_trim rX11_trim (va_Pc (Value.ref x0 :: List.map gv [vI x1]) (gPre D cy B H0 (gSt2 Z B H0) M)) (gQX D cy B H0 (gzI r) M1) (gXC D cy B H0 (gzI r) M1) 1 6 (gA B) := by
  refine vx_ofW (cc := cX11_trim) (maxL := 2) (ret := (some .int)) (by decide) rfl ?_
  intro p e s m args below meth c s₁ Bd hml hne hv
  obtain ⟨rfl, hW, hKK, hFs⟩ := hv
  have X2 : gX p s m _ meth c D cy B (gSt2 Z B H0) RX11 cX11_trim wsX11_trim 2 := ⟨Bd.exec, Bd.bytes, atoms_spec (ws := wsX11_trim) Bd.pre, findClass_of_methodNamed Bd.named, hml, hKK, by rw [hW.1]; exact hW.2.1, Bd.notSynchronized, hFs⟩
  have hr := Bd.returns
  have hH : ∀ q : Nat, q < B → s.heap[q]? = H0[q]? := hW.2.2.1
  have hl := lv_entry ([.ref x0, .int x1]) (n := 2) (Nat.le_of_ble_eq_true rfl)
  show W p l e rX11_trim s m _ below meth c s.heap [] 0 0 _ (entryFrame m ([.ref x0, .int x1] : List Value).toArray 2)
  rw [lg_entry_eq]
  generalize (lg_sl ([.ref x0, .int x1]) ++ List.replicate (2 - (lg_sl ([.ref x0, .int x1])).length) Slot.unset).toArray = ls at hl ⊢
  have hl : lv_has ls 2 (List.map gq [(0, vR (some x0)), (1, vI x1)]) := hl
  exact t_X11_trim_0 X2 hr hlx hH hne hH0 _ _ _ _ hf rfl s.heap [] ls hW va_S.rf (lv_has_sub hl (lvsub_of _ _ [0, 1] rfl))
end
