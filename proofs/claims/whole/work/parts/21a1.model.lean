section
variable {p : Program} {l : Launch} {e : Env} {s : State} {m : MethodId} {args : Array Value} {below : List Frame} {meth : Method} {c : Code} {D : va_G} {cy : Nat → ClassId} {B : Nat} {H0 : Heap} {Z : Nat → Nat}
/-! ## TideLotsModel.thrown()I -/
theorem dX14_thrown_0 : decode cX14_thrown 0 = .ok (.aload_n 0, 1) := by decide +kernel
theorem dX14_thrown_1 : decode cX14_thrown 1 = .ok (.getfield 57, 3) := by decide +kernel
theorem dX14_thrown_4 : decode cX14_thrown 4 = .ok (.ireturn, 1) := by decide +kernel
theorem k_X14_thrown_f57 : Cond.fieldLink RX14 57 "TideLotsModel" "thrown" "I" ∈ wsX14_thrown := by decide +kernel
theorem i_X14_thrown_X14 : ∀ w ∈ u_ws RX14 TX14 15, w ∈ wsX14_thrown := by decide +kernel
abbrev rX14_thrown : Room := { frames := 0, cells := 0, slots := 0, locals := 0 }
noncomputable def b_X14_thrown_0 (M : gMem) (x0 : Nat) : Option (Int32 × gMem) :=
  ck (mT M x0 = 13) <| some ((mI M x0 0), M)
noncomputable def f_X14_thrown (M : gMem) (x0 : Nat) : Option (Int32 × gMem) :=
  b_X14_thrown_0 M x0
set_option maxHeartbeats 4000000 in
set_option maxRecDepth 100000 in
theorem t_X14_thrown_0 (X : gX p s m args meth c D cy B (gSt Z B H0) RX14 cX14_thrown wsX14_thrown 1) (hr : meth.sig.returnType = (some .int)) {Q : State → Prop} : ∀ (M : gMem) (x0 : Nat) (z : Int32 × gMem), b_X14_thrown_0 M x0 = some z → (fun (r : Int32 × gMem) => Q = gMQ below D cy B H0 args s 0 0 (some (vI r.1)) r.2) z → gGo p l e rX14_thrown s m args below meth c D cy B H0 1 0 0 Q 0 [(0, vR (some x0))] [] M := by
  intro M x0 z hf hK
  unfold b_X14_thrown_0 at hf
  refine g_aload_n X dX14_thrown_0 rfl rfl ?_
  obtain ⟨hT1, hf⟩ := ck_e hf
  refine g_get (ci := 12) (v := vI (mI M x0 0)) 0 X cdX14 i_X14_thrown_X14 (by decide) k_X14_thrown_f57 rfl dX14_thrown_1 rfl hT1 rfl ?_
  cases hf
  refine g_eqQ hK ?_
  exact g_iret X hr dX14_thrown_4
set_option maxHeartbeats 4000000 in
set_option maxRecDepth 100000 in
theorem m_X14_thrown (l : Launch) {D : va_G} {cy : Nat → ClassId} {B : Nat} {H0 : Heap} {Z : Nat → Nat} {M M1 : gMem} {x0 : Nat} {r : Int32} (hf : f_X14_thrown M x0 = some (r, M1)) : Met l yX14_thrown wsX14_thrown rX14_thrown (va_Pc (Value.ref x0 :: List.map gv []) (gPre D cy B H0 (gSt Z B H0) M)) (gQ D cy B H0 (some (vI r)) M1) 0 0 (gA B) := by
  refine Met.ofW (cc := cX14_thrown) (maxL := 1) (ret := (some .int)) (by decide) rfl ?_
  intro p e s m args below meth c s₁ Bd hml hv
  obtain ⟨rfl, hW, hKK, hFs⟩ := hv
  have X : gX p s m _ meth c D cy B (gSt Z B H0) RX14 cX14_thrown wsX14_thrown 1 := ⟨Bd.exec, Bd.bytes, atoms_spec (ws := wsX14_thrown) Bd.pre, findClass_of_methodNamed Bd.named, hml, hKK, by rw [hW.1]; exact hW.2.1, Bd.notSynchronized, hFs⟩
  have hr := Bd.returns
  have hl := lv_entry ([.ref x0]) (n := 1) (Nat.le_of_ble_eq_true rfl)
  show W p l e rX14_thrown s m _ below meth c s.heap [] 0 0 _ (entryFrame m ([.ref x0] : List Value).toArray 1)
  rw [lg_entry_eq]
  generalize (lg_sl ([.ref x0]) ++ List.replicate (1 - (lg_sl ([.ref x0])).length) Slot.unset).toArray = ls at hl ⊢
  have hl : lv_has ls 1 (List.map gq [(0, vR (some x0))]) := hl
  exact t_X14_thrown_0 X hr _ _ _ hf rfl s.heap [] ls hW va_S.rf (lv_has_sub hl (lvsub_of _ _ [0] rfl))
/-! ## TideLotsModel.no(I)I -/
theorem dX14_no_0 : decode cX14_no 0 = .ok (.aload_n 0, 1) := by decide +kernel
theorem dX14_no_1 : decode cX14_no 1 = .ok (.iload_n 1, 1) := by decide +kernel
theorem dX14_no_2 : decode cX14_no 2 = .ok (.putfield 57, 3) := by decide +kernel
theorem dX14_no_5 : decode cX14_no 5 = .ok (.iconst 0, 1) := by decide +kernel
theorem dX14_no_6 : decode cX14_no 6 = .ok (.ireturn, 1) := by decide +kernel
theorem k_X14_no_f57 : Cond.fieldLink RX14 57 "TideLotsModel" "thrown" "I" ∈ wsX14_no := by decide +kernel
theorem i_X14_no_X14 : ∀ w ∈ u_ws RX14 TX14 15, w ∈ wsX14_no := by decide +kernel
abbrev rX14_no : Room := { frames := 0, cells := 0, slots := 0, locals := 0 }
noncomputable def b_X14_no_0 (M : gMem) (x0 : Nat) (x1 : Int32) : Option (Int32 × gMem) :=
  ck (mT M x0 = 13) <| lw (wI M x0 0 x1) fun M2 => some ((0 : Int32), M2)
noncomputable def f_X14_no (M : gMem) (x0 : Nat) (x1 : Int32) : Option (Int32 × gMem) :=
  b_X14_no_0 M x0 x1
set_option maxHeartbeats 4000000 in
set_option maxRecDepth 100000 in
theorem t_X14_no_0 (X : gX p s m args meth c D cy B (gSt Z B H0) RX14 cX14_no wsX14_no 2) (hr : meth.sig.returnType = (some .int)) {Q : State → Prop} : ∀ (M : gMem) (x0 : Nat) (x1 : Int32) (z : Int32 × gMem), b_X14_no_0 M x0 x1 = some z → (fun (r : Int32 × gMem) => Q = gMQ below D cy B H0 args s 0 0 (some (vI r.1)) r.2) z → gGo p l e rX14_no s m args below meth c D cy B H0 2 0 0 Q 0 [(0, vR (some x0)), (1, vI x1)] [] M := by
  intro M x0 x1 z hf hK
  unfold b_X14_no_0 at hf
  refine g_aload_n X dX14_no_0 rfl rfl ?_
  refine g_iload_n X dX14_no_1 rfl rfl ?_
  obtain ⟨hT1, hf⟩ := ck_e hf
  refine g_putI (ci := 12) 0 X cdX14 i_X14_no_X14 (by decide) k_X14_no_f57 rfl dX14_no_2 rfl hT1 (Or.inl rfl) rfl rfl rfl ?_
  obtain ⟨M2, hM2, hf⟩ := lw_e hf
  rw [← hM2]
  have hT3 : mT M2 x0 = 13 := by rw [hM2]; exact hT1
  refine g_iconst (v := (0 : Int32)) X dX14_no_5 (by decide) ?_
  cases hf
  refine g_eqQ hK ?_
  exact g_iret X hr dX14_no_6
set_option maxHeartbeats 4000000 in
set_option maxRecDepth 100000 in
theorem m_X14_no (l : Launch) {D : va_G} {cy : Nat → ClassId} {B : Nat} {H0 : Heap} {Z : Nat → Nat} {M M1 : gMem} {x0 : Nat} {x1 : Int32} {r : Int32} (hf : f_X14_no M x0 x1 = some (r, M1)) : Met l yX14_no wsX14_no rX14_no (va_Pc (Value.ref x0 :: List.map gv [vI x1]) (gPre D cy B H0 (gSt Z B H0) M)) (gQ D cy B H0 (some (vI r)) M1) 0 0 (gA B) := by
  refine Met.ofW (cc := cX14_no) (maxL := 2) (ret := (some .int)) (by decide) rfl ?_
  intro p e s m args below meth c s₁ Bd hml hv
  obtain ⟨rfl, hW, hKK, hFs⟩ := hv
  have X : gX p s m _ meth c D cy B (gSt Z B H0) RX14 cX14_no wsX14_no 2 := ⟨Bd.exec, Bd.bytes, atoms_spec (ws := wsX14_no) Bd.pre, findClass_of_methodNamed Bd.named, hml, hKK, by rw [hW.1]; exact hW.2.1, Bd.notSynchronized, hFs⟩
  have hr := Bd.returns
  have hl := lv_entry ([.ref x0, .int x1]) (n := 2) (Nat.le_of_ble_eq_true rfl)
  show W p l e rX14_no s m _ below meth c s.heap [] 0 0 _ (entryFrame m ([.ref x0, .int x1] : List Value).toArray 2)
  rw [lg_entry_eq]
  generalize (lg_sl ([.ref x0, .int x1]) ++ List.replicate (2 - (lg_sl ([.ref x0, .int x1])).length) Slot.unset).toArray = ls at hl ⊢
  have hl : lv_has ls 2 (List.map gq [(0, vR (some x0)), (1, vI x1)]) := hl
  exact t_X14_no_0 X hr _ _ _ _ hf rfl s.heap [] ls hW va_S.rf (lv_has_sub hl (lvsub_of _ _ [0, 1] rfl))
/-! ## TideLotsModel.isGround(I)Z -/
theorem dX14_isGround_0 : decode cX14_isGround 0 = .ok (.iload_n 1, 1) := by decide +kernel
theorem dX14_isGround_1 : decode cX14_isGround 1 = .ok (.iconst 0, 1) := by decide +kernel
theorem dX14_isGround_2 : decode cX14_isGround 2 = .ok (.aload_n 0, 1) := by decide +kernel
theorem dX14_isGround_3 : decode cX14_isGround 3 = .ok (.getfield 35, 3) := by decide +kernel
theorem dX14_isGround_6 : decode cX14_isGround 6 = .ok (.getfield 60, 3) := by decide +kernel
theorem dX14_isGround_9 : decode cX14_isGround 9 = .ok (.iconst 1, 1) := by decide +kernel
theorem dX14_isGround_10 : decode cX14_isGround 10 = .ok (.isub, 1) := by decide +kernel
theorem dX14_isGround_11 : decode cX14_isGround 11 = .ok (.invokestatic 63, 3) := by decide +kernel
theorem dX14_isGround_14 : decode cX14_isGround 14 = .ok (.ireturn, 1) := by decide +kernel
set_option maxRecDepth 20000 in
theorem ggX14_isGround_X14_isIn : GoodIn wsX14_isGround wsX14_isIn := goodIn_r _ [5] (by decide +kernel) (by decide +kernel)
set_option maxRecDepth 20000 in
theorem gX14_isGround_X14_isIn : GoodIn wsX14_isGround (va_wsS RX14 63 yX14_isIn wsX14_isIn) := goodIn_app (goodIn_of _ (by decide +kernel)) ggX14_isGround_X14_isIn
theorem k_X14_isGround_f35 : Cond.fieldLink RX14 35 "TideLotsModel" "told" "LTideLotsModel$Told;" ∈ wsX14_isGround := by decide +kernel
theorem i_X14_isGround_X14 : ∀ w ∈ u_ws RX14 TX14 15, w ∈ wsX14_isGround := by decide +kernel
theorem kn_X14_60 : Cond.fieldLinkNest "TideLotsModel" (60 : Nat) "TideLotsModel$Told" "grounds" "I" "TideLotsModel" ∈ gNs := by decide +kernel
theorem i_X14_isGround_X13 : ∀ w ∈ u_ws RX13 TX13 25, w ∈ wsX14_isGround := by decide +kernel
abbrev rX14_isGround : Room := { frames := 1, cells := 0, slots := 0, locals := 22 }
noncomputable def b_X14_isGround_0 (M : gMem) (x0 : Nat) (x1 : Int32) : Option (Int32 × gMem) :=
  ck (mT M x0 = 13) <| dr ((mR M x0 11)) fun a2 => ck (mT M a2 = 12) <| bd (f_X14_isIn M x1 ((0 : Int32)) (((mI M a2 0) - (1 : Int32)))) fun r4 M4 => ck (r4 = 0 ∨ r4 = 1) <| some (r4, M4)
noncomputable def f_X14_isGround (M : gMem) (x0 : Nat) (x1 : Int32) : Option (Int32 × gMem) :=
  b_X14_isGround_0 M x0 x1
set_option maxHeartbeats 4000000 in
set_option maxRecDepth 100000 in
theorem t_X14_isGround_0 (X : gX p s m args meth c D cy B (gSt Z B H0) RX14 cX14_isGround wsX14_isGround 2) (hr : meth.sig.returnType = (some .boolean)) {Q : State → Prop} : ∀ (M : gMem) (x0 : Nat) (x1 : Int32) (z : Int32 × gMem), b_X14_isGround_0 M x0 x1 = some z → (fun (r : Int32 × gMem) => Q = gMQ below D cy B H0 args s 0 0 (some (vI r.1)) r.2) z → gGo p l e rX14_isGround s m args below meth c D cy B H0 2 0 0 Q 0 [(0, vR (some x0)), (1, vI x1)] [] M := by
  intro M x0 x1 z hf hK
  unfold b_X14_isGround_0 at hf
  refine g_iload_n X dX14_isGround_0 rfl rfl ?_
  refine g_iconst (v := (0 : Int32)) X dX14_isGround_1 (by decide) ?_
  refine g_aload_n X dX14_isGround_2 rfl rfl ?_
  obtain ⟨hT1, hf⟩ := ck_e hf
  refine g_get (ci := 12) (v := vR (mR M x0 11)) 11 X cdX14 i_X14_isGround_X14 (by decide) k_X14_isGround_f35 rfl dX14_isGround_3 rfl hT1 rfl ?_
  obtain ⟨a2, ha2, hf⟩ := dr_e hf
  obtain ⟨hT3, hf⟩ := ck_e hf
  refine g_getN (ci := 11) (w := vI (mI M a2 0)) 0 X cdX13 i_X14_isGround_X13 (by decide) (gNw X _ kn_X14_60) rfl dX14_isGround_6 ha2 hT3 rfl ?_
  refine g_iconst (v := (1 : Int32)) X dX14_isGround_9 (by decide) ?_
  refine g_isub X dX14_isGround_10 ?_
  obtain ⟨r4, M4, hq4, hf⟩ := bd_e hf
  refine g_callS (As := [vI x1, vI (0 : Int32), vI ((mI M a2 0) - (1 : Int32))]) (st := []) (v := some (vI r4)) (M1 := M4) X (m_X14_isIn l hq4) (va_cwS 3 X.2.2.1 gX14_isGround_X14_isIn rfl rfl rfl (by decide +kernel) ⟨Nat.le_of_ble_eq_true rfl, Nat.le_of_ble_eq_true rfl⟩) rfl rfl (Nat.le_of_ble_eq_true rfl) dX14_isGround_11 ⟨by decide, by decide⟩ ?_
  obtain ⟨hg5, hf⟩ := ck_e hf
  cases hf
  refine g_eqQ hK ?_
  exact g_zret X hr (gnb hg5) dX14_isGround_14
set_option maxHeartbeats 4000000 in
set_option maxRecDepth 100000 in
theorem m_X14_isGround (l : Launch) {D : va_G} {cy : Nat → ClassId} {B : Nat} {H0 : Heap} {Z : Nat → Nat} {M M1 : gMem} {x0 : Nat} {x1 : Int32} {r : Int32} (hf : f_X14_isGround M x0 x1 = some (r, M1)) : Met l yX14_isGround wsX14_isGround rX14_isGround (va_Pc (Value.ref x0 :: List.map gv [vI x1]) (gPre D cy B H0 (gSt Z B H0) M)) (gQ D cy B H0 (some (vI r)) M1) 0 0 (gA B) := by
  refine Met.ofW (cc := cX14_isGround) (maxL := 2) (ret := (some .boolean)) (by decide) rfl ?_
  intro p e s m args below meth c s₁ Bd hml hv
  obtain ⟨rfl, hW, hKK, hFs⟩ := hv
  have X : gX p s m _ meth c D cy B (gSt Z B H0) RX14 cX14_isGround wsX14_isGround 2 := ⟨Bd.exec, Bd.bytes, atoms_spec (ws := wsX14_isGround) Bd.pre, findClass_of_methodNamed Bd.named, hml, hKK, by rw [hW.1]; exact hW.2.1, Bd.notSynchronized, hFs⟩
  have hr := Bd.returns
  have hl := lv_entry ([.ref x0, .int x1]) (n := 2) (Nat.le_of_ble_eq_true rfl)
  show W p l e rX14_isGround s m _ below meth c s.heap [] 0 0 _ (entryFrame m ([.ref x0, .int x1] : List Value).toArray 2)
  rw [lg_entry_eq]
  generalize (lg_sl ([.ref x0, .int x1]) ++ List.replicate (2 - (lg_sl ([.ref x0, .int x1])).length) Slot.unset).toArray = ls at hl ⊢
  have hl : lv_has ls 2 (List.map gq [(0, vR (some x0)), (1, vI x1)]) := hl
  exact t_X14_isGround_0 X hr _ _ _ _ hf rfl s.heap [] ls hW va_S.rf (lv_has_sub hl (lvsub_of _ _ [0, 1] rfl))
/-! ## TideLotsModel.isFisher(I)Z -/
theorem dX14_isFisher_0 : decode cX14_isFisher 0 = .ok (.iload_n 1, 1) := by decide +kernel
theorem dX14_isFisher_1 : decode cX14_isFisher 1 = .ok (.iconst 0, 1) := by decide +kernel
theorem dX14_isFisher_2 : decode cX14_isFisher 2 = .ok (.aload_n 0, 1) := by decide +kernel
theorem dX14_isFisher_3 : decode cX14_isFisher 3 = .ok (.getfield 35, 3) := by decide +kernel
theorem dX14_isFisher_6 : decode cX14_isFisher 6 = .ok (.getfield 67, 3) := by decide +kernel
theorem dX14_isFisher_9 : decode cX14_isFisher 9 = .ok (.iconst 1, 1) := by decide +kernel
theorem dX14_isFisher_10 : decode cX14_isFisher 10 = .ok (.isub, 1) := by decide +kernel
theorem dX14_isFisher_11 : decode cX14_isFisher 11 = .ok (.invokestatic 63, 3) := by decide +kernel
theorem dX14_isFisher_14 : decode cX14_isFisher 14 = .ok (.ireturn, 1) := by decide +kernel
set_option maxRecDepth 20000 in
theorem ggX14_isFisher_X14_isIn : GoodIn wsX14_isFisher wsX14_isIn := goodIn_r _ [5] (by decide +kernel) (by decide +kernel)
set_option maxRecDepth 20000 in
theorem gX14_isFisher_X14_isIn : GoodIn wsX14_isFisher (va_wsS RX14 63 yX14_isIn wsX14_isIn) := goodIn_app (goodIn_of _ (by decide +kernel)) ggX14_isFisher_X14_isIn
theorem k_X14_isFisher_f35 : Cond.fieldLink RX14 35 "TideLotsModel" "told" "LTideLotsModel$Told;" ∈ wsX14_isFisher := by decide +kernel
theorem i_X14_isFisher_X14 : ∀ w ∈ u_ws RX14 TX14 15, w ∈ wsX14_isFisher := by decide +kernel
theorem kn_X14_67 : Cond.fieldLinkNest "TideLotsModel" (67 : Nat) "TideLotsModel$Told" "fishers" "I" "TideLotsModel" ∈ gNs := by decide +kernel
theorem i_X14_isFisher_X13 : ∀ w ∈ u_ws RX13 TX13 25, w ∈ wsX14_isFisher := by decide +kernel
abbrev rX14_isFisher : Room := { frames := 1, cells := 0, slots := 0, locals := 22 }
noncomputable def b_X14_isFisher_0 (M : gMem) (x0 : Nat) (x1 : Int32) : Option (Int32 × gMem) :=
  ck (mT M x0 = 13) <| dr ((mR M x0 11)) fun a2 => ck (mT M a2 = 12) <| bd (f_X14_isIn M x1 ((0 : Int32)) (((mI M a2 4) - (1 : Int32)))) fun r4 M4 => ck (r4 = 0 ∨ r4 = 1) <| some (r4, M4)
noncomputable def f_X14_isFisher (M : gMem) (x0 : Nat) (x1 : Int32) : Option (Int32 × gMem) :=
  b_X14_isFisher_0 M x0 x1
set_option maxHeartbeats 4000000 in
set_option maxRecDepth 100000 in
theorem t_X14_isFisher_0 (X : gX p s m args meth c D cy B (gSt Z B H0) RX14 cX14_isFisher wsX14_isFisher 2) (hr : meth.sig.returnType = (some .boolean)) {Q : State → Prop} : ∀ (M : gMem) (x0 : Nat) (x1 : Int32) (z : Int32 × gMem), b_X14_isFisher_0 M x0 x1 = some z → (fun (r : Int32 × gMem) => Q = gMQ below D cy B H0 args s 0 0 (some (vI r.1)) r.2) z → gGo p l e rX14_isFisher s m args below meth c D cy B H0 2 0 0 Q 0 [(0, vR (some x0)), (1, vI x1)] [] M := by
  intro M x0 x1 z hf hK
  unfold b_X14_isFisher_0 at hf
  refine g_iload_n X dX14_isFisher_0 rfl rfl ?_
  refine g_iconst (v := (0 : Int32)) X dX14_isFisher_1 (by decide) ?_
  refine g_aload_n X dX14_isFisher_2 rfl rfl ?_
  obtain ⟨hT1, hf⟩ := ck_e hf
  refine g_get (ci := 12) (v := vR (mR M x0 11)) 11 X cdX14 i_X14_isFisher_X14 (by decide) k_X14_isFisher_f35 rfl dX14_isFisher_3 rfl hT1 rfl ?_
  obtain ⟨a2, ha2, hf⟩ := dr_e hf
  obtain ⟨hT3, hf⟩ := ck_e hf
  refine g_getN (ci := 11) (w := vI (mI M a2 4)) 4 X cdX13 i_X14_isFisher_X13 (by decide) (gNw X _ kn_X14_67) rfl dX14_isFisher_6 ha2 hT3 rfl ?_
  refine g_iconst (v := (1 : Int32)) X dX14_isFisher_9 (by decide) ?_
  refine g_isub X dX14_isFisher_10 ?_
  obtain ⟨r4, M4, hq4, hf⟩ := bd_e hf
  refine g_callS (As := [vI x1, vI (0 : Int32), vI ((mI M a2 4) - (1 : Int32))]) (st := []) (v := some (vI r4)) (M1 := M4) X (m_X14_isIn l hq4) (va_cwS 3 X.2.2.1 gX14_isFisher_X14_isIn rfl rfl rfl (by decide +kernel) ⟨Nat.le_of_ble_eq_true rfl, Nat.le_of_ble_eq_true rfl⟩) rfl rfl (Nat.le_of_ble_eq_true rfl) dX14_isFisher_11 ⟨by decide, by decide⟩ ?_
  obtain ⟨hg5, hf⟩ := ck_e hf
  cases hf
  refine g_eqQ hK ?_
  exact g_zret X hr (gnb hg5) dX14_isFisher_14
set_option maxHeartbeats 4000000 in
set_option maxRecDepth 100000 in
theorem m_X14_isFisher (l : Launch) {D : va_G} {cy : Nat → ClassId} {B : Nat} {H0 : Heap} {Z : Nat → Nat} {M M1 : gMem} {x0 : Nat} {x1 : Int32} {r : Int32} (hf : f_X14_isFisher M x0 x1 = some (r, M1)) : Met l yX14_isFisher wsX14_isFisher rX14_isFisher (va_Pc (Value.ref x0 :: List.map gv [vI x1]) (gPre D cy B H0 (gSt Z B H0) M)) (gQ D cy B H0 (some (vI r)) M1) 0 0 (gA B) := by
  refine Met.ofW (cc := cX14_isFisher) (maxL := 2) (ret := (some .boolean)) (by decide) rfl ?_
  intro p e s m args below meth c s₁ Bd hml hv
  obtain ⟨rfl, hW, hKK, hFs⟩ := hv
  have X : gX p s m _ meth c D cy B (gSt Z B H0) RX14 cX14_isFisher wsX14_isFisher 2 := ⟨Bd.exec, Bd.bytes, atoms_spec (ws := wsX14_isFisher) Bd.pre, findClass_of_methodNamed Bd.named, hml, hKK, by rw [hW.1]; exact hW.2.1, Bd.notSynchronized, hFs⟩
  have hr := Bd.returns
  have hl := lv_entry ([.ref x0, .int x1]) (n := 2) (Nat.le_of_ble_eq_true rfl)
  show W p l e rX14_isFisher s m _ below meth c s.heap [] 0 0 _ (entryFrame m ([.ref x0, .int x1] : List Value).toArray 2)
  rw [lg_entry_eq]
  generalize (lg_sl ([.ref x0, .int x1]) ++ List.replicate (2 - (lg_sl ([.ref x0, .int x1])).length) Slot.unset).toArray = ls at hl ⊢
  have hl : lv_has ls 2 (List.map gq [(0, vR (some x0)), (1, vI x1)]) := hl
  exact t_X14_isFisher_0 X hr _ _ _ _ hf rfl s.heap [] ls hW va_S.rf (lv_has_sub hl (lvsub_of _ _ [0, 1] rfl))
/-! ## TideLotsModel.isLetter(I)Z -/
theorem dX14_isLetter_0 : decode cX14_isLetter 0 = .ok (.iload_n 0, 1) := by decide +kernel
theorem dX14_isLetter_1 : decode cX14_isLetter 1 = .ok (.bipush 97, 2) := by decide +kernel
theorem dX14_isLetter_3 : decode cX14_isLetter 3 = .ok (.if_icmp .lt 13, 3) := by decide +kernel
theorem dX14_isLetter_6 : decode cX14_isLetter 6 = .ok (.iload_n 0, 1) := by decide +kernel
theorem dX14_isLetter_7 : decode cX14_isLetter 7 = .ok (.bipush 122, 2) := by decide +kernel
theorem dX14_isLetter_9 : decode cX14_isLetter 9 = .ok (.if_icmp .gt 7, 3) := by decide +kernel
theorem dX14_isLetter_12 : decode cX14_isLetter 12 = .ok (.iconst 1, 1) := by decide +kernel
theorem dX14_isLetter_13 : decode cX14_isLetter 13 = .ok (.goto 4, 3) := by decide +kernel
theorem dX14_isLetter_16 : decode cX14_isLetter 16 = .ok (.iconst 0, 1) := by decide +kernel
theorem dX14_isLetter_17 : decode cX14_isLetter 17 = .ok (.ireturn, 1) := by decide +kernel
abbrev rX14_isLetter : Room := { frames := 0, cells := 0, slots := 0, locals := 0 }
noncomputable def b_X14_isLetter_17 (M : gMem) (s0 : Int32) : Option (Int32 × gMem) :=
  ck (s0 = 0 ∨ s0 = 1) <| some (s0, M)
noncomputable def b_X14_isLetter_16 (M : gMem)  : Option (Int32 × gMem) :=
  b_X14_isLetter_17 M ((0 : Int32))
noncomputable def b_X14_isLetter_0 (M : gMem) (x0 : Int32) : Option (Int32 × gMem) :=
  (if x0 < (97 : Int32) then b_X14_isLetter_16 M  else (if (122 : Int32) < x0 then b_X14_isLetter_16 M  else b_X14_isLetter_17 M ((1 : Int32))))
noncomputable def f_X14_isLetter (M : gMem) (x0 : Int32) : Option (Int32 × gMem) :=
  b_X14_isLetter_0 M x0
set_option maxHeartbeats 4000000 in
set_option maxRecDepth 100000 in
theorem t_X14_isLetter_17 (X : gX p s m args meth c D cy B (gSt Z B H0) RX14 cX14_isLetter wsX14_isLetter 1) (hr : meth.sig.returnType = (some .boolean)) {Q : State → Prop} : ∀ (M : gMem) (s0 : Int32) (z : Int32 × gMem), b_X14_isLetter_17 M s0 = some z → (fun (r : Int32 × gMem) => Q = gMQ below D cy B H0 args s 0 0 (some (vI r.1)) r.2) z → gGo p l e rX14_isLetter s m args below meth c D cy B H0 1 0 0 Q 17 [] [vI s0] M := by
  intro M s0 z hf hK
  unfold b_X14_isLetter_17 at hf
  obtain ⟨hg1, hf⟩ := ck_e hf
  cases hf
  refine g_eqQ hK ?_
  exact g_zret X hr (gnb hg1) dX14_isLetter_17
set_option maxHeartbeats 4000000 in
set_option maxRecDepth 100000 in
theorem t_X14_isLetter_16 (X : gX p s m args meth c D cy B (gSt Z B H0) RX14 cX14_isLetter wsX14_isLetter 1) (hr : meth.sig.returnType = (some .boolean)) {Q : State → Prop} : ∀ (M : gMem)  (z : Int32 × gMem), b_X14_isLetter_16 M  = some z → (fun (r : Int32 × gMem) => Q = gMQ below D cy B H0 args s 0 0 (some (vI r.1)) r.2) z → gGo p l e rX14_isLetter s m args below meth c D cy B H0 1 0 0 Q 16 [] [] M := by
  intro M  z hf hK
  unfold b_X14_isLetter_16 at hf
  refine g_iconst (v := (0 : Int32)) X dX14_isLetter_16 (by decide) ?_
  refine g_sub (lvsub_of _ _ [] rfl) ?_
  exact t_X14_isLetter_17 X hr _ _ _ hf hK
set_option maxHeartbeats 4000000 in
set_option maxRecDepth 100000 in
theorem t_X14_isLetter_0 (X : gX p s m args meth c D cy B (gSt Z B H0) RX14 cX14_isLetter wsX14_isLetter 1) (hr : meth.sig.returnType = (some .boolean)) {Q : State → Prop} : ∀ (M : gMem) (x0 : Int32) (z : Int32 × gMem), b_X14_isLetter_0 M x0 = some z → (fun (r : Int32 × gMem) => Q = gMQ below D cy B H0 args s 0 0 (some (vI r.1)) r.2) z → gGo p l e rX14_isLetter s m args below meth c D cy B H0 1 0 0 Q 0 [(0, vI x0)] [] M := by
  intro M x0 z hf hK
  unfold b_X14_isLetter_0 at hf
  refine g_iload_n X dX14_isLetter_0 rfl rfl ?_
  refine g_bipush (v := (97 : Int32)) X dX14_isLetter_1 (by decide) ?_
  refine g_icmp_lt (tgt := 16) X dX14_isLetter_3 (by decide) (fun hc => ?_) (fun hc => ?_)
  · have hf := ife_t hc hf
    refine g_sub (lvsub_of _ _ [] rfl) ?_
    exact t_X14_isLetter_16 X hr _  _ hf hK
  · have hf := ife_f hc hf
    refine g_iload_n X dX14_isLetter_6 rfl rfl ?_
    refine g_bipush (v := (122 : Int32)) X dX14_isLetter_7 (by decide) ?_
    refine g_icmp_gt (tgt := 16) X dX14_isLetter_9 (by decide) (fun hc => ?_) (fun hc => ?_)
    · have hf := ife_t hc hf
      refine g_sub (lvsub_of _ _ [] rfl) ?_
      exact t_X14_isLetter_16 X hr _  _ hf hK
    · have hf := ife_f hc hf
      refine g_iconst (v := (1 : Int32)) X dX14_isLetter_12 (by decide) ?_
      refine g_goto (tgt := 17) X dX14_isLetter_13 (by decide) ?_
      refine g_sub (lvsub_of _ _ [] rfl) ?_
      exact t_X14_isLetter_17 X hr _ _ _ hf hK
set_option maxHeartbeats 4000000 in
set_option maxRecDepth 100000 in
theorem m_X14_isLetter (l : Launch) {D : va_G} {cy : Nat → ClassId} {B : Nat} {H0 : Heap} {Z : Nat → Nat} {M M1 : gMem} {x0 : Int32} {r : Int32} (hf : f_X14_isLetter M x0 = some (r, M1)) : Met l yX14_isLetter wsX14_isLetter rX14_isLetter (va_Pc (List.map gv [vI x0]) (gPre D cy B H0 (gSt Z B H0) M)) (gQ D cy B H0 (some (vI r)) M1) 0 0 (gA B) := by
  refine Met.ofW (cc := cX14_isLetter) (maxL := 1) (ret := (some .boolean)) (by decide) rfl ?_
  intro p e s m args below meth c s₁ Bd hml hv
  obtain ⟨rfl, hW, hKK, hFs⟩ := hv
  have X : gX p s m _ meth c D cy B (gSt Z B H0) RX14 cX14_isLetter wsX14_isLetter 1 := ⟨Bd.exec, Bd.bytes, atoms_spec (ws := wsX14_isLetter) Bd.pre, findClass_of_methodNamed Bd.named, hml, hKK, by rw [hW.1]; exact hW.2.1, Bd.notSynchronized, hFs⟩
  have hr := Bd.returns
  have hl := lv_entry ([.int x0]) (n := 1) (Nat.le_of_ble_eq_true rfl)
  show W p l e rX14_isLetter s m _ below meth c s.heap [] 0 0 _ (entryFrame m ([.int x0] : List Value).toArray 1)
  rw [lg_entry_eq]
  generalize (lg_sl ([.int x0]) ++ List.replicate (1 - (lg_sl ([.int x0])).length) Slot.unset).toArray = ls at hl ⊢
  have hl : lv_has ls 1 (List.map gq [(0, vI x0)]) := hl
  exact t_X14_isLetter_0 X hr _ _ _ hf rfl s.heap [] ls hW va_S.rf (lv_has_sub hl (lvsub_of _ _ [0] rfl))
/-! ## TideLotsModel.isDigit(I)Z -/
theorem dX14_isDigit_0 : decode cX14_isDigit 0 = .ok (.iload_n 0, 1) := by decide +kernel
theorem dX14_isDigit_1 : decode cX14_isDigit 1 = .ok (.bipush 48, 2) := by decide +kernel
theorem dX14_isDigit_3 : decode cX14_isDigit 3 = .ok (.if_icmp .lt 13, 3) := by decide +kernel
theorem dX14_isDigit_6 : decode cX14_isDigit 6 = .ok (.iload_n 0, 1) := by decide +kernel
theorem dX14_isDigit_7 : decode cX14_isDigit 7 = .ok (.bipush 57, 2) := by decide +kernel
theorem dX14_isDigit_9 : decode cX14_isDigit 9 = .ok (.if_icmp .gt 7, 3) := by decide +kernel
theorem dX14_isDigit_12 : decode cX14_isDigit 12 = .ok (.iconst 1, 1) := by decide +kernel
theorem dX14_isDigit_13 : decode cX14_isDigit 13 = .ok (.goto 4, 3) := by decide +kernel
theorem dX14_isDigit_16 : decode cX14_isDigit 16 = .ok (.iconst 0, 1) := by decide +kernel
theorem dX14_isDigit_17 : decode cX14_isDigit 17 = .ok (.ireturn, 1) := by decide +kernel
abbrev rX14_isDigit : Room := { frames := 0, cells := 0, slots := 0, locals := 0 }
noncomputable def b_X14_isDigit_17 (M : gMem) (s0 : Int32) : Option (Int32 × gMem) :=
  ck (s0 = 0 ∨ s0 = 1) <| some (s0, M)
noncomputable def b_X14_isDigit_16 (M : gMem)  : Option (Int32 × gMem) :=
  b_X14_isDigit_17 M ((0 : Int32))
noncomputable def b_X14_isDigit_0 (M : gMem) (x0 : Int32) : Option (Int32 × gMem) :=
  (if x0 < (48 : Int32) then b_X14_isDigit_16 M  else (if (57 : Int32) < x0 then b_X14_isDigit_16 M  else b_X14_isDigit_17 M ((1 : Int32))))
noncomputable def f_X14_isDigit (M : gMem) (x0 : Int32) : Option (Int32 × gMem) :=
  b_X14_isDigit_0 M x0
set_option maxHeartbeats 4000000 in
set_option maxRecDepth 100000 in
theorem t_X14_isDigit_17 (X : gX p s m args meth c D cy B (gSt Z B H0) RX14 cX14_isDigit wsX14_isDigit 1) (hr : meth.sig.returnType = (some .boolean)) {Q : State → Prop} : ∀ (M : gMem) (s0 : Int32) (z : Int32 × gMem), b_X14_isDigit_17 M s0 = some z → (fun (r : Int32 × gMem) => Q = gMQ below D cy B H0 args s 0 0 (some (vI r.1)) r.2) z → gGo p l e rX14_isDigit s m args below meth c D cy B H0 1 0 0 Q 17 [] [vI s0] M := by
  intro M s0 z hf hK
  unfold b_X14_isDigit_17 at hf
  obtain ⟨hg1, hf⟩ := ck_e hf
  cases hf
  refine g_eqQ hK ?_
  exact g_zret X hr (gnb hg1) dX14_isDigit_17
set_option maxHeartbeats 4000000 in
set_option maxRecDepth 100000 in
theorem t_X14_isDigit_16 (X : gX p s m args meth c D cy B (gSt Z B H0) RX14 cX14_isDigit wsX14_isDigit 1) (hr : meth.sig.returnType = (some .boolean)) {Q : State → Prop} : ∀ (M : gMem)  (z : Int32 × gMem), b_X14_isDigit_16 M  = some z → (fun (r : Int32 × gMem) => Q = gMQ below D cy B H0 args s 0 0 (some (vI r.1)) r.2) z → gGo p l e rX14_isDigit s m args below meth c D cy B H0 1 0 0 Q 16 [] [] M := by
  intro M  z hf hK
  unfold b_X14_isDigit_16 at hf
  refine g_iconst (v := (0 : Int32)) X dX14_isDigit_16 (by decide) ?_
  refine g_sub (lvsub_of _ _ [] rfl) ?_
  exact t_X14_isDigit_17 X hr _ _ _ hf hK
set_option maxHeartbeats 4000000 in
set_option maxRecDepth 100000 in
theorem t_X14_isDigit_0 (X : gX p s m args meth c D cy B (gSt Z B H0) RX14 cX14_isDigit wsX14_isDigit 1) (hr : meth.sig.returnType = (some .boolean)) {Q : State → Prop} : ∀ (M : gMem) (x0 : Int32) (z : Int32 × gMem), b_X14_isDigit_0 M x0 = some z → (fun (r : Int32 × gMem) => Q = gMQ below D cy B H0 args s 0 0 (some (vI r.1)) r.2) z → gGo p l e rX14_isDigit s m args below meth c D cy B H0 1 0 0 Q 0 [(0, vI x0)] [] M := by
  intro M x0 z hf hK
  unfold b_X14_isDigit_0 at hf
  refine g_iload_n X dX14_isDigit_0 rfl rfl ?_
  refine g_bipush (v := (48 : Int32)) X dX14_isDigit_1 (by decide) ?_
  refine g_icmp_lt (tgt := 16) X dX14_isDigit_3 (by decide) (fun hc => ?_) (fun hc => ?_)
  · have hf := ife_t hc hf
    refine g_sub (lvsub_of _ _ [] rfl) ?_
    exact t_X14_isDigit_16 X hr _  _ hf hK
  · have hf := ife_f hc hf
    refine g_iload_n X dX14_isDigit_6 rfl rfl ?_
    refine g_bipush (v := (57 : Int32)) X dX14_isDigit_7 (by decide) ?_
    refine g_icmp_gt (tgt := 16) X dX14_isDigit_9 (by decide) (fun hc => ?_) (fun hc => ?_)
    · have hf := ife_t hc hf
      refine g_sub (lvsub_of _ _ [] rfl) ?_
      exact t_X14_isDigit_16 X hr _  _ hf hK
    · have hf := ife_f hc hf
      refine g_iconst (v := (1 : Int32)) X dX14_isDigit_12 (by decide) ?_
      refine g_goto (tgt := 17) X dX14_isDigit_13 (by decide) ?_
      refine g_sub (lvsub_of _ _ [] rfl) ?_
      exact t_X14_isDigit_17 X hr _ _ _ hf hK
set_option maxHeartbeats 4000000 in
set_option maxRecDepth 100000 in
theorem m_X14_isDigit (l : Launch) {D : va_G} {cy : Nat → ClassId} {B : Nat} {H0 : Heap} {Z : Nat → Nat} {M M1 : gMem} {x0 : Int32} {r : Int32} (hf : f_X14_isDigit M x0 = some (r, M1)) : Met l yX14_isDigit wsX14_isDigit rX14_isDigit (va_Pc (List.map gv [vI x0]) (gPre D cy B H0 (gSt Z B H0) M)) (gQ D cy B H0 (some (vI r)) M1) 0 0 (gA B) := by
  refine Met.ofW (cc := cX14_isDigit) (maxL := 1) (ret := (some .boolean)) (by decide) rfl ?_
  intro p e s m args below meth c s₁ Bd hml hv
  obtain ⟨rfl, hW, hKK, hFs⟩ := hv
  have X : gX p s m _ meth c D cy B (gSt Z B H0) RX14 cX14_isDigit wsX14_isDigit 1 := ⟨Bd.exec, Bd.bytes, atoms_spec (ws := wsX14_isDigit) Bd.pre, findClass_of_methodNamed Bd.named, hml, hKK, by rw [hW.1]; exact hW.2.1, Bd.notSynchronized, hFs⟩
  have hr := Bd.returns
  have hl := lv_entry ([.int x0]) (n := 1) (Nat.le_of_ble_eq_true rfl)
  show W p l e rX14_isDigit s m _ below meth c s.heap [] 0 0 _ (entryFrame m ([.int x0] : List Value).toArray 1)
  rw [lg_entry_eq]
  generalize (lg_sl ([.int x0]) ++ List.replicate (1 - (lg_sl ([.int x0])).length) Slot.unset).toArray = ls at hl ⊢
  have hl : lv_has ls 1 (List.map gq [(0, vI x0)]) := hl
  exact t_X14_isDigit_0 X hr _ _ _ hf rfl s.heap [] ls hW va_S.rf (lv_has_sub hl (lvsub_of _ _ [0] rfl))
/-! ## TideLotsModel.byteOf(I)I -/
theorem dX14_byteOf_0 : decode cX14_byteOf 0 = .ok (.iload_n 1, 1) := by decide +kernel
theorem dX14_byteOf_1 : decode cX14_byteOf 1 = .ok (.aload_n 0, 1) := by decide +kernel
theorem dX14_byteOf_2 : decode cX14_byteOf 2 = .ok (.getfield 79, 3) := by decide +kernel
theorem dX14_byteOf_5 : decode cX14_byteOf 5 = .ok (.if_icmp .ge 12, 3) := by decide +kernel
theorem dX14_byteOf_8 : decode cX14_byteOf 8 = .ok (.aload_n 0, 1) := by decide +kernel
theorem dX14_byteOf_9 : decode cX14_byteOf 9 = .ok (.getfield 9, 3) := by decide +kernel
theorem dX14_byteOf_12 : decode cX14_byteOf 12 = .ok (.iload_n 1, 1) := by decide +kernel
theorem dX14_byteOf_13 : decode cX14_byteOf 13 = .ok (.iaload, 1) := by decide +kernel
theorem dX14_byteOf_14 : decode cX14_byteOf 14 = .ok (.goto 4, 3) := by decide +kernel
theorem dX14_byteOf_17 : decode cX14_byteOf 17 = .ok (.iconst (-1), 1) := by decide +kernel
theorem dX14_byteOf_18 : decode cX14_byteOf 18 = .ok (.ireturn, 1) := by decide +kernel
theorem k_X14_byteOf_f79 : Cond.fieldLink RX14 79 "TideLotsModel" "size" "I" ∈ wsX14_byteOf := by decide +kernel
theorem i_X14_byteOf_X14 : ∀ w ∈ u_ws RX14 TX14 15, w ∈ wsX14_byteOf := by decide +kernel
theorem k_X14_byteOf_f9 : Cond.fieldLink RX14 9 "TideLotsModel" "tape" "[I" ∈ wsX14_byteOf := by decide +kernel
abbrev rX14_byteOf : Room := { frames := 0, cells := 0, slots := 0, locals := 0 }
noncomputable def b_X14_byteOf_18 (M : gMem) (s0 : Int32) : Option (Int32 × gMem) :=
  some (s0, M)
noncomputable def b_X14_byteOf_0 (M : gMem) (x0 : Nat) (x1 : Int32) : Option (Int32 × gMem) :=
  ck (mT M x0 = 13) <| (if (mI M x0 2) ≤ x1 then b_X14_byteOf_18 M ((-1 : Int32)) else dr ((mR M x0 1)) fun a2 => ck (mT M a2 = 20) <| ck (inb x1 (mL M a2)) <| b_X14_byteOf_18 M ((mI M a2 x1.toNatClampNeg)))
noncomputable def f_X14_byteOf (M : gMem) (x0 : Nat) (x1 : Int32) : Option (Int32 × gMem) :=
  b_X14_byteOf_0 M x0 x1
set_option maxHeartbeats 4000000 in
set_option maxRecDepth 100000 in
theorem t_X14_byteOf_18 (X : gX p s m args meth c D cy B (gSt Z B H0) RX14 cX14_byteOf wsX14_byteOf 2) (hr : meth.sig.returnType = (some .int)) {Q : State → Prop} : ∀ (M : gMem) (s0 : Int32) (z : Int32 × gMem), b_X14_byteOf_18 M s0 = some z → (fun (r : Int32 × gMem) => Q = gMQ below D cy B H0 args s 0 0 (some (vI r.1)) r.2) z → gGo p l e rX14_byteOf s m args below meth c D cy B H0 2 0 0 Q 18 [] [vI s0] M := by
  intro M s0 z hf hK
  unfold b_X14_byteOf_18 at hf
  cases hf
  refine g_eqQ hK ?_
  exact g_iret X hr dX14_byteOf_18
set_option maxHeartbeats 4000000 in
set_option maxRecDepth 100000 in
theorem t_X14_byteOf_0 (X : gX p s m args meth c D cy B (gSt Z B H0) RX14 cX14_byteOf wsX14_byteOf 2) (hr : meth.sig.returnType = (some .int)) {Q : State → Prop} : ∀ (M : gMem) (x0 : Nat) (x1 : Int32) (z : Int32 × gMem), b_X14_byteOf_0 M x0 x1 = some z → (fun (r : Int32 × gMem) => Q = gMQ below D cy B H0 args s 0 0 (some (vI r.1)) r.2) z → gGo p l e rX14_byteOf s m args below meth c D cy B H0 2 0 0 Q 0 [(0, vR (some x0)), (1, vI x1)] [] M := by
  intro M x0 x1 z hf hK
  unfold b_X14_byteOf_0 at hf
  refine g_iload_n X dX14_byteOf_0 rfl rfl ?_
  refine g_aload_n X dX14_byteOf_1 rfl rfl ?_
  obtain ⟨hT1, hf⟩ := ck_e hf
  refine g_get (ci := 12) (v := vI (mI M x0 2)) 2 X cdX14 i_X14_byteOf_X14 (by decide) k_X14_byteOf_f79 rfl dX14_byteOf_2 rfl hT1 rfl ?_
  refine g_icmp_ge (tgt := 17) X dX14_byteOf_5 (by decide) (fun hc => ?_) (fun hc => ?_)
  · have hf := ife_t hc hf
    refine g_iconst (v := (-1 : Int32)) X dX14_byteOf_17 (by decide) ?_
    refine g_sub (lvsub_of _ _ [] rfl) ?_
    exact t_X14_byteOf_18 X hr _ _ _ hf hK
  · have hf := ife_f hc hf
    refine g_aload_n X dX14_byteOf_8 rfl rfl ?_
    refine g_get (ci := 12) (v := vR (mR M x0 1)) 1 X cdX14 i_X14_byteOf_X14 (by decide) k_X14_byteOf_f9 rfl dX14_byteOf_9 rfl hT1 rfl ?_
    refine g_iload_n X dX14_byteOf_12 rfl rfl ?_
    obtain ⟨a2, ha2, hf⟩ := dr_e hf
    obtain ⟨hT3, hf⟩ := ck_e hf
    obtain ⟨hg4, hf⟩ := ck_e hf
    refine g_iald X dX14_byteOf_13 ha2 hT3 hg4 ?_
    refine g_goto (tgt := 18) X dX14_byteOf_14 (by decide) ?_
    refine g_sub (lvsub_of _ _ [] rfl) ?_
    exact t_X14_byteOf_18 X hr _ _ _ hf hK
set_option maxHeartbeats 4000000 in
set_option maxRecDepth 100000 in
theorem m_X14_byteOf (l : Launch) {D : va_G} {cy : Nat → ClassId} {B : Nat} {H0 : Heap} {Z : Nat → Nat} {M M1 : gMem} {x0 : Nat} {x1 : Int32} {r : Int32} (hf : f_X14_byteOf M x0 x1 = some (r, M1)) : Met l yX14_byteOf wsX14_byteOf rX14_byteOf (va_Pc (Value.ref x0 :: List.map gv [vI x1]) (gPre D cy B H0 (gSt Z B H0) M)) (gQ D cy B H0 (some (vI r)) M1) 0 0 (gA B) := by
  refine Met.ofW (cc := cX14_byteOf) (maxL := 2) (ret := (some .int)) (by decide) rfl ?_
  intro p e s m args below meth c s₁ Bd hml hv
  obtain ⟨rfl, hW, hKK, hFs⟩ := hv
  have X : gX p s m _ meth c D cy B (gSt Z B H0) RX14 cX14_byteOf wsX14_byteOf 2 := ⟨Bd.exec, Bd.bytes, atoms_spec (ws := wsX14_byteOf) Bd.pre, findClass_of_methodNamed Bd.named, hml, hKK, by rw [hW.1]; exact hW.2.1, Bd.notSynchronized, hFs⟩
  have hr := Bd.returns
  have hl := lv_entry ([.ref x0, .int x1]) (n := 2) (Nat.le_of_ble_eq_true rfl)
  show W p l e rX14_byteOf s m _ below meth c s.heap [] 0 0 _ (entryFrame m ([.ref x0, .int x1] : List Value).toArray 2)
  rw [lg_entry_eq]
  generalize (lg_sl ([.ref x0, .int x1]) ++ List.replicate (2 - (lg_sl ([.ref x0, .int x1])).length) Slot.unset).toArray = ls at hl ⊢
  have hl : lv_has ls 2 (List.map gq [(0, vR (some x0)), (1, vI x1)]) := hl
  exact t_X14_byteOf_0 X hr _ _ _ _ hf rfl s.heap [] ls hW va_S.rf (lv_has_sub hl (lvsub_of _ _ [0, 1] rfl))
/-! ## TideLotsModel.word(II)I -/
theorem dX14_word_0 : decode cX14_word 0 = .ok (.iconst 0, 1) := by decide +kernel
theorem dX14_word_1 : decode cX14_word 1 = .ok (.istore_n 3, 1) := by decide +kernel
theorem dX14_word_2 : decode cX14_word 2 = .ok (.iload_n 3, 1) := by decide +kernel
theorem dX14_word_3 : decode cX14_word 3 = .ok (.getstatic 103, 3) := by decide +kernel
theorem dX14_word_6 : decode cX14_word 6 = .ok (.arraylength, 1) := by decide +kernel
theorem dX14_word_7 : decode cX14_word 7 = .ok (.if_icmp .ge 84, 3) := by decide +kernel
theorem dX14_word_10 : decode cX14_word 10 = .ok (.getstatic 103, 3) := by decide +kernel
theorem dX14_word_13 : decode cX14_word 13 = .ok (.iload_n 3, 1) := by decide +kernel
theorem dX14_word_14 : decode cX14_word 14 = .ok (.aaload, 1) := by decide +kernel
theorem dX14_word_15 : decode cX14_word 15 = .ok (.invokevirtual 107, 3) := by decide +kernel
theorem dX14_word_18 : decode cX14_word 18 = .ok (.iload_n 2, 1) := by decide +kernel
theorem dX14_word_19 : decode cX14_word 19 = .ok (.if_icmp .ne 7, 3) := by decide +kernel
theorem dX14_word_22 : decode cX14_word 22 = .ok (.iconst 1, 1) := by decide +kernel
theorem dX14_word_23 : decode cX14_word 23 = .ok (.goto 4, 3) := by decide +kernel
theorem dX14_word_26 : decode cX14_word 26 = .ok (.iconst 0, 1) := by decide +kernel
theorem dX14_word_27 : decode cX14_word 27 = .ok (.istore 4, 2) := by decide +kernel
theorem dX14_word_29 : decode cX14_word 29 = .ok (.iconst 0, 1) := by decide +kernel
theorem dX14_word_30 : decode cX14_word 30 = .ok (.istore 5, 2) := by decide +kernel
theorem dX14_word_32 : decode cX14_word 32 = .ok (.iload 4, 2) := by decide +kernel
theorem dX14_word_34 : decode cX14_word 34 = .ok (.ifCond .eq 44, 3) := by decide +kernel
theorem dX14_word_37 : decode cX14_word 37 = .ok (.iload 5, 2) := by decide +kernel
theorem dX14_word_39 : decode cX14_word 39 = .ok (.iload_n 2, 1) := by decide +kernel
theorem dX14_word_40 : decode cX14_word 40 = .ok (.if_icmp .ge 38, 3) := by decide +kernel
theorem dX14_word_43 : decode cX14_word 43 = .ok (.getstatic 103, 3) := by decide +kernel
theorem dX14_word_46 : decode cX14_word 46 = .ok (.iload_n 3, 1) := by decide +kernel
theorem dX14_word_47 : decode cX14_word 47 = .ok (.aaload, 1) := by decide +kernel
theorem dX14_word_48 : decode cX14_word 48 = .ok (.iload 5, 2) := by decide +kernel
theorem dX14_word_50 : decode cX14_word 50 = .ok (.invokevirtual 111, 3) := by decide +kernel
theorem dX14_word_53 : decode cX14_word 53 = .ok (.aload_n 0, 1) := by decide +kernel
theorem dX14_word_54 : decode cX14_word 54 = .ok (.getfield 9, 3) := by decide +kernel
theorem dX14_word_57 : decode cX14_word 57 = .ok (.iload_n 1, 1) := by decide +kernel
theorem dX14_word_58 : decode cX14_word 58 = .ok (.iload 5, 2) := by decide +kernel
theorem dX14_word_60 : decode cX14_word 60 = .ok (.iadd, 1) := by decide +kernel
theorem dX14_word_61 : decode cX14_word 61 = .ok (.iaload, 1) := by decide +kernel
theorem dX14_word_62 : decode cX14_word 62 = .ok (.if_icmp .ne 7, 3) := by decide +kernel
theorem dX14_word_65 : decode cX14_word 65 = .ok (.iconst 1, 1) := by decide +kernel
theorem dX14_word_66 : decode cX14_word 66 = .ok (.goto 4, 3) := by decide +kernel
theorem dX14_word_69 : decode cX14_word 69 = .ok (.iconst 0, 1) := by decide +kernel
theorem dX14_word_70 : decode cX14_word 70 = .ok (.istore 4, 2) := by decide +kernel
theorem dX14_word_72 : decode cX14_word 72 = .ok (.iinc 5 1, 3) := by decide +kernel
theorem dX14_word_75 : decode cX14_word 75 = .ok (.goto (-43), 3) := by decide +kernel
theorem dX14_word_78 : decode cX14_word 78 = .ok (.iload 4, 2) := by decide +kernel
theorem dX14_word_80 : decode cX14_word 80 = .ok (.ifCond .eq 5, 3) := by decide +kernel
theorem dX14_word_83 : decode cX14_word 83 = .ok (.iload_n 3, 1) := by decide +kernel
theorem dX14_word_84 : decode cX14_word 84 = .ok (.ireturn, 1) := by decide +kernel
theorem dX14_word_85 : decode cX14_word 85 = .ok (.iinc 3 1, 3) := by decide +kernel
theorem dX14_word_88 : decode cX14_word 88 = .ok (.goto (-86), 3) := by decide +kernel
theorem dX14_word_91 : decode cX14_word 91 = .ok (.bipush 40, 2) := by decide +kernel
theorem dX14_word_93 : decode cX14_word 93 = .ok (.ireturn, 1) := by decide +kernel
set_option maxRecDepth 20000 in
theorem ggX14_word_J0_charAt_5068e : GoodIn wsX14_word wsJ0_charAt_5068e := goodIn_rr wsB_X14_word_in _ [(1, 17), (1, 7), (1, 18), (1, 19), (1, 20), (1, 5), (1, 21), (1, 12), (1, 13), (1, 22), (1, 23), (2, 0), (2, 1), (2, 2), (2, 3), (2, 4), (2, 5), (2, 6), (2, 7), (2, 8), (2, 9), (2, 10), (2, 11), (2, 12), (2, 13), (2, 14), (2, 15), (2, 16), (2, 17), (2, 18), (2, 19), (2, 20), (2, 21), (2, 22), (2, 23), (3, 0), (3, 1), (3, 2)] (by decide +kernel) (by decide +kernel)
set_option maxRecDepth 20000 in
theorem gX14_word_J0_charAt_5068e : GoodIn wsX14_word (wsV RX14 111 RJ0 yJ0_charAt_5068e wsJ0_charAt_5068e) := goodIn_app (goodIn_rr wsB_X14_word_in _ [(1, 14), (1, 15), (1, 16), (1, 5)] (by decide +kernel) (by decide +kernel)) ggX14_word_J0_charAt_5068e
set_option maxRecDepth 20000 in
theorem ggX14_word_J0_length_8abf5 : GoodIn wsX14_word wsJ0_length_8abf5 := goodIn_rr wsB_X14_word_in _ [(1, 6), (1, 7), (1, 8), (1, 9), (1, 10), (1, 5), (1, 11), (1, 12), (1, 13)] (by decide +kernel) (by decide +kernel)
set_option maxRecDepth 20000 in
theorem gX14_word_J0_length_8abf5 : GoodIn wsX14_word (wsV RX14 107 RJ0 yJ0_length_8abf5 wsJ0_length_8abf5) := goodIn_app (goodIn_rr wsB_X14_word_in _ [(1, 2), (1, 3), (1, 4), (1, 5)] (by decide +kernel) (by decide +kernel)) ggX14_word_J0_length_8abf5
theorem k_X14_word_f103 : Cond.fieldLink RX14 103 "TideLotsModel" "WORDS" "[Ljava/lang/String;" ∈ wsX14_word := by decide +kernel
theorem k_X14_word_f9 : Cond.fieldLink RX14 9 "TideLotsModel" "tape" "[I" ∈ wsX14_word := by decide +kernel
theorem i_X14_word_X14 : ∀ w ∈ u_ws RX14 TX14 15, w ∈ wsX14_word := by decide +kernel
abbrev rX14_word : Room := { frames := 4, cells := 0, slots := 0, locals := 85 }
noncomputable def b_X14_word_78 (Z : Nat → Nat) (M : gMem) (x0 : Nat) (x1 : Int32) (x2 : Int32) (x3 : Int32) (x4 : Int32) : Option ((gMem × Int32) ⊕ (Int32 × gMem)) :=
  (if x4 = 0 then some (.inl (M, (x3 + (1 : Int32)))) else oI (some (x3, M)))
noncomputable def b_X14_word_70 (Z : Nat → Nat) (M : gMem) (x0 : Nat) (x1 : Int32) (x2 : Int32) (x3 : Int32) (x5 : Int32) (s0 : Int32) : Option ((gMem × Int32 × Int32) ⊕ ((gMem × Int32) ⊕ (Int32 × gMem))) :=
  some (.inl (M, s0, (x5 + (1 : Int32))))
noncomputable def bb_X14_word_32 (Z : Nat → Nat) (M : gMem) (x0 : Nat) (x1 : Int32) (x2 : Int32) (x3 : Int32) (x4 : Int32) (x5 : Int32) : Option ((gMem × Int32 × Int32) ⊕ ((gMem × Int32) ⊕ (Int32 × gMem))) :=
  (if x4 = 0 then oI (b_X14_word_78 Z M x0 x1 x2 x3 x4) else (if x2 ≤ x5 then oI (b_X14_word_78 Z M x0 x1 x2 x3 x4) else ck (inb x3 25) <| ck ((45 + x3.toNatClampNeg) < 71) <| bd (f_J0_charAt_5068e Z M ((45 + x3.toNatClampNeg)) x5) fun r5 M5 => ck (mT M5 x0 = 13) <| dr ((mR M5 x0 1)) fun a8 => ck (mT M5 a8 = 20) <| ck (inb (x1 + x5) (mL M5 a8)) <| (if r5 = (mI M5 a8 ((x1 + x5)).toNatClampNeg) then b_X14_word_70 Z M5 x0 x1 x2 x3 x5 ((1 : Int32)) else b_X14_word_70 Z M5 x0 x1 x2 x3 x5 ((0 : Int32)))))
noncomputable def lp_X14_word_32 (Z : Nat → Nat) (M : gMem) (x0 : Nat) (x1 : Int32) (x2 : Int32) (x3 : Int32) (x4 : Int32) (x5 : Int32) : Option ((gMem × Int32) ⊕ (Int32 × gMem)) :=
  lp (fun (q : gMem × Int32 × Int32) => bb_X14_word_32 Z q.1 x0 x1 x2 x3 q.2.1 q.2.2) (M, x4, x5)
noncomputable def b_X14_word_27 (Z : Nat → Nat) (M : gMem) (x0 : Nat) (x1 : Int32) (x2 : Int32) (x3 : Int32) (s0 : Int32) : Option ((gMem × Int32) ⊕ (Int32 × gMem)) :=
  lp_X14_word_32 Z M x0 x1 x2 x3 s0 ((0 : Int32))
noncomputable def bb_X14_word_2 (Z : Nat → Nat) (M : gMem) (x0 : Nat) (x1 : Int32) (x2 : Int32) (x3 : Int32) : Option ((gMem × Int32) ⊕ (Int32 × gMem)) :=
  (if (Int32.ofNat 25) ≤ x3 then oI (some ((40 : Int32), M)) else ck (inb x3 25) <| ck ((45 + x3.toNatClampNeg) < 71) <| bd (f_J0_length_8abf5 Z M ((45 + x3.toNatClampNeg))) fun r13 M13 => (if r13 = x2 then b_X14_word_27 Z M13 x0 x1 x2 x3 ((1 : Int32)) else b_X14_word_27 Z M13 x0 x1 x2 x3 ((0 : Int32))))
noncomputable def lp_X14_word_2 (Z : Nat → Nat) (M : gMem) (x0 : Nat) (x1 : Int32) (x2 : Int32) (x3 : Int32) : Option (Int32 × gMem) :=
  lp (fun (q : gMem × Int32) => bb_X14_word_2 Z q.1 x0 x1 x2 q.2) (M, x3)
noncomputable def b_X14_word_0 (Z : Nat → Nat) (M : gMem) (x0 : Nat) (x1 : Int32) (x2 : Int32) : Option (Int32 × gMem) :=
  lp_X14_word_2 Z M x0 x1 x2 ((0 : Int32))
noncomputable def f_X14_word (Z : Nat → Nat) (M : gMem) (x0 : Nat) (x1 : Int32) (x2 : Int32) : Option (Int32 × gMem) :=
  b_X14_word_0 Z M x0 x1 x2
set_option maxHeartbeats 4000000 in
set_option maxRecDepth 100000 in
theorem t_X14_word_78 (X : gX p s m args meth c D cy B (gSt Z B H0) RX14 cX14_word wsX14_word 6) (hr : meth.sig.returnType = (some .int)) {Q : State → Prop} : ∀ (M : gMem) (x0 : Nat) (x1 : Int32) (x2 : Int32) (x3 : Int32) (x4 : Int32) (z : (gMem × Int32) ⊕ (Int32 × gMem)), b_X14_word_78 Z M x0 x1 x2 x3 x4 = some z → (Sum.elim (fun (q : gMem × Int32) => gGo p l e rX14_word s m args below meth c D cy B H0 6 0 0 Q 2 [(0, vR (some x0)), (1, vI x1), (2, vI x2), (3, vI q.2)] [] q.1) (fun (r : Int32 × gMem) => Q = gMQ below D cy B H0 args s 0 0 (some (vI r.1)) r.2)) z → gGo p l e rX14_word s m args below meth c D cy B H0 6 0 0 Q 78 [(0, vR (some x0)), (1, vI x1), (2, vI x2), (3, vI x3), (4, vI x4)] [] M := by
  intro M x0 x1 x2 x3 x4 z hf hK
  unfold b_X14_word_78 at hf
  refine g_iload X dX14_word_78 rfl ?_
  refine g_if_eq (tgt := 85) X dX14_word_80 (by decide) (fun hc => ?_) (fun hc => ?_)
  · have hf := ife_t hc hf
    refine g_iinc (v := (1 : Int32)) (lv' := [(3, vI (x3 + (1 : Int32))), (0, vR (some x0)), (1, vI x1), (2, vI x2), (4, vI x4)]) X dX14_word_85 rfl (by decide) (by decide) rfl ?_
    refine g_goto (tgt := 2) X dX14_word_88 (by decide) ?_
    cases hf
    refine g_sub (lvsub_of _ _ [1, 2, 3, 0] rfl) ?_
    exact hK
  · have hf := ife_f hc hf
    refine g_iload_n X dX14_word_83 rfl rfl ?_
    obtain ⟨w1, hw1, hz1⟩ := oI_e hf
    subst hz1
    have hf := hw1
    cases hf
    refine g_eqQ hK ?_
    exact g_iret X hr dX14_word_84
set_option maxHeartbeats 4000000 in
set_option maxRecDepth 100000 in
theorem t_X14_word_70 (X : gX p s m args meth c D cy B (gSt Z B H0) RX14 cX14_word wsX14_word 6) (hr : meth.sig.returnType = (some .int)) {Q : State → Prop} : ∀ (M : gMem) (x0 : Nat) (x1 : Int32) (x2 : Int32) (x3 : Int32) (x5 : Int32) (s0 : Int32) (z : (gMem × Int32 × Int32) ⊕ ((gMem × Int32) ⊕ (Int32 × gMem))), b_X14_word_70 Z M x0 x1 x2 x3 x5 s0 = some z → (Sum.elim (fun (q : gMem × Int32 × Int32) => gGo p l e rX14_word s m args below meth c D cy B H0 6 0 0 Q 32 [(0, vR (some x0)), (1, vI x1), (2, vI x2), (3, vI x3), (4, vI q.2.1), (5, vI q.2.2)] [] q.1) (Sum.elim (fun (q : gMem × Int32) => gGo p l e rX14_word s m args below meth c D cy B H0 6 0 0 Q 2 [(0, vR (some x0)), (1, vI x1), (2, vI x2), (3, vI q.2)] [] q.1) (fun (r : Int32 × gMem) => Q = gMQ below D cy B H0 args s 0 0 (some (vI r.1)) r.2))) z → gGo p l e rX14_word s m args below meth c D cy B H0 6 0 0 Q 70 [(0, vR (some x0)), (1, vI x1), (2, vI x2), (3, vI x3), (5, vI x5)] [vI s0] M := by
  intro M x0 x1 x2 x3 x5 s0 z hf hK
  unfold b_X14_word_70 at hf
  refine g_istore (lv' := [(4, vI s0), (0, vR (some x0)), (1, vI x1), (2, vI x2), (3, vI x3), (5, vI x5)]) X dX14_word_70 (by decide) rfl ?_
  refine g_iinc (v := (1 : Int32)) (lv' := [(5, vI (x5 + (1 : Int32))), (4, vI s0), (0, vR (some x0)), (1, vI x1), (2, vI x2), (3, vI x3)]) X dX14_word_72 rfl (by decide) (by decide) rfl ?_
  refine g_goto (tgt := 32) X dX14_word_75 (by decide) ?_
  cases hf
  refine g_sub (lvsub_of _ _ [2, 3, 4, 5, 1, 0] rfl) ?_
  exact hK
set_option maxHeartbeats 4000000 in
set_option maxRecDepth 100000 in
theorem tb_X14_word_32 (X : gX p s m args meth c D cy B (gSt Z B H0) RX14 cX14_word wsX14_word 6) (hr : meth.sig.returnType = (some .int)) {Q : State → Prop} : ∀ (M : gMem) (x0 : Nat) (x1 : Int32) (x2 : Int32) (x3 : Int32) (x4 : Int32) (x5 : Int32) (z : (gMem × Int32 × Int32) ⊕ ((gMem × Int32) ⊕ (Int32 × gMem))), bb_X14_word_32 Z M x0 x1 x2 x3 x4 x5 = some z → (Sum.elim (fun (q : gMem × Int32 × Int32) => gGo p l e rX14_word s m args below meth c D cy B H0 6 0 0 Q 32 [(0, vR (some x0)), (1, vI x1), (2, vI x2), (3, vI x3), (4, vI q.2.1), (5, vI q.2.2)] [] q.1) (Sum.elim (fun (q : gMem × Int32) => gGo p l e rX14_word s m args below meth c D cy B H0 6 0 0 Q 2 [(0, vR (some x0)), (1, vI x1), (2, vI x2), (3, vI q.2)] [] q.1) (fun (r : Int32 × gMem) => Q = gMQ below D cy B H0 args s 0 0 (some (vI r.1)) r.2))) z → gGo p l e rX14_word s m args below meth c D cy B H0 6 0 0 Q 32 [(0, vR (some x0)), (1, vI x1), (2, vI x2), (3, vI x3), (4, vI x4), (5, vI x5)] [] M := by
  intro M x0 x1 x2 x3 x4 x5 z hf hK
  unfold bb_X14_word_32 at hf
  refine g_iload X dX14_word_32 rfl ?_
  refine g_if_eq (tgt := 78) X dX14_word_34 (by decide) (fun hc => ?_) (fun hc => ?_)
  · have hf := ife_t hc hf
    obtain ⟨w2, hw2, hz2⟩ := oI_e hf
    subst hz2
    have hf := hw2
    refine g_sub (lvsub_of _ _ [0, 1, 2, 3, 4] rfl) ?_
    exact t_X14_word_78 X hr _ _ _ _ _ _ _ hf hK
  · have hf := ife_f hc hf
    refine g_iload X dX14_word_37 rfl ?_
    refine g_iload_n X dX14_word_39 rfl rfl ?_
    refine g_icmp_ge (tgt := 78) X dX14_word_40 (by decide) (fun hc => ?_) (fun hc => ?_)
    · have hf := ife_t hc hf
      obtain ⟨w3, hw3, hz3⟩ := oI_e hf
      subst hz3
      have hf := hw3
      refine g_sub (lvsub_of _ _ [0, 1, 2, 3, 4] rfl) ?_
      exact t_X14_word_78 X hr _ _ _ _ _ _ _ hf hK
    · have hf := ife_f hc hf
      refine g_gets (w := vR (some (Z 47))) X (gSt_WD X) k_X14_word_f103 rfl dX14_word_43 ?_
      refine g_iload_n X dX14_word_46 rfl rfl ?_
      obtain ⟨hg4, hf⟩ := ck_e hf
      refine g_aaldT (w := some (Z (100 + (45 + x3.toNatClampNeg)))) X (gSt_T47 X) rfl (gin_nn hg4) (gin_lt hg4) rfl dX14_word_47 ?_
      refine g_iload X dX14_word_48 rfl ?_
      obtain ⟨hg6, hf⟩ := ck_e hf
      obtain ⟨r5, M5, hq5, hf⟩ := bd_e hf
      refine g_callV0 (C := RJ0) (b := (Z (100 + (45 + x3.toNatClampNeg)))) (As := [vI x5]) (st := []) (v := some (vI r5)) (M1 := M5) X (m_J0_charAt_5068e l hq5) (cwV 1 X.2.2.1 gX14_word_J0_charAt_5068e rfl rfl rfl (by decide +kernel) ⟨Nat.le_of_ble_eq_true rfl, Nat.le_of_ble_eq_true rfl⟩) rfl rfl rfl (fun H hW => gO_recv (gSt_sO X hg6) hW) (Nat.le_of_ble_eq_true rfl) dX14_word_50 ⟨by decide, by decide⟩ ?_
      refine g_aload_n X dX14_word_53 rfl rfl ?_
      obtain ⟨hT7, hf⟩ := ck_e hf
      refine g_get (ci := 12) (v := vR (mR M5 x0 1)) 1 X cdX14 i_X14_word_X14 (by decide) k_X14_word_f9 rfl dX14_word_54 rfl hT7 rfl ?_
      refine g_iload_n X dX14_word_57 rfl rfl ?_
      refine g_iload X dX14_word_58 rfl ?_
      refine g_iadd X dX14_word_60 ?_
      obtain ⟨a8, ha8, hf⟩ := dr_e hf
      obtain ⟨hT9, hf⟩ := ck_e hf
      obtain ⟨hg10, hf⟩ := ck_e hf
      refine g_iald X dX14_word_61 ha8 hT9 hg10 ?_
      refine g_icmp_ne (tgt := 69) X dX14_word_62 (by decide) (fun hc => ?_) (fun hc => ?_)
      · have hf := ife_f hc hf
        refine g_iconst (v := (0 : Int32)) X dX14_word_69 (by decide) ?_
        refine g_sub (lvsub_of _ _ [0, 1, 2, 3, 5] rfl) ?_
        exact t_X14_word_70 X hr _ _ _ _ _ _ _ _ hf hK
      · have hf := ife_t hc hf
        refine g_iconst (v := (1 : Int32)) X dX14_word_65 (by decide) ?_
        refine g_goto (tgt := 70) X dX14_word_66 (by decide) ?_
        refine g_sub (lvsub_of _ _ [0, 1, 2, 3, 5] rfl) ?_
        exact t_X14_word_70 X hr _ _ _ _ _ _ _ _ hf hK
set_option maxHeartbeats 4000000 in
set_option maxRecDepth 100000 in
theorem tl_X14_word_32 (X : gX p s m args meth c D cy B (gSt Z B H0) RX14 cX14_word wsX14_word 6) (hr : meth.sig.returnType = (some .int)) {Q : State → Prop} : ∀ (M : gMem) (x0 : Nat) (x1 : Int32) (x2 : Int32) (x3 : Int32) (x4 : Int32) (x5 : Int32) (z : (gMem × Int32) ⊕ (Int32 × gMem)), lp_X14_word_32 Z M x0 x1 x2 x3 x4 x5 = some z → (Sum.elim (fun (q : gMem × Int32) => gGo p l e rX14_word s m args below meth c D cy B H0 6 0 0 Q 2 [(0, vR (some x0)), (1, vI x1), (2, vI x2), (3, vI q.2)] [] q.1) (fun (r : Int32 × gMem) => Q = gMQ below D cy B H0 args s 0 0 (some (vI r.1)) r.2)) z → gGo p l e rX14_word s m args below meth c D cy B H0 6 0 0 Q 32 [(0, vR (some x0)), (1, vI x1), (2, vI x2), (3, vI x3), (4, vI x4), (5, vI x5)] [] M := by
  intro M x0 x1 x2 x3 x4 x5 z hf hK
  refine lp_ind (P := (fun (q : gMem × Int32 × Int32) (z : (gMem × Int32) ⊕ (Int32 × gMem)) => (Sum.elim (fun (q : gMem × Int32) => gGo p l e rX14_word s m args below meth c D cy B H0 6 0 0 Q 2 [(0, vR (some x0)), (1, vI x1), (2, vI x2), (3, vI q.2)] [] q.1) (fun (r : Int32 × gMem) => Q = gMQ below D cy B H0 args s 0 0 (some (vI r.1)) r.2)) z → gGo p l e rX14_word s m args below meth c D cy B H0 6 0 0 Q 32 [(0, vR (some x0)), (1, vI x1), (2, vI x2), (3, vI x3), (4, vI q.2.1), (5, vI q.2.2)] [] q.1)) (fun q z hq => ?_) _ _ hf hK
  intro hK
  obtain ⟨w, hw, hm⟩ := hq
  refine tb_X14_word_32 X hr _ _ _ _ _ _ _ w hw ?_
  cases w with
  | inl a => exact hm hK
  | inr b => cases hm; exact hK
set_option maxHeartbeats 4000000 in
set_option maxRecDepth 100000 in
theorem t_X14_word_27 (X : gX p s m args meth c D cy B (gSt Z B H0) RX14 cX14_word wsX14_word 6) (hr : meth.sig.returnType = (some .int)) {Q : State → Prop} : ∀ (M : gMem) (x0 : Nat) (x1 : Int32) (x2 : Int32) (x3 : Int32) (s0 : Int32) (z : (gMem × Int32) ⊕ (Int32 × gMem)), b_X14_word_27 Z M x0 x1 x2 x3 s0 = some z → (Sum.elim (fun (q : gMem × Int32) => gGo p l e rX14_word s m args below meth c D cy B H0 6 0 0 Q 2 [(0, vR (some x0)), (1, vI x1), (2, vI x2), (3, vI q.2)] [] q.1) (fun (r : Int32 × gMem) => Q = gMQ below D cy B H0 args s 0 0 (some (vI r.1)) r.2)) z → gGo p l e rX14_word s m args below meth c D cy B H0 6 0 0 Q 27 [(0, vR (some x0)), (1, vI x1), (2, vI x2), (3, vI x3)] [vI s0] M := by
  intro M x0 x1 x2 x3 s0 z hf hK
  unfold b_X14_word_27 at hf
  refine g_istore (lv' := [(4, vI s0), (0, vR (some x0)), (1, vI x1), (2, vI x2), (3, vI x3)]) X dX14_word_27 (by decide) rfl ?_
  refine g_iconst (v := (0 : Int32)) X dX14_word_29 (by decide) ?_
  refine g_istore (lv' := [(5, vI (0 : Int32)), (4, vI s0), (0, vR (some x0)), (1, vI x1), (2, vI x2), (3, vI x3)]) X dX14_word_30 (by decide) rfl ?_
  refine g_sub (lvsub_of _ _ [2, 3, 4, 5, 1, 0] rfl) ?_
  exact tl_X14_word_32 X hr _ _ _ _ _ _ _ _ hf hK
set_option maxHeartbeats 4000000 in
set_option maxRecDepth 100000 in
theorem tb_X14_word_2 (X : gX p s m args meth c D cy B (gSt Z B H0) RX14 cX14_word wsX14_word 6) (hr : meth.sig.returnType = (some .int)) {Q : State → Prop} : ∀ (M : gMem) (x0 : Nat) (x1 : Int32) (x2 : Int32) (x3 : Int32) (z : (gMem × Int32) ⊕ (Int32 × gMem)), bb_X14_word_2 Z M x0 x1 x2 x3 = some z → (Sum.elim (fun (q : gMem × Int32) => gGo p l e rX14_word s m args below meth c D cy B H0 6 0 0 Q 2 [(0, vR (some x0)), (1, vI x1), (2, vI x2), (3, vI q.2)] [] q.1) (fun (r : Int32 × gMem) => Q = gMQ below D cy B H0 args s 0 0 (some (vI r.1)) r.2)) z → gGo p l e rX14_word s m args below meth c D cy B H0 6 0 0 Q 2 [(0, vR (some x0)), (1, vI x1), (2, vI x2), (3, vI x3)] [] M := by
  intro M x0 x1 x2 x3 z hf hK
  unfold bb_X14_word_2 at hf
  refine g_iload_n X dX14_word_2 rfl rfl ?_
  refine g_gets (w := vR (some (Z 47))) X (gSt_WD X) k_X14_word_f103 rfl dX14_word_3 ?_
  refine g_alenT X (gSt_T47 X) rfl dX14_word_6 ?_
  refine g_icmp_ge (tgt := 91) X dX14_word_7 (by decide) (fun hc => ?_) (fun hc => ?_)
  · have hf := ife_t hc hf
    refine g_bipush (v := (40 : Int32)) X dX14_word_91 (by decide) ?_
    obtain ⟨w11, hw11, hz11⟩ := oI_e hf
    subst hz11
    have hf := hw11
    cases hf
    refine g_eqQ hK ?_
    exact g_iret X hr dX14_word_93
  · have hf := ife_f hc hf
    refine g_gets (w := vR (some (Z 47))) X (gSt_WD X) k_X14_word_f103 rfl dX14_word_10 ?_
    refine g_iload_n X dX14_word_13 rfl rfl ?_
    obtain ⟨hg12, hf⟩ := ck_e hf
    refine g_aaldT (w := some (Z (100 + (45 + x3.toNatClampNeg)))) X (gSt_T47 X) rfl (gin_nn hg12) (gin_lt hg12) rfl dX14_word_14 ?_
    obtain ⟨hg14, hf⟩ := ck_e hf
    obtain ⟨r13, M13, hq13, hf⟩ := bd_e hf
    refine g_callV0 (C := RJ0) (b := (Z (100 + (45 + x3.toNatClampNeg)))) (As := []) (st := []) (v := some (vI r13)) (M1 := M13) X (m_J0_length_8abf5 l hq13) (cwV 0 X.2.2.1 gX14_word_J0_length_8abf5 rfl rfl rfl (by decide +kernel) ⟨Nat.le_of_ble_eq_true rfl, Nat.le_of_ble_eq_true rfl⟩) rfl rfl rfl (fun H hW => gO_recv (gSt_sO X hg14) hW) (Nat.le_of_ble_eq_true rfl) dX14_word_15 ⟨by decide, by decide⟩ ?_
    refine g_iload_n X dX14_word_18 rfl rfl ?_
    refine g_icmp_ne (tgt := 26) X dX14_word_19 (by decide) (fun hc => ?_) (fun hc => ?_)
    · have hf := ife_f hc hf
      refine g_iconst (v := (0 : Int32)) X dX14_word_26 (by decide) ?_
      refine g_sub (lvsub_of _ _ [0, 1, 2, 3] rfl) ?_
      exact t_X14_word_27 X hr _ _ _ _ _ _ _ hf hK
    · have hf := ife_t hc hf
      refine g_iconst (v := (1 : Int32)) X dX14_word_22 (by decide) ?_
      refine g_goto (tgt := 27) X dX14_word_23 (by decide) ?_
      refine g_sub (lvsub_of _ _ [0, 1, 2, 3] rfl) ?_
      exact t_X14_word_27 X hr _ _ _ _ _ _ _ hf hK
set_option maxHeartbeats 4000000 in
set_option maxRecDepth 100000 in
theorem tl_X14_word_2 (X : gX p s m args meth c D cy B (gSt Z B H0) RX14 cX14_word wsX14_word 6) (hr : meth.sig.returnType = (some .int)) {Q : State → Prop} : ∀ (M : gMem) (x0 : Nat) (x1 : Int32) (x2 : Int32) (x3 : Int32) (z : Int32 × gMem), lp_X14_word_2 Z M x0 x1 x2 x3 = some z → (fun (r : Int32 × gMem) => Q = gMQ below D cy B H0 args s 0 0 (some (vI r.1)) r.2) z → gGo p l e rX14_word s m args below meth c D cy B H0 6 0 0 Q 2 [(0, vR (some x0)), (1, vI x1), (2, vI x2), (3, vI x3)] [] M := by
  intro M x0 x1 x2 x3 z hf hK
  refine lp_ind (P := (fun (q : gMem × Int32) (z : Int32 × gMem) => (fun (r : Int32 × gMem) => Q = gMQ below D cy B H0 args s 0 0 (some (vI r.1)) r.2) z → gGo p l e rX14_word s m args below meth c D cy B H0 6 0 0 Q 2 [(0, vR (some x0)), (1, vI x1), (2, vI x2), (3, vI q.2)] [] q.1)) (fun q z hq => ?_) _ _ hf hK
  intro hK
  obtain ⟨w, hw, hm⟩ := hq
  refine tb_X14_word_2 X hr _ _ _ _ _ w hw ?_
  cases w with
  | inl a => exact hm hK
  | inr b => cases hm; exact hK
set_option maxHeartbeats 4000000 in
set_option maxRecDepth 100000 in
theorem t_X14_word_0 (X : gX p s m args meth c D cy B (gSt Z B H0) RX14 cX14_word wsX14_word 6) (hr : meth.sig.returnType = (some .int)) {Q : State → Prop} : ∀ (M : gMem) (x0 : Nat) (x1 : Int32) (x2 : Int32) (z : Int32 × gMem), b_X14_word_0 Z M x0 x1 x2 = some z → (fun (r : Int32 × gMem) => Q = gMQ below D cy B H0 args s 0 0 (some (vI r.1)) r.2) z → gGo p l e rX14_word s m args below meth c D cy B H0 6 0 0 Q 0 [(0, vR (some x0)), (1, vI x1), (2, vI x2)] [] M := by
  intro M x0 x1 x2 z hf hK
  unfold b_X14_word_0 at hf
  refine g_iconst (v := (0 : Int32)) X dX14_word_0 (by decide) ?_
  refine g_istore_n (lv' := [(3, vI (0 : Int32)), (0, vR (some x0)), (1, vI x1), (2, vI x2)]) X dX14_word_1 rfl (by decide) rfl ?_
  refine g_sub (lvsub_of _ _ [1, 2, 3, 0] rfl) ?_
  exact tl_X14_word_2 X hr _ _ _ _ _ _ hf hK
set_option maxHeartbeats 4000000 in
set_option maxRecDepth 100000 in
theorem m_X14_word (l : Launch) {D : va_G} {cy : Nat → ClassId} {B : Nat} {H0 : Heap} {Z : Nat → Nat} {M M1 : gMem} {x0 : Nat} {x1 : Int32} {x2 : Int32} {r : Int32} (hf : f_X14_word Z M x0 x1 x2 = some (r, M1)) : Met l yX14_word wsX14_word rX14_word (va_Pc (Value.ref x0 :: List.map gv [vI x1, vI x2]) (gPre D cy B H0 (gSt Z B H0) M)) (gQ D cy B H0 (some (vI r)) M1) 0 0 (gA B) := by
  refine Met.ofW (cc := cX14_word) (maxL := 6) (ret := (some .int)) (by decide) rfl ?_
  intro p e s m args below meth c s₁ Bd hml hv
  obtain ⟨rfl, hW, hKK, hFs⟩ := hv
  have X : gX p s m _ meth c D cy B (gSt Z B H0) RX14 cX14_word wsX14_word 6 := ⟨Bd.exec, Bd.bytes, atoms_spec (ws := wsX14_word) Bd.pre, findClass_of_methodNamed Bd.named, hml, hKK, by rw [hW.1]; exact hW.2.1, Bd.notSynchronized, hFs⟩
  have hr := Bd.returns
  have hl := lv_entry ([.ref x0, .int x1, .int x2]) (n := 6) (Nat.le_of_ble_eq_true rfl)
  show W p l e rX14_word s m _ below meth c s.heap [] 0 0 _ (entryFrame m ([.ref x0, .int x1, .int x2] : List Value).toArray 6)
  rw [lg_entry_eq]
  generalize (lg_sl ([.ref x0, .int x1, .int x2]) ++ List.replicate (6 - (lg_sl ([.ref x0, .int x1, .int x2])).length) Slot.unset).toArray = ls at hl ⊢
  have hl : lv_has ls 6 (List.map gq [(0, vR (some x0)), (1, vI x1), (2, vI x2)]) := hl
  exact t_X14_word_0 X hr _ _ _ _ _ hf rfl s.heap [] ls hW va_S.rf (lv_has_sub hl (lvsub_of _ _ [0, 1, 2] rfl))
/-! ## TideLotsModel.kindAt(II)I -/
theorem dX14_kindAt_0 : decode cX14_kindAt 0 = .ok (.aload_n 0, 1) := by decide +kernel
theorem dX14_kindAt_1 : decode cX14_kindAt 1 = .ok (.iload_n 1, 1) := by decide +kernel
theorem dX14_kindAt_2 : decode cX14_kindAt 2 = .ok (.invokevirtual 82, 3) := by decide +kernel
theorem dX14_kindAt_5 : decode cX14_kindAt 5 = .ok (.istore_n 3, 1) := by decide +kernel
theorem dX14_kindAt_6 : decode cX14_kindAt 6 = .ok (.iload_n 1, 1) := by decide +kernel
theorem dX14_kindAt_7 : decode cX14_kindAt 7 = .ok (.iconst 1, 1) := by decide +kernel
theorem dX14_kindAt_8 : decode cX14_kindAt 8 = .ok (.iadd, 1) := by decide +kernel
theorem dX14_kindAt_9 : decode cX14_kindAt 9 = .ok (.istore 4, 2) := by decide +kernel
theorem dX14_kindAt_11 : decode cX14_kindAt 11 = .ok (.iload_n 3, 1) := by decide +kernel
theorem dX14_kindAt_12 : decode cX14_kindAt 12 = .ok (.iconst (-1), 1) := by decide +kernel
theorem dX14_kindAt_13 : decode cX14_kindAt 13 = .ok (.if_icmp .ne 7, 3) := by decide +kernel
theorem dX14_kindAt_16 : decode cX14_kindAt 16 = .ok (.sipush 900, 3) := by decide +kernel
theorem dX14_kindAt_19 : decode cX14_kindAt 19 = .ok (.ireturn, 1) := by decide +kernel
theorem dX14_kindAt_20 : decode cX14_kindAt 20 = .ok (.iload_n 3, 1) := by decide +kernel
theorem dX14_kindAt_21 : decode cX14_kindAt 21 = .ok (.invokestatic 86, 3) := by decide +kernel
theorem dX14_kindAt_24 : decode cX14_kindAt 24 = .ok (.ifCond .ne 10, 3) := by decide +kernel
theorem dX14_kindAt_27 : decode cX14_kindAt 27 = .ok (.iload_n 3, 1) := by decide +kernel
theorem dX14_kindAt_28 : decode cX14_kindAt 28 = .ok (.invokestatic 90, 3) := by decide +kernel
theorem dX14_kindAt_31 : decode cX14_kindAt 31 = .ok (.ifCond .eq 97, 3) := by decide +kernel
theorem dX14_kindAt_34 : decode cX14_kindAt 34 = .ok (.aload_n 0, 1) := by decide +kernel
theorem dX14_kindAt_35 : decode cX14_kindAt 35 = .ok (.iload 4, 2) := by decide +kernel
theorem dX14_kindAt_37 : decode cX14_kindAt 37 = .ok (.invokevirtual 82, 3) := by decide +kernel
theorem dX14_kindAt_40 : decode cX14_kindAt 40 = .ok (.invokestatic 90, 3) := by decide +kernel
theorem dX14_kindAt_43 : decode cX14_kindAt 43 = .ok (.ifCond .ne 22, 3) := by decide +kernel
theorem dX14_kindAt_46 : decode cX14_kindAt 46 = .ok (.iload_n 3, 1) := by decide +kernel
theorem dX14_kindAt_47 : decode cX14_kindAt 47 = .ok (.invokestatic 86, 3) := by decide +kernel
theorem dX14_kindAt_50 : decode cX14_kindAt 50 = .ok (.ifCond .eq 21, 3) := by decide +kernel
theorem dX14_kindAt_53 : decode cX14_kindAt 53 = .ok (.aload_n 0, 1) := by decide +kernel
theorem dX14_kindAt_54 : decode cX14_kindAt 54 = .ok (.iload 4, 2) := by decide +kernel
theorem dX14_kindAt_56 : decode cX14_kindAt 56 = .ok (.invokevirtual 82, 3) := by decide +kernel
theorem dX14_kindAt_59 : decode cX14_kindAt 59 = .ok (.invokestatic 86, 3) := by decide +kernel
theorem dX14_kindAt_62 : decode cX14_kindAt 62 = .ok (.ifCond .eq 9, 3) := by decide +kernel
theorem dX14_kindAt_65 : decode cX14_kindAt 65 = .ok (.iinc 4 1, 3) := by decide +kernel
theorem dX14_kindAt_68 : decode cX14_kindAt 68 = .ok (.goto (-34), 3) := by decide +kernel
theorem dX14_kindAt_71 : decode cX14_kindAt 71 = .ok (.aload_n 0, 1) := by decide +kernel
theorem dX14_kindAt_72 : decode cX14_kindAt 72 = .ok (.getfield 23, 3) := by decide +kernel
theorem dX14_kindAt_75 : decode cX14_kindAt 75 = .ok (.iload_n 2, 1) := by decide +kernel
theorem dX14_kindAt_76 : decode cX14_kindAt 76 = .ok (.iload 4, 2) := by decide +kernel
theorem dX14_kindAt_78 : decode cX14_kindAt 78 = .ok (.iload_n 1, 1) := by decide +kernel
theorem dX14_kindAt_79 : decode cX14_kindAt 79 = .ok (.isub, 1) := by decide +kernel
theorem dX14_kindAt_80 : decode cX14_kindAt 80 = .ok (.iastore, 1) := by decide +kernel
theorem dX14_kindAt_81 : decode cX14_kindAt 81 = .ok (.iload 4, 2) := by decide +kernel
theorem dX14_kindAt_83 : decode cX14_kindAt 83 = .ok (.iload_n 1, 1) := by decide +kernel
theorem dX14_kindAt_84 : decode cX14_kindAt 84 = .ok (.isub, 1) := by decide +kernel
theorem dX14_kindAt_85 : decode cX14_kindAt 85 = .ok (.iload_n 3, 1) := by decide +kernel
theorem dX14_kindAt_86 : decode cX14_kindAt 86 = .ok (.invokestatic 86, 3) := by decide +kernel
theorem dX14_kindAt_89 : decode cX14_kindAt 89 = .ok (.ifCond .eq 8, 3) := by decide +kernel
theorem dX14_kindAt_92 : decode cX14_kindAt 92 = .ok (.bipush 10, 2) := by decide +kernel
theorem dX14_kindAt_94 : decode cX14_kindAt 94 = .ok (.goto 5, 3) := by decide +kernel
theorem dX14_kindAt_97 : decode cX14_kindAt 97 = .ok (.bipush 6, 2) := by decide +kernel
theorem dX14_kindAt_99 : decode cX14_kindAt 99 = .ok (.if_icmp .le 7, 3) := by decide +kernel
theorem dX14_kindAt_102 : decode cX14_kindAt 102 = .ok (.sipush 901, 3) := by decide +kernel
theorem dX14_kindAt_105 : decode cX14_kindAt 105 = .ok (.ireturn, 1) := by decide +kernel
theorem dX14_kindAt_106 : decode cX14_kindAt 106 = .ok (.iload_n 3, 1) := by decide +kernel
theorem dX14_kindAt_107 : decode cX14_kindAt 107 = .ok (.invokestatic 86, 3) := by decide +kernel
theorem dX14_kindAt_110 : decode cX14_kindAt 110 = .ok (.ifCond .eq 15, 3) := by decide +kernel
theorem dX14_kindAt_113 : decode cX14_kindAt 113 = .ok (.aload_n 0, 1) := by decide +kernel
theorem dX14_kindAt_114 : decode cX14_kindAt 114 = .ok (.iload_n 1, 1) := by decide +kernel
theorem dX14_kindAt_115 : decode cX14_kindAt 115 = .ok (.iload 4, 2) := by decide +kernel
theorem dX14_kindAt_117 : decode cX14_kindAt 117 = .ok (.iload_n 1, 1) := by decide +kernel
theorem dX14_kindAt_118 : decode cX14_kindAt 118 = .ok (.isub, 1) := by decide +kernel
theorem dX14_kindAt_119 : decode cX14_kindAt 119 = .ok (.invokevirtual 93, 3) := by decide +kernel
theorem dX14_kindAt_122 : decode cX14_kindAt 122 = .ok (.goto 5, 3) := by decide +kernel
theorem dX14_kindAt_125 : decode cX14_kindAt 125 = .ok (.bipush 41, 2) := by decide +kernel
theorem dX14_kindAt_127 : decode cX14_kindAt 127 = .ok (.ireturn, 1) := by decide +kernel
theorem dX14_kindAt_128 : decode cX14_kindAt 128 = .ok (.iload_n 3, 1) := by decide +kernel
theorem dX14_kindAt_129 : decode cX14_kindAt 129 = .ok (.bipush 60, 2) := by decide +kernel
theorem dX14_kindAt_131 : decode cX14_kindAt 131 = .ok (.if_icmp .eq 9, 3) := by decide +kernel
theorem dX14_kindAt_134 : decode cX14_kindAt 134 = .ok (.iload_n 3, 1) := by decide +kernel
theorem dX14_kindAt_135 : decode cX14_kindAt 135 = .ok (.bipush 62, 2) := by decide +kernel
theorem dX14_kindAt_137 : decode cX14_kindAt 137 = .ok (.if_icmp .ne 18, 3) := by decide +kernel
theorem dX14_kindAt_140 : decode cX14_kindAt 140 = .ok (.aload_n 0, 1) := by decide +kernel
theorem dX14_kindAt_141 : decode cX14_kindAt 141 = .ok (.iload 4, 2) := by decide +kernel
theorem dX14_kindAt_143 : decode cX14_kindAt 143 = .ok (.invokevirtual 82, 3) := by decide +kernel
theorem dX14_kindAt_146 : decode cX14_kindAt 146 = .ok (.bipush 61, 2) := by decide +kernel
theorem dX14_kindAt_148 : decode cX14_kindAt 148 = .ok (.if_icmp .ne 7, 3) := by decide +kernel
theorem dX14_kindAt_151 : decode cX14_kindAt 151 = .ok (.iconst 1, 1) := by decide +kernel
theorem dX14_kindAt_152 : decode cX14_kindAt 152 = .ok (.goto 4, 3) := by decide +kernel
theorem dX14_kindAt_155 : decode cX14_kindAt 155 = .ok (.iconst 0, 1) := by decide +kernel
theorem dX14_kindAt_156 : decode cX14_kindAt 156 = .ok (.istore 5, 2) := by decide +kernel
theorem dX14_kindAt_158 : decode cX14_kindAt 158 = .ok (.aload_n 0, 1) := by decide +kernel
theorem dX14_kindAt_159 : decode cX14_kindAt 159 = .ok (.getfield 23, 3) := by decide +kernel
theorem dX14_kindAt_162 : decode cX14_kindAt 162 = .ok (.iload_n 2, 1) := by decide +kernel
theorem dX14_kindAt_163 : decode cX14_kindAt 163 = .ok (.iload 5, 2) := by decide +kernel
theorem dX14_kindAt_165 : decode cX14_kindAt 165 = .ok (.ifCond .eq 7, 3) := by decide +kernel
theorem dX14_kindAt_168 : decode cX14_kindAt 168 = .ok (.iconst 2, 1) := by decide +kernel
theorem dX14_kindAt_169 : decode cX14_kindAt 169 = .ok (.goto 4, 3) := by decide +kernel
theorem dX14_kindAt_172 : decode cX14_kindAt 172 = .ok (.iconst 1, 1) := by decide +kernel
theorem dX14_kindAt_173 : decode cX14_kindAt 173 = .ok (.iastore, 1) := by decide +kernel
theorem dX14_kindAt_174 : decode cX14_kindAt 174 = .ok (.iload 5, 2) := by decide +kernel
theorem dX14_kindAt_176 : decode cX14_kindAt 176 = .ok (.ifCond .eq 19, 3) := by decide +kernel
theorem dX14_kindAt_179 : decode cX14_kindAt 179 = .ok (.iload_n 3, 1) := by decide +kernel
theorem dX14_kindAt_180 : decode cX14_kindAt 180 = .ok (.bipush 60, 2) := by decide +kernel
theorem dX14_kindAt_182 : decode cX14_kindAt 182 = .ok (.if_icmp .ne 9, 3) := by decide +kernel
theorem dX14_kindAt_185 : decode cX14_kindAt 185 = .ok (.sipush 300, 3) := by decide +kernel
theorem dX14_kindAt_188 : decode cX14_kindAt 188 = .ok (.goto 6, 3) := by decide +kernel
theorem dX14_kindAt_191 : decode cX14_kindAt 191 = .ok (.sipush 301, 3) := by decide +kernel
theorem dX14_kindAt_194 : decode cX14_kindAt 194 = .ok (.ireturn, 1) := by decide +kernel
theorem dX14_kindAt_195 : decode cX14_kindAt 195 = .ok (.iload_n 3, 1) := by decide +kernel
theorem dX14_kindAt_196 : decode cX14_kindAt 196 = .ok (.ifCond .le 27, 3) := by decide +kernel
theorem dX14_kindAt_199 : decode cX14_kindAt 199 = .ok (.iload_n 3, 1) := by decide +kernel
theorem dX14_kindAt_200 : decode cX14_kindAt 200 = .ok (.sipush 128, 3) := by decide +kernel
theorem dX14_kindAt_203 : decode cX14_kindAt 203 = .ok (.if_icmp .ge 20, 3) := by decide +kernel
theorem dX14_kindAt_206 : decode cX14_kindAt 206 = .ok (.ldc 96, 2) := by decide +kernel
theorem dX14_kindAt_208 : decode cX14_kindAt 208 = .ok (.iload_n 3, 1) := by decide +kernel
theorem dX14_kindAt_209 : decode cX14_kindAt 209 = .ok (.i2c, 1) := by decide +kernel
theorem dX14_kindAt_210 : decode cX14_kindAt 210 = .ok (.invokevirtual 98, 3) := by decide +kernel
theorem dX14_kindAt_213 : decode cX14_kindAt 213 = .ok (.ifCond .lt 10, 3) := by decide +kernel
theorem dX14_kindAt_216 : decode cX14_kindAt 216 = .ok (.bipush 50, 2) := by decide +kernel
theorem dX14_kindAt_218 : decode cX14_kindAt 218 = .ok (.iload_n 3, 1) := by decide +kernel
theorem dX14_kindAt_219 : decode cX14_kindAt 219 = .ok (.iadd, 1) := by decide +kernel
theorem dX14_kindAt_220 : decode cX14_kindAt 220 = .ok (.goto 6, 3) := by decide +kernel
theorem dX14_kindAt_223 : decode cX14_kindAt 223 = .ok (.sipush 901, 3) := by decide +kernel
theorem dX14_kindAt_226 : decode cX14_kindAt 226 = .ok (.ireturn, 1) := by decide +kernel
set_option maxRecDepth 20000 in
theorem ggX14_kindAt_J0_indexOf_0f7a4 : GoodIn wsX14_kindAt wsJ0_indexOf_0f7a4 := goodIn_2 24 (goodIn_rr wsB_X14_kindAt_in _ [(3, 23), (4, 0), (4, 1), (4, 2), (1, 22), (4, 3), (2, 0), (2, 11), (2, 12), (2, 13), (2, 14), (2, 5), (2, 6), (4, 4), (1, 20), (1, 21), (1, 23), (2, 1), (2, 2), (2, 3), (2, 4), (4, 5), (4, 6), (2, 17)] (by decide +kernel) (by decide +kernel)) (goodIn_2 24 (goodIn_rr wsB_X14_kindAt_in _ [(4, 7), (4, 8), (4, 9), (4, 10), (4, 11), (4, 12), (4, 13), (4, 14), (4, 15), (4, 16), (4, 17), (4, 18), (4, 19), (4, 20), (4, 21), (4, 22), (3, 5), (4, 23), (5, 0), (5, 1), (5, 2), (5, 3), (5, 4), (5, 5)] (by decide +kernel) (by decide +kernel)) (goodIn_2 24 (goodIn_rr wsB_X14_kindAt_in _ [(5, 6), (5, 7), (5, 8), (3, 10), (3, 11), (3, 12), (5, 9), (5, 10), (5, 11), (2, 22), (5, 12), (5, 13), (3, 1), (5, 14), (5, 15), (5, 16), (5, 17), (3, 14), (3, 15), (3, 16), (3, 17), (3, 18), (3, 19), (5, 18)] (by decide +kernel) (by decide +kernel)) (goodIn_rr wsB_X14_kindAt_in _ [(5, 19), (5, 20), (5, 21), (5, 22), (5, 23), (6, 0), (6, 1), (6, 2), (6, 3), (6, 4), (6, 5), (6, 6), (6, 7), (6, 8)] (by decide +kernel) (by decide +kernel))))
set_option maxRecDepth 20000 in
theorem gX14_kindAt_J0_indexOf_0f7a4 : GoodIn wsX14_kindAt (wsV RX14 98 RJ0 yJ0_indexOf_0f7a4 wsJ0_indexOf_0f7a4) := goodIn_app (goodIn_rr wsB_X14_kindAt_in _ [(3, 20), (3, 21), (3, 22), (1, 22)] (by decide +kernel) (by decide +kernel)) ggX14_kindAt_J0_indexOf_0f7a4
set_option maxRecDepth 20000 in
theorem ggX14_kindAt_X14_byteOf : GoodIn wsX14_kindAt wsX14_byteOf := goodIn_rr wsB_X14_kindAt_in _ [(1, 5), (1, 6), (1, 7), (7, 0), (7, 1), (7, 2), (7, 3), (7, 4), (7, 5), (7, 6), (7, 7), (7, 8), (7, 9), (7, 10), (7, 11), (7, 12), (7, 13), (7, 14)] (by decide +kernel) (by decide +kernel)
set_option maxRecDepth 20000 in
theorem gX14_kindAt_X14_byteOf : GoodIn wsX14_kindAt (wsV RX14 82 RX14 yX14_byteOf wsX14_byteOf) := goodIn_app (goodIn_rr wsB_X14_kindAt_in _ [(1, 1), (1, 2), (1, 3), (1, 4)] (by decide +kernel) (by decide +kernel)) ggX14_kindAt_X14_byteOf
set_option maxRecDepth 20000 in
theorem ggX14_kindAt_X14_isLetter : GoodIn wsX14_kindAt wsX14_isLetter := goodIn_rr wsB_X14_kindAt_in _ [(1, 10)] (by decide +kernel) (by decide +kernel)
set_option maxRecDepth 20000 in
theorem gX14_kindAt_X14_isLetter : GoodIn wsX14_kindAt (va_wsS RX14 86 yX14_isLetter wsX14_isLetter) := goodIn_app (goodIn_rr wsB_X14_kindAt_in _ [(1, 8), (1, 9), (1, 4)] (by decide +kernel) (by decide +kernel)) ggX14_kindAt_X14_isLetter
set_option maxRecDepth 20000 in
theorem ggX14_kindAt_X14_word : GoodIn wsX14_kindAt wsX14_word := goodIn_2 24 (goodIn_rr wsB_X14_kindAt_in _ [(1, 17), (1, 18), (1, 7), (1, 19), (1, 20), (1, 21), (1, 22), (1, 23), (2, 0), (2, 1), (2, 2), (2, 3), (2, 4), (2, 5), (2, 6), (2, 7), (2, 8), (2, 9), (2, 10), (2, 11), (2, 12), (2, 13), (2, 14), (2, 15)] (by decide +kernel) (by decide +kernel)) (goodIn_2 24 (goodIn_rr wsB_X14_kindAt_in _ [(2, 16), (2, 17), (2, 18), (2, 19), (2, 20), (2, 21), (2, 22), (2, 23), (3, 0), (3, 1), (3, 2), (3, 3), (3, 4), (3, 5), (3, 6), (3, 7), (3, 8), (3, 9), (3, 10), (3, 11), (3, 12), (3, 13), (3, 14), (3, 15)] (by decide +kernel) (by decide +kernel)) (goodIn_rr wsB_X14_kindAt_in _ [(3, 16), (3, 17), (3, 18), (3, 19), (7, 0), (7, 1), (7, 2), (7, 3), (7, 4), (7, 5), (7, 6), (7, 7), (7, 8), (7, 9), (7, 10), (7, 11), (7, 12), (7, 13), (7, 14)] (by decide +kernel) (by decide +kernel)))
set_option maxRecDepth 20000 in
theorem gX14_kindAt_X14_word : GoodIn wsX14_kindAt (wsV RX14 93 RX14 yX14_word wsX14_word) := goodIn_app (goodIn_rr wsB_X14_kindAt_in _ [(1, 14), (1, 15), (1, 16), (1, 4)] (by decide +kernel) (by decide +kernel)) ggX14_kindAt_X14_word
set_option maxRecDepth 20000 in
theorem ggX14_kindAt_X14_isDigit : GoodIn wsX14_kindAt wsX14_isDigit := goodIn_rr wsB_X14_kindAt_in _ [(1, 13)] (by decide +kernel) (by decide +kernel)
set_option maxRecDepth 20000 in
theorem gX14_kindAt_X14_isDigit : GoodIn wsX14_kindAt (va_wsS RX14 90 yX14_isDigit wsX14_isDigit) := goodIn_app (goodIn_rr wsB_X14_kindAt_in _ [(1, 11), (1, 12), (1, 4)] (by decide +kernel) (by decide +kernel)) ggX14_kindAt_X14_isDigit
theorem k_X14_kindAt_f23 : Cond.fieldLink RX14 23 "TideLotsModel" "many" "[I" ∈ wsX14_kindAt := by decide +kernel
theorem i_X14_kindAt_X14 : ∀ w ∈ u_ws RX14 TX14 15, w ∈ wsX14_kindAt := by decide +kernel
abbrev rX14_kindAt : Room := { frames := 5, cells := 0, slots := 0, locals := 110 }
noncomputable def b_X14_kindAt_226 (Z : Nat → Nat) (M : gMem) (s0 : Int32) : Option (Int32 × gMem) :=
  some (s0, M)
noncomputable def b_X14_kindAt_223 (Z : Nat → Nat) (M : gMem)  : Option (Int32 × gMem) :=
  b_X14_kindAt_226 Z M ((901 : Int32))
noncomputable def b_X14_kindAt_194 (Z : Nat → Nat) (M : gMem) (s0 : Int32) : Option (Int32 × gMem) :=
  some (s0, M)
noncomputable def b_X14_kindAt_173 (Z : Nat → Nat) (M : gMem) (x3 : Int32) (x5 : Int32) (s0 : Option Nat) (s1 : Int32) (s2 : Int32) : Option (Int32 × gMem) :=
  dr s0 fun a1 => ck (mT M a1 = 20) <| ck (inb s1 (mL M a1)) <| lw (wI M a1 s1.toNatClampNeg s2) fun M4 => (if x5 = 0 then (if x3 ≤ 0 then b_X14_kindAt_223 Z M4  else (if (128 : Int32) ≤ x3 then b_X14_kindAt_223 Z M4  else bd (f_J0_indexOf_0f7a4 Z M4 70 ((i2cV x3))) fun r6 M6 => (if r6 < 0 then b_X14_kindAt_223 Z M6  else b_X14_kindAt_226 Z M6 (((50 : Int32) + x3))))) else (if x3 = (60 : Int32) then b_X14_kindAt_194 Z M4 ((300 : Int32)) else b_X14_kindAt_194 Z M4 ((301 : Int32))))
noncomputable def b_X14_kindAt_156 (Z : Nat → Nat) (M : gMem) (x0 : Nat) (x2 : Int32) (x3 : Int32) (s0 : Int32) : Option (Int32 × gMem) :=
  ck (mT M x0 = 13) <| (if s0 = 0 then b_X14_kindAt_173 Z M x3 s0 ((mR M x0 6)) x2 ((1 : Int32)) else b_X14_kindAt_173 Z M x3 s0 ((mR M x0 6)) x2 ((2 : Int32)))
noncomputable def b_X14_kindAt_155 (Z : Nat → Nat) (M : gMem) (x0 : Nat) (x2 : Int32) (x3 : Int32) : Option (Int32 × gMem) :=
  b_X14_kindAt_156 Z M x0 x2 x3 ((0 : Int32))
noncomputable def b_X14_kindAt_140 (Z : Nat → Nat) (M : gMem) (x0 : Nat) (x2 : Int32) (x3 : Int32) (x4 : Int32) : Option (Int32 × gMem) :=
  ck (mT M x0 = 13) <| bd (f_X14_byteOf M x0 x4) fun r8 M8 => (if r8 = (61 : Int32) then b_X14_kindAt_156 Z M8 x0 x2 x3 ((1 : Int32)) else b_X14_kindAt_155 Z M8 x0 x2 x3)
noncomputable def b_X14_kindAt_127 (Z : Nat → Nat) (M : gMem) (s0 : Int32) : Option (Int32 × gMem) :=
  some (s0, M)
noncomputable def b_X14_kindAt_99 (Z : Nat → Nat) (M : gMem) (x0 : Nat) (x1 : Int32) (x3 : Int32) (x4 : Int32) (s0 : Int32) (s1 : Int32) : Option (Int32 × gMem) :=
  (if s0 ≤ s1 then bd (f_X14_isLetter M x3) fun r10 M10 => (if r10 = 0 then b_X14_kindAt_127 Z M10 ((41 : Int32)) else ck (mT M10 x0 = 13) <| bd (f_X14_word Z M10 x0 x1 ((x4 - x1))) fun r11 M11 => b_X14_kindAt_127 Z M11 r11) else some ((901 : Int32), M))
noncomputable def b_X14_kindAt_71 (Z : Nat → Nat) (M : gMem) (x0 : Nat) (x1 : Int32) (x2 : Int32) (x3 : Int32) (x4 : Int32) : Option (Int32 × gMem) :=
  ck (mT M x0 = 13) <| dr ((mR M x0 6)) fun a14 => ck (mT M a14 = 20) <| ck (inb x2 (mL M a14)) <| lw (wI M a14 x2.toNatClampNeg ((x4 - x1))) fun M17 => bd (f_X14_isLetter M17 x3) fun r20 M20 => (if r20 = 0 then b_X14_kindAt_99 Z M20 x0 x1 x3 x4 ((x4 - x1)) ((6 : Int32)) else b_X14_kindAt_99 Z M20 x0 x1 x3 x4 ((x4 - x1)) ((10 : Int32)))
noncomputable def b_X14_kindAt_65 (Z : Nat → Nat) (M : gMem) (x0 : Nat) (x1 : Int32) (x2 : Int32) (x3 : Int32) (x4 : Int32) : Option ((gMem × Int32) ⊕ (Int32 × gMem)) :=
  some (.inl (M, (x4 + (1 : Int32))))
noncomputable def bb_X14_kindAt_34 (Z : Nat → Nat) (M : gMem) (x0 : Nat) (x1 : Int32) (x2 : Int32) (x3 : Int32) (x4 : Int32) : Option ((gMem × Int32) ⊕ (Int32 × gMem)) :=
  ck (mT M x0 = 13) <| bd (f_X14_byteOf M x0 x4) fun r21 M21 => bd (f_X14_isDigit M21 r21) fun r23 M23 => (if r23 = 0 then bd (f_X14_isLetter M23 x3) fun r24 M24 => (if r24 = 0 then oI (b_X14_kindAt_71 Z M24 x0 x1 x2 x3 x4) else ck (mT M24 x0 = 13) <| bd (f_X14_byteOf M24 x0 x4) fun r26 M26 => bd (f_X14_isLetter M26 r26) fun r28 M28 => (if r28 = 0 then oI (b_X14_kindAt_71 Z M28 x0 x1 x2 x3 x4) else b_X14_kindAt_65 Z M28 x0 x1 x2 x3 x4)) else b_X14_kindAt_65 Z M23 x0 x1 x2 x3 x4)
noncomputable def lp_X14_kindAt_34 (Z : Nat → Nat) (M : gMem) (x0 : Nat) (x1 : Int32) (x2 : Int32) (x3 : Int32) (x4 : Int32) : Option (Int32 × gMem) :=
  lp (fun (q : gMem × Int32) => bb_X14_kindAt_34 Z q.1 x0 x1 x2 x3 q.2) (M, x4)
noncomputable def b_X14_kindAt_0 (Z : Nat → Nat) (M : gMem) (x0 : Nat) (x1 : Int32) (x2 : Int32) : Option (Int32 × gMem) :=
  ck (mT M x0 = 13) <| bd (f_X14_byteOf M x0 x1) fun r30 M30 => (if r30 = (-1 : Int32) then some ((900 : Int32), M30) else bd (f_X14_isLetter M30 r30) fun r32 M32 => (if r32 = 0 then bd (f_X14_isDigit M32 r30) fun r33 M33 => (if r33 = 0 then (if r30 = (60 : Int32) then b_X14_kindAt_140 Z M33 x0 x2 r30 ((x1 + (1 : Int32))) else (if r30 = (62 : Int32) then b_X14_kindAt_140 Z M33 x0 x2 r30 ((x1 + (1 : Int32))) else b_X14_kindAt_155 Z M33 x0 x2 r30)) else lp_X14_kindAt_34 Z M33 x0 x1 x2 r30 ((x1 + (1 : Int32)))) else lp_X14_kindAt_34 Z M32 x0 x1 x2 r30 ((x1 + (1 : Int32)))))
noncomputable def f_X14_kindAt (Z : Nat → Nat) (M : gMem) (x0 : Nat) (x1 : Int32) (x2 : Int32) : Option (Int32 × gMem) :=
  b_X14_kindAt_0 Z M x0 x1 x2
set_option maxHeartbeats 4000000 in
set_option maxRecDepth 100000 in
theorem t_X14_kindAt_226 (X2 : gX p s m args meth c D cy B (gSt2 Z B H0) RX14 cX14_kindAt wsX14_kindAt 6) (hr : meth.sig.returnType = (some .int)) {Q : State → Prop} : ∀ (M : gMem) (s0 : Int32) (z : Int32 × gMem), b_X14_kindAt_226 Z M s0 = some z → (fun (r : Int32 × gMem) => Q = gMQ below D cy B H0 args s 0 0 (some (vI r.1)) r.2) z → gGo p l e rX14_kindAt s m args below meth c D cy B H0 6 0 0 Q 226 [] [vI s0] M := by
  intro M s0 z hf hK
  unfold b_X14_kindAt_226 at hf
  have X := gX_w X2
  cases hf
  refine g_eqQ hK ?_
  exact g_iret X hr dX14_kindAt_226
set_option maxHeartbeats 4000000 in
set_option maxRecDepth 100000 in
theorem t_X14_kindAt_223 (X2 : gX p s m args meth c D cy B (gSt2 Z B H0) RX14 cX14_kindAt wsX14_kindAt 6) (hr : meth.sig.returnType = (some .int)) {Q : State → Prop} : ∀ (M : gMem)  (z : Int32 × gMem), b_X14_kindAt_223 Z M  = some z → (fun (r : Int32 × gMem) => Q = gMQ below D cy B H0 args s 0 0 (some (vI r.1)) r.2) z → gGo p l e rX14_kindAt s m args below meth c D cy B H0 6 0 0 Q 223 [] [] M := by
  intro M  z hf hK
  unfold b_X14_kindAt_223 at hf
  have X := gX_w X2
  refine g_sipush (v := (901 : Int32)) X dX14_kindAt_223 (by decide) ?_
  refine g_sub (lvsub_of _ _ [] rfl) ?_
  exact t_X14_kindAt_226 X2 hr _ _ _ hf hK
set_option maxHeartbeats 4000000 in
set_option maxRecDepth 100000 in
theorem t_X14_kindAt_194 (X2 : gX p s m args meth c D cy B (gSt2 Z B H0) RX14 cX14_kindAt wsX14_kindAt 6) (hr : meth.sig.returnType = (some .int)) {Q : State → Prop} : ∀ (M : gMem) (s0 : Int32) (z : Int32 × gMem), b_X14_kindAt_194 Z M s0 = some z → (fun (r : Int32 × gMem) => Q = gMQ below D cy B H0 args s 0 0 (some (vI r.1)) r.2) z → gGo p l e rX14_kindAt s m args below meth c D cy B H0 6 0 0 Q 194 [] [vI s0] M := by
  intro M s0 z hf hK
  unfold b_X14_kindAt_194 at hf
  have X := gX_w X2
  cases hf
  refine g_eqQ hK ?_
  exact g_iret X hr dX14_kindAt_194
set_option maxHeartbeats 4000000 in
set_option maxRecDepth 100000 in
theorem t_X14_kindAt_173 (X2 : gX p s m args meth c D cy B (gSt2 Z B H0) RX14 cX14_kindAt wsX14_kindAt 6) (hr : meth.sig.returnType = (some .int)) {Q : State → Prop} : ∀ (M : gMem) (x3 : Int32) (x5 : Int32) (s0 : Option Nat) (s1 : Int32) (s2 : Int32) (z : Int32 × gMem), b_X14_kindAt_173 Z M x3 x5 s0 s1 s2 = some z → (fun (r : Int32 × gMem) => Q = gMQ below D cy B H0 args s 0 0 (some (vI r.1)) r.2) z → gGo p l e rX14_kindAt s m args below meth c D cy B H0 6 0 0 Q 173 [(3, vI x3), (5, vI x5)] [vI s2, vI s1, vR s0] M := by
  intro M x3 x5 s0 s1 s2 z hf hK
  unfold b_X14_kindAt_173 at hf
  have X := gX_w X2
  obtain ⟨a1, ha1, hf⟩ := dr_e hf
  obtain ⟨hT2, hf⟩ := ck_e hf
  obtain ⟨hg3, hf⟩ := ck_e hf
  refine g_iast X dX14_kindAt_173 ha1 hT2 hg3 ?_
  obtain ⟨M4, hM4, hf⟩ := lw_e hf
  rw [← hM4]
  have hT5 : mT M4 a1 = 20 := by rw [hM4]; exact hT2
  refine g_iload X dX14_kindAt_174 rfl ?_
  refine g_if_eq (tgt := 195) X dX14_kindAt_176 (by decide) (fun hc => ?_) (fun hc => ?_)
  · have hf := ife_t hc hf
    refine g_iload_n X dX14_kindAt_195 rfl rfl ?_
    refine g_if_le (tgt := 223) X dX14_kindAt_196 (by decide) (fun hc => ?_) (fun hc => ?_)
    · have hf := ife_t hc hf
      refine g_sub (lvsub_of _ _ [] rfl) ?_
      exact t_X14_kindAt_223 X2 hr _  _ hf hK
    · have hf := ife_f hc hf
      refine g_iload_n X dX14_kindAt_199 rfl rfl ?_
      refine g_sipush (v := (128 : Int32)) X dX14_kindAt_200 (by decide) ?_
      refine g_icmp_ge (tgt := 223) X dX14_kindAt_203 (by decide) (fun hc => ?_) (fun hc => ?_)
      · have hf := ife_t hc hf
        refine g_sub (lvsub_of _ _ [] rfl) ?_
        exact t_X14_kindAt_223 X2 hr _  _ hf hK
      · have hf := ife_f hc hf
        refine g_lds (q := Z (100 + 70)) X (gSt2_lit X2) dX14_kindAt_206 ?_
        refine g_iload_n X dX14_kindAt_208 rfl rfl ?_
        refine g_i2c X dX14_kindAt_209 ?_
        obtain ⟨r6, M6, hq6, hf⟩ := bd_e hf
        refine g_callV0 (C := RJ0) (b := (Z (100 + 70))) (As := [vI (i2cV x3)]) (st := []) (v := some (vI r6)) (M1 := M6) X (m_J0_indexOf_0f7a4 l hq6) (cwV 1 X.2.2.1 gX14_kindAt_J0_indexOf_0f7a4 rfl rfl rfl (by decide +kernel) ⟨Nat.le_of_ble_eq_true rfl, Nat.le_of_ble_eq_true rfl⟩) rfl rfl rfl (fun H hW => gO_recv (gSt_sO X (by decide)) hW) (Nat.le_of_ble_eq_true rfl) dX14_kindAt_210 ⟨by decide, by decide⟩ ?_
        refine g_if_lt (tgt := 223) X dX14_kindAt_213 (by decide) (fun hc => ?_) (fun hc => ?_)
        · have hf := ife_t hc hf
          refine g_sub (lvsub_of _ _ [] rfl) ?_
          exact t_X14_kindAt_223 X2 hr _  _ hf hK
        · have hf := ife_f hc hf
          refine g_bipush (v := (50 : Int32)) X dX14_kindAt_216 (by decide) ?_
          refine g_iload_n X dX14_kindAt_218 rfl rfl ?_
          refine g_iadd X dX14_kindAt_219 ?_
          refine g_goto (tgt := 226) X dX14_kindAt_220 (by decide) ?_
          refine g_sub (lvsub_of _ _ [] rfl) ?_
          exact t_X14_kindAt_226 X2 hr _ _ _ hf hK
  · have hf := ife_f hc hf
    refine g_iload_n X dX14_kindAt_179 rfl rfl ?_
    refine g_bipush (v := (60 : Int32)) X dX14_kindAt_180 (by decide) ?_
    refine g_icmp_ne (tgt := 191) X dX14_kindAt_182 (by decide) (fun hc => ?_) (fun hc => ?_)
    · have hf := ife_f hc hf
      refine g_sipush (v := (301 : Int32)) X dX14_kindAt_191 (by decide) ?_
      refine g_sub (lvsub_of _ _ [] rfl) ?_
      exact t_X14_kindAt_194 X2 hr _ _ _ hf hK
    · have hf := ife_t hc hf
      refine g_sipush (v := (300 : Int32)) X dX14_kindAt_185 (by decide) ?_
      refine g_goto (tgt := 194) X dX14_kindAt_188 (by decide) ?_
      refine g_sub (lvsub_of _ _ [] rfl) ?_
      exact t_X14_kindAt_194 X2 hr _ _ _ hf hK
set_option maxHeartbeats 4000000 in
set_option maxRecDepth 100000 in
theorem t_X14_kindAt_156 (X2 : gX p s m args meth c D cy B (gSt2 Z B H0) RX14 cX14_kindAt wsX14_kindAt 6) (hr : meth.sig.returnType = (some .int)) {Q : State → Prop} : ∀ (M : gMem) (x0 : Nat) (x2 : Int32) (x3 : Int32) (s0 : Int32) (z : Int32 × gMem), b_X14_kindAt_156 Z M x0 x2 x3 s0 = some z → (fun (r : Int32 × gMem) => Q = gMQ below D cy B H0 args s 0 0 (some (vI r.1)) r.2) z → gGo p l e rX14_kindAt s m args below meth c D cy B H0 6 0 0 Q 156 [(0, vR (some x0)), (2, vI x2), (3, vI x3)] [vI s0] M := by
  intro M x0 x2 x3 s0 z hf hK
  unfold b_X14_kindAt_156 at hf
  have X := gX_w X2
  refine g_istore (lv' := [(5, vI s0), (0, vR (some x0)), (2, vI x2), (3, vI x3)]) X dX14_kindAt_156 (by decide) rfl ?_
  refine g_aload_n X dX14_kindAt_158 rfl rfl ?_
  obtain ⟨hT7, hf⟩ := ck_e hf
  refine g_get (ci := 12) (v := vR (mR M x0 6)) 6 X cdX14 i_X14_kindAt_X14 (by decide) k_X14_kindAt_f23 rfl dX14_kindAt_159 rfl hT7 rfl ?_
  refine g_iload_n X dX14_kindAt_162 rfl rfl ?_
  refine g_iload X dX14_kindAt_163 rfl ?_
  refine g_if_eq (tgt := 172) X dX14_kindAt_165 (by decide) (fun hc => ?_) (fun hc => ?_)
  · have hf := ife_t hc hf
    refine g_iconst (v := (1 : Int32)) X dX14_kindAt_172 (by decide) ?_
    refine g_sub (lvsub_of _ _ [3, 0] rfl) ?_
    exact t_X14_kindAt_173 X2 hr _ _ _ _ _ _ _ hf hK
  · have hf := ife_f hc hf
    refine g_iconst (v := (2 : Int32)) X dX14_kindAt_168 (by decide) ?_
    refine g_goto (tgt := 173) X dX14_kindAt_169 (by decide) ?_
    refine g_sub (lvsub_of _ _ [3, 0] rfl) ?_
    exact t_X14_kindAt_173 X2 hr _ _ _ _ _ _ _ hf hK
set_option maxHeartbeats 4000000 in
set_option maxRecDepth 100000 in
theorem t_X14_kindAt_155 (X2 : gX p s m args meth c D cy B (gSt2 Z B H0) RX14 cX14_kindAt wsX14_kindAt 6) (hr : meth.sig.returnType = (some .int)) {Q : State → Prop} : ∀ (M : gMem) (x0 : Nat) (x2 : Int32) (x3 : Int32) (z : Int32 × gMem), b_X14_kindAt_155 Z M x0 x2 x3 = some z → (fun (r : Int32 × gMem) => Q = gMQ below D cy B H0 args s 0 0 (some (vI r.1)) r.2) z → gGo p l e rX14_kindAt s m args below meth c D cy B H0 6 0 0 Q 155 [(0, vR (some x0)), (2, vI x2), (3, vI x3)] [] M := by
  intro M x0 x2 x3 z hf hK
  unfold b_X14_kindAt_155 at hf
  have X := gX_w X2
  refine g_iconst (v := (0 : Int32)) X dX14_kindAt_155 (by decide) ?_
  refine g_sub (lvsub_of _ _ [0, 1, 2] rfl) ?_
  exact t_X14_kindAt_156 X2 hr _ _ _ _ _ _ hf hK
set_option maxHeartbeats 4000000 in
set_option maxRecDepth 100000 in
theorem t_X14_kindAt_140 (X2 : gX p s m args meth c D cy B (gSt2 Z B H0) RX14 cX14_kindAt wsX14_kindAt 6) (hr : meth.sig.returnType = (some .int)) {Q : State → Prop} : ∀ (M : gMem) (x0 : Nat) (x2 : Int32) (x3 : Int32) (x4 : Int32) (z : Int32 × gMem), b_X14_kindAt_140 Z M x0 x2 x3 x4 = some z → (fun (r : Int32 × gMem) => Q = gMQ below D cy B H0 args s 0 0 (some (vI r.1)) r.2) z → gGo p l e rX14_kindAt s m args below meth c D cy B H0 6 0 0 Q 140 [(0, vR (some x0)), (2, vI x2), (3, vI x3), (4, vI x4)] [] M := by
  intro M x0 x2 x3 x4 z hf hK
  unfold b_X14_kindAt_140 at hf
  have X := gX_w X2
  refine g_aload_n X dX14_kindAt_140 rfl rfl ?_
  refine g_iload X dX14_kindAt_141 rfl ?_
  obtain ⟨hT9, hf⟩ := ck_e hf
  obtain ⟨r8, M8, hq8, hf⟩ := bd_e hf
  refine g_callV (ci := 12) (b := x0) (As := [vI x4]) (st := []) (v := some (vI r8)) (M1 := M8) X (m_X14_byteOf l hq8) (cwV 1 X.2.2.1 gX14_kindAt_X14_byteOf rfl rfl rfl (by decide +kernel) ⟨Nat.le_of_ble_eq_true rfl, Nat.le_of_ble_eq_true rfl⟩) rfl rfl rfl hT9 (by decide) rfl (Nat.le_of_ble_eq_true rfl) dX14_kindAt_143 ⟨by decide, by decide⟩ ?_
  refine g_bipush (v := (61 : Int32)) X dX14_kindAt_146 (by decide) ?_
  refine g_icmp_ne (tgt := 155) X dX14_kindAt_148 (by decide) (fun hc => ?_) (fun hc => ?_)
  · have hf := ife_f hc hf
    refine g_sub (lvsub_of _ _ [0, 1, 2] rfl) ?_
    exact t_X14_kindAt_155 X2 hr _ _ _ _ _ hf hK
  · have hf := ife_t hc hf
    refine g_iconst (v := (1 : Int32)) X dX14_kindAt_151 (by decide) ?_
    refine g_goto (tgt := 156) X dX14_kindAt_152 (by decide) ?_
    refine g_sub (lvsub_of _ _ [0, 1, 2] rfl) ?_
    exact t_X14_kindAt_156 X2 hr _ _ _ _ _ _ hf hK
set_option maxHeartbeats 4000000 in
set_option maxRecDepth 100000 in
theorem t_X14_kindAt_127 (X2 : gX p s m args meth c D cy B (gSt2 Z B H0) RX14 cX14_kindAt wsX14_kindAt 6) (hr : meth.sig.returnType = (some .int)) {Q : State → Prop} : ∀ (M : gMem) (s0 : Int32) (z : Int32 × gMem), b_X14_kindAt_127 Z M s0 = some z → (fun (r : Int32 × gMem) => Q = gMQ below D cy B H0 args s 0 0 (some (vI r.1)) r.2) z → gGo p l e rX14_kindAt s m args below meth c D cy B H0 6 0 0 Q 127 [] [vI s0] M := by
  intro M s0 z hf hK
  unfold b_X14_kindAt_127 at hf
  have X := gX_w X2
  cases hf
  refine g_eqQ hK ?_
  exact g_iret X hr dX14_kindAt_127
set_option maxHeartbeats 4000000 in
set_option maxRecDepth 100000 in
theorem t_X14_kindAt_99 (X2 : gX p s m args meth c D cy B (gSt2 Z B H0) RX14 cX14_kindAt wsX14_kindAt 6) (hr : meth.sig.returnType = (some .int)) {Q : State → Prop} : ∀ (M : gMem) (x0 : Nat) (x1 : Int32) (x3 : Int32) (x4 : Int32) (s0 : Int32) (s1 : Int32) (z : Int32 × gMem), b_X14_kindAt_99 Z M x0 x1 x3 x4 s0 s1 = some z → (fun (r : Int32 × gMem) => Q = gMQ below D cy B H0 args s 0 0 (some (vI r.1)) r.2) z → gGo p l e rX14_kindAt s m args below meth c D cy B H0 6 0 0 Q 99 [(0, vR (some x0)), (1, vI x1), (3, vI x3), (4, vI x4)] [vI s1, vI s0] M := by
  intro M x0 x1 x3 x4 s0 s1 z hf hK
  unfold b_X14_kindAt_99 at hf
  have X := gX_w X2
  refine g_icmp_le (tgt := 106) X dX14_kindAt_99 (by decide) (fun hc => ?_) (fun hc => ?_)
  · have hf := ife_t hc hf
    refine g_iload_n X dX14_kindAt_106 rfl rfl ?_
    obtain ⟨r10, M10, hq10, hf⟩ := bd_e hf
    refine g_callS (As := [vI x3]) (st := []) (v := some (vI r10)) (M1 := M10) X (m_X14_isLetter l hq10) (va_cwS 1 X.2.2.1 gX14_kindAt_X14_isLetter rfl rfl rfl (by decide +kernel) ⟨Nat.le_of_ble_eq_true rfl, Nat.le_of_ble_eq_true rfl⟩) rfl rfl (Nat.le_of_ble_eq_true rfl) dX14_kindAt_107 ⟨by decide, by decide⟩ ?_
    refine g_if_eq (tgt := 125) X dX14_kindAt_110 (by decide) (fun hc => ?_) (fun hc => ?_)
    · have hf := ife_t hc hf
      refine g_bipush (v := (41 : Int32)) X dX14_kindAt_125 (by decide) ?_
      refine g_sub (lvsub_of _ _ [] rfl) ?_
      exact t_X14_kindAt_127 X2 hr _ _ _ hf hK
    · have hf := ife_f hc hf
      refine g_aload_n X dX14_kindAt_113 rfl rfl ?_
      refine g_iload_n X dX14_kindAt_114 rfl rfl ?_
      refine g_iload X dX14_kindAt_115 rfl ?_
      refine g_iload_n X dX14_kindAt_117 rfl rfl ?_
      refine g_isub X dX14_kindAt_118 ?_
      obtain ⟨hT12, hf⟩ := ck_e hf
      obtain ⟨r11, M11, hq11, hf⟩ := bd_e hf
      refine g_callV (ci := 12) (b := x0) (As := [vI x1, vI (x4 - x1)]) (st := []) (v := some (vI r11)) (M1 := M11) X (m_X14_word l hq11) (cwV 2 X.2.2.1 gX14_kindAt_X14_word rfl rfl rfl (by decide +kernel) ⟨Nat.le_of_ble_eq_true rfl, Nat.le_of_ble_eq_true rfl⟩) rfl rfl rfl hT12 (by decide) rfl (Nat.le_of_ble_eq_true rfl) dX14_kindAt_119 ⟨by decide, by decide⟩ ?_
      refine g_goto (tgt := 127) X dX14_kindAt_122 (by decide) ?_
      refine g_sub (lvsub_of _ _ [] rfl) ?_
      exact t_X14_kindAt_127 X2 hr _ _ _ hf hK
  · have hf := ife_f hc hf
    refine g_sipush (v := (901 : Int32)) X dX14_kindAt_102 (by decide) ?_
    cases hf
    refine g_eqQ hK ?_
    exact g_iret X hr dX14_kindAt_105
set_option maxHeartbeats 4000000 in
set_option maxRecDepth 100000 in
theorem t_X14_kindAt_71 (X2 : gX p s m args meth c D cy B (gSt2 Z B H0) RX14 cX14_kindAt wsX14_kindAt 6) (hr : meth.sig.returnType = (some .int)) {Q : State → Prop} : ∀ (M : gMem) (x0 : Nat) (x1 : Int32) (x2 : Int32) (x3 : Int32) (x4 : Int32) (z : Int32 × gMem), b_X14_kindAt_71 Z M x0 x1 x2 x3 x4 = some z → (fun (r : Int32 × gMem) => Q = gMQ below D cy B H0 args s 0 0 (some (vI r.1)) r.2) z → gGo p l e rX14_kindAt s m args below meth c D cy B H0 6 0 0 Q 71 [(0, vR (some x0)), (1, vI x1), (2, vI x2), (3, vI x3), (4, vI x4)] [] M := by
  intro M x0 x1 x2 x3 x4 z hf hK
  unfold b_X14_kindAt_71 at hf
  have X := gX_w X2
  refine g_aload_n X dX14_kindAt_71 rfl rfl ?_
  obtain ⟨hT13, hf⟩ := ck_e hf
  refine g_get (ci := 12) (v := vR (mR M x0 6)) 6 X cdX14 i_X14_kindAt_X14 (by decide) k_X14_kindAt_f23 rfl dX14_kindAt_72 rfl hT13 rfl ?_
  refine g_iload_n X dX14_kindAt_75 rfl rfl ?_
  refine g_iload X dX14_kindAt_76 rfl ?_
  refine g_iload_n X dX14_kindAt_78 rfl rfl ?_
  refine g_isub X dX14_kindAt_79 ?_
  obtain ⟨a14, ha14, hf⟩ := dr_e hf
  obtain ⟨hT15, hf⟩ := ck_e hf
  obtain ⟨hg16, hf⟩ := ck_e hf
  refine g_iast X dX14_kindAt_80 ha14 hT15 hg16 ?_
  obtain ⟨M17, hM17, hf⟩ := lw_e hf
  rw [← hM17]
  have hT18 : mT M17 x0 = 13 := by rw [hM17]; exact hT13
  have hT19 : mT M17 a14 = 20 := by rw [hM17]; exact hT15
  refine g_iload X dX14_kindAt_81 rfl ?_
  refine g_iload_n X dX14_kindAt_83 rfl rfl ?_
  refine g_isub X dX14_kindAt_84 ?_
  refine g_iload_n X dX14_kindAt_85 rfl rfl ?_
  obtain ⟨r20, M20, hq20, hf⟩ := bd_e hf
  refine g_callS (As := [vI x3]) (st := [vI (x4 - x1)]) (v := some (vI r20)) (M1 := M20) X (m_X14_isLetter l hq20) (va_cwS 1 X.2.2.1 gX14_kindAt_X14_isLetter rfl rfl rfl (by decide +kernel) ⟨Nat.le_of_ble_eq_true rfl, Nat.le_of_ble_eq_true rfl⟩) rfl rfl (Nat.le_of_ble_eq_true rfl) dX14_kindAt_86 ⟨by decide, by decide⟩ ?_
  refine g_if_eq (tgt := 97) X dX14_kindAt_89 (by decide) (fun hc => ?_) (fun hc => ?_)
  · have hf := ife_t hc hf
    refine g_bipush (v := (6 : Int32)) X dX14_kindAt_97 (by decide) ?_
    refine g_sub (lvsub_of _ _ [0, 1, 3, 4] rfl) ?_
    exact t_X14_kindAt_99 X2 hr _ _ _ _ _ _ _ _ hf hK
  · have hf := ife_f hc hf
    refine g_bipush (v := (10 : Int32)) X dX14_kindAt_92 (by decide) ?_
    refine g_goto (tgt := 99) X dX14_kindAt_94 (by decide) ?_
    refine g_sub (lvsub_of _ _ [0, 1, 3, 4] rfl) ?_
    exact t_X14_kindAt_99 X2 hr _ _ _ _ _ _ _ _ hf hK
set_option maxHeartbeats 4000000 in
set_option maxRecDepth 100000 in
theorem t_X14_kindAt_65 (X2 : gX p s m args meth c D cy B (gSt2 Z B H0) RX14 cX14_kindAt wsX14_kindAt 6) (hr : meth.sig.returnType = (some .int)) {Q : State → Prop} : ∀ (M : gMem) (x0 : Nat) (x1 : Int32) (x2 : Int32) (x3 : Int32) (x4 : Int32) (z : (gMem × Int32) ⊕ (Int32 × gMem)), b_X14_kindAt_65 Z M x0 x1 x2 x3 x4 = some z → (Sum.elim (fun (q : gMem × Int32) => gGo p l e rX14_kindAt s m args below meth c D cy B H0 6 0 0 Q 34 [(0, vR (some x0)), (1, vI x1), (2, vI x2), (3, vI x3), (4, vI q.2)] [] q.1) (fun (r : Int32 × gMem) => Q = gMQ below D cy B H0 args s 0 0 (some (vI r.1)) r.2)) z → gGo p l e rX14_kindAt s m args below meth c D cy B H0 6 0 0 Q 65 [(0, vR (some x0)), (1, vI x1), (2, vI x2), (3, vI x3), (4, vI x4)] [] M := by
  intro M x0 x1 x2 x3 x4 z hf hK
  unfold b_X14_kindAt_65 at hf
  have X := gX_w X2
  refine g_iinc (v := (1 : Int32)) (lv' := [(4, vI (x4 + (1 : Int32))), (0, vR (some x0)), (1, vI x1), (2, vI x2), (3, vI x3)]) X dX14_kindAt_65 rfl (by decide) (by decide) rfl ?_
  refine g_goto (tgt := 34) X dX14_kindAt_68 (by decide) ?_
  cases hf
  refine g_sub (lvsub_of _ _ [1, 2, 3, 4, 0] rfl) ?_
  exact hK
set_option maxHeartbeats 4000000 in
set_option maxRecDepth 100000 in
theorem tb_X14_kindAt_34 (X2 : gX p s m args meth c D cy B (gSt2 Z B H0) RX14 cX14_kindAt wsX14_kindAt 6) (hr : meth.sig.returnType = (some .int)) {Q : State → Prop} : ∀ (M : gMem) (x0 : Nat) (x1 : Int32) (x2 : Int32) (x3 : Int32) (x4 : Int32) (z : (gMem × Int32) ⊕ (Int32 × gMem)), bb_X14_kindAt_34 Z M x0 x1 x2 x3 x4 = some z → (Sum.elim (fun (q : gMem × Int32) => gGo p l e rX14_kindAt s m args below meth c D cy B H0 6 0 0 Q 34 [(0, vR (some x0)), (1, vI x1), (2, vI x2), (3, vI x3), (4, vI q.2)] [] q.1) (fun (r : Int32 × gMem) => Q = gMQ below D cy B H0 args s 0 0 (some (vI r.1)) r.2)) z → gGo p l e rX14_kindAt s m args below meth c D cy B H0 6 0 0 Q 34 [(0, vR (some x0)), (1, vI x1), (2, vI x2), (3, vI x3), (4, vI x4)] [] M := by
  intro M x0 x1 x2 x3 x4 z hf hK
  unfold bb_X14_kindAt_34 at hf
  have X := gX_w X2
  refine g_aload_n X dX14_kindAt_34 rfl rfl ?_
  refine g_iload X dX14_kindAt_35 rfl ?_
  obtain ⟨hT22, hf⟩ := ck_e hf
  obtain ⟨r21, M21, hq21, hf⟩ := bd_e hf
  refine g_callV (ci := 12) (b := x0) (As := [vI x4]) (st := []) (v := some (vI r21)) (M1 := M21) X (m_X14_byteOf l hq21) (cwV 1 X.2.2.1 gX14_kindAt_X14_byteOf rfl rfl rfl (by decide +kernel) ⟨Nat.le_of_ble_eq_true rfl, Nat.le_of_ble_eq_true rfl⟩) rfl rfl rfl hT22 (by decide) rfl (Nat.le_of_ble_eq_true rfl) dX14_kindAt_37 ⟨by decide, by decide⟩ ?_
  obtain ⟨r23, M23, hq23, hf⟩ := bd_e hf
  refine g_callS (As := [vI r21]) (st := []) (v := some (vI r23)) (M1 := M23) X (m_X14_isDigit l hq23) (va_cwS 1 X.2.2.1 gX14_kindAt_X14_isDigit rfl rfl rfl (by decide +kernel) ⟨Nat.le_of_ble_eq_true rfl, Nat.le_of_ble_eq_true rfl⟩) rfl rfl (Nat.le_of_ble_eq_true rfl) dX14_kindAt_40 ⟨by decide, by decide⟩ ?_
  refine g_if_ne (tgt := 65) X dX14_kindAt_43 (by decide) (fun hc => ?_) (fun hc => ?_)
  · have hf := ife_f hc hf
    refine g_sub (lvsub_of _ _ [0, 1, 2, 3, 4] rfl) ?_
    exact t_X14_kindAt_65 X2 hr _ _ _ _ _ _ _ hf hK
  · have hf := ife_t hc hf
    refine g_iload_n X dX14_kindAt_46 rfl rfl ?_
    obtain ⟨r24, M24, hq24, hf⟩ := bd_e hf
    refine g_callS (As := [vI x3]) (st := []) (v := some (vI r24)) (M1 := M24) X (m_X14_isLetter l hq24) (va_cwS 1 X.2.2.1 gX14_kindAt_X14_isLetter rfl rfl rfl (by decide +kernel) ⟨Nat.le_of_ble_eq_true rfl, Nat.le_of_ble_eq_true rfl⟩) rfl rfl (Nat.le_of_ble_eq_true rfl) dX14_kindAt_47 ⟨by decide, by decide⟩ ?_
    refine g_if_eq (tgt := 71) X dX14_kindAt_50 (by decide) (fun hc => ?_) (fun hc => ?_)
    · have hf := ife_t hc hf
      obtain ⟨w25, hw25, hz25⟩ := oI_e hf
      subst hz25
      have hf := hw25
      refine g_sub (lvsub_of _ _ [0, 1, 2, 3, 4] rfl) ?_
      exact t_X14_kindAt_71 X2 hr _ _ _ _ _ _ _ hf hK
    · have hf := ife_f hc hf
      refine g_aload_n X dX14_kindAt_53 rfl rfl ?_
      refine g_iload X dX14_kindAt_54 rfl ?_
      obtain ⟨hT27, hf⟩ := ck_e hf
      obtain ⟨r26, M26, hq26, hf⟩ := bd_e hf
      refine g_callV (ci := 12) (b := x0) (As := [vI x4]) (st := []) (v := some (vI r26)) (M1 := M26) X (m_X14_byteOf l hq26) (cwV 1 X.2.2.1 gX14_kindAt_X14_byteOf rfl rfl rfl (by decide +kernel) ⟨Nat.le_of_ble_eq_true rfl, Nat.le_of_ble_eq_true rfl⟩) rfl rfl rfl hT27 (by decide) rfl (Nat.le_of_ble_eq_true rfl) dX14_kindAt_56 ⟨by decide, by decide⟩ ?_
      obtain ⟨r28, M28, hq28, hf⟩ := bd_e hf
      refine g_callS (As := [vI r26]) (st := []) (v := some (vI r28)) (M1 := M28) X (m_X14_isLetter l hq28) (va_cwS 1 X.2.2.1 gX14_kindAt_X14_isLetter rfl rfl rfl (by decide +kernel) ⟨Nat.le_of_ble_eq_true rfl, Nat.le_of_ble_eq_true rfl⟩) rfl rfl (Nat.le_of_ble_eq_true rfl) dX14_kindAt_59 ⟨by decide, by decide⟩ ?_
      refine g_if_eq (tgt := 71) X dX14_kindAt_62 (by decide) (fun hc => ?_) (fun hc => ?_)
      · have hf := ife_t hc hf
        obtain ⟨w29, hw29, hz29⟩ := oI_e hf
        subst hz29
        have hf := hw29
        refine g_sub (lvsub_of _ _ [0, 1, 2, 3, 4] rfl) ?_
        exact t_X14_kindAt_71 X2 hr _ _ _ _ _ _ _ hf hK
      · have hf := ife_f hc hf
        refine g_sub (lvsub_of _ _ [0, 1, 2, 3, 4] rfl) ?_
        exact t_X14_kindAt_65 X2 hr _ _ _ _ _ _ _ hf hK
set_option maxHeartbeats 4000000 in
set_option maxRecDepth 100000 in
theorem tl_X14_kindAt_34 (X2 : gX p s m args meth c D cy B (gSt2 Z B H0) RX14 cX14_kindAt wsX14_kindAt 6) (hr : meth.sig.returnType = (some .int)) {Q : State → Prop} : ∀ (M : gMem) (x0 : Nat) (x1 : Int32) (x2 : Int32) (x3 : Int32) (x4 : Int32) (z : Int32 × gMem), lp_X14_kindAt_34 Z M x0 x1 x2 x3 x4 = some z → (fun (r : Int32 × gMem) => Q = gMQ below D cy B H0 args s 0 0 (some (vI r.1)) r.2) z → gGo p l e rX14_kindAt s m args below meth c D cy B H0 6 0 0 Q 34 [(0, vR (some x0)), (1, vI x1), (2, vI x2), (3, vI x3), (4, vI x4)] [] M := by
  intro M x0 x1 x2 x3 x4 z hf hK
  refine lp_ind (P := (fun (q : gMem × Int32) (z : Int32 × gMem) => (fun (r : Int32 × gMem) => Q = gMQ below D cy B H0 args s 0 0 (some (vI r.1)) r.2) z → gGo p l e rX14_kindAt s m args below meth c D cy B H0 6 0 0 Q 34 [(0, vR (some x0)), (1, vI x1), (2, vI x2), (3, vI x3), (4, vI q.2)] [] q.1)) (fun q z hq => ?_) _ _ hf hK
  intro hK
  obtain ⟨w, hw, hm⟩ := hq
  refine tb_X14_kindAt_34 X2 hr _ _ _ _ _ _ w hw ?_
  cases w with
  | inl a => exact hm hK
  | inr b => cases hm; exact hK
set_option maxHeartbeats 4000000 in
set_option maxRecDepth 100000 in
theorem t_X14_kindAt_0 (X2 : gX p s m args meth c D cy B (gSt2 Z B H0) RX14 cX14_kindAt wsX14_kindAt 6) (hr : meth.sig.returnType = (some .int)) {Q : State → Prop} : ∀ (M : gMem) (x0 : Nat) (x1 : Int32) (x2 : Int32) (z : Int32 × gMem), b_X14_kindAt_0 Z M x0 x1 x2 = some z → (fun (r : Int32 × gMem) => Q = gMQ below D cy B H0 args s 0 0 (some (vI r.1)) r.2) z → gGo p l e rX14_kindAt s m args below meth c D cy B H0 6 0 0 Q 0 [(0, vR (some x0)), (1, vI x1), (2, vI x2)] [] M := by
  intro M x0 x1 x2 z hf hK
  unfold b_X14_kindAt_0 at hf
  have X := gX_w X2
  refine g_aload_n X dX14_kindAt_0 rfl rfl ?_
  refine g_iload_n X dX14_kindAt_1 rfl rfl ?_
  obtain ⟨hT31, hf⟩ := ck_e hf
  obtain ⟨r30, M30, hq30, hf⟩ := bd_e hf
  refine g_callV (ci := 12) (b := x0) (As := [vI x1]) (st := []) (v := some (vI r30)) (M1 := M30) X (m_X14_byteOf l hq30) (cwV 1 X.2.2.1 gX14_kindAt_X14_byteOf rfl rfl rfl (by decide +kernel) ⟨Nat.le_of_ble_eq_true rfl, Nat.le_of_ble_eq_true rfl⟩) rfl rfl rfl hT31 (by decide) rfl (Nat.le_of_ble_eq_true rfl) dX14_kindAt_2 ⟨by decide, by decide⟩ ?_
  refine g_istore_n (lv' := [(3, vI r30), (0, vR (some x0)), (1, vI x1), (2, vI x2)]) X dX14_kindAt_5 rfl (by decide) rfl ?_
  refine g_iload_n X dX14_kindAt_6 rfl rfl ?_
  refine g_iconst (v := (1 : Int32)) X dX14_kindAt_7 (by decide) ?_
  refine g_iadd X dX14_kindAt_8 ?_
  refine g_istore (lv' := [(4, vI (x1 + (1 : Int32))), (3, vI r30), (0, vR (some x0)), (1, vI x1), (2, vI x2)]) X dX14_kindAt_9 (by decide) rfl ?_
  refine g_iload_n X dX14_kindAt_11 rfl rfl ?_
  refine g_iconst (v := (-1 : Int32)) X dX14_kindAt_12 (by decide) ?_
  refine g_icmp_ne (tgt := 20) X dX14_kindAt_13 (by decide) (fun hc => ?_) (fun hc => ?_)
  · have hf := ife_f hc hf
    refine g_iload_n X dX14_kindAt_20 rfl rfl ?_
    obtain ⟨r32, M32, hq32, hf⟩ := bd_e hf
    refine g_callS (As := [vI r30]) (st := []) (v := some (vI r32)) (M1 := M32) X (m_X14_isLetter l hq32) (va_cwS 1 X.2.2.1 gX14_kindAt_X14_isLetter rfl rfl rfl (by decide +kernel) ⟨Nat.le_of_ble_eq_true rfl, Nat.le_of_ble_eq_true rfl⟩) rfl rfl (Nat.le_of_ble_eq_true rfl) dX14_kindAt_21 ⟨by decide, by decide⟩ ?_
    refine g_if_ne (tgt := 34) X dX14_kindAt_24 (by decide) (fun hc => ?_) (fun hc => ?_)
    · have hf := ife_f hc hf
      refine g_sub (lvsub_of _ _ [2, 3, 4, 1, 0] rfl) ?_
      exact tl_X14_kindAt_34 X2 hr _ _ _ _ _ _ _ hf hK
    · have hf := ife_t hc hf
      refine g_iload_n X dX14_kindAt_27 rfl rfl ?_
      obtain ⟨r33, M33, hq33, hf⟩ := bd_e hf
      refine g_callS (As := [vI r30]) (st := []) (v := some (vI r33)) (M1 := M33) X (m_X14_isDigit l hq33) (va_cwS 1 X.2.2.1 gX14_kindAt_X14_isDigit rfl rfl rfl (by decide +kernel) ⟨Nat.le_of_ble_eq_true rfl, Nat.le_of_ble_eq_true rfl⟩) rfl rfl (Nat.le_of_ble_eq_true rfl) dX14_kindAt_28 ⟨by decide, by decide⟩ ?_
      refine g_if_eq (tgt := 128) X dX14_kindAt_31 (by decide) (fun hc => ?_) (fun hc => ?_)
      · have hf := ife_t hc hf
        refine g_iload_n X dX14_kindAt_128 rfl rfl ?_
        refine g_bipush (v := (60 : Int32)) X dX14_kindAt_129 (by decide) ?_
        refine g_icmp_eq (tgt := 140) X dX14_kindAt_131 (by decide) (fun hc => ?_) (fun hc => ?_)
        · have hf := ife_t hc hf
          refine g_sub (lvsub_of _ _ [2, 4, 1, 0] rfl) ?_
          exact t_X14_kindAt_140 X2 hr _ _ _ _ _ _ hf hK
        · have hf := ife_f hc hf
          refine g_iload_n X dX14_kindAt_134 rfl rfl ?_
          refine g_bipush (v := (62 : Int32)) X dX14_kindAt_135 (by decide) ?_
          refine g_icmp_ne (tgt := 155) X dX14_kindAt_137 (by decide) (fun hc => ?_) (fun hc => ?_)
          · have hf := ife_f hc hf
            refine g_sub (lvsub_of _ _ [2, 4, 1] rfl) ?_
            exact t_X14_kindAt_155 X2 hr _ _ _ _ _ hf hK
          · have hf := ife_t hc hf
            refine g_sub (lvsub_of _ _ [2, 4, 1, 0] rfl) ?_
            exact t_X14_kindAt_140 X2 hr _ _ _ _ _ _ hf hK
      · have hf := ife_f hc hf
        refine g_sub (lvsub_of _ _ [2, 3, 4, 1, 0] rfl) ?_
        exact tl_X14_kindAt_34 X2 hr _ _ _ _ _ _ _ hf hK
  · have hf := ife_t hc hf
    refine g_sipush (v := (900 : Int32)) X dX14_kindAt_16 (by decide) ?_
    cases hf
    refine g_eqQ hK ?_
    exact g_iret X hr dX14_kindAt_19
set_option maxHeartbeats 4000000 in
set_option maxRecDepth 100000 in
theorem m_X14_kindAt (l : Launch) {D : va_G} {cy : Nat → ClassId} {B : Nat} {H0 : Heap} {Z : Nat → Nat} {M M1 : gMem} {x0 : Nat} {x1 : Int32} {x2 : Int32} {r : Int32} (hf : f_X14_kindAt Z M x0 x1 x2 = some (r, M1)) : Met l yX14_kindAt wsX14_kindAt rX14_kindAt (va_Pc (Value.ref x0 :: List.map gv [vI x1, vI x2]) (gPre D cy B H0 (gSt2 Z B H0) M)) (gQ D cy B H0 (some (vI r)) M1) 0 0 (gA B) := by
  refine Met.ofW (cc := cX14_kindAt) (maxL := 6) (ret := (some .int)) (by decide) rfl ?_
  intro p e s m args below meth c s₁ Bd hml hv
  obtain ⟨rfl, hW, hKK, hFs⟩ := hv
  have X2 : gX p s m _ meth c D cy B (gSt2 Z B H0) RX14 cX14_kindAt wsX14_kindAt 6 := ⟨Bd.exec, Bd.bytes, atoms_spec (ws := wsX14_kindAt) Bd.pre, findClass_of_methodNamed Bd.named, hml, hKK, by rw [hW.1]; exact hW.2.1, Bd.notSynchronized, hFs⟩
  have hr := Bd.returns
  have hl := lv_entry ([.ref x0, .int x1, .int x2]) (n := 6) (Nat.le_of_ble_eq_true rfl)
  show W p l e rX14_kindAt s m _ below meth c s.heap [] 0 0 _ (entryFrame m ([.ref x0, .int x1, .int x2] : List Value).toArray 6)
  rw [lg_entry_eq]
  generalize (lg_sl ([.ref x0, .int x1, .int x2]) ++ List.replicate (6 - (lg_sl ([.ref x0, .int x1, .int x2])).length) Slot.unset).toArray = ls at hl ⊢
  have hl : lv_has ls 6 (List.map gq [(0, vR (some x0)), (1, vI x1), (2, vI x2)]) := hl
  exact t_X14_kindAt_0 X2 hr _ _ _ _ _ hf rfl s.heap [] ls hW va_S.rf (lv_has_sub hl (lvsub_of _ _ [0, 1, 2] rfl))
end
