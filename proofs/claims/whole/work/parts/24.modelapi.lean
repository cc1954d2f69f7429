section
variable {p : Program} {l : Launch} {e : Env} {s : State} {m : MethodId} {args : Array Value} {below : List Frame} {meth : Method} {c : Code} {D : va_G} {cy : Nat → ClassId} {B : Nat} {H0 : Heap} {Z : Nat → Nat}
/-! ## TideLotsModel.trim(I)I -/
theorem dX14_trim_0 : decode cX14_trim 0 = .ok (.aload_n 0, 1) := by decide +kernel
theorem dX14_trim_1 : decode cX14_trim 1 = .ok (.iconst 0, 1) := by decide +kernel
theorem dX14_trim_2 : decode cX14_trim 2 = .ok (.putfield 57, 3) := by decide +kernel
theorem dX14_trim_5 : decode cX14_trim 5 = .ok (.iload_n 1, 1) := by decide +kernel
theorem dX14_trim_6 : decode cX14_trim 6 = .ok (.iconst 0, 1) := by decide +kernel
theorem dX14_trim_7 : decode cX14_trim 7 = .ok (.aload_n 0, 1) := by decide +kernel
theorem dX14_trim_8 : decode cX14_trim 8 = .ok (.getfield 79, 3) := by decide +kernel
theorem dX14_trim_11 : decode cX14_trim 11 = .ok (.invokestatic 63, 3) := by decide +kernel
theorem dX14_trim_14 : decode cX14_trim 14 = .ok (.ifCond .ne 9, 3) := by decide +kernel
theorem dX14_trim_17 : decode cX14_trim 17 = .ok (.aload_n 0, 1) := by decide +kernel
theorem dX14_trim_18 : decode cX14_trim 18 = .ok (.iconst 1, 1) := by decide +kernel
theorem dX14_trim_19 : decode cX14_trim 19 = .ok (.invokevirtual 276, 3) := by decide +kernel
theorem dX14_trim_22 : decode cX14_trim 22 = .ok (.ireturn, 1) := by decide +kernel
theorem dX14_trim_23 : decode cX14_trim 23 = .ok (.aload_n 0, 1) := by decide +kernel
theorem dX14_trim_24 : decode cX14_trim 24 = .ok (.iload_n 1, 1) := by decide +kernel
theorem dX14_trim_25 : decode cX14_trim 25 = .ok (.putfield 79, 3) := by decide +kernel
theorem dX14_trim_28 : decode cX14_trim 28 = .ok (.iload_n 1, 1) := by decide +kernel
theorem dX14_trim_29 : decode cX14_trim 29 = .ok (.ireturn, 1) := by decide +kernel
set_option maxRecDepth 20000 in
theorem ggX14_trim_X14_isIn : GoodIn wsX14_trim wsX14_isIn := goodIn_r _ [6] (by decide +kernel) (by decide +kernel)
set_option maxRecDepth 20000 in
theorem gX14_trim_X14_isIn : GoodIn wsX14_trim (va_wsS RX14 63 yX14_isIn wsX14_isIn) := goodIn_app (goodIn_of _ (by decide +kernel)) ggX14_trim_X14_isIn
set_option maxRecDepth 20000 in
theorem ggX14_trim_X14_no : GoodIn wsX14_trim wsX14_no := goodIn_r _ [10, 1, 11, 12, 13, 14, 15, 16, 17, 18, 19, 20, 21, 22, 23, 24, 25] (by decide +kernel) (by decide +kernel)
set_option maxRecDepth 20000 in
theorem gX14_trim_X14_no : GoodIn wsX14_trim (wsV RX14 276 RX14 yX14_no wsX14_no) := goodIn_app (goodIn_of _ (by decide +kernel)) ggX14_trim_X14_no
theorem k_X14_trim_f57 : Cond.fieldLink RX14 57 "TideLotsModel" "thrown" "I" ∈ wsX14_trim := by decide +kernel
theorem i_X14_trim_X14 : ∀ w ∈ u_ws RX14 TX14 15, w ∈ wsX14_trim := by decide +kernel
theorem k_X14_trim_f79 : Cond.fieldLink RX14 79 "TideLotsModel" "size" "I" ∈ wsX14_trim := by decide +kernel
abbrev rX14_trim : Room := { frames := 1, cells := 0, slots := 0, locals := 22 }
noncomputable def b_X14_trim_0 (M : gMem) (x0 : Nat) (x1 : Int32) : Option (Int32 × gMem) :=
  ck (mT M x0 = 13) <| lw (wI M x0 0 ((0 : Int32))) fun M2 => bd (f_X14_isIn M2 x1 ((0 : Int32)) ((mI M2 x0 2))) fun r4 M4 => (if r4 = 0 then ck (mT M4 x0 = 13) <| bd (f_X14_no M4 x0 ((1 : Int32))) fun r8 M8 => some (r8, M8) else ck (mT M4 x0 = 13) <| lw (wI M4 x0 2 x1) fun M6 => some (x1, M6))
noncomputable def f_X14_trim (M : gMem) (x0 : Nat) (x1 : Int32) : Option (Int32 × gMem) :=
  b_X14_trim_0 M x0 x1
set_option maxHeartbeats 4000000 in
set_option maxRecDepth 100000 in
theorem t_X14_trim_0 (X : gX p s m args meth c D cy B (gSt Z B H0) RX14 cX14_trim wsX14_trim 2) (hr : meth.sig.returnType = (some .int)) {Q : State → Prop} : ∀ (M : gMem) (x0 : Nat) (x1 : Int32) (z : Int32 × gMem), b_X14_trim_0 M x0 x1 = some z → (fun (r : Int32 × gMem) => Q = gMQ below D cy B H0 args s 0 0 (some (vI r.1)) r.2) z → gGo p l e rX14_trim s m args below meth c D cy B H0 2 0 0 Q 0 [(0, vR (some x0)), (1, vI x1)] [] M := by
  intro M x0 x1 z hf hK
  unfold b_X14_trim_0 at hf
  refine g_aload_n X dX14_trim_0 rfl rfl ?_
  refine g_iconst (v := (0 : Int32)) X dX14_trim_1 (by decide) ?_
  obtain ⟨hT1, hf⟩ := ck_e hf
  refine g_putI (ci := 12) 0 X cdX14 i_X14_trim_X14 (by decide) k_X14_trim_f57 rfl dX14_trim_2 rfl hT1 (Or.inl rfl) rfl rfl rfl ?_
  obtain ⟨M2, hM2, hf⟩ := lw_e hf
  rw [← hM2]
  have hT3 : mT M2 x0 = 13 := by rw [hM2]; exact hT1
  refine g_iload_n X dX14_trim_5 rfl rfl ?_
  refine g_iconst (v := (0 : Int32)) X dX14_trim_6 (by decide) ?_
  refine g_aload_n X dX14_trim_7 rfl rfl ?_
  refine g_get (ci := 12) (v := vI (mI M2 x0 2)) 2 X cdX14 i_X14_trim_X14 (by decide) k_X14_trim_f79 rfl dX14_trim_8 rfl hT3 rfl ?_
  obtain ⟨r4, M4, hq4, hf⟩ := bd_e hf
  refine g_callS (As := [vI x1, vI (0 : Int32), vI (mI M2 x0 2)]) (st := []) (v := some (vI r4)) (M1 := M4) X (m_X14_isIn l hq4) (va_cwS 3 X.2.2.1 gX14_trim_X14_isIn rfl rfl rfl (by decide +kernel) ⟨Nat.le_of_ble_eq_true rfl, Nat.le_of_ble_eq_true rfl⟩) rfl rfl (Nat.le_of_ble_eq_true rfl) dX14_trim_11 ⟨by decide, by decide⟩ ?_
  refine g_if_ne (tgt := 23) X dX14_trim_14 (by decide) (fun hc => ?_) (fun hc => ?_)
  · have hf := ife_f hc hf
    refine g_aload_n X dX14_trim_23 rfl rfl ?_
    refine g_iload_n X dX14_trim_24 rfl rfl ?_
    obtain ⟨hT5, hf⟩ := ck_e hf
    refine g_putI (ci := 12) 2 X cdX14 i_X14_trim_X14 (by decide) k_X14_trim_f79 rfl dX14_trim_25 rfl hT5 (Or.inl rfl) rfl rfl rfl ?_
    obtain ⟨M6, hM6, hf⟩ := lw_e hf
    rw [← hM6]
    have hT7 : mT M6 x0 = 13 := by rw [hM6]; exact hT5
    refine g_iload_n X dX14_trim_28 rfl rfl ?_
    cases hf
    refine g_eqQ hK ?_
    exact g_iret X hr dX14_trim_29
  · have hf := ife_t hc hf
    refine g_aload_n X dX14_trim_17 rfl rfl ?_
    refine g_iconst (v := (1 : Int32)) X dX14_trim_18 (by decide) ?_
    obtain ⟨hT9, hf⟩ := ck_e hf
    obtain ⟨r8, M8, hq8, hf⟩ := bd_e hf
    refine g_callV (ci := 12) (b := x0) (As := [vI (1 : Int32)]) (st := []) (v := some (vI r8)) (M1 := M8) X (m_X14_no l hq8) (cwV 1 X.2.2.1 gX14_trim_X14_no rfl rfl rfl (by decide +kernel) ⟨Nat.le_of_ble_eq_true rfl, Nat.le_of_ble_eq_true rfl⟩) rfl rfl rfl hT9 (by decide) rfl (Nat.le_of_ble_eq_true rfl) dX14_trim_19 ⟨by decide, by decide⟩ ?_
    cases hf
    refine g_eqQ hK ?_
    exact g_iret X hr dX14_trim_22
set_option maxHeartbeats 4000000 in
set_option maxRecDepth 100000 in
theorem m_X14_trim (l : Launch) {D : va_G} {cy : Nat → ClassId} {B : Nat} {H0 : Heap} {Z : Nat → Nat} {M M1 : gMem} {x0 : Nat} {x1 : Int32} {r : Int32} (hf : f_X14_trim M x0 x1 = some (r, M1)) : Met l yX14_trim wsX14_trim rX14_trim (va_Pc (Value.ref x0 :: List.map gv [vI x1]) (gPre D cy B H0 (gSt Z B H0) M)) (gQ D cy B H0 (some (vI r)) M1) 0 0 (gA B) := by
  refine Met.ofW (cc := cX14_trim) (maxL := 2) (ret := (some .int)) (by decide) rfl ?_
  intro p e s m args below meth c s₁ Bd hml hv
  obtain ⟨rfl, hW, hKK, hFs⟩ := hv
  have X : gX p s m _ meth c D cy B (gSt Z B H0) RX14 cX14_trim wsX14_trim 2 := ⟨Bd.exec, Bd.bytes, atoms_spec (ws := wsX14_trim) Bd.pre, findClass_of_methodNamed Bd.named, hml, hKK, by rw [hW.1]; exact hW.2.1, Bd.notSynchronized, hFs⟩
  have hr := Bd.returns
  have hl := lv_entry ([.ref x0, .int x1]) (n := 2) (Nat.le_of_ble_eq_true rfl)
  show W p l e rX14_trim s m _ below meth c s.heap [] 0 0 _ (entryFrame m ([.ref x0, .int x1] : List Value).toArray 2)
  rw [lg_entry_eq]
  generalize (lg_sl ([.ref x0, .int x1]) ++ List.replicate (2 - (lg_sl ([.ref x0, .int x1])).length) Slot.unset).toArray = ls at hl ⊢
  have hl : lv_has ls 2 (List.map gq [(0, vR (some x0)), (1, vI x1)]) := hl
  exact t_X14_trim_0 X hr _ _ _ _ hf rfl s.heap [] ls hW va_S.rf (lv_has_sub hl (lvsub_of _ _ [0, 1] rfl))
/-! ## TideLotsModel.errorAt()I -/
theorem dX14_errorAt_0 : decode cX14_errorAt 0 = .ok (.aload_n 0, 1) := by decide +kernel
theorem dX14_errorAt_1 : decode cX14_errorAt 1 = .ok (.iconst 0, 1) := by decide +kernel
theorem dX14_errorAt_2 : decode cX14_errorAt 2 = .ok (.putfield 57, 3) := by decide +kernel
theorem dX14_errorAt_5 : decode cX14_errorAt 5 = .ok (.aload_n 0, 1) := by decide +kernel
theorem dX14_errorAt_6 : decode cX14_errorAt 6 = .ok (.getfield 13, 3) := by decide +kernel
theorem dX14_errorAt_9 : decode cX14_errorAt 9 = .ok (.ireturn, 1) := by decide +kernel
theorem k_X14_errorAt_f57 : Cond.fieldLink RX14 57 "TideLotsModel" "thrown" "I" ∈ wsX14_errorAt := by decide +kernel
theorem i_X14_errorAt_X14 : ∀ w ∈ u_ws RX14 TX14 15, w ∈ wsX14_errorAt := by decide +kernel
theorem k_X14_errorAt_f13 : Cond.fieldLink RX14 13 "TideLotsModel" "errorAt" "I" ∈ wsX14_errorAt := by decide +kernel
abbrev rX14_errorAt : Room := { frames := 0, cells := 0, slots := 0, locals := 0 }
noncomputable def b_X14_errorAt_0 (M : gMem) (x0 : Nat) : Option (Int32 × gMem) :=
  ck (mT M x0 = 13) <| lw (wI M x0 0 ((0 : Int32))) fun M2 => some ((mI M2 x0 3), M2)
noncomputable def f_X14_errorAt (M : gMem) (x0 : Nat) : Option (Int32 × gMem) :=
  b_X14_errorAt_0 M x0
set_option maxHeartbeats 4000000 in
set_option maxRecDepth 100000 in
theorem t_X14_errorAt_0 (X : gX p s m args meth c D cy B (gSt Z B H0) RX14 cX14_errorAt wsX14_errorAt 1) (hr : meth.sig.returnType = (some .int)) {Q : State → Prop} : ∀ (M : gMem) (x0 : Nat) (z : Int32 × gMem), b_X14_errorAt_0 M x0 = some z → (fun (r : Int32 × gMem) => Q = gMQ below D cy B H0 args s 0 0 (some (vI r.1)) r.2) z → gGo p l e rX14_errorAt s m args below meth c D cy B H0 1 0 0 Q 0 [(0, vR (some x0))] [] M := by
  intro M x0 z hf hK
  unfold b_X14_errorAt_0 at hf
  refine g_aload_n X dX14_errorAt_0 rfl rfl ?_
  refine g_iconst (v := (0 : Int32)) X dX14_errorAt_1 (by decide) ?_
  obtain ⟨hT1, hf⟩ := ck_e hf
  refine g_putI (ci := 12) 0 X cdX14 i_X14_errorAt_X14 (by decide) k_X14_errorAt_f57 rfl dX14_errorAt_2 rfl hT1 (Or.inl rfl) rfl rfl rfl ?_
  obtain ⟨M2, hM2, hf⟩ := lw_e hf
  rw [← hM2]
  have hT3 : mT M2 x0 = 13 := by rw [hM2]; exact hT1
  refine g_aload_n X dX14_errorAt_5 rfl rfl ?_
  refine g_get (ci := 12) (v := vI (mI M2 x0 3)) 3 X cdX14 i_X14_errorAt_X14 (by decide) k_X14_errorAt_f13 rfl dX14_errorAt_6 rfl hT3 rfl ?_
  cases hf
  refine g_eqQ hK ?_
  exact g_iret X hr dX14_errorAt_9
set_option maxHeartbeats 4000000 in
set_option maxRecDepth 100000 in
theorem m_X14_errorAt (l : Launch) {D : va_G} {cy : Nat → ClassId} {B : Nat} {H0 : Heap} {Z : Nat → Nat} {M M1 : gMem} {x0 : Nat} {r : Int32} (hf : f_X14_errorAt M x0 = some (r, M1)) : Met l yX14_errorAt wsX14_errorAt rX14_errorAt (va_Pc (Value.ref x0 :: List.map gv []) (gPre D cy B H0 (gSt Z B H0) M)) (gQ D cy B H0 (some (vI r)) M1) 0 0 (gA B) := by
  refine Met.ofW (cc := cX14_errorAt) (maxL := 1) (ret := (some .int)) (by decide) rfl ?_
  intro p e s m args below meth c s₁ Bd hml hv
  obtain ⟨rfl, hW, hKK, hFs⟩ := hv
  have X : gX p s m _ meth c D cy B (gSt Z B H0) RX14 cX14_errorAt wsX14_errorAt 1 := ⟨Bd.exec, Bd.bytes, atoms_spec (ws := wsX14_errorAt) Bd.pre, findClass_of_methodNamed Bd.named, hml, hKK, by rw [hW.1]; exact hW.2.1, Bd.notSynchronized, hFs⟩
  have hr := Bd.returns
  have hl := lv_entry ([.ref x0]) (n := 1) (Nat.le_of_ble_eq_true rfl)
  show W p l e rX14_errorAt s m _ below meth c s.heap [] 0 0 _ (entryFrame m ([.ref x0] : List Value).toArray 1)
  rw [lg_entry_eq]
  generalize (lg_sl ([.ref x0]) ++ List.replicate (1 - (lg_sl ([.ref x0])).length) Slot.unset).toArray = ls at hl ⊢
  have hl : lv_has ls 1 (List.map gq [(0, vR (some x0))]) := hl
  exact t_X14_errorAt_0 X hr _ _ _ hf rfl s.heap [] ls hW va_S.rf (lv_has_sub hl (lvsub_of _ _ [0] rfl))
/-! ## TideLotsModel.takenAt(I)I -/
theorem dX14_takenAt_0 : decode cX14_takenAt 0 = .ok (.iconst 0, 1) := by decide +kernel
theorem dX14_takenAt_1 : decode cX14_takenAt 1 = .ok (.istore_n 2, 1) := by decide +kernel
theorem dX14_takenAt_2 : decode cX14_takenAt 2 = .ok (.iconst 0, 1) := by decide +kernel
theorem dX14_takenAt_3 : decode cX14_takenAt 3 = .ok (.istore_n 3, 1) := by decide +kernel
theorem dX14_takenAt_4 : decode cX14_takenAt 4 = .ok (.iload_n 3, 1) := by decide +kernel
theorem dX14_takenAt_5 : decode cX14_takenAt 5 = .ok (.aload_n 0, 1) := by decide +kernel
theorem dX14_takenAt_6 : decode cX14_takenAt 6 = .ok (.getfield 35, 3) := by decide +kernel
theorem dX14_takenAt_9 : decode cX14_takenAt 9 = .ok (.getfield 67, 3) := by decide +kernel
theorem dX14_takenAt_12 : decode cX14_takenAt 12 = .ok (.if_icmp .ge 26, 3) := by decide +kernel
theorem dX14_takenAt_15 : decode cX14_takenAt 15 = .ok (.iload_n 2, 1) := by decide +kernel
theorem dX14_takenAt_16 : decode cX14_takenAt 16 = .ok (.aload_n 0, 1) := by decide +kernel
theorem dX14_takenAt_17 : decode cX14_takenAt 17 = .ok (.getfield 47, 3) := by decide +kernel
theorem dX14_takenAt_20 : decode cX14_takenAt 20 = .ok (.getfield 299, 3) := by decide +kernel
theorem dX14_takenAt_23 : decode cX14_takenAt 23 = .ok (.bipush 8, 2) := by decide +kernel
theorem dX14_takenAt_25 : decode cX14_takenAt 25 = .ok (.iload_n 1, 1) := by decide +kernel
theorem dX14_takenAt_26 : decode cX14_takenAt 26 = .ok (.imul, 1) := by decide +kernel
theorem dX14_takenAt_27 : decode cX14_takenAt 27 = .ok (.iload_n 3, 1) := by decide +kernel
theorem dX14_takenAt_28 : decode cX14_takenAt 28 = .ok (.iadd, 1) := by decide +kernel
theorem dX14_takenAt_29 : decode cX14_takenAt 29 = .ok (.iaload, 1) := by decide +kernel
theorem dX14_takenAt_30 : decode cX14_takenAt 30 = .ok (.iadd, 1) := by decide +kernel
theorem dX14_takenAt_31 : decode cX14_takenAt 31 = .ok (.istore_n 2, 1) := by decide +kernel
theorem dX14_takenAt_32 : decode cX14_takenAt 32 = .ok (.iinc 3 1, 3) := by decide +kernel
theorem dX14_takenAt_35 : decode cX14_takenAt 35 = .ok (.goto (-31), 3) := by decide +kernel
theorem dX14_takenAt_38 : decode cX14_takenAt 38 = .ok (.iload_n 2, 1) := by decide +kernel
theorem dX14_takenAt_39 : decode cX14_takenAt 39 = .ok (.ireturn, 1) := by decide +kernel
theorem k_X14_takenAt_f35 : Cond.fieldLink RX14 35 "TideLotsModel" "told" "LTideLotsModel$Told;" ∈ wsX14_takenAt := by decide +kernel
theorem i_X14_takenAt_X14 : ∀ w ∈ u_ws RX14 TX14 15, w ∈ wsX14_takenAt := by decide +kernel
theorem i_X14_takenAt_X13 : ∀ w ∈ u_ws RX13 TX13 25, w ∈ wsX14_takenAt := by decide +kernel
theorem k_X14_takenAt_f47 : Cond.fieldLink RX14 47 "TideLotsModel" "s" "LTideLotsModel$State;" ∈ wsX14_takenAt := by decide +kernel
theorem kn_X14_299 : Cond.fieldLinkNest "TideLotsModel" (299 : Nat) "TideLotsModel$State" "took" "[I" "TideLotsModel" ∈ gNs := by decide +kernel
theorem i_X14_takenAt_X12 : ∀ w ∈ u_ws RX12 TX12 19, w ∈ wsX14_takenAt := by decide +kernel
abbrev rX14_takenAt : Room := { frames := 0, cells := 0, slots := 0, locals := 0 }
noncomputable def bb_X14_takenAt_4 (M : gMem) (x0 : Nat) (x1 : Int32) (x2 : Int32) (x3 : Int32) : Option ((gMem × Int32 × Int32) ⊕ (Int32 × gMem)) :=
  ck (mT M x0 = 13) <| dr ((mR M x0 11)) fun a2 => ck (mT M a2 = 12) <| (if (mI M a2 4) ≤ x3 then oI (some (x2, M)) else dr ((mR M x0 13)) fun a5 => ck (mT M a5 = 11) <| dr ((mR M a5 4)) fun a7 => ck (mT M a7 = 20) <| ck (inb (((8 : Int32) * x1) + x3) (mL M a7)) <| some (.inl (M, (x2 + (mI M a7 ((((8 : Int32) * x1) + x3)).toNatClampNeg)), (x3 + (1 : Int32)))))
noncomputable def lp_X14_takenAt_4 (M : gMem) (x0 : Nat) (x1 : Int32) (x2 : Int32) (x3 : Int32) : Option (Int32 × gMem) :=
  lp (fun (q : gMem × Int32 × Int32) => bb_X14_takenAt_4 q.1 x0 x1 q.2.1 q.2.2) (M, x2, x3)
noncomputable def b_X14_takenAt_0 (M : gMem) (x0 : Nat) (x1 : Int32) : Option (Int32 × gMem) :=
  lp_X14_takenAt_4 M x0 x1 ((0 : Int32)) ((0 : Int32))
noncomputable def f_X14_takenAt (M : gMem) (x0 : Nat) (x1 : Int32) : Option (Int32 × gMem) :=
  b_X14_takenAt_0 M x0 x1
set_option maxHeartbeats 4000000 in
set_option maxRecDepth 100000 in
theorem tb_X14_takenAt_4 (X : gX p s m args meth c D cy B (gSt Z B H0) RX14 cX14_takenAt wsX14_takenAt 4) (hr : meth.sig.returnType = (some .int)) {Q : State → Prop} : ∀ (M : gMem) (x0 : Nat) (x1 : Int32) (x2 : Int32) (x3 : Int32) (z : (gMem × Int32 × Int32) ⊕ (Int32 × gMem)), bb_X14_takenAt_4 M x0 x1 x2 x3 = some z → (Sum.elim (fun (q : gMem × Int32 × Int32) => gGo p l e rX14_takenAt s m args below meth c D cy B H0 4 0 0 Q 4 [(0, vR (some x0)), (1, vI x1), (2, vI q.2.1), (3, vI q.2.2)] [] q.1) (fun (r : Int32 × gMem) => Q = gMQ below D cy B H0 args s 0 0 (some (vI r.1)) r.2)) z → gGo p l e rX14_takenAt s m args below meth c D cy B H0 4 0 0 Q 4 [(0, vR (some x0)), (1, vI x1), (2, vI x2), (3, vI x3)] [] M := by
  intro M x0 x1 x2 x3 z hf hK
  unfold bb_X14_takenAt_4 at hf
  refine g_iload_n X dX14_takenAt_4 rfl rfl ?_
  refine g_aload_n X dX14_takenAt_5 rfl rfl ?_
  obtain ⟨hT1, hf⟩ := ck_e hf
  refine g_get (ci := 12) (v := vR (mR M x0 11)) 11 X cdX14 i_X14_takenAt_X14 (by decide) k_X14_takenAt_f35 rfl dX14_takenAt_6 rfl hT1 rfl ?_
  obtain ⟨a2, ha2, hf⟩ := dr_e hf
  obtain ⟨hT3, hf⟩ := ck_e hf
  refine g_getN (ci := 11) (w := vI (mI M a2 4)) 4 X cdX13 i_X14_takenAt_X13 (by decide) (gNw X _ kn_X14_67) rfl dX14_takenAt_9 ha2 hT3 rfl ?_
  refine g_icmp_ge (tgt := 38) X dX14_takenAt_12 (by decide) (fun hc => ?_) (fun hc => ?_)
  · have hf := ife_t hc hf
    refine g_iload_n X dX14_takenAt_38 rfl rfl ?_
    obtain ⟨w4, hw4, hz4⟩ := oI_e hf
    subst hz4
    have hf := hw4
    cases hf
    refine g_eqQ hK ?_
    exact g_iret X hr dX14_takenAt_39
  · have hf := ife_f hc hf
    refine g_iload_n X dX14_takenAt_15 rfl rfl ?_
    refine g_aload_n X dX14_takenAt_16 rfl rfl ?_
    refine g_get (ci := 12) (v := vR (mR M x0 13)) 13 X cdX14 i_X14_takenAt_X14 (by decide) k_X14_takenAt_f47 rfl dX14_takenAt_17 rfl hT1 rfl ?_
    obtain ⟨a5, ha5, hf⟩ := dr_e hf
    obtain ⟨hT6, hf⟩ := ck_e hf
    refine g_getN (ci := 10) (w := vR (mR M a5 4)) 4 X cdX12 i_X14_takenAt_X12 (by decide) (gNw X _ kn_X14_299) rfl dX14_takenAt_20 ha5 hT6 rfl ?_
    refine g_bipush (v := (8 : Int32)) X dX14_takenAt_23 (by decide) ?_
    refine g_iload_n X dX14_takenAt_25 rfl rfl ?_
    refine g_imul X dX14_takenAt_26 ?_
    refine g_iload_n X dX14_takenAt_27 rfl rfl ?_
    refine g_iadd X dX14_takenAt_28 ?_
    obtain ⟨a7, ha7, hf⟩ := dr_e hf
    obtain ⟨hT8, hf⟩ := ck_e hf
    obtain ⟨hg9, hf⟩ := ck_e hf
    refine g_iald X dX14_takenAt_29 ha7 hT8 hg9 ?_
    refine g_iadd X dX14_takenAt_30 ?_
    refine g_istore_n (lv' := [(2, vI (x2 + (mI M a7 ((((8 : Int32) * x1) + x3)).toNatClampNeg))), (0, vR (some x0)), (1, vI x1), (3, vI x3)]) X dX14_takenAt_31 rfl (by decide) rfl ?_
    refine g_iinc (v := (1 : Int32)) (lv' := [(3, vI (x3 + (1 : Int32))), (2, vI (x2 + (mI M a7 ((((8 : Int32) * x1) + x3)).toNatClampNeg))), (0, vR (some x0)), (1, vI x1)]) X dX14_takenAt_32 rfl (by decide) (by decide) rfl ?_
    refine g_goto (tgt := 4) X dX14_takenAt_35 (by decide) ?_
    cases hf
    refine g_sub (lvsub_of _ _ [2, 3, 1, 0] rfl) ?_
    exact hK
set_option maxHeartbeats 4000000 in
set_option maxRecDepth 100000 in
theorem tl_X14_takenAt_4 (X : gX p s m args meth c D cy B (gSt Z B H0) RX14 cX14_takenAt wsX14_takenAt 4) (hr : meth.sig.returnType = (some .int)) {Q : State → Prop} : ∀ (M : gMem) (x0 : Nat) (x1 : Int32) (x2 : Int32) (x3 : Int32) (z : Int32 × gMem), lp_X14_takenAt_4 M x0 x1 x2 x3 = some z → (fun (r : Int32 × gMem) => Q = gMQ below D cy B H0 args s 0 0 (some (vI r.1)) r.2) z → gGo p l e rX14_takenAt s m args below meth c D cy B H0 4 0 0 Q 4 [(0, vR (some x0)), (1, vI x1), (2, vI x2), (3, vI x3)] [] M := by
  intro M x0 x1 x2 x3 z hf hK
  refine lp_ind (P := (fun (q : gMem × Int32 × Int32) (z : Int32 × gMem) => (fun (r : Int32 × gMem) => Q = gMQ below D cy B H0 args s 0 0 (some (vI r.1)) r.2) z → gGo p l e rX14_takenAt s m args below meth c D cy B H0 4 0 0 Q 4 [(0, vR (some x0)), (1, vI x1), (2, vI q.2.1), (3, vI q.2.2)] [] q.1)) (fun q z hq => ?_) _ _ hf hK
  intro hK
  obtain ⟨w, hw, hm⟩ := hq
  refine tb_X14_takenAt_4 X hr _ _ _ _ _ w hw ?_
  cases w with
  | inl a => exact hm hK
  | inr b => cases hm; exact hK
set_option maxHeartbeats 4000000 in
set_option maxRecDepth 100000 in
theorem t_X14_takenAt_0 (X : gX p s m args meth c D cy B (gSt Z B H0) RX14 cX14_takenAt wsX14_takenAt 4) (hr : meth.sig.returnType = (some .int)) {Q : State → Prop} : ∀ (M : gMem) (x0 : Nat) (x1 : Int32) (z : Int32 × gMem), b_X14_takenAt_0 M x0 x1 = some z → (fun (r : Int32 × gMem) => Q = gMQ below D cy B H0 args s 0 0 (some (vI r.1)) r.2) z → gGo p l e rX14_takenAt s m args below meth c D cy B H0 4 0 0 Q 0 [(0, vR (some x0)), (1, vI x1)] [] M := by
  intro M x0 x1 z hf hK
  unfold b_X14_takenAt_0 at hf
  refine g_iconst (v := (0 : Int32)) X dX14_takenAt_0 (by decide) ?_
  refine g_istore_n (lv' := [(2, vI (0 : Int32)), (0, vR (some x0)), (1, vI x1)]) X dX14_takenAt_1 rfl (by decide) rfl ?_
  refine g_iconst (v := (0 : Int32)) X dX14_takenAt_2 (by decide) ?_
  refine g_istore_n (lv' := [(3, vI (0 : Int32)), (2, vI (0 : Int32)), (0, vR (some x0)), (1, vI x1)]) X dX14_takenAt_3 rfl (by decide) rfl ?_
  refine g_sub (lvsub_of _ _ [2, 3, 1, 0] rfl) ?_
  exact tl_X14_takenAt_4 X hr _ _ _ _ _ _ hf hK
set_option maxHeartbeats 4000000 in
set_option maxRecDepth 100000 in
theorem m_X14_takenAt (l : Launch) {D : va_G} {cy : Nat → ClassId} {B : Nat} {H0 : Heap} {Z : Nat → Nat} {M M1 : gMem} {x0 : Nat} {x1 : Int32} {r : Int32} (hf : f_X14_takenAt M x0 x1 = some (r, M1)) : Met l yX14_takenAt wsX14_takenAt rX14_takenAt (va_Pc (Value.ref x0 :: List.map gv [vI x1]) (gPre D cy B H0 (gSt Z B H0) M)) (gQ D cy B H0 (some (vI r)) M1) 0 0 (gA B) := by
  refine Met.ofW (cc := cX14_takenAt) (maxL := 4) (ret := (some .int)) (by decide) rfl ?_
  intro p e s m args below meth c s₁ Bd hml hv
  obtain ⟨rfl, hW, hKK, hFs⟩ := hv
  have X : gX p s m _ meth c D cy B (gSt Z B H0) RX14 cX14_takenAt wsX14_takenAt 4 := ⟨Bd.exec, Bd.bytes, atoms_spec (ws := wsX14_takenAt) Bd.pre, findClass_of_methodNamed Bd.named, hml, hKK, by rw [hW.1]; exact hW.2.1, Bd.notSynchronized, hFs⟩
  have hr := Bd.returns
  have hl := lv_entry ([.ref x0, .int x1]) (n := 4) (Nat.le_of_ble_eq_true rfl)
  show W p l e rX14_takenAt s m _ below meth c s.heap [] 0 0 _ (entryFrame m ([.ref x0, .int x1] : List Value).toArray 4)
  rw [lg_entry_eq]
  generalize (lg_sl ([.ref x0, .int x1]) ++ List.replicate (4 - (lg_sl ([.ref x0, .int x1])).length) Slot.unset).toArray = ls at hl ⊢
  have hl : lv_has ls 4 (List.map gq [(0, vR (some x0)), (1, vI x1)]) := hl
  exact t_X14_takenAt_0 X hr _ _ _ _ hf rfl s.heap [] ls hW va_S.rf (lv_has_sub hl (lvsub_of _ _ [0, 1] rfl))
/-! ## TideLotsModel.takenBy(I)I -/
theorem dX14_takenBy_0 : decode cX14_takenBy 0 = .ok (.iconst 0, 1) := by decide +kernel
theorem dX14_takenBy_1 : decode cX14_takenBy 1 = .ok (.istore_n 2, 1) := by decide +kernel
theorem dX14_takenBy_2 : decode cX14_takenBy 2 = .ok (.iconst 0, 1) := by decide +kernel
theorem dX14_takenBy_3 : decode cX14_takenBy 3 = .ok (.istore_n 3, 1) := by decide +kernel
theorem dX14_takenBy_4 : decode cX14_takenBy 4 = .ok (.iload_n 3, 1) := by decide +kernel
theorem dX14_takenBy_5 : decode cX14_takenBy 5 = .ok (.aload_n 0, 1) := by decide +kernel
theorem dX14_takenBy_6 : decode cX14_takenBy 6 = .ok (.getfield 35, 3) := by decide +kernel
theorem dX14_takenBy_9 : decode cX14_takenBy 9 = .ok (.getfield 60, 3) := by decide +kernel
theorem dX14_takenBy_12 : decode cX14_takenBy 12 = .ok (.if_icmp .ge 26, 3) := by decide +kernel
theorem dX14_takenBy_15 : decode cX14_takenBy 15 = .ok (.iload_n 2, 1) := by decide +kernel
theorem dX14_takenBy_16 : decode cX14_takenBy 16 = .ok (.aload_n 0, 1) := by decide +kernel
theorem dX14_takenBy_17 : decode cX14_takenBy 17 = .ok (.getfield 47, 3) := by decide +kernel
theorem dX14_takenBy_20 : decode cX14_takenBy 20 = .ok (.getfield 299, 3) := by decide +kernel
theorem dX14_takenBy_23 : decode cX14_takenBy 23 = .ok (.bipush 8, 2) := by decide +kernel
theorem dX14_takenBy_25 : decode cX14_takenBy 25 = .ok (.iload_n 3, 1) := by decide +kernel
theorem dX14_takenBy_26 : decode cX14_takenBy 26 = .ok (.imul, 1) := by decide +kernel
theorem dX14_takenBy_27 : decode cX14_takenBy 27 = .ok (.iload_n 1, 1) := by decide +kernel
theorem dX14_takenBy_28 : decode cX14_takenBy 28 = .ok (.iadd, 1) := by decide +kernel
theorem dX14_takenBy_29 : decode cX14_takenBy 29 = .ok (.iaload, 1) := by decide +kernel
theorem dX14_takenBy_30 : decode cX14_takenBy 30 = .ok (.iadd, 1) := by decide +kernel
theorem dX14_takenBy_31 : decode cX14_takenBy 31 = .ok (.istore_n 2, 1) := by decide +kernel
theorem dX14_takenBy_32 : decode cX14_takenBy 32 = .ok (.iinc 3 1, 3) := by decide +kernel
theorem dX14_takenBy_35 : decode cX14_takenBy 35 = .ok (.goto (-31), 3) := by decide +kernel
theorem dX14_takenBy_38 : decode cX14_takenBy 38 = .ok (.iload_n 2, 1) := by decide +kernel
theorem dX14_takenBy_39 : decode cX14_takenBy 39 = .ok (.ireturn, 1) := by decide +kernel
theorem k_X14_takenBy_f35 : Cond.fieldLink RX14 35 "TideLotsModel" "told" "LTideLotsModel$Told;" ∈ wsX14_takenBy := by decide +kernel
theorem i_X14_takenBy_X14 : ∀ w ∈ u_ws RX14 TX14 15, w ∈ wsX14_takenBy := by decide +kernel
theorem i_X14_takenBy_X13 : ∀ w ∈ u_ws RX13 TX13 25, w ∈ wsX14_takenBy := by decide +kernel
theorem k_X14_takenBy_f47 : Cond.fieldLink RX14 47 "TideLotsModel" "s" "LTideLotsModel$State;" ∈ wsX14_takenBy := by decide +kernel
theorem i_X14_takenBy_X12 : ∀ w ∈ u_ws RX12 TX12 19, w ∈ wsX14_takenBy := by decide +kernel
abbrev rX14_takenBy : Room := { frames := 0, cells := 0, slots := 0, locals := 0 }
noncomputable def bb_X14_takenBy_4 (M : gMem) (x0 : Nat) (x1 : Int32) (x2 : Int32) (x3 : Int32) : Option ((gMem × Int32 × Int32) ⊕ (Int32 × gMem)) :=
  ck (mT M x0 = 13) <| dr ((mR M x0 11)) fun a2 => ck (mT M a2 = 12) <| (if (mI M a2 0) ≤ x3 then oI (some (x2, M)) else dr ((mR M x0 13)) fun a5 => ck (mT M a5 = 11) <| dr ((mR M a5 4)) fun a7 => ck (mT M a7 = 20) <| ck (inb (((8 : Int32) * x3) + x1) (mL M a7)) <| some (.inl (M, (x2 + (mI M a7 ((((8 : Int32) * x3) + x1)).toNatClampNeg)), (x3 + (1 : Int32)))))
noncomputable def lp_X14_takenBy_4 (M : gMem) (x0 : Nat) (x1 : Int32) (x2 : Int32) (x3 : Int32) : Option (Int32 × gMem) :=
  lp (fun (q : gMem × Int32 × Int32) => bb_X14_takenBy_4 q.1 x0 x1 q.2.1 q.2.2) (M, x2, x3)
noncomputable def b_X14_takenBy_0 (M : gMem) (x0 : Nat) (x1 : Int32) : Option (Int32 × gMem) :=
  lp_X14_takenBy_4 M x0 x1 ((0 : Int32)) ((0 : Int32))
noncomputable def f_X14_takenBy (M : gMem) (x0 : Nat) (x1 : Int32) : Option (Int32 × gMem) :=
  b_X14_takenBy_0 M x0 x1
set_option maxHeartbeats 4000000 in
set_option maxRecDepth 100000 in
theorem tb_X14_takenBy_4 (X : gX p s m args meth c D cy B (gSt Z B H0) RX14 cX14_takenBy wsX14_takenBy 4) (hr : meth.sig.returnType = (some .int)) {Q : State → Prop} : ∀ (M : gMem) (x0 : Nat) (x1 : Int32) (x2 : Int32) (x3 : Int32) (z : (gMem × Int32 × Int32) ⊕ (Int32 × gMem)), bb_X14_takenBy_4 M x0 x1 x2 x3 = some z → (Sum.elim (fun (q : gMem × Int32 × Int32) => gGo p l e rX14_takenBy s m args below meth c D cy B H0 4 0 0 Q 4 [(0, vR (some x0)), (1, vI x1), (2, vI q.2.1), (3, vI q.2.2)] [] q.1) (fun (r : Int32 × gMem) => Q = gMQ below D cy B H0 args s 0 0 (some (vI r.1)) r.2)) z → gGo p l e rX14_takenBy s m args below meth c D cy B H0 4 0 0 Q 4 [(0, vR (some x0)), (1, vI x1), (2, vI x2), (3, vI x3)] [] M := by
  intro M x0 x1 x2 x3 z hf hK
  unfold bb_X14_takenBy_4 at hf
  refine g_iload_n X dX14_takenBy_4 rfl rfl ?_
  refine g_aload_n X dX14_takenBy_5 rfl rfl ?_
  obtain ⟨hT1, hf⟩ := ck_e hf
  refine g_get (ci := 12) (v := vR (mR M x0 11)) 11 X cdX14 i_X14_takenBy_X14 (by decide) k_X14_takenBy_f35 rfl dX14_takenBy_6 rfl hT1 rfl ?_
  obtain ⟨a2, ha2, hf⟩ := dr_e hf
  obtain ⟨hT3, hf⟩ := ck_e hf
  refine g_getN (ci := 11) (w := vI (mI M a2 0)) 0 X cdX13 i_X14_takenBy_X13 (by decide) (gNw X _ kn_X14_60) rfl dX14_takenBy_9 ha2 hT3 rfl ?_
  refine g_icmp_ge (tgt := 38) X dX14_takenBy_12 (by decide) (fun hc => ?_) (fun hc => ?_)
  · have hf := ife_t hc hf
    refine g_iload_n X dX14_takenBy_38 rfl rfl ?_
    obtain ⟨w4, hw4, hz4⟩ := oI_e hf
    subst hz4
    have hf := hw4
    cases hf
    refine g_eqQ hK ?_
    exact g_iret X hr dX14_takenBy_39
  · have hf := ife_f hc hf
    refine g_iload_n X dX14_takenBy_15 rfl rfl ?_
    refine g_aload_n X dX14_takenBy_16 rfl rfl ?_
    refine g_get (ci := 12) (v := vR (mR M x0 13)) 13 X cdX14 i_X14_takenBy_X14 (by decide) k_X14_takenBy_f47 rfl dX14_takenBy_17 rfl hT1 rfl ?_
    obtain ⟨a5, ha5, hf⟩ := dr_e hf
    obtain ⟨hT6, hf⟩ := ck_e hf
    refine g_getN (ci := 10) (w := vR (mR M a5 4)) 4 X cdX12 i_X14_takenBy_X12 (by decide) (gNw X _ kn_X14_299) rfl dX14_takenBy_20 ha5 hT6 rfl ?_
    refine g_bipush (v := (8 : Int32)) X dX14_takenBy_23 (by decide) ?_
    refine g_iload_n X dX14_takenBy_25 rfl rfl ?_
    refine g_imul X dX14_takenBy_26 ?_
    refine g_iload_n X dX14_takenBy_27 rfl rfl ?_
    refine g_iadd X dX14_takenBy_28 ?_
    obtain ⟨a7, ha7, hf⟩ := dr_e hf
    obtain ⟨hT8, hf⟩ := ck_e hf
    obtain ⟨hg9, hf⟩ := ck_e hf
    refine g_iald X dX14_takenBy_29 ha7 hT8 hg9 ?_
    refine g_iadd X dX14_takenBy_30 ?_
    refine g_istore_n (lv' := [(2, vI (x2 + (mI M a7 ((((8 : Int32) * x3) + x1)).toNatClampNeg))), (0, vR (some x0)), (1, vI x1), (3, vI x3)]) X dX14_takenBy_31 rfl (by decide) rfl ?_
    refine g_iinc (v := (1 : Int32)) (lv' := [(3, vI (x3 + (1 : Int32))), (2, vI (x2 + (mI M a7 ((((8 : Int32) * x3) + x1)).toNatClampNeg))), (0, vR (some x0)), (1, vI x1)]) X dX14_takenBy_32 rfl (by decide) (by decide) rfl ?_
    refine g_goto (tgt := 4) X dX14_takenBy_35 (by decide) ?_
    cases hf
    refine g_sub (lvsub_of _ _ [2, 3, 1, 0] rfl) ?_
    exact hK
set_option maxHeartbeats 4000000 in
set_option maxRecDepth 100000 in
theorem tl_X14_takenBy_4 (X : gX p s m args meth c D cy B (gSt Z B H0) RX14 cX14_takenBy wsX14_takenBy 4) (hr : meth.sig.returnType = (some .int)) {Q : State → Prop} : ∀ (M : gMem) (x0 : Nat) (x1 : Int32) (x2 : Int32) (x3 : Int32) (z : Int32 × gMem), lp_X14_takenBy_4 M x0 x1 x2 x3 = some z → (fun (r : Int32 × gMem) => Q = gMQ below D cy B H0 args s 0 0 (some (vI r.1)) r.2) z → gGo p l e rX14_takenBy s m args below meth c D cy B H0 4 0 0 Q 4 [(0, vR (some x0)), (1, vI x1), (2, vI x2), (3, vI x3)] [] M := by
  intro M x0 x1 x2 x3 z hf hK
  refine lp_ind (P := (fun (q : gMem × Int32 × Int32) (z : Int32 × gMem) => (fun (r : Int32 × gMem) => Q = gMQ below D cy B H0 args s 0 0 (some (vI r.1)) r.2) z → gGo p l e rX14_takenBy s m args below meth c D cy B H0 4 0 0 Q 4 [(0, vR (some x0)), (1, vI x1), (2, vI q.2.1), (3, vI q.2.2)] [] q.1)) (fun q z hq => ?_) _ _ hf hK
  intro hK
  obtain ⟨w, hw, hm⟩ := hq
  refine tb_X14_takenBy_4 X hr _ _ _ _ _ w hw ?_
  cases w with
  | inl a => exact hm hK
  | inr b => cases hm; exact hK
set_option maxHeartbeats 4000000 in
set_option maxRecDepth 100000 in
theorem t_X14_takenBy_0 (X : gX p s m args meth c D cy B (gSt Z B H0) RX14 cX14_takenBy wsX14_takenBy 4) (hr : meth.sig.returnType = (some .int)) {Q : State → Prop} : ∀ (M : gMem) (x0 : Nat) (x1 : Int32) (z : Int32 × gMem), b_X14_takenBy_0 M x0 x1 = some z → (fun (r : Int32 × gMem) => Q = gMQ below D cy B H0 args s 0 0 (some (vI r.1)) r.2) z → gGo p l e rX14_takenBy s m args below meth c D cy B H0 4 0 0 Q 0 [(0, vR (some x0)), (1, vI x1)] [] M := by
  intro M x0 x1 z hf hK
  unfold b_X14_takenBy_0 at hf
  refine g_iconst (v := (0 : Int32)) X dX14_takenBy_0 (by decide) ?_
  refine g_istore_n (lv' := [(2, vI (0 : Int32)), (0, vR (some x0)), (1, vI x1)]) X dX14_takenBy_1 rfl (by decide) rfl ?_
  refine g_iconst (v := (0 : Int32)) X dX14_takenBy_2 (by decide) ?_
  refine g_istore_n (lv' := [(3, vI (0 : Int32)), (2, vI (0 : Int32)), (0, vR (some x0)), (1, vI x1)]) X dX14_takenBy_3 rfl (by decide) rfl ?_
  refine g_sub (lvsub_of _ _ [2, 3, 1, 0] rfl) ?_
  exact tl_X14_takenBy_4 X hr _ _ _ _ _ _ hf hK
set_option maxHeartbeats 4000000 in
set_option maxRecDepth 100000 in
theorem m_X14_takenBy (l : Launch) {D : va_G} {cy : Nat → ClassId} {B : Nat} {H0 : Heap} {Z : Nat → Nat} {M M1 : gMem} {x0 : Nat} {x1 : Int32} {r : Int32} (hf : f_X14_takenBy M x0 x1 = some (r, M1)) : Met l yX14_takenBy wsX14_takenBy rX14_takenBy (va_Pc (Value.ref x0 :: List.map gv [vI x1]) (gPre D cy B H0 (gSt Z B H0) M)) (gQ D cy B H0 (some (vI r)) M1) 0 0 (gA B) := by
  refine Met.ofW (cc := cX14_takenBy) (maxL := 4) (ret := (some .int)) (by decide) rfl ?_
  intro p e s m args below meth c s₁ Bd hml hv
  obtain ⟨rfl, hW, hKK, hFs⟩ := hv
  have X : gX p s m _ meth c D cy B (gSt Z B H0) RX14 cX14_takenBy wsX14_takenBy 4 := ⟨Bd.exec, Bd.bytes, atoms_spec (ws := wsX14_takenBy) Bd.pre, findClass_of_methodNamed Bd.named, hml, hKK, by rw [hW.1]; exact hW.2.1, Bd.notSynchronized, hFs⟩
  have hr := Bd.returns
  have hl := lv_entry ([.ref x0, .int x1]) (n := 4) (Nat.le_of_ble_eq_true rfl)
  show W p l e rX14_takenBy s m _ below meth c s.heap [] 0 0 _ (entryFrame m ([.ref x0, .int x1] : List Value).toArray 4)
  rw [lg_entry_eq]
  generalize (lg_sl ([.ref x0, .int x1]) ++ List.replicate (4 - (lg_sl ([.ref x0, .int x1])).length) Slot.unset).toArray = ls at hl ⊢
  have hl : lv_has ls 4 (List.map gq [(0, vR (some x0)), (1, vI x1)]) := hl
  exact t_X14_takenBy_0 X hr _ _ _ _ hf rfl s.heap [] ls hW va_S.rf (lv_has_sub hl (lvsub_of _ _ [0, 1] rfl))
/-! ## TideLotsModel.groundTold(II)I -/
theorem dX14_groundTold_0 : decode cX14_groundTold 0 = .ok (.iload_n 2, 1) := by decide +kernel
theorem dX14_groundTold_1 : decode cX14_groundTold 1 = .ok (.ifCond .ne 12, 3) := by decide +kernel
theorem dX14_groundTold_4 : decode cX14_groundTold 4 = .ok (.aload_n 0, 1) := by decide +kernel
theorem dX14_groundTold_5 : decode cX14_groundTold 5 = .ok (.getfield 47, 3) := by decide +kernel
theorem dX14_groundTold_8 : decode cX14_groundTold 8 = .ok (.iload_n 1, 1) := by decide +kernel
theorem dX14_groundTold_9 : decode cX14_groundTold 9 = .ok (.invokevirtual 302, 3) := by decide +kernel
theorem dX14_groundTold_12 : decode cX14_groundTold 12 = .ok (.ireturn, 1) := by decide +kernel
theorem dX14_groundTold_13 : decode cX14_groundTold 13 = .ok (.iload_n 2, 1) := by decide +kernel
theorem dX14_groundTold_14 : decode cX14_groundTold 14 = .ok (.iconst 5, 1) := by decide +kernel
theorem dX14_groundTold_15 : decode cX14_groundTold 15 = .ok (.if_icmp .gt 19, 3) := by decide +kernel
theorem dX14_groundTold_18 : decode cX14_groundTold 18 = .ok (.aload_n 0, 1) := by decide +kernel
theorem dX14_groundTold_19 : decode cX14_groundTold 19 = .ok (.getfield 47, 3) := by decide +kernel
theorem dX14_groundTold_22 : decode cX14_groundTold 22 = .ok (.getfield 286, 3) := by decide +kernel
theorem dX14_groundTold_25 : decode cX14_groundTold 25 = .ok (.iconst 5, 1) := by decide +kernel
theorem dX14_groundTold_26 : decode cX14_groundTold 26 = .ok (.iload_n 1, 1) := by decide +kernel
theorem dX14_groundTold_27 : decode cX14_groundTold 27 = .ok (.imul, 1) := by decide +kernel
theorem dX14_groundTold_28 : decode cX14_groundTold 28 = .ok (.iload_n 2, 1) := by decide +kernel
theorem dX14_groundTold_29 : decode cX14_groundTold 29 = .ok (.iadd, 1) := by decide +kernel
theorem dX14_groundTold_30 : decode cX14_groundTold 30 = .ok (.iconst 1, 1) := by decide +kernel
theorem dX14_groundTold_31 : decode cX14_groundTold 31 = .ok (.isub, 1) := by decide +kernel
theorem dX14_groundTold_32 : decode cX14_groundTold 32 = .ok (.iaload, 1) := by decide +kernel
theorem dX14_groundTold_33 : decode cX14_groundTold 33 = .ok (.ireturn, 1) := by decide +kernel
theorem dX14_groundTold_34 : decode cX14_groundTold 34 = .ok (.iload_n 2, 1) := by decide +kernel
theorem dX14_groundTold_35 : decode cX14_groundTold 35 = .ok (.bipush 6, 2) := by decide +kernel
theorem dX14_groundTold_37 : decode cX14_groundTold 37 = .ok (.if_icmp .ne 15, 3) := by decide +kernel
theorem dX14_groundTold_40 : decode cX14_groundTold 40 = .ok (.aload_n 0, 1) := by decide +kernel
theorem dX14_groundTold_41 : decode cX14_groundTold 41 = .ok (.getfield 35, 3) := by decide +kernel
theorem dX14_groundTold_44 : decode cX14_groundTold 44 = .ok (.getfield 231, 3) := by decide +kernel
theorem dX14_groundTold_47 : decode cX14_groundTold 47 = .ok (.iload_n 1, 1) := by decide +kernel
theorem dX14_groundTold_48 : decode cX14_groundTold 48 = .ok (.iaload, 1) := by decide +kernel
theorem dX14_groundTold_49 : decode cX14_groundTold 49 = .ok (.goto 26, 3) := by decide +kernel
theorem dX14_groundTold_52 : decode cX14_groundTold 52 = .ok (.iload_n 2, 1) := by decide +kernel
theorem dX14_groundTold_53 : decode cX14_groundTold 53 = .ok (.bipush 7, 2) := by decide +kernel
theorem dX14_groundTold_55 : decode cX14_groundTold 55 = .ok (.if_icmp .ne 15, 3) := by decide +kernel
theorem dX14_groundTold_58 : decode cX14_groundTold 58 = .ok (.aload_n 0, 1) := by decide +kernel
theorem dX14_groundTold_59 : decode cX14_groundTold 59 = .ok (.getfield 47, 3) := by decide +kernel
theorem dX14_groundTold_62 : decode cX14_groundTold 62 = .ok (.getfield 305, 3) := by decide +kernel
theorem dX14_groundTold_65 : decode cX14_groundTold 65 = .ok (.iload_n 1, 1) := by decide +kernel
theorem dX14_groundTold_66 : decode cX14_groundTold 66 = .ok (.iaload, 1) := by decide +kernel
theorem dX14_groundTold_67 : decode cX14_groundTold 67 = .ok (.goto 8, 3) := by decide +kernel
theorem dX14_groundTold_70 : decode cX14_groundTold 70 = .ok (.aload_n 0, 1) := by decide +kernel
theorem dX14_groundTold_71 : decode cX14_groundTold 71 = .ok (.iload_n 1, 1) := by decide +kernel
theorem dX14_groundTold_72 : decode cX14_groundTold 72 = .ok (.invokevirtual 308, 3) := by decide +kernel
theorem dX14_groundTold_75 : decode cX14_groundTold 75 = .ok (.ireturn, 1) := by decide +kernel
set_option maxRecDepth 20000 in
theorem ggX14_groundTold_X14_takenAt : GoodIn wsX14_groundTold wsX14_takenAt := goodIn_r _ [13, 2, 1, 14, 15, 16, 17, 18, 19, 20, 21, 22, 23, 24, 25, 26, 27, 28, 48, 49, 50, 51, 52, 53, 54, 55, 56, 57, 58, 59, 60, 61, 62, 63, 64, 65, 66, 67, 68, 69, 70, 71, 72, 29, 30, 31, 32, 33, 34, 35, 36, 37, 38, 39, 40, 41, 42, 43, 44, 45, 46, 47] (by decide +kernel) (by decide +kernel)
set_option maxRecDepth 20000 in
theorem gX14_groundTold_X14_takenAt : GoodIn wsX14_groundTold (wsV RX14 308 RX14 yX14_takenAt wsX14_takenAt) := goodIn_app (goodIn_of _ (by decide +kernel)) ggX14_groundTold_X14_takenAt
set_option maxRecDepth 20000 in
theorem ggX14_groundTold_X12_fishAt : GoodIn wsX14_groundTold wsX12_fishAt := goodIn_r _ [7, 8, 29, 30, 31, 32, 33, 34, 35, 36, 37, 38, 39, 40, 41, 42, 43, 44, 45, 46, 47] (by decide +kernel) (by decide +kernel)
set_option maxRecDepth 20000 in
theorem gX14_groundTold_X12_fishAt : GoodIn wsX14_groundTold (wsV RX14 302 RX12 yX12_fishAt wsX12_fishAt) := goodIn_app (goodIn_of _ (by decide +kernel)) ggX14_groundTold_X12_fishAt
theorem k_X14_groundTold_f47 : Cond.fieldLink RX14 47 "TideLotsModel" "s" "LTideLotsModel$State;" ∈ wsX14_groundTold := by decide +kernel
theorem i_X14_groundTold_X14 : ∀ w ∈ u_ws RX14 TX14 15, w ∈ wsX14_groundTold := by decide +kernel
theorem kn_X14_305 : Cond.fieldLinkNest "TideLotsModel" (305 : Nat) "TideLotsModel$State" "boats" "[I" "TideLotsModel" ∈ gNs := by decide +kernel
theorem i_X14_groundTold_X12 : ∀ w ∈ u_ws RX12 TX12 19, w ∈ wsX14_groundTold := by decide +kernel
theorem k_X14_groundTold_f35 : Cond.fieldLink RX14 35 "TideLotsModel" "told" "LTideLotsModel$Told;" ∈ wsX14_groundTold := by decide +kernel
theorem i_X14_groundTold_X13 : ∀ w ∈ u_ws RX13 TX13 25, w ∈ wsX14_groundTold := by decide +kernel
theorem kn_X14_286 : Cond.fieldLinkNest "TideLotsModel" (286 : Nat) "TideLotsModel$State" "fish" "[I" "TideLotsModel" ∈ gNs := by decide +kernel
abbrev rX14_groundTold : Room := { frames := 1, cells := 0, slots := 0, locals := 23 }
noncomputable def b_X14_groundTold_75 (M : gMem) (s0 : Int32) : Option (Int32 × gMem) :=
  some (s0, M)
noncomputable def b_X14_groundTold_0 (M : gMem) (x0 : Nat) (x1 : Int32) (x2 : Int32) : Option (Int32 × gMem) :=
  (if x2 = 0 then ck (mT M x0 = 13) <| dr ((mR M x0 13)) fun a23 => ck (mT M a23 = 11) <| bd (f_X12_fishAt M a23 x1) fun r22 M22 => some (r22, M22) else (if (5 : Int32) < x2 then (if x2 = (6 : Int32) then ck (mT M x0 = 13) <| dr ((mR M x0 11)) fun a10 => ck (mT M a10 = 12) <| dr ((mR M a10 1)) fun a12 => ck (mT M a12 = 20) <| ck (inb x1 (mL M a12)) <| b_X14_groundTold_75 M ((mI M a12 x1.toNatClampNeg)) else (if x2 = (7 : Int32) then ck (mT M x0 = 13) <| dr ((mR M x0 13)) fun a4 => ck (mT M a4 = 11) <| dr ((mR M a4 3)) fun a6 => ck (mT M a6 = 20) <| ck (inb x1 (mL M a6)) <| b_X14_groundTold_75 M ((mI M a6 x1.toNatClampNeg)) else ck (mT M x0 = 13) <| bd (f_X14_takenAt M x0 x1) fun r1 M1 => b_X14_groundTold_75 M1 r1)) else ck (mT M x0 = 13) <| dr ((mR M x0 13)) fun a16 => ck (mT M a16 = 11) <| dr ((mR M a16 2)) fun a18 => ck (mT M a18 = 20) <| ck (inb ((((5 : Int32) * x1) + x2) - (1 : Int32)) (mL M a18)) <| some ((mI M a18 (((((5 : Int32) * x1) + x2) - (1 : Int32))).toNatClampNeg), M)))
noncomputable def f_X14_groundTold (M : gMem) (x0 : Nat) (x1 : Int32) (x2 : Int32) : Option (Int32 × gMem) :=
  b_X14_groundTold_0 M x0 x1 x2
set_option maxHeartbeats 4000000 in
set_option maxRecDepth 100000 in
theorem t_X14_groundTold_75 (X : gX p s m args meth c D cy B (gSt Z B H0) RX14 cX14_groundTold wsX14_groundTold 3) (hr : meth.sig.returnType = (some .int)) {Q : State → Prop} : ∀ (M : gMem) (s0 : Int32) (z : Int32 × gMem), b_X14_groundTold_75 M s0 = some z → (fun (r : Int32 × gMem) => Q = gMQ below D cy B H0 args s 0 0 (some (vI r.1)) r.2) z → gGo p l e rX14_groundTold s m args below meth c D cy B H0 3 0 0 Q 75 [] [vI s0] M := by
  intro M s0 z hf hK
  unfold b_X14_groundTold_75 at hf
  cases hf
  refine g_eqQ hK ?_
  exact g_iret X hr dX14_groundTold_75
set_option maxHeartbeats 4000000 in
set_option maxRecDepth 100000 in
theorem t_X14_groundTold_0 (X : gX p s m args meth c D cy B (gSt Z B H0) RX14 cX14_groundTold wsX14_groundTold 3) (hr : meth.sig.returnType = (some .int)) {Q : State → Prop} : ∀ (M : gMem) (x0 : Nat) (x1 : Int32) (x2 : Int32) (z : Int32 × gMem), b_X14_groundTold_0 M x0 x1 x2 = some z → (fun (r : Int32 × gMem) => Q = gMQ below D cy B H0 args s 0 0 (some (vI r.1)) r.2) z → gGo p l e rX14_groundTold s m args below meth c D cy B H0 3 0 0 Q 0 [(0, vR (some x0)), (1, vI x1), (2, vI x2)] [] M := by
  intro M x0 x1 x2 z hf hK
  unfold b_X14_groundTold_0 at hf
  refine g_iload_n X dX14_groundTold_0 rfl rfl ?_
  refine g_if_ne (tgt := 13) X dX14_groundTold_1 (by decide) (fun hc => ?_) (fun hc => ?_)
  · have hf := ife_f hc hf
    refine g_iload_n X dX14_groundTold_13 rfl rfl ?_
    refine g_iconst (v := (5 : Int32)) X dX14_groundTold_14 (by decide) ?_
    refine g_icmp_gt (tgt := 34) X dX14_groundTold_15 (by decide) (fun hc => ?_) (fun hc => ?_)
    · have hf := ife_t hc hf
      refine g_iload_n X dX14_groundTold_34 rfl rfl ?_
      refine g_bipush (v := (6 : Int32)) X dX14_groundTold_35 (by decide) ?_
      refine g_icmp_ne (tgt := 52) X dX14_groundTold_37 (by decide) (fun hc => ?_) (fun hc => ?_)
      · have hf := ife_f hc hf
        refine g_iload_n X dX14_groundTold_52 rfl rfl ?_
        refine g_bipush (v := (7 : Int32)) X dX14_groundTold_53 (by decide) ?_
        refine g_icmp_ne (tgt := 70) X dX14_groundTold_55 (by decide) (fun hc => ?_) (fun hc => ?_)
        · have hf := ife_f hc hf
          refine g_aload_n X dX14_groundTold_70 rfl rfl ?_
          refine g_iload_n X dX14_groundTold_71 rfl rfl ?_
          obtain ⟨hT2, hf⟩ := ck_e hf
          obtain ⟨r1, M1, hq1, hf⟩ := bd_e hf
          refine g_callV (ci := 12) (b := x0) (As := [vI x1]) (st := []) (v := some (vI r1)) (M1 := M1) X (m_X14_takenAt l hq1) (cwV 1 X.2.2.1 gX14_groundTold_X14_takenAt rfl rfl rfl (by decide +kernel) ⟨Nat.le_of_ble_eq_true rfl, Nat.le_of_ble_eq_true rfl⟩) rfl rfl rfl hT2 (by decide) rfl (Nat.le_of_ble_eq_true rfl) dX14_groundTold_72 ⟨by decide, by decide⟩ ?_
          refine g_sub (lvsub_of _ _ [] rfl) ?_
          exact t_X14_groundTold_75 X hr _ _ _ hf hK
        · have hf := ife_t hc hf
          refine g_aload_n X dX14_groundTold_58 rfl rfl ?_
          obtain ⟨hT3, hf⟩ := ck_e hf
          refine g_get (ci := 12) (v := vR (mR M x0 13)) 13 X cdX14 i_X14_groundTold_X14 (by decide) k_X14_groundTold_f47 rfl dX14_groundTold_59 rfl hT3 rfl ?_
          obtain ⟨a4, ha4, hf⟩ := dr_e hf
          obtain ⟨hT5, hf⟩ := ck_e hf
          refine g_getN (ci := 10) (w := vR (mR M a4 3)) 3 X cdX12 i_X14_groundTold_X12 (by decide) (gNw X _ kn_X14_305) rfl dX14_groundTold_62 ha4 hT5 rfl ?_
          refine g_iload_n X dX14_groundTold_65 rfl rfl ?_
          obtain ⟨a6, ha6, hf⟩ := dr_e hf
          obtain ⟨hT7, hf⟩ := ck_e hf
          obtain ⟨hg8, hf⟩ := ck_e hf
          refine g_iald X dX14_groundTold_66 ha6 hT7 hg8 ?_
          refine g_goto (tgt := 75) X dX14_groundTold_67 (by decide) ?_
          refine g_sub (lvsub_of _ _ [] rfl) ?_
          exact t_X14_groundTold_75 X hr _ _ _ hf hK
      · have hf := ife_t hc hf
        refine g_aload_n X dX14_groundTold_40 rfl rfl ?_
        obtain ⟨hT9, hf⟩ := ck_e hf
        refine g_get (ci := 12) (v := vR (mR M x0 11)) 11 X cdX14 i_X14_groundTold_X14 (by decide) k_X14_groundTold_f35 rfl dX14_groundTold_41 rfl hT9 rfl ?_
        obtain ⟨a10, ha10, hf⟩ := dr_e hf
        obtain ⟨hT11, hf⟩ := ck_e hf
        refine g_getN (ci := 11) (w := vR (mR M a10 1)) 1 X cdX13 i_X14_groundTold_X13 (by decide) (gNw X _ kn_X14_231) rfl dX14_groundTold_44 ha10 hT11 rfl ?_
        refine g_iload_n X dX14_groundTold_47 rfl rfl ?_
        obtain ⟨a12, ha12, hf⟩ := dr_e hf
        obtain ⟨hT13, hf⟩ := ck_e hf
        obtain ⟨hg14, hf⟩ := ck_e hf
        refine g_iald X dX14_groundTold_48 ha12 hT13 hg14 ?_
        refine g_goto (tgt := 75) X dX14_groundTold_49 (by decide) ?_
        refine g_sub (lvsub_of _ _ [] rfl) ?_
        exact t_X14_groundTold_75 X hr _ _ _ hf hK
    · have hf := ife_f hc hf
      refine g_aload_n X dX14_groundTold_18 rfl rfl ?_
      obtain ⟨hT15, hf⟩ := ck_e hf
      refine g_get (ci := 12) (v := vR (mR M x0 13)) 13 X cdX14 i_X14_groundTold_X14 (by decide) k_X14_groundTold_f47 rfl dX14_groundTold_19 rfl hT15 rfl ?_
      obtain ⟨a16, ha16, hf⟩ := dr_e hf
      obtain ⟨hT17, hf⟩ := ck_e hf
      refine g_getN (ci := 10) (w := vR (mR M a16 2)) 2 X cdX12 i_X14_groundTold_X12 (by decide) (gNw X _ kn_X14_286) rfl dX14_groundTold_22 ha16 hT17 rfl ?_
      refine g_iconst (v := (5 : Int32)) X dX14_groundTold_25 (by decide) ?_
      refine g_iload_n X dX14_groundTold_26 rfl rfl ?_
      refine g_imul X dX14_groundTold_27 ?_
      refine g_iload_n X dX14_groundTold_28 rfl rfl ?_
      refine g_iadd X dX14_groundTold_29 ?_
      refine g_iconst (v := (1 : Int32)) X dX14_groundTold_30 (by decide) ?_
      refine g_isub X dX14_groundTold_31 ?_
      obtain ⟨a18, ha18, hf⟩ := dr_e hf
      obtain ⟨hT19, hf⟩ := ck_e hf
      obtain ⟨hg20, hf⟩ := ck_e hf
      refine g_iald X dX14_groundTold_32 ha18 hT19 hg20 ?_
      cases hf
      refine g_eqQ hK ?_
      exact g_iret X hr dX14_groundTold_33
  · have hf := ife_t hc hf
    refine g_aload_n X dX14_groundTold_4 rfl rfl ?_
    obtain ⟨hT21, hf⟩ := ck_e hf
    refine g_get (ci := 12) (v := vR (mR M x0 13)) 13 X cdX14 i_X14_groundTold_X14 (by decide) k_X14_groundTold_f47 rfl dX14_groundTold_5 rfl hT21 rfl ?_
    refine g_iload_n X dX14_groundTold_8 rfl rfl ?_
    obtain ⟨a23, ha23, hf⟩ := dr_e hf
    obtain ⟨hT24, hf⟩ := ck_e hf
    obtain ⟨r22, M22, hq22, hf⟩ := bd_e hf
    refine g_callV (ci := 10) (b := a23) (As := [vI x1]) (st := []) (v := some (vI r22)) (M1 := M22) X (m_X12_fishAt l hq22) (cwV 1 X.2.2.1 gX14_groundTold_X12_fishAt rfl rfl rfl (by decide +kernel) ⟨Nat.le_of_ble_eq_true rfl, Nat.le_of_ble_eq_true rfl⟩) rfl rfl ha23 hT24 (by decide) rfl (Nat.le_of_ble_eq_true rfl) dX14_groundTold_9 ⟨by decide, by decide⟩ ?_
    cases hf
    refine g_eqQ hK ?_
    exact g_iret X hr dX14_groundTold_12
set_option maxHeartbeats 4000000 in
set_option maxRecDepth 100000 in
theorem m_X14_groundTold (l : Launch) {D : va_G} {cy : Nat → ClassId} {B : Nat} {H0 : Heap} {Z : Nat → Nat} {M M1 : gMem} {x0 : Nat} {x1 : Int32} {x2 : Int32} {r : Int32} (hf : f_X14_groundTold M x0 x1 x2 = some (r, M1)) : Met l yX14_groundTold wsX14_groundTold rX14_groundTold (va_Pc (Value.ref x0 :: List.map gv [vI x1, vI x2]) (gPre D cy B H0 (gSt Z B H0) M)) (gQ D cy B H0 (some (vI r)) M1) 0 0 (gA B) := by
  refine Met.ofW (cc := cX14_groundTold) (maxL := 3) (ret := (some .int)) (by decide) rfl ?_
  intro p e s m args below meth c s₁ Bd hml hv
  obtain ⟨rfl, hW, hKK, hFs⟩ := hv
  have X : gX p s m _ meth c D cy B (gSt Z B H0) RX14 cX14_groundTold wsX14_groundTold 3 := ⟨Bd.exec, Bd.bytes, atoms_spec (ws := wsX14_groundTold) Bd.pre, findClass_of_methodNamed Bd.named, hml, hKK, by rw [hW.1]; exact hW.2.1, Bd.notSynchronized, hFs⟩
  have hr := Bd.returns
  have hl := lv_entry ([.ref x0, .int x1, .int x2]) (n := 3) (Nat.le_of_ble_eq_true rfl)
  show W p l e rX14_groundTold s m _ below meth c s.heap [] 0 0 _ (entryFrame m ([.ref x0, .int x1, .int x2] : List Value).toArray 3)
  rw [lg_entry_eq]
  generalize (lg_sl ([.ref x0, .int x1, .int x2]) ++ List.replicate (3 - (lg_sl ([.ref x0, .int x1, .int x2])).length) Slot.unset).toArray = ls at hl ⊢
  have hl : lv_has ls 3 (List.map gq [(0, vR (some x0)), (1, vI x1), (2, vI x2)]) := hl
  exact t_X14_groundTold_0 X hr _ _ _ _ _ hf rfl s.heap [] ls hW va_S.rf (lv_has_sub hl (lvsub_of _ _ [0, 1, 2] rfl))
/-! ## TideLotsModel.ground(II)I -/
theorem dX14_ground_0 : decode cX14_ground 0 = .ok (.aload_n 0, 1) := by decide +kernel
theorem dX14_ground_1 : decode cX14_ground 1 = .ok (.iconst 0, 1) := by decide +kernel
theorem dX14_ground_2 : decode cX14_ground 2 = .ok (.putfield 57, 3) := by decide +kernel
theorem dX14_ground_5 : decode cX14_ground 5 = .ok (.aload_n 0, 1) := by decide +kernel
theorem dX14_ground_6 : decode cX14_ground 6 = .ok (.iload_n 1, 1) := by decide +kernel
theorem dX14_ground_7 : decode cX14_ground 7 = .ok (.invokevirtual 311, 3) := by decide +kernel
theorem dX14_ground_10 : decode cX14_ground 10 = .ok (.ifCond .eq 22, 3) := by decide +kernel
theorem dX14_ground_13 : decode cX14_ground 13 = .ok (.iload_n 2, 1) := by decide +kernel
theorem dX14_ground_14 : decode cX14_ground 14 = .ok (.iconst 0, 1) := by decide +kernel
theorem dX14_ground_15 : decode cX14_ground 15 = .ok (.bipush 8, 2) := by decide +kernel
theorem dX14_ground_17 : decode cX14_ground 17 = .ok (.invokestatic 63, 3) := by decide +kernel
theorem dX14_ground_20 : decode cX14_ground 20 = .ok (.ifCond .eq 12, 3) := by decide +kernel
theorem dX14_ground_23 : decode cX14_ground 23 = .ok (.aload_n 0, 1) := by decide +kernel
theorem dX14_ground_24 : decode cX14_ground 24 = .ok (.iload_n 1, 1) := by decide +kernel
theorem dX14_ground_25 : decode cX14_ground 25 = .ok (.iload_n 2, 1) := by decide +kernel
theorem dX14_ground_26 : decode cX14_ground 26 = .ok (.invokevirtual 314, 3) := by decide +kernel
theorem dX14_ground_29 : decode cX14_ground 29 = .ok (.goto 8, 3) := by decide +kernel
theorem dX14_ground_32 : decode cX14_ground 32 = .ok (.aload_n 0, 1) := by decide +kernel
theorem dX14_ground_33 : decode cX14_ground 33 = .ok (.iconst 1, 1) := by decide +kernel
theorem dX14_ground_34 : decode cX14_ground 34 = .ok (.invokevirtual 276, 3) := by decide +kernel
theorem dX14_ground_37 : decode cX14_ground 37 = .ok (.ireturn, 1) := by decide +kernel
set_option maxRecDepth 20000 in
theorem ggX14_ground_X14_no : GoodIn wsX14_ground wsX14_no := goodIn_r _ [29, 1, 30, 31, 32, 33, 34, 35, 36, 37, 38, 39, 40, 41, 42, 43, 44] (by decide +kernel) (by decide +kernel)
set_option maxRecDepth 20000 in
theorem gX14_ground_X14_no : GoodIn wsX14_ground (wsV RX14 276 RX14 yX14_no wsX14_no) := goodIn_app (goodIn_of _ (by decide +kernel)) ggX14_ground_X14_no
set_option maxRecDepth 20000 in
theorem ggX14_ground_X14_isGround : GoodIn wsX14_ground wsX14_isGround := goodIn_r _ [6, 7, 8, 9, 5, 10, 30, 31, 32, 33, 34, 35, 36, 37, 38, 39, 40, 41, 42, 43, 44, 45, 46, 47, 48, 49, 50, 51, 52, 53, 54, 55, 56, 57, 58, 59, 60, 61, 62, 63, 64, 65, 66, 67, 68, 69] (by decide +kernel) (by decide +kernel)
set_option maxRecDepth 20000 in
theorem gX14_ground_X14_isGround : GoodIn wsX14_ground (wsV RX14 311 RX14 yX14_isGround wsX14_isGround) := goodIn_app (goodIn_of _ (by decide +kernel)) ggX14_ground_X14_isGround
set_option maxRecDepth 20000 in
theorem ggX14_ground_X14_isIn : GoodIn wsX14_ground wsX14_isIn := goodIn_r _ [10] (by decide +kernel) (by decide +kernel)
set_option maxRecDepth 20000 in
theorem gX14_ground_X14_isIn : GoodIn wsX14_ground (va_wsS RX14 63 yX14_isIn wsX14_isIn) := goodIn_app (goodIn_of _ (by decide +kernel)) ggX14_ground_X14_isIn
set_option maxRecDepth 20000 in
theorem ggX14_ground_X14_groundTold : GoodIn wsX14_ground wsX14_groundTold := goodIn_r _ [14, 15, 7, 16, 17, 18, 19, 20, 21, 22, 23, 24, 5, 25, 30, 31, 32, 33, 34, 35, 36, 37, 38, 39, 40, 41, 42, 43, 44, 70, 71, 72, 73, 74, 75, 76, 77, 78, 79, 80, 81, 82, 83, 84, 85, 86, 87, 88, 45, 46, 47, 48, 49, 50, 51, 52, 53, 54, 55, 56, 57, 58, 59, 60, 61, 62, 63, 64, 65, 66, 67, 68, 69] (by decide +kernel) (by decide +kernel)
set_option maxRecDepth 20000 in
theorem gX14_ground_X14_groundTold : GoodIn wsX14_ground (wsV RX14 314 RX14 yX14_groundTold wsX14_groundTold) := goodIn_app (goodIn_of _ (by decide +kernel)) ggX14_ground_X14_groundTold
theorem k_X14_ground_f57 : Cond.fieldLink RX14 57 "TideLotsModel" "thrown" "I" ∈ wsX14_ground := by decide +kernel
theorem i_X14_ground_X14 : ∀ w ∈ u_ws RX14 TX14 15, w ∈ wsX14_ground := by decide +kernel
abbrev rX14_ground : Room := { frames := 2, cells := 0, slots := 0, locals := 45 }
noncomputable def b_X14_ground_37 (M : gMem) (s0 : Int32) : Option (Int32 × gMem) :=
  some (s0, M)
noncomputable def b_X14_ground_32 (M : gMem) (x0 : Nat) : Option (Int32 × gMem) :=
  ck (mT M x0 = 13) <| bd (f_X14_no M x0 ((1 : Int32))) fun r1 M1 => b_X14_ground_37 M1 r1
noncomputable def b_X14_ground_0 (M : gMem) (x0 : Nat) (x1 : Int32) (x2 : Int32) : Option (Int32 × gMem) :=
  ck (mT M x0 = 13) <| lw (wI M x0 0 ((0 : Int32))) fun M4 => bd (f_X14_isGround M4 x0 x1) fun r6 M6 => (if r6 = 0 then b_X14_ground_32 M6 x0 else bd (f_X14_isIn M6 x2 ((0 : Int32)) ((8 : Int32))) fun r7 M7 => (if r7 = 0 then b_X14_ground_32 M7 x0 else ck (mT M7 x0 = 13) <| bd (f_X14_groundTold M7 x0 x1 x2) fun r8 M8 => b_X14_ground_37 M8 r8))
noncomputable def f_X14_ground (M : gMem) (x0 : Nat) (x1 : Int32) (x2 : Int32) : Option (Int32 × gMem) :=
  b_X14_ground_0 M x0 x1 x2
set_option maxHeartbeats 4000000 in
set_option maxRecDepth 100000 in
theorem t_X14_ground_37 (X : gX p s m args meth c D cy B (gSt Z B H0) RX14 cX14_ground wsX14_ground 3) (hr : meth.sig.returnType = (some .int)) {Q : State → Prop} : ∀ (M : gMem) (s0 : Int32) (z : Int32 × gMem), b_X14_ground_37 M s0 = some z → (fun (r : Int32 × gMem) => Q = gMQ below D cy B H0 args s 0 0 (some (vI r.1)) r.2) z → gGo p l e rX14_ground s m args below meth c D cy B H0 3 0 0 Q 37 [] [vI s0] M := by
  intro M s0 z hf hK
  unfold b_X14_ground_37 at hf
  cases hf
  refine g_eqQ hK ?_
  exact g_iret X hr dX14_ground_37
set_option maxHeartbeats 4000000 in
set_option maxRecDepth 100000 in
theorem t_X14_ground_32 (X : gX p s m args meth c D cy B (gSt Z B H0) RX14 cX14_ground wsX14_ground 3) (hr : meth.sig.returnType = (some .int)) {Q : State → Prop} : ∀ (M : gMem) (x0 : Nat) (z : Int32 × gMem), b_X14_ground_32 M x0 = some z → (fun (r : Int32 × gMem) => Q = gMQ below D cy B H0 args s 0 0 (some (vI r.1)) r.2) z → gGo p l e rX14_ground s m args below meth c D cy B H0 3 0 0 Q 32 [(0, vR (some x0))] [] M := by
  intro M x0 z hf hK
  unfold b_X14_ground_32 at hf
  refine g_aload_n X dX14_ground_32 rfl rfl ?_
  refine g_iconst (v := (1 : Int32)) X dX14_ground_33 (by decide) ?_
  obtain ⟨hT2, hf⟩ := ck_e hf
  obtain ⟨r1, M1, hq1, hf⟩ := bd_e hf
  refine g_callV (ci := 12) (b := x0) (As := [vI (1 : Int32)]) (st := []) (v := some (vI r1)) (M1 := M1) X (m_X14_no l hq1) (cwV 1 X.2.2.1 gX14_ground_X14_no rfl rfl rfl (by decide +kernel) ⟨Nat.le_of_ble_eq_true rfl, Nat.le_of_ble_eq_true rfl⟩) rfl rfl rfl hT2 (by decide) rfl (Nat.le_of_ble_eq_true rfl) dX14_ground_34 ⟨by decide, by decide⟩ ?_
  refine g_sub (lvsub_of _ _ [] rfl) ?_
  exact t_X14_ground_37 X hr _ _ _ hf hK
set_option maxHeartbeats 4000000 in
set_option maxRecDepth 100000 in
theorem t_X14_ground_0 (X : gX p s m args meth c D cy B (gSt Z B H0) RX14 cX14_ground wsX14_ground 3) (hr : meth.sig.returnType = (some .int)) {Q : State → Prop} : ∀ (M : gMem) (x0 : Nat) (x1 : Int32) (x2 : Int32) (z : Int32 × gMem), b_X14_ground_0 M x0 x1 x2 = some z → (fun (r : Int32 × gMem) => Q = gMQ below D cy B H0 args s 0 0 (some (vI r.1)) r.2) z → gGo p l e rX14_ground s m args below meth c D cy B H0 3 0 0 Q 0 [(0, vR (some x0)), (1, vI x1), (2, vI x2)] [] M := by
  intro M x0 x1 x2 z hf hK
  unfold b_X14_ground_0 at hf
  refine g_aload_n X dX14_ground_0 rfl rfl ?_
  refine g_iconst (v := (0 : Int32)) X dX14_ground_1 (by decide) ?_
  obtain ⟨hT3, hf⟩ := ck_e hf
  refine g_putI (ci := 12) 0 X cdX14 i_X14_ground_X14 (by decide) k_X14_ground_f57 rfl dX14_ground_2 rfl hT3 (Or.inl rfl) rfl rfl rfl ?_
  obtain ⟨M4, hM4, hf⟩ := lw_e hf
  rw [← hM4]
  have hT5 : mT M4 x0 = 13 := by rw [hM4]; exact hT3
  refine g_aload_n X dX14_ground_5 rfl rfl ?_
  refine g_iload_n X dX14_ground_6 rfl rfl ?_
  obtain ⟨r6, M6, hq6, hf⟩ := bd_e hf
  refine g_callV (ci := 12) (b := x0) (As := [vI x1]) (st := []) (v := some (vI r6)) (M1 := M6) X (m_X14_isGround l hq6) (cwV 1 X.2.2.1 gX14_ground_X14_isGround rfl rfl rfl (by decide +kernel) ⟨Nat.le_of_ble_eq_true rfl, Nat.le_of_ble_eq_true rfl⟩) rfl rfl rfl hT5 (by decide) rfl (Nat.le_of_ble_eq_true rfl) dX14_ground_7 ⟨by decide, by decide⟩ ?_
  refine g_if_eq (tgt := 32) X dX14_ground_10 (by decide) (fun hc => ?_) (fun hc => ?_)
  · have hf := ife_t hc hf
    refine g_sub (lvsub_of _ _ [0] rfl) ?_
    exact t_X14_ground_32 X hr _ _ _ hf hK
  · have hf := ife_f hc hf
    refine g_iload_n X dX14_ground_13 rfl rfl ?_
    refine g_iconst (v := (0 : Int32)) X dX14_ground_14 (by decide) ?_
    refine g_bipush (v := (8 : Int32)) X dX14_ground_15 (by decide) ?_
    obtain ⟨r7, M7, hq7, hf⟩ := bd_e hf
    refine g_callS (As := [vI x2, vI (0 : Int32), vI (8 : Int32)]) (st := []) (v := some (vI r7)) (M1 := M7) X (m_X14_isIn l hq7) (va_cwS 3 X.2.2.1 gX14_ground_X14_isIn rfl rfl rfl (by decide +kernel) ⟨Nat.le_of_ble_eq_true rfl, Nat.le_of_ble_eq_true rfl⟩) rfl rfl (Nat.le_of_ble_eq_true rfl) dX14_ground_17 ⟨by decide, by decide⟩ ?_
    refine g_if_eq (tgt := 32) X dX14_ground_20 (by decide) (fun hc => ?_) (fun hc => ?_)
    · have hf := ife_t hc hf
      refine g_sub (lvsub_of _ _ [0] rfl) ?_
      exact t_X14_ground_32 X hr _ _ _ hf hK
    · have hf := ife_f hc hf
      refine g_aload_n X dX14_ground_23 rfl rfl ?_
      refine g_iload_n X dX14_ground_24 rfl rfl ?_
      refine g_iload_n X dX14_ground_25 rfl rfl ?_
      obtain ⟨hT9, hf⟩ := ck_e hf
      obtain ⟨r8, M8, hq8, hf⟩ := bd_e hf
      refine g_callV (ci := 12) (b := x0) (As := [vI x1, vI x2]) (st := []) (v := some (vI r8)) (M1 := M8) X (m_X14_groundTold l hq8) (cwV 2 X.2.2.1 gX14_ground_X14_groundTold rfl rfl rfl (by decide +kernel) ⟨Nat.le_of_ble_eq_true rfl, Nat.le_of_ble_eq_true rfl⟩) rfl rfl rfl hT9 (by decide) rfl (Nat.le_of_ble_eq_true rfl) dX14_ground_26 ⟨by decide, by decide⟩ ?_
      refine g_goto (tgt := 37) X dX14_ground_29 (by decide) ?_
      refine g_sub (lvsub_of _ _ [] rfl) ?_
      exact t_X14_ground_37 X hr _ _ _ hf hK
set_option maxHeartbeats 4000000 in
set_option maxRecDepth 100000 in
theorem m_X14_ground (l : Launch) {D : va_G} {cy : Nat → ClassId} {B : Nat} {H0 : Heap} {Z : Nat → Nat} {M M1 : gMem} {x0 : Nat} {x1 : Int32} {x2 : Int32} {r : Int32} (hf : f_X14_ground M x0 x1 x2 = some (r, M1)) : Met l yX14_ground wsX14_ground rX14_ground (va_Pc (Value.ref x0 :: List.map gv [vI x1, vI x2]) (gPre D cy B H0 (gSt Z B H0) M)) (gQ D cy B H0 (some (vI r)) M1) 0 0 (gA B) := by
  refine Met.ofW (cc := cX14_ground) (maxL := 3) (ret := (some .int)) (by decide) rfl ?_
  intro p e s m args below meth c s₁ Bd hml hv
  obtain ⟨rfl, hW, hKK, hFs⟩ := hv
  have X : gX p s m _ meth c D cy B (gSt Z B H0) RX14 cX14_ground wsX14_ground 3 := ⟨Bd.exec, Bd.bytes, atoms_spec (ws := wsX14_ground) Bd.pre, findClass_of_methodNamed Bd.named, hml, hKK, by rw [hW.1]; exact hW.2.1, Bd.notSynchronized, hFs⟩
  have hr := Bd.returns
  have hl := lv_entry ([.ref x0, .int x1, .int x2]) (n := 3) (Nat.le_of_ble_eq_true rfl)
  show W p l e rX14_ground s m _ below meth c s.heap [] 0 0 _ (entryFrame m ([.ref x0, .int x1, .int x2] : List Value).toArray 3)
  rw [lg_entry_eq]
  generalize (lg_sl ([.ref x0, .int x1, .int x2]) ++ List.replicate (3 - (lg_sl ([.ref x0, .int x1, .int x2])).length) Slot.unset).toArray = ls at hl ⊢
  have hl : lv_has ls 3 (List.map gq [(0, vR (some x0)), (1, vI x1), (2, vI x2)]) := hl
  exact t_X14_ground_0 X hr _ _ _ _ _ hf rfl s.heap [] ls hW va_S.rf (lv_has_sub hl (lvsub_of _ _ [0, 1, 2] rfl))
/-! ## TideLotsModel.cheat(IZ)I -/
theorem dX14_cheat_0 : decode cX14_cheat 0 = .ok (.aload_n 0, 1) := by decide +kernel
theorem dX14_cheat_1 : decode cX14_cheat 1 = .ok (.iconst 0, 1) := by decide +kernel
theorem dX14_cheat_2 : decode cX14_cheat 2 = .ok (.putfield 57, 3) := by decide +kernel
theorem dX14_cheat_5 : decode cX14_cheat 5 = .ok (.aload_n 0, 1) := by decide +kernel
theorem dX14_cheat_6 : decode cX14_cheat 6 = .ok (.iload_n 1, 1) := by decide +kernel
theorem dX14_cheat_7 : decode cX14_cheat 7 = .ok (.invokevirtual 329, 3) := by decide +kernel
theorem dX14_cheat_10 : decode cX14_cheat 10 = .ok (.ifCond .ne 9, 3) := by decide +kernel
theorem dX14_cheat_13 : decode cX14_cheat 13 = .ok (.aload_n 0, 1) := by decide +kernel
theorem dX14_cheat_14 : decode cX14_cheat 14 = .ok (.iconst 1, 1) := by decide +kernel
theorem dX14_cheat_15 : decode cX14_cheat 15 = .ok (.invokevirtual 276, 3) := by decide +kernel
theorem dX14_cheat_18 : decode cX14_cheat 18 = .ok (.ireturn, 1) := by decide +kernel
theorem dX14_cheat_19 : decode cX14_cheat 19 = .ok (.aload_n 0, 1) := by decide +kernel
theorem dX14_cheat_20 : decode cX14_cheat 20 = .ok (.getfield 47, 3) := by decide +kernel
theorem dX14_cheat_23 : decode cX14_cheat 23 = .ok (.getfield 293, 3) := by decide +kernel
theorem dX14_cheat_26 : decode cX14_cheat 26 = .ok (.iload_n 1, 1) := by decide +kernel
theorem dX14_cheat_27 : decode cX14_cheat 27 = .ok (.iload_n 2, 1) := by decide +kernel
theorem dX14_cheat_28 : decode cX14_cheat 28 = .ok (.ifCond .eq 7, 3) := by decide +kernel
theorem dX14_cheat_31 : decode cX14_cheat 31 = .ok (.iconst 1, 1) := by decide +kernel
theorem dX14_cheat_32 : decode cX14_cheat 32 = .ok (.goto 4, 3) := by decide +kernel
theorem dX14_cheat_35 : decode cX14_cheat 35 = .ok (.iconst 0, 1) := by decide +kernel
theorem dX14_cheat_36 : decode cX14_cheat 36 = .ok (.iastore, 1) := by decide +kernel
theorem dX14_cheat_37 : decode cX14_cheat 37 = .ok (.aload_n 0, 1) := by decide +kernel
theorem dX14_cheat_38 : decode cX14_cheat 38 = .ok (.getfield 47, 3) := by decide +kernel
theorem dX14_cheat_41 : decode cX14_cheat 41 = .ok (.aload_n 0, 1) := by decide +kernel
theorem dX14_cheat_42 : decode cX14_cheat 42 = .ok (.getfield 47, 3) := by decide +kernel
theorem dX14_cheat_45 : decode cX14_cheat 45 = .ok (.getfield 293, 3) := by decide +kernel
theorem dX14_cheat_48 : decode cX14_cheat 48 = .ok (.invokevirtual 287, 3) := by decide +kernel
theorem dX14_cheat_51 : decode cX14_cheat 51 = .ok (.ireturn, 1) := by decide +kernel
set_option maxRecDepth 20000 in
theorem ggX14_cheat_X12_sum : GoodIn wsX14_cheat wsX12_sum := goodIn_r _ [20] (by decide +kernel) (by decide +kernel)
set_option maxRecDepth 20000 in
theorem gX14_cheat_X12_sum : GoodIn wsX14_cheat (wsV RX14 287 RX12 yX12_sum wsX12_sum) := goodIn_app (goodIn_of _ (by decide +kernel)) ggX14_cheat_X12_sum
set_option maxRecDepth 20000 in
theorem ggX14_cheat_X14_isFisher : GoodIn wsX14_cheat wsX14_isFisher := goodIn_r _ [7, 8, 9, 10, 6, 11, 21, 22, 23, 24, 25, 26, 27, 28, 29, 30, 31, 32, 33, 34, 35, 55, 56, 57, 58, 59, 60, 61, 62, 63, 64, 65, 66, 67, 68, 69, 70, 71, 72, 73, 74, 75, 76, 77, 78, 79] (by decide +kernel) (by decide +kernel)
set_option maxRecDepth 20000 in
theorem gX14_cheat_X14_isFisher : GoodIn wsX14_cheat (wsV RX14 329 RX14 yX14_isFisher wsX14_isFisher) := goodIn_app (goodIn_of _ (by decide +kernel)) ggX14_cheat_X14_isFisher
set_option maxRecDepth 20000 in
theorem ggX14_cheat_X14_no : GoodIn wsX14_cheat wsX14_no := goodIn_r _ [15, 1, 21, 22, 23, 24, 25, 26, 27, 28, 29, 30, 31, 32, 33, 34, 35] (by decide +kernel) (by decide +kernel)
set_option maxRecDepth 20000 in
theorem gX14_cheat_X14_no : GoodIn wsX14_cheat (wsV RX14 276 RX14 yX14_no wsX14_no) := goodIn_app (goodIn_of _ (by decide +kernel)) ggX14_cheat_X14_no
theorem k_X14_cheat_f47 : Cond.fieldLink RX14 47 "TideLotsModel" "s" "LTideLotsModel$State;" ∈ wsX14_cheat := by decide +kernel
theorem i_X14_cheat_X14 : ∀ w ∈ u_ws RX14 TX14 15, w ∈ wsX14_cheat := by decide +kernel
theorem kn_X14_293 : Cond.fieldLinkNest "TideLotsModel" (293 : Nat) "TideLotsModel$State" "cheats" "[I" "TideLotsModel" ∈ gNs := by decide +kernel
theorem i_X14_cheat_X12 : ∀ w ∈ u_ws RX12 TX12 19, w ∈ wsX14_cheat := by decide +kernel
theorem k_X14_cheat_f57 : Cond.fieldLink RX14 57 "TideLotsModel" "thrown" "I" ∈ wsX14_cheat := by decide +kernel
abbrev rX14_cheat : Room := { frames := 2, cells := 0, slots := 0, locals := 43 }
noncomputable def b_X14_cheat_36 (M : gMem) (x0 : Nat) (s0 : Option Nat) (s1 : Int32) (s2 : Int32) : Option (Int32 × gMem) :=
  dr s0 fun a1 => ck (mT M a1 = 20) <| ck (inb s1 (mL M a1)) <| lw (wI M a1 s1.toNatClampNeg s2) fun M4 => ck (mT M4 x0 = 13) <| dr ((mR M4 x0 13)) fun a7 => ck (mT M4 a7 = 11) <| bd (f_X12_sum M4 a7 ((mR M4 a7 10))) fun r9 M9 => some (r9, M9)
noncomputable def b_X14_cheat_0 (M : gMem) (x0 : Nat) (x1 : Int32) (x2 : Int32) : Option (Int32 × gMem) :=
  ck (mT M x0 = 13) <| lw (wI M x0 0 ((0 : Int32))) fun M11 => bd (f_X14_isFisher M11 x0 x1) fun r13 M13 => (if r13 = 0 then ck (mT M13 x0 = 13) <| bd (f_X14_no M13 x0 ((1 : Int32))) fun r17 M17 => some (r17, M17) else ck (mT M13 x0 = 13) <| dr ((mR M13 x0 13)) fun a15 => ck (mT M13 a15 = 11) <| (if x2 = 0 then b_X14_cheat_36 M13 x0 ((mR M13 a15 10)) x1 ((0 : Int32)) else b_X14_cheat_36 M13 x0 ((mR M13 a15 10)) x1 ((1 : Int32))))
noncomputable def f_X14_cheat (M : gMem) (x0 : Nat) (x1 : Int32) (x2 : Int32) : Option (Int32 × gMem) :=
  b_X14_cheat_0 M x0 x1 x2
set_option maxHeartbeats 4000000 in
set_option maxRecDepth 100000 in
theorem t_X14_cheat_36 (X : gX p s m args meth c D cy B (gSt Z B H0) RX14 cX14_cheat wsX14_cheat 3) (hr : meth.sig.returnType = (some .int)) {Q : State → Prop} : ∀ (M : gMem) (x0 : Nat) (s0 : Option Nat) (s1 : Int32) (s2 : Int32) (z : Int32 × gMem), b_X14_cheat_36 M x0 s0 s1 s2 = some z → (fun (r : Int32 × gMem) => Q = gMQ below D cy B H0 args s 0 0 (some (vI r.1)) r.2) z → gGo p l e rX14_cheat s m args below meth c D cy B H0 3 0 0 Q 36 [(0, vR (some x0))] [vI s2, vI s1, vR s0] M := by
  intro M x0 s0 s1 s2 z hf hK
  unfold b_X14_cheat_36 at hf
  obtain ⟨a1, ha1, hf⟩ := dr_e hf
  obtain ⟨hT2, hf⟩ := ck_e hf
  obtain ⟨hg3, hf⟩ := ck_e hf
  refine g_iast X dX14_cheat_36 ha1 hT2 hg3 ?_
  obtain ⟨M4, hM4, hf⟩ := lw_e hf
  rw [← hM4]
  have hT5 : mT M4 a1 = 20 := by rw [hM4]; exact hT2
  refine g_aload_n X dX14_cheat_37 rfl rfl ?_
  obtain ⟨hT6, hf⟩ := ck_e hf
  refine g_get (ci := 12) (v := vR (mR M4 x0 13)) 13 X cdX14 i_X14_cheat_X14 (by decide) k_X14_cheat_f47 rfl dX14_cheat_38 rfl hT6 rfl ?_
  refine g_aload_n X dX14_cheat_41 rfl rfl ?_
  refine g_get (ci := 12) (v := vR (mR M4 x0 13)) 13 X cdX14 i_X14_cheat_X14 (by decide) k_X14_cheat_f47 rfl dX14_cheat_42 rfl hT6 rfl ?_
  obtain ⟨a7, ha7, hf⟩ := dr_e hf
  obtain ⟨hT8, hf⟩ := ck_e hf
  refine g_getN (ci := 10) (w := vR (mR M4 a7 10)) 10 X cdX12 i_X14_cheat_X12 (by decide) (gNw X _ kn_X14_293) rfl dX14_cheat_45 ha7 hT8 rfl ?_
  obtain ⟨r9, M9, hq9, hf⟩ := bd_e hf
  refine g_callV (ci := 10) (b := a7) (As := [vR (mR M4 a7 10)]) (st := []) (v := some (vI r9)) (M1 := M9) X (m_X12_sum l hq9) (cwV 1 X.2.2.1 gX14_cheat_X12_sum rfl rfl rfl (by decide +kernel) ⟨Nat.le_of_ble_eq_true rfl, Nat.le_of_ble_eq_true rfl⟩) rfl rfl ha7 hT8 (by decide) rfl (Nat.le_of_ble_eq_true rfl) dX14_cheat_48 ⟨by decide, by decide⟩ ?_
  cases hf
  refine g_eqQ hK ?_
  exact g_iret X hr dX14_cheat_51
set_option maxHeartbeats 4000000 in
set_option maxRecDepth 100000 in
theorem t_X14_cheat_0 (X : gX p s m args meth c D cy B (gSt Z B H0) RX14 cX14_cheat wsX14_cheat 3) (hr : meth.sig.returnType = (some .int)) {Q : State → Prop} : ∀ (M : gMem) (x0 : Nat) (x1 : Int32) (x2 : Int32) (z : Int32 × gMem), b_X14_cheat_0 M x0 x1 x2 = some z → (fun (r : Int32 × gMem) => Q = gMQ below D cy B H0 args s 0 0 (some (vI r.1)) r.2) z → gGo p l e rX14_cheat s m args below meth c D cy B H0 3 0 0 Q 0 [(0, vR (some x0)), (1, vI x1), (2, vI x2)] [] M := by
  intro M x0 x1 x2 z hf hK
  unfold b_X14_cheat_0 at hf
  refine g_aload_n X dX14_cheat_0 rfl rfl ?_
  refine g_iconst (v := (0 : Int32)) X dX14_cheat_1 (by decide) ?_
  obtain ⟨hT10, hf⟩ := ck_e hf
  refine g_putI (ci := 12) 0 X cdX14 i_X14_cheat_X14 (by decide) k_X14_cheat_f57 rfl dX14_cheat_2 rfl hT10 (Or.inl rfl) rfl rfl rfl ?_
  obtain ⟨M11, hM11, hf⟩ := lw_e hf
  rw [← hM11]
  have hT12 : mT M11 x0 = 13 := by rw [hM11]; exact hT10
  refine g_aload_n X dX14_cheat_5 rfl rfl ?_
  refine g_iload_n X dX14_cheat_6 rfl rfl ?_
  obtain ⟨r13, M13, hq13, hf⟩ := bd_e hf
  refine g_callV (ci := 12) (b := x0) (As := [vI x1]) (st := []) (v := some (vI r13)) (M1 := M13) X (m_X14_isFisher l hq13) (cwV 1 X.2.2.1 gX14_cheat_X14_isFisher rfl rfl rfl (by decide +kernel) ⟨Nat.le_of_ble_eq_true rfl, Nat.le_of_ble_eq_true rfl⟩) rfl rfl rfl hT12 (by decide) rfl (Nat.le_of_ble_eq_true rfl) dX14_cheat_7 ⟨by decide, by decide⟩ ?_
  refine g_if_ne (tgt := 19) X dX14_cheat_10 (by decide) (fun hc => ?_) (fun hc => ?_)
  · have hf := ife_f hc hf
    refine g_aload_n X dX14_cheat_19 rfl rfl ?_
    obtain ⟨hT14, hf⟩ := ck_e hf
    refine g_get (ci := 12) (v := vR (mR M13 x0 13)) 13 X cdX14 i_X14_cheat_X14 (by decide) k_X14_cheat_f47 rfl dX14_cheat_20 rfl hT14 rfl ?_
    obtain ⟨a15, ha15, hf⟩ := dr_e hf
    obtain ⟨hT16, hf⟩ := ck_e hf
    refine g_getN (ci := 10) (w := vR (mR M13 a15 10)) 10 X cdX12 i_X14_cheat_X12 (by decide) (gNw X _ kn_X14_293) rfl dX14_cheat_23 ha15 hT16 rfl ?_
    refine g_iload_n X dX14_cheat_26 rfl rfl ?_
    refine g_iload_n X dX14_cheat_27 rfl rfl ?_
    refine g_if_eq (tgt := 35) X dX14_cheat_28 (by decide) (fun hc => ?_) (fun hc => ?_)
    · have hf := ife_t hc hf
      refine g_iconst (v := (0 : Int32)) X dX14_cheat_35 (by decide) ?_
      refine g_sub (lvsub_of _ _ [0] rfl) ?_
      exact t_X14_cheat_36 X hr _ _ _ _ _ _ hf hK
    · have hf := ife_f hc hf
      refine g_iconst (v := (1 : Int32)) X dX14_cheat_31 (by decide) ?_
      refine g_goto (tgt := 36) X dX14_cheat_32 (by decide) ?_
      refine g_sub (lvsub_of _ _ [0] rfl) ?_
      exact t_X14_cheat_36 X hr _ _ _ _ _ _ hf hK
  · have hf := ife_t hc hf
    refine g_aload_n X dX14_cheat_13 rfl rfl ?_
    refine g_iconst (v := (1 : Int32)) X dX14_cheat_14 (by decide) ?_
    obtain ⟨hT18, hf⟩ := ck_e hf
    obtain ⟨r17, M17, hq17, hf⟩ := bd_e hf
    refine g_callV (ci := 12) (b := x0) (As := [vI (1 : Int32)]) (st := []) (v := some (vI r17)) (M1 := M17) X (m_X14_no l hq17) (cwV 1 X.2.2.1 gX14_cheat_X14_no rfl rfl rfl (by decide +kernel) ⟨Nat.le_of_ble_eq_true rfl, Nat.le_of_ble_eq_true rfl⟩) rfl rfl rfl hT18 (by decide) rfl (Nat.le_of_ble_eq_true rfl) dX14_cheat_15 ⟨by decide, by decide⟩ ?_
    cases hf
    refine g_eqQ hK ?_
    exact g_iret X hr dX14_cheat_18
set_option maxHeartbeats 4000000 in
set_option maxRecDepth 100000 in
theorem m_X14_cheat (l : Launch) {D : va_G} {cy : Nat → ClassId} {B : Nat} {H0 : Heap} {Z : Nat → Nat} {M M1 : gMem} {x0 : Nat} {x1 : Int32} {x2 : Int32} {r : Int32} (hf : f_X14_cheat M x0 x1 x2 = some (r, M1)) : Met l yX14_cheat wsX14_cheat rX14_cheat (va_Pc (Value.ref x0 :: List.map gv [vI x1, vI x2]) (gPre D cy B H0 (gSt Z B H0) M)) (gQ D cy B H0 (some (vI r)) M1) 0 0 (gA B) := by
  refine Met.ofW (cc := cX14_cheat) (maxL := 3) (ret := (some .int)) (by decide) rfl ?_
  intro p e s m args below meth c s₁ Bd hml hv
  obtain ⟨rfl, hW, hKK, hFs⟩ := hv
  have X : gX p s m _ meth c D cy B (gSt Z B H0) RX14 cX14_cheat wsX14_cheat 3 := ⟨Bd.exec, Bd.bytes, atoms_spec (ws := wsX14_cheat) Bd.pre, findClass_of_methodNamed Bd.named, hml, hKK, by rw [hW.1]; exact hW.2.1, Bd.notSynchronized, hFs⟩
  have hr := Bd.returns
  have hl := lv_entry ([.ref x0, .int x1, .int x2]) (n := 3) (Nat.le_of_ble_eq_true rfl)
  show W p l e rX14_cheat s m _ below meth c s.heap [] 0 0 _ (entryFrame m ([.ref x0, .int x1, .int x2] : List Value).toArray 3)
  rw [lg_entry_eq]
  generalize (lg_sl ([.ref x0, .int x1, .int x2]) ++ List.replicate (3 - (lg_sl ([.ref x0, .int x1, .int x2])).length) Slot.unset).toArray = ls at hl ⊢
  have hl : lv_has ls 3 (List.map gq [(0, vR (some x0)), (1, vI x1), (2, vI x2)]) := hl
  exact t_X14_cheat_0 X hr _ _ _ _ _ hf rfl s.heap [] ls hW va_S.rf (lv_has_sub hl (lvsub_of _ _ [0, 1, 2] rfl))
/-! ## TideLotsModel.mend(I)I -/
theorem dX14_mend_0 : decode cX14_mend 0 = .ok (.aload_n 0, 1) := by decide +kernel
theorem dX14_mend_1 : decode cX14_mend 1 = .ok (.iconst 0, 1) := by decide +kernel
theorem dX14_mend_2 : decode cX14_mend 2 = .ok (.putfield 57, 3) := by decide +kernel
theorem dX14_mend_5 : decode cX14_mend 5 = .ok (.aload_n 0, 1) := by decide +kernel
theorem dX14_mend_6 : decode cX14_mend 6 = .ok (.iload_n 1, 1) := by decide +kernel
theorem dX14_mend_7 : decode cX14_mend 7 = .ok (.invokevirtual 329, 3) := by decide +kernel
theorem dX14_mend_10 : decode cX14_mend 10 = .ok (.ifCond .ne 9, 3) := by decide +kernel
theorem dX14_mend_13 : decode cX14_mend 13 = .ok (.aload_n 0, 1) := by decide +kernel
theorem dX14_mend_14 : decode cX14_mend 14 = .ok (.iconst 1, 1) := by decide +kernel
theorem dX14_mend_15 : decode cX14_mend 15 = .ok (.invokevirtual 276, 3) := by decide +kernel
theorem dX14_mend_18 : decode cX14_mend 18 = .ok (.ireturn, 1) := by decide +kernel
theorem dX14_mend_19 : decode cX14_mend 19 = .ok (.aload_n 0, 1) := by decide +kernel
theorem dX14_mend_20 : decode cX14_mend 20 = .ok (.getfield 47, 3) := by decide +kernel
theorem dX14_mend_23 : decode cX14_mend 23 = .ok (.getfield 282, 3) := by decide +kernel
theorem dX14_mend_26 : decode cX14_mend 26 = .ok (.iload_n 1, 1) := by decide +kernel
theorem dX14_mend_27 : decode cX14_mend 27 = .ok (.iaload, 1) := by decide +kernel
theorem dX14_mend_28 : decode cX14_mend 28 = .ok (.aload_n 0, 1) := by decide +kernel
theorem dX14_mend_29 : decode cX14_mend 29 = .ok (.getfield 35, 3) := by decide +kernel
theorem dX14_mend_32 : decode cX14_mend 32 = .ok (.getfield 241, 3) := by decide +kernel
theorem dX14_mend_35 : decode cX14_mend 35 = .ok (.iload_n 1, 1) := by decide +kernel
theorem dX14_mend_36 : decode cX14_mend 36 = .ok (.iaload, 1) := by decide +kernel
theorem dX14_mend_37 : decode cX14_mend 37 = .ok (.if_icmp .eq 16, 3) := by decide +kernel
theorem dX14_mend_40 : decode cX14_mend 40 = .ok (.aload_n 0, 1) := by decide +kernel
theorem dX14_mend_41 : decode cX14_mend 41 = .ok (.getfield 47, 3) := by decide +kernel
theorem dX14_mend_44 : decode cX14_mend 44 = .ok (.getfield 290, 3) := by decide +kernel
theorem dX14_mend_47 : decode cX14_mend 47 = .ok (.iload_n 1, 1) := by decide +kernel
theorem dX14_mend_48 : decode cX14_mend 48 = .ok (.iaload, 1) := by decide +kernel
theorem dX14_mend_49 : decode cX14_mend 49 = .ok (.iconst 3, 1) := by decide +kernel
theorem dX14_mend_50 : decode cX14_mend 50 = .ok (.if_icmp .ge 9, 3) := by decide +kernel
theorem dX14_mend_53 : decode cX14_mend 53 = .ok (.aload_n 0, 1) := by decide +kernel
theorem dX14_mend_54 : decode cX14_mend 54 = .ok (.iconst 2, 1) := by decide +kernel
theorem dX14_mend_55 : decode cX14_mend 55 = .ok (.invokevirtual 276, 3) := by decide +kernel
theorem dX14_mend_58 : decode cX14_mend 58 = .ok (.ireturn, 1) := by decide +kernel
theorem dX14_mend_59 : decode cX14_mend 59 = .ok (.aload_n 0, 1) := by decide +kernel
theorem dX14_mend_60 : decode cX14_mend 60 = .ok (.getfield 47, 3) := by decide +kernel
theorem dX14_mend_63 : decode cX14_mend 63 = .ok (.getfield 282, 3) := by decide +kernel
theorem dX14_mend_66 : decode cX14_mend 66 = .ok (.iload_n 1, 1) := by decide +kernel
theorem dX14_mend_67 : decode cX14_mend 67 = .ok (.aload_n 0, 1) := by decide +kernel
theorem dX14_mend_68 : decode cX14_mend 68 = .ok (.getfield 35, 3) := by decide +kernel
theorem dX14_mend_71 : decode cX14_mend 71 = .ok (.getfield 241, 3) := by decide +kernel
theorem dX14_mend_74 : decode cX14_mend 74 = .ok (.iload_n 1, 1) := by decide +kernel
theorem dX14_mend_75 : decode cX14_mend 75 = .ok (.iaload, 1) := by decide +kernel
theorem dX14_mend_76 : decode cX14_mend 76 = .ok (.iastore, 1) := by decide +kernel
theorem dX14_mend_77 : decode cX14_mend 77 = .ok (.aload_n 0, 1) := by decide +kernel
theorem dX14_mend_78 : decode cX14_mend 78 = .ok (.getfield 47, 3) := by decide +kernel
theorem dX14_mend_81 : decode cX14_mend 81 = .ok (.getfield 290, 3) := by decide +kernel
theorem dX14_mend_84 : decode cX14_mend 84 = .ok (.iload_n 1, 1) := by decide +kernel
theorem dX14_mend_85 : decode cX14_mend 85 = .ok (.dup2, 1) := by decide +kernel
theorem dX14_mend_86 : decode cX14_mend 86 = .ok (.iaload, 1) := by decide +kernel
theorem dX14_mend_87 : decode cX14_mend 87 = .ok (.iconst 3, 1) := by decide +kernel
theorem dX14_mend_88 : decode cX14_mend 88 = .ok (.isub, 1) := by decide +kernel
theorem dX14_mend_89 : decode cX14_mend 89 = .ok (.iastore, 1) := by decide +kernel
theorem dX14_mend_90 : decode cX14_mend 90 = .ok (.aload_n 0, 1) := by decide +kernel
theorem dX14_mend_91 : decode cX14_mend 91 = .ok (.getfield 47, 3) := by decide +kernel
theorem dX14_mend_94 : decode cX14_mend 94 = .ok (.getfield 290, 3) := by decide +kernel
theorem dX14_mend_97 : decode cX14_mend 97 = .ok (.iload_n 1, 1) := by decide +kernel
theorem dX14_mend_98 : decode cX14_mend 98 = .ok (.iaload, 1) := by decide +kernel
theorem dX14_mend_99 : decode cX14_mend 99 = .ok (.ireturn, 1) := by decide +kernel
set_option maxRecDepth 20000 in
theorem ggX14_mend_X14_no : GoodIn wsX14_mend wsX14_no := goodIn_r _ [15, 1, 16, 17, 18, 19, 20, 21, 22, 23, 24, 25, 26, 27, 28, 29, 30] (by decide +kernel) (by decide +kernel)
set_option maxRecDepth 20000 in
theorem gX14_mend_X14_no : GoodIn wsX14_mend (wsV RX14 276 RX14 yX14_no wsX14_no) := goodIn_app (goodIn_of _ (by decide +kernel)) ggX14_mend_X14_no
set_option maxRecDepth 20000 in
theorem ggX14_mend_X14_isFisher : GoodIn wsX14_mend wsX14_isFisher := goodIn_r _ [8, 3, 9, 10, 7, 11, 16, 17, 18, 19, 20, 21, 22, 23, 24, 25, 26, 27, 28, 29, 30, 50, 51, 52, 53, 54, 55, 56, 57, 58, 59, 60, 61, 62, 63, 64, 65, 66, 67, 68, 69, 70, 71, 72, 73, 74] (by decide +kernel) (by decide +kernel)
set_option maxRecDepth 20000 in
theorem gX14_mend_X14_isFisher : GoodIn wsX14_mend (wsV RX14 329 RX14 yX14_isFisher wsX14_isFisher) := goodIn_app (goodIn_of _ (by decide +kernel)) ggX14_mend_X14_isFisher
theorem k_X14_mend_f57 : Cond.fieldLink RX14 57 "TideLotsModel" "thrown" "I" ∈ wsX14_mend := by decide +kernel
theorem i_X14_mend_X14 : ∀ w ∈ u_ws RX14 TX14 15, w ∈ wsX14_mend := by decide +kernel
theorem k_X14_mend_f47 : Cond.fieldLink RX14 47 "TideLotsModel" "s" "LTideLotsModel$State;" ∈ wsX14_mend := by decide +kernel
theorem kn_X14_282 : Cond.fieldLinkNest "TideLotsModel" (282 : Nat) "TideLotsModel$State" "mesh" "[I" "TideLotsModel" ∈ gNs := by decide +kernel
theorem i_X14_mend_X12 : ∀ w ∈ u_ws RX12 TX12 19, w ∈ wsX14_mend := by decide +kernel
theorem k_X14_mend_f35 : Cond.fieldLink RX14 35 "TideLotsModel" "told" "LTideLotsModel$Told;" ∈ wsX14_mend := by decide +kernel
theorem i_X14_mend_X13 : ∀ w ∈ u_ws RX13 TX13 25, w ∈ wsX14_mend := by decide +kernel
theorem kn_X14_290 : Cond.fieldLinkNest "TideLotsModel" (290 : Nat) "TideLotsModel$State" "store" "[I" "TideLotsModel" ∈ gNs := by decide +kernel
abbrev rX14_mend : Room := { frames := 2, cells := 0, slots := 0, locals := 43 }
noncomputable def b_X14_mend_53 (M : gMem) (x0 : Nat) : Option (Int32 × gMem) :=
  ck (mT M x0 = 13) <| bd (f_X14_no M x0 ((2 : Int32))) fun r1 M1 => some (r1, M1)
noncomputable def b_X14_mend_0 (M : gMem) (x0 : Nat) (x1 : Int32) : Option (Int32 × gMem) :=
  ck (mT M x0 = 13) <| lw (wI M x0 0 ((0 : Int32))) fun M4 => bd (f_X14_isFisher M4 x0 x1) fun r6 M6 => (if r6 = 0 then ck (mT M6 x0 = 13) <| bd (f_X14_no M6 x0 ((1 : Int32))) fun r50 M50 => some (r50, M50) else ck (mT M6 x0 = 13) <| dr ((mR M6 x0 13)) fun a8 => ck (mT M6 a8 = 11) <| dr ((mR M6 a8 5)) fun a10 => ck (mT M6 a10 = 20) <| ck (inb x1 (mL M6 a10)) <| dr ((mR M6 x0 11)) fun a13 => ck (mT M6 a13 = 12) <| dr ((mR M6 a13 5)) fun a15 => ck (mT M6 a15 = 20) <| ck (inb x1 (mL M6 a15)) <| (if (mI M6 a10 x1.toNatClampNeg) = (mI M6 a15 x1.toNatClampNeg) then b_X14_mend_53 M6 x0 else dr ((mR M6 a8 6)) fun a18 => ck (mT M6 a18 = 20) <| ck (inb x1 (mL M6 a18)) <| (if (3 : Int32) ≤ (mI M6 a18 x1.toNatClampNeg) then ck (inb x1 (mL M6 a15)) <| ck (inb x1 (mL M6 a10)) <| lw (wI M6 a10 x1.toNatClampNeg ((mI M6 a15 x1.toNatClampNeg))) fun M23 => dr ((mR M23 x0 13)) fun a30 => ck (mT M23 a30 = 11) <| dr ((mR M23 a30 6)) fun a32 => ck (mT M23 a32 = 20) <| ck (inb x1 (mL M23 a32)) <| ck (inb x1 (mL M23 a32)) <| lw (wI M23 a32 x1.toNatClampNeg (((mI M23 a32 x1.toNatClampNeg) - (3 : Int32)))) fun M36 => dr ((mR M36 x0 13)) fun a45 => ck (mT M36 a45 = 11) <| dr ((mR M36 a45 6)) fun a47 => ck (mT M36 a47 = 20) <| ck (inb x1 (mL M36 a47)) <| some ((mI M36 a47 x1.toNatClampNeg), M36) else b_X14_mend_53 M6 x0)))
noncomputable def f_X14_mend (M : gMem) (x0 : Nat) (x1 : Int32) : Option (Int32 × gMem) :=
  b_X14_mend_0 M x0 x1
set_option maxHeartbeats 4000000 in
set_option maxRecDepth 100000 in
theorem t_X14_mend_53 (X : gX p s m args meth c D cy B (gSt Z B H0) RX14 cX14_mend wsX14_mend 2) (hr : meth.sig.returnType = (some .int)) {Q : State → Prop} : ∀ (M : gMem) (x0 : Nat) (z : Int32 × gMem), b_X14_mend_53 M x0 = some z → (fun (r : Int32 × gMem) => Q = gMQ below D cy B H0 args s 0 0 (some (vI r.1)) r.2) z → gGo p l e rX14_mend s m args below meth c D cy B H0 2 0 0 Q 53 [(0, vR (some x0))] [] M := by
  intro M x0 z hf hK
  unfold b_X14_mend_53 at hf
  refine g_aload_n X dX14_mend_53 rfl rfl ?_
  refine g_iconst (v := (2 : Int32)) X dX14_mend_54 (by decide) ?_
  obtain ⟨hT2, hf⟩ := ck_e hf
  obtain ⟨r1, M1, hq1, hf⟩ := bd_e hf
  refine g_callV (ci := 12) (b := x0) (As := [vI (2 : Int32)]) (st := []) (v := some (vI r1)) (M1 := M1) X (m_X14_no l hq1) (cwV 1 X.2.2.1 gX14_mend_X14_no rfl rfl rfl (by decide +kernel) ⟨Nat.le_of_ble_eq_true rfl, Nat.le_of_ble_eq_true rfl⟩) rfl rfl rfl hT2 (by decide) rfl (Nat.le_of_ble_eq_true rfl) dX14_mend_55 ⟨by decide, by decide⟩ ?_
  cases hf
  refine g_eqQ hK ?_
  exact g_iret X hr dX14_mend_58
set_option maxHeartbeats 4000000 in
set_option maxRecDepth 100000 in
theorem t_X14_mend_0 (X : gX p s m args meth c D cy B (gSt Z B H0) RX14 cX14_mend wsX14_mend 2) (hr : meth.sig.returnType = (some .int)) {Q : State → Prop} : ∀ (M : gMem) (x0 : Nat) (x1 : Int32) (z : Int32 × gMem), b_X14_mend_0 M x0 x1 = some z → (fun (r : Int32 × gMem) => Q = gMQ below D cy B H0 args s 0 0 (some (vI r.1)) r.2) z → gGo p l e rX14_mend s m args below meth c D cy B H0 2 0 0 Q 0 [(0, vR (some x0)), (1, vI x1)] [] M := by
  intro M x0 x1 z hf hK
  unfold b_X14_mend_0 at hf
  refine g_aload_n X dX14_mend_0 rfl rfl ?_
  refine g_iconst (v := (0 : Int32)) X dX14_mend_1 (by decide) ?_
  obtain ⟨hT3, hf⟩ := ck_e hf
  refine g_putI (ci := 12) 0 X cdX14 i_X14_mend_X14 (by decide) k_X14_mend_f57 rfl dX14_mend_2 rfl hT3 (Or.inl rfl) rfl rfl rfl ?_
  obtain ⟨M4, hM4, hf⟩ := lw_e hf
  rw [← hM4]
  have hT5 : mT M4 x0 = 13 := by rw [hM4]; exact hT3
  refine g_aload_n X dX14_mend_5 rfl rfl ?_
  refine g_iload_n X dX14_mend_6 rfl rfl ?_
  obtain ⟨r6, M6, hq6, hf⟩ := bd_e hf
  refine g_callV (ci := 12) (b := x0) (As := [vI x1]) (st := []) (v := some (vI r6)) (M1 := M6) X (m_X14_isFisher l hq6) (cwV 1 X.2.2.1 gX14_mend_X14_isFisher rfl rfl rfl (by decide +kernel) ⟨Nat.le_of_ble_eq_true rfl, Nat.le_of_ble_eq_true rfl⟩) rfl rfl rfl hT5 (by decide) rfl (Nat.le_of_ble_eq_true rfl) dX14_mend_7 ⟨by decide, by decide⟩ ?_
  refine g_if_ne (tgt := 19) X dX14_mend_10 (by decide) (fun hc => ?_) (fun hc => ?_)
  · have hf := ife_f hc hf
    refine g_aload_n X dX14_mend_19 rfl rfl ?_
    obtain ⟨hT7, hf⟩ := ck_e hf
    refine g_get (ci := 12) (v := vR (mR M6 x0 13)) 13 X cdX14 i_X14_mend_X14 (by decide) k_X14_mend_f47 rfl dX14_mend_20 rfl hT7 rfl ?_
    obtain ⟨a8, ha8, hf⟩ := dr_e hf
    obtain ⟨hT9, hf⟩ := ck_e hf
    refine g_getN (ci := 10) (w := vR (mR M6 a8 5)) 5 X cdX12 i_X14_mend_X12 (by decide) (gNw X _ kn_X14_282) rfl dX14_mend_23 ha8 hT9 rfl ?_
    refine g_iload_n X dX14_mend_26 rfl rfl ?_
    obtain ⟨a10, ha10, hf⟩ := dr_e hf
    obtain ⟨hT11, hf⟩ := ck_e hf
    obtain ⟨hg12, hf⟩ := ck_e hf
    refine g_iald X dX14_mend_27 ha10 hT11 hg12 ?_
    refine g_aload_n X dX14_mend_28 rfl rfl ?_
    refine g_get (ci := 12) (v := vR (mR M6 x0 11)) 11 X cdX14 i_X14_mend_X14 (by decide) k_X14_mend_f35 rfl dX14_mend_29 rfl hT7 rfl ?_
    obtain ⟨a13, ha13, hf⟩ := dr_e hf
    obtain ⟨hT14, hf⟩ := ck_e hf
    refine g_getN (ci := 11) (w := vR (mR M6 a13 5)) 5 X cdX13 i_X14_mend_X13 (by decide) (gNw X _ kn_X14_241) rfl dX14_mend_32 ha13 hT14 rfl ?_
    refine g_iload_n X dX14_mend_35 rfl rfl ?_
    obtain ⟨a15, ha15, hf⟩ := dr_e hf
    obtain ⟨hT16, hf⟩ := ck_e hf
    obtain ⟨hg17, hf⟩ := ck_e hf
    refine g_iald X dX14_mend_36 ha15 hT16 hg17 ?_
    refine g_icmp_eq (tgt := 53) X dX14_mend_37 (by decide) (fun hc => ?_) (fun hc => ?_)
    · have hf := ife_t hc hf
      refine g_sub (lvsub_of _ _ [0] rfl) ?_
      exact t_X14_mend_53 X hr _ _ _ hf hK
    · have hf := ife_f hc hf
      refine g_aload_n X dX14_mend_40 rfl rfl ?_
      refine g_get (ci := 12) (v := vR (mR M6 x0 13)) 13 X cdX14 i_X14_mend_X14 (by decide) k_X14_mend_f47 rfl dX14_mend_41 rfl hT7 rfl ?_
      refine g_getN (ci := 10) (w := vR (mR M6 a8 6)) 6 X cdX12 i_X14_mend_X12 (by decide) (gNw X _ kn_X14_290) rfl dX14_mend_44 ha8 hT9 rfl ?_
      refine g_iload_n X dX14_mend_47 rfl rfl ?_
      obtain ⟨a18, ha18, hf⟩ := dr_e hf
      obtain ⟨hT19, hf⟩ := ck_e hf
      obtain ⟨hg20, hf⟩ := ck_e hf
      refine g_iald X dX14_mend_48 ha18 hT19 hg20 ?_
      refine g_iconst (v := (3 : Int32)) X dX14_mend_49 (by decide) ?_
      refine g_icmp_ge (tgt := 59) X dX14_mend_50 (by decide) (fun hc => ?_) (fun hc => ?_)
      · have hf := ife_t hc hf
        refine g_aload_n X dX14_mend_59 rfl rfl ?_
        refine g_get (ci := 12) (v := vR (mR M6 x0 13)) 13 X cdX14 i_X14_mend_X14 (by decide) k_X14_mend_f47 rfl dX14_mend_60 rfl hT7 rfl ?_
        refine g_getN (ci := 10) (w := vR (mR M6 a8 5)) 5 X cdX12 i_X14_mend_X12 (by decide) (gNw X _ kn_X14_282) rfl dX14_mend_63 ha8 hT9 rfl ?_
        refine g_iload_n X dX14_mend_66 rfl rfl ?_
        refine g_aload_n X dX14_mend_67 rfl rfl ?_
        refine g_get (ci := 12) (v := vR (mR M6 x0 11)) 11 X cdX14 i_X14_mend_X14 (by decide) k_X14_mend_f35 rfl dX14_mend_68 rfl hT7 rfl ?_
        refine g_getN (ci := 11) (w := vR (mR M6 a13 5)) 5 X cdX13 i_X14_mend_X13 (by decide) (gNw X _ kn_X14_241) rfl dX14_mend_71 ha13 hT14 rfl ?_
        refine g_iload_n X dX14_mend_74 rfl rfl ?_
        obtain ⟨hg21, hf⟩ := ck_e hf
        refine g_iald X dX14_mend_75 ha15 hT16 hg21 ?_
        obtain ⟨hg22, hf⟩ := ck_e hf
        refine g_iast X dX14_mend_76 ha10 hT11 hg22 ?_
        obtain ⟨M23, hM23, hf⟩ := lw_e hf
        rw [← hM23]
        have hT24 : mT M23 x0 = 13 := by rw [hM23]; exact hT7
        have hT25 : mT M23 a8 = 11 := by rw [hM23]; exact hT9
        have hT26 : mT M23 a10 = 20 := by rw [hM23]; exact hT11
        have hT27 : mT M23 a13 = 12 := by rw [hM23]; exact hT14
        have hT28 : mT M23 a15 = 20 := by rw [hM23]; exact hT16
        have hT29 : mT M23 a18 = 20 := by rw [hM23]; exact hT19
        refine g_aload_n X dX14_mend_77 rfl rfl ?_
        refine g_get (ci := 12) (v := vR (mR M23 x0 13)) 13 X cdX14 i_X14_mend_X14 (by decide) k_X14_mend_f47 rfl dX14_mend_78 rfl hT24 rfl ?_
        obtain ⟨a30, ha30, hf⟩ := dr_e hf
        obtain ⟨hT31, hf⟩ := ck_e hf
        refine g_getN (ci := 10) (w := vR (mR M23 a30 6)) 6 X cdX12 i_X14_mend_X12 (by decide) (gNw X _ kn_X14_290) rfl dX14_mend_81 ha30 hT31 rfl ?_
        refine g_iload_n X dX14_mend_84 rfl rfl ?_
        refine g_dup2 X dX14_mend_85 rfl rfl ?_
        obtain ⟨a32, ha32, hf⟩ := dr_e hf
        obtain ⟨hT33, hf⟩ := ck_e hf
        obtain ⟨hg34, hf⟩ := ck_e hf
        refine g_iald X dX14_mend_86 ha32 hT33 hg34 ?_
        refine g_iconst (v := (3 : Int32)) X dX14_mend_87 (by decide) ?_
        refine g_isub X dX14_mend_88 ?_
        obtain ⟨hg35, hf⟩ := ck_e hf
        refine g_iast X dX14_mend_89 ha32 hT33 hg35 ?_
        obtain ⟨M36, hM36, hf⟩ := lw_e hf
        rw [← hM36]
        have hT37 : mT M36 x0 = 13 := by rw [hM36]; exact hT24
        have hT38 : mT M36 a8 = 11 := by rw [hM36]; exact hT25
        have hT39 : mT M36 a10 = 20 := by rw [hM36]; exact hT26
        have hT40 : mT M36 a13 = 12 := by rw [hM36]; exact hT27
        have hT41 : mT M36 a15 = 20 := by rw [hM36]; exact hT28
        have hT42 : mT M36 a18 = 20 := by rw [hM36]; exact hT29
        have hT43 : mT M36 a30 = 11 := by rw [hM36]; exact hT31
        have hT44 : mT M36 a32 = 20 := by rw [hM36]; exact hT33
        refine g_aload_n X dX14_mend_90 rfl rfl ?_
        refine g_get (ci := 12) (v := vR (mR M36 x0 13)) 13 X cdX14 i_X14_mend_X14 (by decide) k_X14_mend_f47 rfl dX14_mend_91 rfl hT37 rfl ?_
        obtain ⟨a45, ha45, hf⟩ := dr_e hf
        obtain ⟨hT46, hf⟩ := ck_e hf
        refine g_getN (ci := 10) (w := vR (mR M36 a45 6)) 6 X cdX12 i_X14_mend_X12 (by decide) (gNw X _ kn_X14_290) rfl dX14_mend_94 ha45 hT46 rfl ?_
        refine g_iload_n X dX14_mend_97 rfl rfl ?_
        obtain ⟨a47, ha47, hf⟩ := dr_e hf
        obtain ⟨hT48, hf⟩ := ck_e hf
        obtain ⟨hg49, hf⟩ := ck_e hf
        refine g_iald X dX14_mend_98 ha47 hT48 hg49 ?_
        cases hf
        refine g_eqQ hK ?_
        exact g_iret X hr dX14_mend_99
      · have hf := ife_f hc hf
        refine g_sub (lvsub_of _ _ [0] rfl) ?_
        exact t_X14_mend_53 X hr _ _ _ hf hK
  · have hf := ife_t hc hf
    refine g_aload_n X dX14_mend_13 rfl rfl ?_
    refine g_iconst (v := (1 : Int32)) X dX14_mend_14 (by decide) ?_
    obtain ⟨hT51, hf⟩ := ck_e hf
    obtain ⟨r50, M50, hq50, hf⟩ := bd_e hf
    refine g_callV (ci := 12) (b := x0) (As := [vI (1 : Int32)]) (st := []) (v := some (vI r50)) (M1 := M50) X (m_X14_no l hq50) (cwV 1 X.2.2.1 gX14_mend_X14_no rfl rfl rfl (by decide +kernel) ⟨Nat.le_of_ble_eq_true rfl, Nat.le_of_ble_eq_true rfl⟩) rfl rfl rfl hT51 (by decide) rfl (Nat.le_of_ble_eq_true rfl) dX14_mend_15 ⟨by decide, by decide⟩ ?_
    cases hf
    refine g_eqQ hK ?_
    exact g_iret X hr dX14_mend_18
set_option maxHeartbeats 4000000 in
set_option maxRecDepth 100000 in
theorem m_X14_mend (l : Launch) {D : va_G} {cy : Nat → ClassId} {B : Nat} {H0 : Heap} {Z : Nat → Nat} {M M1 : gMem} {x0 : Nat} {x1 : Int32} {r : Int32} (hf : f_X14_mend M x0 x1 = some (r, M1)) : Met l yX14_mend wsX14_mend rX14_mend (va_Pc (Value.ref x0 :: List.map gv [vI x1]) (gPre D cy B H0 (gSt Z B H0) M)) (gQ D cy B H0 (some (vI r)) M1) 0 0 (gA B) := by
  refine Met.ofW (cc := cX14_mend) (maxL := 2) (ret := (some .int)) (by decide) rfl ?_
  intro p e s m args below meth c s₁ Bd hml hv
  obtain ⟨rfl, hW, hKK, hFs⟩ := hv
  have X : gX p s m _ meth c D cy B (gSt Z B H0) RX14 cX14_mend wsX14_mend 2 := ⟨Bd.exec, Bd.bytes, atoms_spec (ws := wsX14_mend) Bd.pre, findClass_of_methodNamed Bd.named, hml, hKK, by rw [hW.1]; exact hW.2.1, Bd.notSynchronized, hFs⟩
  have hr := Bd.returns
  have hl := lv_entry ([.ref x0, .int x1]) (n := 2) (Nat.le_of_ble_eq_true rfl)
  show W p l e rX14_mend s m _ below meth c s.heap [] 0 0 _ (entryFrame m ([.ref x0, .int x1] : List Value).toArray 2)
  rw [lg_entry_eq]
  generalize (lg_sl ([.ref x0, .int x1]) ++ List.replicate (2 - (lg_sl ([.ref x0, .int x1])).length) Slot.unset).toArray = ls at hl ⊢
  have hl : lv_has ls 2 (List.map gq [(0, vR (some x0)), (1, vI x1)]) := hl
  exact t_X14_mend_0 X hr _ _ _ _ hf rfl s.heap [] ls hW va_S.rf (lv_has_sub hl (lvsub_of _ _ [0, 1] rfl))
/-! ## TideLotsModel.lotOf(I)I -/
theorem dX14_lotOf_0 : decode cX14_lotOf 0 = .ok (.aload_n 0, 1) := by decide +kernel
theorem dX14_lotOf_1 : decode cX14_lotOf 1 = .ok (.getfield 51, 3) := by decide +kernel
theorem dX14_lotOf_4 : decode cX14_lotOf 4 = .ok (.aload_n 0, 1) := by decide +kernel
theorem dX14_lotOf_5 : decode cX14_lotOf 5 = .ok (.getfield 47, 3) := by decide +kernel
theorem dX14_lotOf_8 : decode cX14_lotOf 8 = .ok (.getfield 347, 3) := by decide +kernel
theorem dX14_lotOf_11 : decode cX14_lotOf 11 = .ok (.putfield 347, 3) := by decide +kernel
theorem dX14_lotOf_14 : decode cX14_lotOf 14 = .ok (.aload_n 0, 1) := by decide +kernel
theorem dX14_lotOf_15 : decode cX14_lotOf 15 = .ok (.getfield 51, 3) := by decide +kernel
theorem dX14_lotOf_18 : decode cX14_lotOf 18 = .ok (.invokevirtual 350, 3) := by decide +kernel
theorem dX14_lotOf_21 : decode cX14_lotOf 21 = .ok (.aload_n 0, 1) := by decide +kernel
theorem dX14_lotOf_22 : decode cX14_lotOf 22 = .ok (.getfield 51, 3) := by decide +kernel
theorem dX14_lotOf_25 : decode cX14_lotOf 25 = .ok (.getfield 353, 3) := by decide +kernel
theorem dX14_lotOf_28 : decode cX14_lotOf 28 = .ok (.iload_n 1, 1) := by decide +kernel
theorem dX14_lotOf_29 : decode cX14_lotOf 29 = .ok (.iaload, 1) := by decide +kernel
theorem dX14_lotOf_30 : decode cX14_lotOf 30 = .ok (.ireturn, 1) := by decide +kernel
set_option maxRecDepth 20000 in
theorem ggX14_lotOf_X12_draw : GoodIn wsX14_lotOf wsX12_draw := goodIn_r _ [7, 8, 9, 10, 11, 12, 13, 14, 15, 16, 32, 33, 34, 35, 36, 37, 38, 39, 40, 41, 42, 43, 44, 45, 46, 47, 48, 49, 50, 17, 18, 19, 20, 21, 22, 23, 24, 25, 26, 27, 28, 29, 30, 31, 51, 52, 53, 54, 55, 56, 57, 58, 59, 60, 61, 62, 63, 64, 65, 66, 67, 68, 69, 70, 71, 72, 73, 74, 75] (by decide +kernel) (by decide +kernel)
set_option maxRecDepth 20000 in
theorem gX14_lotOf_X12_draw : GoodIn wsX14_lotOf (wsV RX14 350 RX12 yX12_draw wsX12_draw) := goodIn_app (goodIn_of _ (by decide +kernel)) ggX14_lotOf_X12_draw
theorem k_X14_lotOf_f51 : Cond.fieldLink RX14 51 "TideLotsModel" "ahead" "LTideLotsModel$State;" ∈ wsX14_lotOf := by decide +kernel
theorem i_X14_lotOf_X14 : ∀ w ∈ u_ws RX14 TX14 15, w ∈ wsX14_lotOf := by decide +kernel
theorem k_X14_lotOf_f47 : Cond.fieldLink RX14 47 "TideLotsModel" "s" "LTideLotsModel$State;" ∈ wsX14_lotOf := by decide +kernel
theorem kn_X14_347 : Cond.fieldLinkNest "TideLotsModel" (347 : Nat) "TideLotsModel$State" "l" "I" "TideLotsModel" ∈ gNs := by decide +kernel
theorem i_X14_lotOf_X12 : ∀ w ∈ u_ws RX12 TX12 19, w ∈ wsX14_lotOf := by decide +kernel
theorem kn_X14_353 : Cond.fieldLinkNest "TideLotsModel" (353 : Nat) "TideLotsModel$State" "lots" "[I" "TideLotsModel" ∈ gNs := by decide +kernel
abbrev rX14_lotOf : Room := { frames := 2, cells := 0, slots := 0, locals := 83 }
noncomputable def b_X14_lotOf_0 (M : gMem) (x0 : Nat) (x1 : Int32) : Option (Int32 × gMem) :=
  ck (mT M x0 = 13) <| dr ((mR M x0 13)) fun a2 => ck (mT M a2 = 11) <| dr ((mR M x0 14)) fun a4 => ck (mT M a4 = 11) <| lw (wI M a4 1 ((mI M a2 1))) fun M6 => dr ((mR M6 x0 14)) fun a11 => ck (mT M6 a11 = 11) <| bd (f_X12_draw M6 a11) fun _ M10 => ck (mT M10 x0 = 13) <| dr ((mR M10 x0 14)) fun a14 => ck (mT M10 a14 = 11) <| dr ((mR M10 a14 14)) fun a16 => ck (mT M10 a16 = 20) <| ck (inb x1 (mL M10 a16)) <| some ((mI M10 a16 x1.toNatClampNeg), M10)
noncomputable def f_X14_lotOf (M : gMem) (x0 : Nat) (x1 : Int32) : Option (Int32 × gMem) :=
  b_X14_lotOf_0 M x0 x1
set_option maxHeartbeats 4000000 in
set_option maxRecDepth 100000 in
theorem t_X14_lotOf_0 (X : gX p s m args meth c D cy B (gSt Z B H0) RX14 cX14_lotOf wsX14_lotOf 2) (hr : meth.sig.returnType = (some .int)) {Q : State → Prop} : ∀ (M : gMem) (x0 : Nat) (x1 : Int32) (z : Int32 × gMem), b_X14_lotOf_0 M x0 x1 = some z → (fun (r : Int32 × gMem) => Q = gMQ below D cy B H0 args s 0 0 (some (vI r.1)) r.2) z → gGo p l e rX14_lotOf s m args below meth c D cy B H0 2 0 0 Q 0 [(0, vR (some x0)), (1, vI x1)] [] M := by
  intro M x0 x1 z hf hK
  unfold b_X14_lotOf_0 at hf
  refine g_aload_n X dX14_lotOf_0 rfl rfl ?_
  obtain ⟨hT1, hf⟩ := ck_e hf
  refine g_get (ci := 12) (v := vR (mR M x0 14)) 14 X cdX14 i_X14_lotOf_X14 (by decide) k_X14_lotOf_f51 rfl dX14_lotOf_1 rfl hT1 rfl ?_
  refine g_aload_n X dX14_lotOf_4 rfl rfl ?_
  refine g_get (ci := 12) (v := vR (mR M x0 13)) 13 X cdX14 i_X14_lotOf_X14 (by decide) k_X14_lotOf_f47 rfl dX14_lotOf_5 rfl hT1 rfl ?_
  obtain ⟨a2, ha2, hf⟩ := dr_e hf
  obtain ⟨hT3, hf⟩ := ck_e hf
  refine g_getN (ci := 10) (w := vI (mI M a2 1)) 1 X cdX12 i_X14_lotOf_X12 (by decide) (gNw X _ kn_X14_347) rfl dX14_lotOf_8 ha2 hT3 rfl ?_
  obtain ⟨a4, ha4, hf⟩ := dr_e hf
  obtain ⟨hT5, hf⟩ := ck_e hf
  refine g_putIN (ci := 10) 1 X cdX12 i_X14_lotOf_X12 (by decide) (gNw X _ kn_X14_347) rfl dX14_lotOf_11 ha4 hT5 rfl rfl rfl rfl ?_
  obtain ⟨M6, hM6, hf⟩ := lw_e hf
  rw [← hM6]
  have hT7 : mT M6 x0 = 13 := by rw [hM6]; exact hT1
  have hT8 : mT M6 a2 = 11 := by rw [hM6]; exact hT3
  have hT9 : mT M6 a4 = 11 := by rw [hM6]; exact hT5
  refine g_aload_n X dX14_lotOf_14 rfl rfl ?_
  refine g_get (ci := 12) (v := vR (mR M6 x0 14)) 14 X cdX14 i_X14_lotOf_X14 (by decide) k_X14_lotOf_f51 rfl dX14_lotOf_15 rfl hT7 rfl ?_
  obtain ⟨a11, ha11, hf⟩ := dr_e hf
  obtain ⟨hT12, hf⟩ := ck_e hf
  obtain ⟨r10, M10, hq10, hf⟩ := bd_e hf
  refine g_callV (ci := 10) (b := a11) (As := []) (st := []) (v := none) (M1 := M10) X (m_X12_draw l hq10) (cwV 0 X.2.2.1 gX14_lotOf_X12_draw rfl rfl rfl (by decide +kernel) ⟨Nat.le_of_ble_eq_true rfl, Nat.le_of_ble_eq_true rfl⟩) rfl rfl ha11 hT12 (by decide) rfl (Nat.le_of_ble_eq_true rfl) dX14_lotOf_18 ⟨by decide, by decide⟩ ?_
  refine g_aload_n X dX14_lotOf_21 rfl rfl ?_
  obtain ⟨hT13, hf⟩ := ck_e hf
  refine g_get (ci := 12) (v := vR (mR M10 x0 14)) 14 X cdX14 i_X14_lotOf_X14 (by decide) k_X14_lotOf_f51 rfl dX14_lotOf_22 rfl hT13 rfl ?_
  obtain ⟨a14, ha14, hf⟩ := dr_e hf
  obtain ⟨hT15, hf⟩ := ck_e hf
  refine g_getN (ci := 10) (w := vR (mR M10 a14 14)) 14 X cdX12 i_X14_lotOf_X12 (by decide) (gNw X _ kn_X14_353) rfl dX14_lotOf_25 ha14 hT15 rfl ?_
  refine g_iload_n X dX14_lotOf_28 rfl rfl ?_
  obtain ⟨a16, ha16, hf⟩ := dr_e hf
  obtain ⟨hT17, hf⟩ := ck_e hf
  obtain ⟨hg18, hf⟩ := ck_e hf
  refine g_iald X dX14_lotOf_29 ha16 hT17 hg18 ?_
  cases hf
  refine g_eqQ hK ?_
  exact g_iret X hr dX14_lotOf_30
set_option maxHeartbeats 4000000 in
set_option maxRecDepth 100000 in
theorem m_X14_lotOf (l : Launch) {D : va_G} {cy : Nat → ClassId} {B : Nat} {H0 : Heap} {Z : Nat → Nat} {M M1 : gMem} {x0 : Nat} {x1 : Int32} {r : Int32} (hf : f_X14_lotOf M x0 x1 = some (r, M1)) : Met l yX14_lotOf wsX14_lotOf rX14_lotOf (va_Pc (Value.ref x0 :: List.map gv [vI x1]) (gPre D cy B H0 (gSt Z B H0) M)) (gQ D cy B H0 (some (vI r)) M1) 0 0 (gA B) := by
  refine Met.ofW (cc := cX14_lotOf) (maxL := 2) (ret := (some .int)) (by decide) rfl ?_
  intro p e s m args below meth c s₁ Bd hml hv
  obtain ⟨rfl, hW, hKK, hFs⟩ := hv
  have X : gX p s m _ meth c D cy B (gSt Z B H0) RX14 cX14_lotOf wsX14_lotOf 2 := ⟨Bd.exec, Bd.bytes, atoms_spec (ws := wsX14_lotOf) Bd.pre, findClass_of_methodNamed Bd.named, hml, hKK, by rw [hW.1]; exact hW.2.1, Bd.notSynchronized, hFs⟩
  have hr := Bd.returns
  have hl := lv_entry ([.ref x0, .int x1]) (n := 2) (Nat.le_of_ble_eq_true rfl)
  show W p l e rX14_lotOf s m _ below meth c s.heap [] 0 0 _ (entryFrame m ([.ref x0, .int x1] : List Value).toArray 2)
  rw [lg_entry_eq]
  generalize (lg_sl ([.ref x0, .int x1]) ++ List.replicate (2 - (lg_sl ([.ref x0, .int x1])).length) Slot.unset).toArray = ls at hl ⊢
  have hl : lv_has ls 2 (List.map gq [(0, vR (some x0)), (1, vI x1)]) := hl
  exact t_X14_lotOf_0 X hr _ _ _ _ hf rfl s.heap [] ls hW va_S.rf (lv_has_sub hl (lvsub_of _ _ [0, 1] rfl))
/-! ## TideLotsModel.lot(I)I -/
theorem dX14_lot_0 : decode cX14_lot 0 = .ok (.aload_n 0, 1) := by decide +kernel
theorem dX14_lot_1 : decode cX14_lot 1 = .ok (.iconst 0, 1) := by decide +kernel
theorem dX14_lot_2 : decode cX14_lot 2 = .ok (.putfield 57, 3) := by decide +kernel
theorem dX14_lot_5 : decode cX14_lot 5 = .ok (.aload_n 0, 1) := by decide +kernel
theorem dX14_lot_6 : decode cX14_lot 6 = .ok (.iload_n 1, 1) := by decide +kernel
theorem dX14_lot_7 : decode cX14_lot 7 = .ok (.invokevirtual 329, 3) := by decide +kernel
theorem dX14_lot_10 : decode cX14_lot 10 = .ok (.ifCond .eq 11, 3) := by decide +kernel
theorem dX14_lot_13 : decode cX14_lot 13 = .ok (.aload_n 0, 1) := by decide +kernel
theorem dX14_lot_14 : decode cX14_lot 14 = .ok (.iload_n 1, 1) := by decide +kernel
theorem dX14_lot_15 : decode cX14_lot 15 = .ok (.invokevirtual 356, 3) := by decide +kernel
theorem dX14_lot_18 : decode cX14_lot 18 = .ok (.goto 8, 3) := by decide +kernel
theorem dX14_lot_21 : decode cX14_lot 21 = .ok (.aload_n 0, 1) := by decide +kernel
theorem dX14_lot_22 : decode cX14_lot 22 = .ok (.iconst 1, 1) := by decide +kernel
theorem dX14_lot_23 : decode cX14_lot 23 = .ok (.invokevirtual 276, 3) := by decide +kernel
theorem dX14_lot_26 : decode cX14_lot 26 = .ok (.ireturn, 1) := by decide +kernel
set_option maxRecDepth 20000 in
theorem ggX14_lot_X14_isFisher : GoodIn wsX14_lot wsX14_isFisher := goodIn_r _ [6, 7, 8, 9, 5, 10, 35, 36, 37, 38, 39, 40, 41, 42, 43, 44, 45, 46, 47, 48, 49, 50, 51, 52, 53, 54, 55, 56, 57, 58, 59, 60, 61, 62, 63, 64, 65, 66, 67, 68, 69, 70, 71, 72, 73, 74] (by decide +kernel) (by decide +kernel)
set_option maxRecDepth 20000 in
theorem gX14_lot_X14_isFisher : GoodIn wsX14_lot (wsV RX14 329 RX14 yX14_isFisher wsX14_isFisher) := goodIn_app (goodIn_of _ (by decide +kernel)) ggX14_lot_X14_isFisher
set_option maxRecDepth 20000 in
theorem ggX14_lot_X14_no : GoodIn wsX14_lot wsX14_no := goodIn_r _ [34, 1, 35, 36, 37, 38, 39, 40, 41, 42, 43, 44, 45, 46, 47, 48, 49] (by decide +kernel) (by decide +kernel)
set_option maxRecDepth 20000 in
theorem gX14_lot_X14_no : GoodIn wsX14_lot (wsV RX14 276 RX14 yX14_no wsX14_no) := goodIn_app (goodIn_of _ (by decide +kernel)) ggX14_lot_X14_no
set_option maxRecDepth 20000 in
theorem ggX14_lot_X14_lotOf : GoodIn wsX14_lot wsX14_lotOf := goodIn_r _ [14, 15, 16, 17, 18, 19, 20, 21, 22, 23, 24, 25, 26, 27, 28, 29, 30, 35, 36, 37, 38, 39, 40, 41, 42, 43, 44, 45, 46, 47, 48, 49, 75, 76, 77, 78, 79, 80, 81, 82, 83, 84, 85, 86, 87, 88, 89, 90, 91, 92, 93, 50, 51, 52, 53, 54, 55, 56, 57, 58, 59, 60, 61, 62, 63, 64, 65, 66, 67, 68, 69, 70, 71, 72, 73, 74] (by decide +kernel) (by decide +kernel)
set_option maxRecDepth 20000 in
theorem gX14_lot_X14_lotOf : GoodIn wsX14_lot (wsV RX14 356 RX14 yX14_lotOf wsX14_lotOf) := goodIn_app (goodIn_of _ (by decide +kernel)) ggX14_lot_X14_lotOf
theorem k_X14_lot_f57 : Cond.fieldLink RX14 57 "TideLotsModel" "thrown" "I" ∈ wsX14_lot := by decide +kernel
theorem i_X14_lot_X14 : ∀ w ∈ u_ws RX14 TX14 15, w ∈ wsX14_lot := by decide +kernel
abbrev rX14_lot : Room := { frames := 3, cells := 0, slots := 0, locals := 104 }
noncomputable def b_X14_lot_26 (M : gMem) (s0 : Int32) : Option (Int32 × gMem) :=
  some (s0, M)
noncomputable def b_X14_lot_0 (M : gMem) (x0 : Nat) (x1 : Int32) : Option (Int32 × gMem) :=
  ck (mT M x0 = 13) <| lw (wI M x0 0 ((0 : Int32))) fun M2 => bd (f_X14_isFisher M2 x0 x1) fun r4 M4 => (if r4 = 0 then ck (mT M4 x0 = 13) <| bd (f_X14_no M4 x0 ((1 : Int32))) fun r5 M5 => b_X14_lot_26 M5 r5 else ck (mT M4 x0 = 13) <| bd (f_X14_lotOf M4 x0 x1) fun r7 M7 => b_X14_lot_26 M7 r7)
noncomputable def f_X14_lot (M : gMem) (x0 : Nat) (x1 : Int32) : Option (Int32 × gMem) :=
  b_X14_lot_0 M x0 x1
set_option maxHeartbeats 4000000 in
set_option maxRecDepth 100000 in
theorem t_X14_lot_26 (X : gX p s m args meth c D cy B (gSt Z B H0) RX14 cX14_lot wsX14_lot 2) (hr : meth.sig.returnType = (some .int)) {Q : State → Prop} : ∀ (M : gMem) (s0 : Int32) (z : Int32 × gMem), b_X14_lot_26 M s0 = some z → (fun (r : Int32 × gMem) => Q = gMQ below D cy B H0 args s 0 0 (some (vI r.1)) r.2) z → gGo p l e rX14_lot s m args below meth c D cy B H0 2 0 0 Q 26 [] [vI s0] M := by
  intro M s0 z hf hK
  unfold b_X14_lot_26 at hf
  cases hf
  refine g_eqQ hK ?_
  exact g_iret X hr dX14_lot_26
set_option maxHeartbeats 4000000 in
set_option maxRecDepth 100000 in
theorem t_X14_lot_0 (X : gX p s m args meth c D cy B (gSt Z B H0) RX14 cX14_lot wsX14_lot 2) (hr : meth.sig.returnType = (some .int)) {Q : State → Prop} : ∀ (M : gMem) (x0 : Nat) (x1 : Int32) (z : Int32 × gMem), b_X14_lot_0 M x0 x1 = some z → (fun (r : Int32 × gMem) => Q = gMQ below D cy B H0 args s 0 0 (some (vI r.1)) r.2) z → gGo p l e rX14_lot s m args below meth c D cy B H0 2 0 0 Q 0 [(0, vR (some x0)), (1, vI x1)] [] M := by
  intro M x0 x1 z hf hK
  unfold b_X14_lot_0 at hf
  refine g_aload_n X dX14_lot_0 rfl rfl ?_
  refine g_iconst (v := (0 : Int32)) X dX14_lot_1 (by decide) ?_
  obtain ⟨hT1, hf⟩ := ck_e hf
  refine g_putI (ci := 12) 0 X cdX14 i_X14_lot_X14 (by decide) k_X14_lot_f57 rfl dX14_lot_2 rfl hT1 (Or.inl rfl) rfl rfl rfl ?_
  obtain ⟨M2, hM2, hf⟩ := lw_e hf
  rw [← hM2]
  have hT3 : mT M2 x0 = 13 := by rw [hM2]; exact hT1
  refine g_aload_n X dX14_lot_5 rfl rfl ?_
  refine g_iload_n X dX14_lot_6 rfl rfl ?_
  obtain ⟨r4, M4, hq4, hf⟩ := bd_e hf
  refine g_callV (ci := 12) (b := x0) (As := [vI x1]) (st := []) (v := some (vI r4)) (M1 := M4) X (m_X14_isFisher l hq4) (cwV 1 X.2.2.1 gX14_lot_X14_isFisher rfl rfl rfl (by decide +kernel) ⟨Nat.le_of_ble_eq_true rfl, Nat.le_of_ble_eq_true rfl⟩) rfl rfl rfl hT3 (by decide) rfl (Nat.le_of_ble_eq_true rfl) dX14_lot_7 ⟨by decide, by decide⟩ ?_
  refine g_if_eq (tgt := 21) X dX14_lot_10 (by decide) (fun hc => ?_) (fun hc => ?_)
  · have hf := ife_t hc hf
    refine g_aload_n X dX14_lot_21 rfl rfl ?_
    refine g_iconst (v := (1 : Int32)) X dX14_lot_22 (by decide) ?_
    obtain ⟨hT6, hf⟩ := ck_e hf
    obtain ⟨r5, M5, hq5, hf⟩ := bd_e hf
    refine g_callV (ci := 12) (b := x0) (As := [vI (1 : Int32)]) (st := []) (v := some (vI r5)) (M1 := M5) X (m_X14_no l hq5) (cwV 1 X.2.2.1 gX14_lot_X14_no rfl rfl rfl (by decide +kernel) ⟨Nat.le_of_ble_eq_true rfl, Nat.le_of_ble_eq_true rfl⟩) rfl rfl rfl hT6 (by decide) rfl (Nat.le_of_ble_eq_true rfl) dX14_lot_23 ⟨by decide, by decide⟩ ?_
    refine g_sub (lvsub_of _ _ [] rfl) ?_
    exact t_X14_lot_26 X hr _ _ _ hf hK
  · have hf := ife_f hc hf
    refine g_aload_n X dX14_lot_13 rfl rfl ?_
    refine g_iload_n X dX14_lot_14 rfl rfl ?_
    obtain ⟨hT8, hf⟩ := ck_e hf
    obtain ⟨r7, M7, hq7, hf⟩ := bd_e hf
    refine g_callV (ci := 12) (b := x0) (As := [vI x1]) (st := []) (v := some (vI r7)) (M1 := M7) X (m_X14_lotOf l hq7) (cwV 1 X.2.2.1 gX14_lot_X14_lotOf rfl rfl rfl (by decide +kernel) ⟨Nat.le_of_ble_eq_true rfl, Nat.le_of_ble_eq_true rfl⟩) rfl rfl rfl hT8 (by decide) rfl (Nat.le_of_ble_eq_true rfl) dX14_lot_15 ⟨by decide, by decide⟩ ?_
    refine g_goto (tgt := 26) X dX14_lot_18 (by decide) ?_
    refine g_sub (lvsub_of _ _ [] rfl) ?_
    exact t_X14_lot_26 X hr _ _ _ hf hK
set_option maxHeartbeats 4000000 in
set_option maxRecDepth 100000 in
theorem m_X14_lot (l : Launch) {D : va_G} {cy : Nat → ClassId} {B : Nat} {H0 : Heap} {Z : Nat → Nat} {M M1 : gMem} {x0 : Nat} {x1 : Int32} {r : Int32} (hf : f_X14_lot M x0 x1 = some (r, M1)) : Met l yX14_lot wsX14_lot rX14_lot (va_Pc (Value.ref x0 :: List.map gv [vI x1]) (gPre D cy B H0 (gSt Z B H0) M)) (gQ D cy B H0 (some (vI r)) M1) 0 0 (gA B) := by
  refine Met.ofW (cc := cX14_lot) (maxL := 2) (ret := (some .int)) (by decide) rfl ?_
  intro p e s m args below meth c s₁ Bd hml hv
  obtain ⟨rfl, hW, hKK, hFs⟩ := hv
  have X : gX p s m _ meth c D cy B (gSt Z B H0) RX14 cX14_lot wsX14_lot 2 := ⟨Bd.exec, Bd.bytes, atoms_spec (ws := wsX14_lot) Bd.pre, findClass_of_methodNamed Bd.named, hml, hKK, by rw [hW.1]; exact hW.2.1, Bd.notSynchronized, hFs⟩
  have hr := Bd.returns
  have hl := lv_entry ([.ref x0, .int x1]) (n := 2) (Nat.le_of_ble_eq_true rfl)
  show W p l e rX14_lot s m _ below meth c s.heap [] 0 0 _ (entryFrame m ([.ref x0, .int x1] : List Value).toArray 2)
  rw [lg_entry_eq]
  generalize (lg_sl ([.ref x0, .int x1]) ++ List.replicate (2 - (lg_sl ([.ref x0, .int x1])).length) Slot.unset).toArray = ls at hl ⊢
  have hl : lv_has ls 2 (List.map gq [(0, vR (some x0)), (1, vI x1)]) := hl
  exact t_X14_lot_0 X hr _ _ _ _ hf rfl s.heap [] ls hW va_S.rf (lv_has_sub hl (lvsub_of _ _ [0, 1] rfl))
/-! ## TideLotsModel.took(II)I -/
theorem dX14_took_0 : decode cX14_took 0 = .ok (.aload_n 0, 1) := by decide +kernel
theorem dX14_took_1 : decode cX14_took 1 = .ok (.iconst 0, 1) := by decide +kernel
theorem dX14_took_2 : decode cX14_took 2 = .ok (.putfield 57, 3) := by decide +kernel
theorem dX14_took_5 : decode cX14_took 5 = .ok (.aload_n 0, 1) := by decide +kernel
theorem dX14_took_6 : decode cX14_took 6 = .ok (.iload_n 1, 1) := by decide +kernel
theorem dX14_took_7 : decode cX14_took 7 = .ok (.invokevirtual 311, 3) := by decide +kernel
theorem dX14_took_10 : decode cX14_took 10 = .ok (.ifCond .eq 28, 3) := by decide +kernel
theorem dX14_took_13 : decode cX14_took 13 = .ok (.aload_n 0, 1) := by decide +kernel
theorem dX14_took_14 : decode cX14_took 14 = .ok (.iload_n 2, 1) := by decide +kernel
theorem dX14_took_15 : decode cX14_took 15 = .ok (.invokevirtual 329, 3) := by decide +kernel
theorem dX14_took_18 : decode cX14_took 18 = .ok (.ifCond .eq 20, 3) := by decide +kernel
theorem dX14_took_21 : decode cX14_took 21 = .ok (.aload_n 0, 1) := by decide +kernel
theorem dX14_took_22 : decode cX14_took 22 = .ok (.getfield 47, 3) := by decide +kernel
theorem dX14_took_25 : decode cX14_took 25 = .ok (.getfield 299, 3) := by decide +kernel
theorem dX14_took_28 : decode cX14_took 28 = .ok (.bipush 8, 2) := by decide +kernel
theorem dX14_took_30 : decode cX14_took 30 = .ok (.iload_n 1, 1) := by decide +kernel
theorem dX14_took_31 : decode cX14_took 31 = .ok (.imul, 1) := by decide +kernel
theorem dX14_took_32 : decode cX14_took 32 = .ok (.iload_n 2, 1) := by decide +kernel
theorem dX14_took_33 : decode cX14_took 33 = .ok (.iadd, 1) := by decide +kernel
theorem dX14_took_34 : decode cX14_took 34 = .ok (.iaload, 1) := by decide +kernel
theorem dX14_took_35 : decode cX14_took 35 = .ok (.goto 8, 3) := by decide +kernel
theorem dX14_took_38 : decode cX14_took 38 = .ok (.aload_n 0, 1) := by decide +kernel
theorem dX14_took_39 : decode cX14_took 39 = .ok (.iconst 1, 1) := by decide +kernel
theorem dX14_took_40 : decode cX14_took 40 = .ok (.invokevirtual 276, 3) := by decide +kernel
theorem dX14_took_43 : decode cX14_took 43 = .ok (.ireturn, 1) := by decide +kernel
set_option maxRecDepth 20000 in
theorem ggX14_took_X14_no : GoodIn wsX14_took wsX14_no := goodIn_r _ [19, 1, 20, 21, 22, 23, 24, 25, 26, 27, 28, 29, 30, 31, 32, 33, 34] (by decide +kernel) (by decide +kernel)
set_option maxRecDepth 20000 in
theorem gX14_took_X14_no : GoodIn wsX14_took (wsV RX14 276 RX14 yX14_no wsX14_no) := goodIn_app (goodIn_of _ (by decide +kernel)) ggX14_took_X14_no
set_option maxRecDepth 20000 in
theorem ggX14_took_X14_isGround : GoodIn wsX14_took wsX14_isGround := goodIn_r _ [7, 8, 9, 10, 6, 11, 20, 21, 22, 23, 24, 25, 26, 27, 28, 29, 30, 31, 32, 33, 34, 54, 55, 56, 57, 58, 59, 60, 61, 62, 63, 64, 65, 66, 67, 68, 69, 70, 71, 72, 73, 74, 75, 76, 77, 78] (by decide +kernel) (by decide +kernel)
set_option maxRecDepth 20000 in
theorem gX14_took_X14_isGround : GoodIn wsX14_took (wsV RX14 311 RX14 yX14_isGround wsX14_isGround) := goodIn_app (goodIn_of _ (by decide +kernel)) ggX14_took_X14_isGround
set_option maxRecDepth 20000 in
theorem ggX14_took_X14_isFisher : GoodIn wsX14_took wsX14_isFisher := goodIn_r _ [15, 8, 9, 10, 6, 11, 20, 21, 22, 23, 24, 25, 26, 27, 28, 29, 30, 31, 32, 33, 34, 54, 55, 56, 57, 58, 59, 60, 61, 62, 63, 64, 65, 66, 67, 68, 69, 70, 71, 72, 73, 74, 75, 76, 77, 78] (by decide +kernel) (by decide +kernel)
set_option maxRecDepth 20000 in
theorem gX14_took_X14_isFisher : GoodIn wsX14_took (wsV RX14 329 RX14 yX14_isFisher wsX14_isFisher) := goodIn_app (goodIn_of _ (by decide +kernel)) ggX14_took_X14_isFisher
theorem k_X14_took_f57 : Cond.fieldLink RX14 57 "TideLotsModel" "thrown" "I" ∈ wsX14_took := by decide +kernel
theorem i_X14_took_X14 : ∀ w ∈ u_ws RX14 TX14 15, w ∈ wsX14_took := by decide +kernel
theorem k_X14_took_f47 : Cond.fieldLink RX14 47 "TideLotsModel" "s" "LTideLotsModel$State;" ∈ wsX14_took := by decide +kernel
theorem i_X14_took_X12 : ∀ w ∈ u_ws RX12 TX12 19, w ∈ wsX14_took := by decide +kernel
abbrev rX14_took : Room := { frames := 2, cells := 0, slots := 0, locals := 43 }
noncomputable def b_X14_took_43 (M : gMem) (s0 : Int32) : Option (Int32 × gMem) :=
  some (s0, M)
noncomputable def b_X14_took_38 (M : gMem) (x0 : Nat) : Option (Int32 × gMem) :=
  ck (mT M x0 = 13) <| bd (f_X14_no M x0 ((1 : Int32))) fun r1 M1 => b_X14_took_43 M1 r1
noncomputable def b_X14_took_0 (M : gMem) (x0 : Nat) (x1 : Int32) (x2 : Int32) : Option (Int32 × gMem) :=
  ck (mT M x0 = 13) <| lw (wI M x0 0 ((0 : Int32))) fun M4 => bd (f_X14_isGround M4 x0 x1) fun r6 M6 => (if r6 = 0 then b_X14_took_38 M6 x0 else ck (mT M6 x0 = 13) <| bd (f_X14_isFisher M6 x0 x2) fun r7 M7 => (if r7 = 0 then b_X14_took_38 M7 x0 else ck (mT M7 x0 = 13) <| dr ((mR M7 x0 13)) fun a10 => ck (mT M7 a10 = 11) <| dr ((mR M7 a10 4)) fun a12 => ck (mT M7 a12 = 20) <| ck (inb (((8 : Int32) * x1) + x2) (mL M7 a12)) <| b_X14_took_43 M7 ((mI M7 a12 ((((8 : Int32) * x1) + x2)).toNatClampNeg))))
noncomputable def f_X14_took (M : gMem) (x0 : Nat) (x1 : Int32) (x2 : Int32) : Option (Int32 × gMem) :=
  b_X14_took_0 M x0 x1 x2
set_option maxHeartbeats 4000000 in
set_option maxRecDepth 100000 in
theorem t_X14_took_43 (X : gX p s m args meth c D cy B (gSt Z B H0) RX14 cX14_took wsX14_took 3) (hr : meth.sig.returnType = (some .int)) {Q : State → Prop} : ∀ (M : gMem) (s0 : Int32) (z : Int32 × gMem), b_X14_took_43 M s0 = some z → (fun (r : Int32 × gMem) => Q = gMQ below D cy B H0 args s 0 0 (some (vI r.1)) r.2) z → gGo p l e rX14_took s m args below meth c D cy B H0 3 0 0 Q 43 [] [vI s0] M := by
  intro M s0 z hf hK
  unfold b_X14_took_43 at hf
  cases hf
  refine g_eqQ hK ?_
  exact g_iret X hr dX14_took_43
set_option maxHeartbeats 4000000 in
set_option maxRecDepth 100000 in
theorem t_X14_took_38 (X : gX p s m args meth c D cy B (gSt Z B H0) RX14 cX14_took wsX14_took 3) (hr : meth.sig.returnType = (some .int)) {Q : State → Prop} : ∀ (M : gMem) (x0 : Nat) (z : Int32 × gMem), b_X14_took_38 M x0 = some z → (fun (r : Int32 × gMem) => Q = gMQ below D cy B H0 args s 0 0 (some (vI r.1)) r.2) z → gGo p l e rX14_took s m args below meth c D cy B H0 3 0 0 Q 38 [(0, vR (some x0))] [] M := by
  intro M x0 z hf hK
  unfold b_X14_took_38 at hf
  refine g_aload_n X dX14_took_38 rfl rfl ?_
  refine g_iconst (v := (1 : Int32)) X dX14_took_39 (by decide) ?_
  obtain ⟨hT2, hf⟩ := ck_e hf
  obtain ⟨r1, M1, hq1, hf⟩ := bd_e hf
  refine g_callV (ci := 12) (b := x0) (As := [vI (1 : Int32)]) (st := []) (v := some (vI r1)) (M1 := M1) X (m_X14_no l hq1) (cwV 1 X.2.2.1 gX14_took_X14_no rfl rfl rfl (by decide +kernel) ⟨Nat.le_of_ble_eq_true rfl, Nat.le_of_ble_eq_true rfl⟩) rfl rfl rfl hT2 (by decide) rfl (Nat.le_of_ble_eq_true rfl) dX14_took_40 ⟨by decide, by decide⟩ ?_
  refine g_sub (lvsub_of _ _ [] rfl) ?_
  exact t_X14_took_43 X hr _ _ _ hf hK
set_option maxHeartbeats 4000000 in
set_option maxRecDepth 100000 in
theorem t_X14_took_0 (X : gX p s m args meth c D cy B (gSt Z B H0) RX14 cX14_took wsX14_took 3) (hr : meth.sig.returnType = (some .int)) {Q : State → Prop} : ∀ (M : gMem) (x0 : Nat) (x1 : Int32) (x2 : Int32) (z : Int32 × gMem), b_X14_took_0 M x0 x1 x2 = some z → (fun (r : Int32 × gMem) => Q = gMQ below D cy B H0 args s 0 0 (some (vI r.1)) r.2) z → gGo p l e rX14_took s m args below meth c D cy B H0 3 0 0 Q 0 [(0, vR (some x0)), (1, vI x1), (2, vI x2)] [] M := by
  intro M x0 x1 x2 z hf hK
  unfold b_X14_took_0 at hf
  refine g_aload_n X dX14_took_0 rfl rfl ?_
  refine g_iconst (v := (0 : Int32)) X dX14_took_1 (by decide) ?_
  obtain ⟨hT3, hf⟩ := ck_e hf
  refine g_putI (ci := 12) 0 X cdX14 i_X14_took_X14 (by decide) k_X14_took_f57 rfl dX14_took_2 rfl hT3 (Or.inl rfl) rfl rfl rfl ?_
  obtain ⟨M4, hM4, hf⟩ := lw_e hf
  rw [← hM4]
  have hT5 : mT M4 x0 = 13 := by rw [hM4]; exact hT3
  refine g_aload_n X dX14_took_5 rfl rfl ?_
  refine g_iload_n X dX14_took_6 rfl rfl ?_
  obtain ⟨r6, M6, hq6, hf⟩ := bd_e hf
  refine g_callV (ci := 12) (b := x0) (As := [vI x1]) (st := []) (v := some (vI r6)) (M1 := M6) X (m_X14_isGround l hq6) (cwV 1 X.2.2.1 gX14_took_X14_isGround rfl rfl rfl (by decide +kernel) ⟨Nat.le_of_ble_eq_true rfl, Nat.le_of_ble_eq_true rfl⟩) rfl rfl rfl hT5 (by decide) rfl (Nat.le_of_ble_eq_true rfl) dX14_took_7 ⟨by decide, by decide⟩ ?_
  refine g_if_eq (tgt := 38) X dX14_took_10 (by decide) (fun hc => ?_) (fun hc => ?_)
  · have hf := ife_t hc hf
    refine g_sub (lvsub_of _ _ [0] rfl) ?_
    exact t_X14_took_38 X hr _ _ _ hf hK
  · have hf := ife_f hc hf
    refine g_aload_n X dX14_took_13 rfl rfl ?_
    refine g_iload_n X dX14_took_14 rfl rfl ?_
    obtain ⟨hT8, hf⟩ := ck_e hf
    obtain ⟨r7, M7, hq7, hf⟩ := bd_e hf
    refine g_callV (ci := 12) (b := x0) (As := [vI x2]) (st := []) (v := some (vI r7)) (M1 := M7) X (m_X14_isFisher l hq7) (cwV 1 X.2.2.1 gX14_took_X14_isFisher rfl rfl rfl (by decide +kernel) ⟨Nat.le_of_ble_eq_true rfl, Nat.le_of_ble_eq_true rfl⟩) rfl rfl rfl hT8 (by decide) rfl (Nat.le_of_ble_eq_true rfl) dX14_took_15 ⟨by decide, by decide⟩ ?_
    refine g_if_eq (tgt := 38) X dX14_took_18 (by decide) (fun hc => ?_) (fun hc => ?_)
    · have hf := ife_t hc hf
      refine g_sub (lvsub_of _ _ [0] rfl) ?_
      exact t_X14_took_38 X hr _ _ _ hf hK
    · have hf := ife_f hc hf
      refine g_aload_n X dX14_took_21 rfl rfl ?_
      obtain ⟨hT9, hf⟩ := ck_e hf
      refine g_get (ci := 12) (v := vR (mR M7 x0 13)) 13 X cdX14 i_X14_took_X14 (by decide) k_X14_took_f47 rfl dX14_took_22 rfl hT9 rfl ?_
      obtain ⟨a10, ha10, hf⟩ := dr_e hf
      obtain ⟨hT11, hf⟩ := ck_e hf
      refine g_getN (ci := 10) (w := vR (mR M7 a10 4)) 4 X cdX12 i_X14_took_X12 (by decide) (gNw X _ kn_X14_299) rfl dX14_took_25 ha10 hT11 rfl ?_
      refine g_bipush (v := (8 : Int32)) X dX14_took_28 (by decide) ?_
      refine g_iload_n X dX14_took_30 rfl rfl ?_
      refine g_imul X dX14_took_31 ?_
      refine g_iload_n X dX14_took_32 rfl rfl ?_
      refine g_iadd X dX14_took_33 ?_
      obtain ⟨a12, ha12, hf⟩ := dr_e hf
      obtain ⟨hT13, hf⟩ := ck_e hf
      obtain ⟨hg14, hf⟩ := ck_e hf
      refine g_iald X dX14_took_34 ha12 hT13 hg14 ?_
      refine g_goto (tgt := 43) X dX14_took_35 (by decide) ?_
      refine g_sub (lvsub_of _ _ [] rfl) ?_
      exact t_X14_took_43 X hr _ _ _ hf hK
set_option maxHeartbeats 4000000 in
set_option maxRecDepth 100000 in
theorem m_X14_took (l : Launch) {D : va_G} {cy : Nat → ClassId} {B : Nat} {H0 : Heap} {Z : Nat → Nat} {M M1 : gMem} {x0 : Nat} {x1 : Int32} {x2 : Int32} {r : Int32} (hf : f_X14_took M x0 x1 x2 = some (r, M1)) : Met l yX14_took wsX14_took rX14_took (va_Pc (Value.ref x0 :: List.map gv [vI x1, vI x2]) (gPre D cy B H0 (gSt Z B H0) M)) (gQ D cy B H0 (some (vI r)) M1) 0 0 (gA B) := by
  refine Met.ofW (cc := cX14_took) (maxL := 3) (ret := (some .int)) (by decide) rfl ?_
  intro p e s m args below meth c s₁ Bd hml hv
  obtain ⟨rfl, hW, hKK, hFs⟩ := hv
  have X : gX p s m _ meth c D cy B (gSt Z B H0) RX14 cX14_took wsX14_took 3 := ⟨Bd.exec, Bd.bytes, atoms_spec (ws := wsX14_took) Bd.pre, findClass_of_methodNamed Bd.named, hml, hKK, by rw [hW.1]; exact hW.2.1, Bd.notSynchronized, hFs⟩
  have hr := Bd.returns
  have hl := lv_entry ([.ref x0, .int x1, .int x2]) (n := 3) (Nat.le_of_ble_eq_true rfl)
  show W p l e rX14_took s m _ below meth c s.heap [] 0 0 _ (entryFrame m ([.ref x0, .int x1, .int x2] : List Value).toArray 3)
  rw [lg_entry_eq]
  generalize (lg_sl ([.ref x0, .int x1, .int x2]) ++ List.replicate (3 - (lg_sl ([.ref x0, .int x1, .int x2])).length) Slot.unset).toArray = ls at hl ⊢
  have hl : lv_has ls 3 (List.map gq [(0, vR (some x0)), (1, vI x1), (2, vI x2)]) := hl
  exact t_X14_took_0 X hr _ _ _ _ _ hf rfl s.heap [] ls hW va_S.rf (lv_has_sub hl (lvsub_of _ _ [0, 1, 2] rfl))
/-! ## TideLotsModel.blame(I)I -/
theorem dX14_blame_0 : decode cX14_blame 0 = .ok (.aload_n 0, 1) := by decide +kernel
theorem dX14_blame_1 : decode cX14_blame 1 = .ok (.iconst 0, 1) := by decide +kernel
theorem dX14_blame_2 : decode cX14_blame 2 = .ok (.putfield 57, 3) := by decide +kernel
theorem dX14_blame_5 : decode cX14_blame 5 = .ok (.aload_n 0, 1) := by decide +kernel
theorem dX14_blame_6 : decode cX14_blame 6 = .ok (.iload_n 1, 1) := by decide +kernel
theorem dX14_blame_7 : decode cX14_blame 7 = .ok (.invokevirtual 311, 3) := by decide +kernel
theorem dX14_blame_10 : decode cX14_blame 10 = .ok (.ifCond .ne 9, 3) := by decide +kernel
theorem dX14_blame_13 : decode cX14_blame 13 = .ok (.aload_n 0, 1) := by decide +kernel
theorem dX14_blame_14 : decode cX14_blame 14 = .ok (.iconst 1, 1) := by decide +kernel
theorem dX14_blame_15 : decode cX14_blame 15 = .ok (.invokevirtual 276, 3) := by decide +kernel
theorem dX14_blame_18 : decode cX14_blame 18 = .ok (.ireturn, 1) := by decide +kernel
theorem dX14_blame_19 : decode cX14_blame 19 = .ok (.iconst (-1), 1) := by decide +kernel
theorem dX14_blame_20 : decode cX14_blame 20 = .ok (.istore_n 2, 1) := by decide +kernel
theorem dX14_blame_21 : decode cX14_blame 21 = .ok (.iconst 0, 1) := by decide +kernel
theorem dX14_blame_22 : decode cX14_blame 22 = .ok (.istore_n 3, 1) := by decide +kernel
theorem dX14_blame_23 : decode cX14_blame 23 = .ok (.iload_n 3, 1) := by decide +kernel
theorem dX14_blame_24 : decode cX14_blame 24 = .ok (.aload_n 0, 1) := by decide +kernel
theorem dX14_blame_25 : decode cX14_blame 25 = .ok (.getfield 35, 3) := by decide +kernel
theorem dX14_blame_28 : decode cX14_blame 28 = .ok (.getfield 67, 3) := by decide +kernel
theorem dX14_blame_31 : decode cX14_blame 31 = .ok (.if_icmp .ge 51, 3) := by decide +kernel
theorem dX14_blame_34 : decode cX14_blame 34 = .ok (.aload_n 0, 1) := by decide +kernel
theorem dX14_blame_35 : decode cX14_blame 35 = .ok (.getfield 47, 3) := by decide +kernel
theorem dX14_blame_38 : decode cX14_blame 38 = .ok (.getfield 299, 3) := by decide +kernel
theorem dX14_blame_41 : decode cX14_blame 41 = .ok (.bipush 8, 2) := by decide +kernel
theorem dX14_blame_43 : decode cX14_blame 43 = .ok (.iload_n 1, 1) := by decide +kernel
theorem dX14_blame_44 : decode cX14_blame 44 = .ok (.imul, 1) := by decide +kernel
theorem dX14_blame_45 : decode cX14_blame 45 = .ok (.iload_n 3, 1) := by decide +kernel
theorem dX14_blame_46 : decode cX14_blame 46 = .ok (.iadd, 1) := by decide +kernel
theorem dX14_blame_47 : decode cX14_blame 47 = .ok (.iaload, 1) := by decide +kernel
theorem dX14_blame_48 : decode cX14_blame 48 = .ok (.iload_n 2, 1) := by decide +kernel
theorem dX14_blame_49 : decode cX14_blame 49 = .ok (.iconst (-1), 1) := by decide +kernel
theorem dX14_blame_50 : decode cX14_blame 50 = .ok (.if_icmp .ne 7, 3) := by decide +kernel
theorem dX14_blame_53 : decode cX14_blame 53 = .ok (.iconst 0, 1) := by decide +kernel
theorem dX14_blame_54 : decode cX14_blame 54 = .ok (.goto 17, 3) := by decide +kernel
theorem dX14_blame_57 : decode cX14_blame 57 = .ok (.aload_n 0, 1) := by decide +kernel
theorem dX14_blame_58 : decode cX14_blame 58 = .ok (.getfield 47, 3) := by decide +kernel
theorem dX14_blame_61 : decode cX14_blame 61 = .ok (.getfield 299, 3) := by decide +kernel
theorem dX14_blame_64 : decode cX14_blame 64 = .ok (.bipush 8, 2) := by decide +kernel
theorem dX14_blame_66 : decode cX14_blame 66 = .ok (.iload_n 1, 1) := by decide +kernel
theorem dX14_blame_67 : decode cX14_blame 67 = .ok (.imul, 1) := by decide +kernel
theorem dX14_blame_68 : decode cX14_blame 68 = .ok (.iload_n 2, 1) := by decide +kernel
theorem dX14_blame_69 : decode cX14_blame 69 = .ok (.iadd, 1) := by decide +kernel
theorem dX14_blame_70 : decode cX14_blame 70 = .ok (.iaload, 1) := by decide +kernel
theorem dX14_blame_71 : decode cX14_blame 71 = .ok (.if_icmp .le 5, 3) := by decide +kernel
theorem dX14_blame_74 : decode cX14_blame 74 = .ok (.iload_n 3, 1) := by decide +kernel
theorem dX14_blame_75 : decode cX14_blame 75 = .ok (.istore_n 2, 1) := by decide +kernel
theorem dX14_blame_76 : decode cX14_blame 76 = .ok (.iinc 3 1, 3) := by decide +kernel
theorem dX14_blame_79 : decode cX14_blame 79 = .ok (.goto (-56), 3) := by decide +kernel
theorem dX14_blame_82 : decode cX14_blame 82 = .ok (.iload_n 2, 1) := by decide +kernel
theorem dX14_blame_83 : decode cX14_blame 83 = .ok (.ireturn, 1) := by decide +kernel
set_option maxRecDepth 20000 in
theorem ggX14_blame_X14_isGround : GoodIn wsX14_blame wsX14_isGround := goodIn_r _ [8, 2, 9, 10, 7, 11, 16, 17, 18, 19, 20, 21, 22, 23, 24, 25, 26, 27, 28, 29, 30, 31, 32, 33, 34, 35, 36, 37, 38, 39, 40, 41, 42, 43, 44, 45, 46, 47, 48, 49, 50, 51, 52, 53, 54, 55] (by decide +kernel) (by decide +kernel)
set_option maxRecDepth 20000 in
theorem gX14_blame_X14_isGround : GoodIn wsX14_blame (wsV RX14 311 RX14 yX14_isGround wsX14_isGround) := goodIn_app (goodIn_of _ (by decide +kernel)) ggX14_blame_X14_isGround
set_option maxRecDepth 20000 in
theorem ggX14_blame_X14_no : GoodIn wsX14_blame wsX14_no := goodIn_r _ [15, 1, 16, 17, 18, 19, 20, 21, 22, 23, 24, 25, 26, 27, 28, 29, 30] (by decide +kernel) (by decide +kernel)
set_option maxRecDepth 20000 in
theorem gX14_blame_X14_no : GoodIn wsX14_blame (wsV RX14 276 RX14 yX14_no wsX14_no) := goodIn_app (goodIn_of _ (by decide +kernel)) ggX14_blame_X14_no
theorem k_X14_blame_f35 : Cond.fieldLink RX14 35 "TideLotsModel" "told" "LTideLotsModel$Told;" ∈ wsX14_blame := by decide +kernel
theorem i_X14_blame_X14 : ∀ w ∈ u_ws RX14 TX14 15, w ∈ wsX14_blame := by decide +kernel
theorem i_X14_blame_X13 : ∀ w ∈ u_ws RX13 TX13 25, w ∈ wsX14_blame := by decide +kernel
theorem k_X14_blame_f47 : Cond.fieldLink RX14 47 "TideLotsModel" "s" "LTideLotsModel$State;" ∈ wsX14_blame := by decide +kernel
theorem i_X14_blame_X12 : ∀ w ∈ u_ws RX12 TX12 19, w ∈ wsX14_blame := by decide +kernel
theorem k_X14_blame_f57 : Cond.fieldLink RX14 57 "TideLotsModel" "thrown" "I" ∈ wsX14_blame := by decide +kernel
abbrev rX14_blame : Room := { frames := 2, cells := 0, slots := 0, locals := 43 }
noncomputable def b_X14_blame_76 (M : gMem) (x0 : Nat) (x1 : Int32) (x2 : Int32) (x3 : Int32) : Option ((gMem × Int32 × Int32) ⊕ (Int32 × gMem)) :=
  some (.inl (M, x2, (x3 + (1 : Int32))))
noncomputable def b_X14_blame_71 (M : gMem) (x0 : Nat) (x1 : Int32) (x2 : Int32) (x3 : Int32) (s0 : Int32) (s1 : Int32) : Option ((gMem × Int32 × Int32) ⊕ (Int32 × gMem)) :=
  (if s0 ≤ s1 then b_X14_blame_76 M x0 x1 x2 x3 else b_X14_blame_76 M x0 x1 x3 x3)
noncomputable def bb_X14_blame_23 (M : gMem) (x0 : Nat) (x1 : Int32) (x2 : Int32) (x3 : Int32) : Option ((gMem × Int32 × Int32) ⊕ (Int32 × gMem)) :=
  ck (mT M x0 = 13) <| dr ((mR M x0 11)) fun a2 => ck (mT M a2 = 12) <| (if (mI M a2 4) ≤ x3 then oI (some (x2, M)) else dr ((mR M x0 13)) fun a5 => ck (mT M a5 = 11) <| dr ((mR M a5 4)) fun a7 => ck (mT M a7 = 20) <| ck (inb (((8 : Int32) * x1) + x3) (mL M a7)) <| (if x2 = (-1 : Int32) then b_X14_blame_71 M x0 x1 x2 x3 ((mI M a7 ((((8 : Int32) * x1) + x3)).toNatClampNeg)) ((0 : Int32)) else ck (inb (((8 : Int32) * x1) + x2) (mL M a7)) <| b_X14_blame_71 M x0 x1 x2 x3 ((mI M a7 ((((8 : Int32) * x1) + x3)).toNatClampNeg)) ((mI M a7 ((((8 : Int32) * x1) + x2)).toNatClampNeg))))
noncomputable def lp_X14_blame_23 (M : gMem) (x0 : Nat) (x1 : Int32) (x2 : Int32) (x3 : Int32) : Option (Int32 × gMem) :=
  lp (fun (q : gMem × Int32 × Int32) => bb_X14_blame_23 q.1 x0 x1 q.2.1 q.2.2) (M, x2, x3)
noncomputable def b_X14_blame_0 (M : gMem) (x0 : Nat) (x1 : Int32) : Option (Int32 × gMem) :=
  ck (mT M x0 = 13) <| lw (wI M x0 0 ((0 : Int32))) fun M12 => bd (f_X14_isGround M12 x0 x1) fun r14 M14 => (if r14 = 0 then ck (mT M14 x0 = 13) <| bd (f_X14_no M14 x0 ((1 : Int32))) fun r15 M15 => some (r15, M15) else lp_X14_blame_23 M14 x0 x1 ((-1 : Int32)) ((0 : Int32)))
noncomputable def f_X14_blame (M : gMem) (x0 : Nat) (x1 : Int32) : Option (Int32 × gMem) :=
  b_X14_blame_0 M x0 x1
set_option maxHeartbeats 4000000 in
set_option maxRecDepth 100000 in
theorem t_X14_blame_76 (X : gX p s m args meth c D cy B (gSt Z B H0) RX14 cX14_blame wsX14_blame 4) (hr : meth.sig.returnType = (some .int)) {Q : State → Prop} : ∀ (M : gMem) (x0 : Nat) (x1 : Int32) (x2 : Int32) (x3 : Int32) (z : (gMem × Int32 × Int32) ⊕ (Int32 × gMem)), b_X14_blame_76 M x0 x1 x2 x3 = some z → (Sum.elim (fun (q : gMem × Int32 × Int32) => gGo p l e rX14_blame s m args below meth c D cy B H0 4 0 0 Q 23 [(0, vR (some x0)), (1, vI x1), (2, vI q.2.1), (3, vI q.2.2)] [] q.1) (fun (r : Int32 × gMem) => Q = gMQ below D cy B H0 args s 0 0 (some (vI r.1)) r.2)) z → gGo p l e rX14_blame s m args below meth c D cy B H0 4 0 0 Q 76 [(0, vR (some x0)), (1, vI x1), (2, vI x2), (3, vI x3)] [] M := by
  intro M x0 x1 x2 x3 z hf hK
  unfold b_X14_blame_76 at hf
  refine g_iinc (v := (1 : Int32)) (lv' := [(3, vI (x3 + (1 : Int32))), (0, vR (some x0)), (1, vI x1), (2, vI x2)]) X dX14_blame_76 rfl (by decide) (by decide) rfl ?_
  refine g_goto (tgt := 23) X dX14_blame_79 (by decide) ?_
  cases hf
  refine g_sub (lvsub_of _ _ [1, 2, 3, 0] rfl) ?_
  exact hK
set_option maxHeartbeats 4000000 in
set_option maxRecDepth 100000 in
theorem t_X14_blame_71 (X : gX p s m args meth c D cy B (gSt Z B H0) RX14 cX14_blame wsX14_blame 4) (hr : meth.sig.returnType = (some .int)) {Q : State → Prop} : ∀ (M : gMem) (x0 : Nat) (x1 : Int32) (x2 : Int32) (x3 : Int32) (s0 : Int32) (s1 : Int32) (z : (gMem × Int32 × Int32) ⊕ (Int32 × gMem)), b_X14_blame_71 M x0 x1 x2 x3 s0 s1 = some z → (Sum.elim (fun (q : gMem × Int32 × Int32) => gGo p l e rX14_blame s m args below meth c D cy B H0 4 0 0 Q 23 [(0, vR (some x0)), (1, vI x1), (2, vI q.2.1), (3, vI q.2.2)] [] q.1) (fun (r : Int32 × gMem) => Q = gMQ below D cy B H0 args s 0 0 (some (vI r.1)) r.2)) z → gGo p l e rX14_blame s m args below meth c D cy B H0 4 0 0 Q 71 [(0, vR (some x0)), (1, vI x1), (2, vI x2), (3, vI x3)] [vI s1, vI s0] M := by
  intro M x0 x1 x2 x3 s0 s1 z hf hK
  unfold b_X14_blame_71 at hf
  refine g_icmp_le (tgt := 76) X dX14_blame_71 (by decide) (fun hc => ?_) (fun hc => ?_)
  · have hf := ife_t hc hf
    refine g_sub (lvsub_of _ _ [0, 1, 2, 3] rfl) ?_
    exact t_X14_blame_76 X hr _ _ _ _ _ _ hf hK
  · have hf := ife_f hc hf
    refine g_iload_n X dX14_blame_74 rfl rfl ?_
    refine g_istore_n (lv' := [(2, vI x3), (0, vR (some x0)), (1, vI x1), (3, vI x3)]) X dX14_blame_75 rfl (by decide) rfl ?_
    refine g_sub (lvsub_of _ _ [1, 2, 0, 3] rfl) ?_
    exact t_X14_blame_76 X hr _ _ _ _ _ _ hf hK
set_option maxHeartbeats 4000000 in
set_option maxRecDepth 100000 in
theorem tb_X14_blame_23 (X : gX p s m args meth c D cy B (gSt Z B H0) RX14 cX14_blame wsX14_blame 4) (hr : meth.sig.returnType = (some .int)) {Q : State → Prop} : ∀ (M : gMem) (x0 : Nat) (x1 : Int32) (x2 : Int32) (x3 : Int32) (z : (gMem × Int32 × Int32) ⊕ (Int32 × gMem)), bb_X14_blame_23 M x0 x1 x2 x3 = some z → (Sum.elim (fun (q : gMem × Int32 × Int32) => gGo p l e rX14_blame s m args below meth c D cy B H0 4 0 0 Q 23 [(0, vR (some x0)), (1, vI x1), (2, vI q.2.1), (3, vI q.2.2)] [] q.1) (fun (r : Int32 × gMem) => Q = gMQ below D cy B H0 args s 0 0 (some (vI r.1)) r.2)) z → gGo p l e rX14_blame s m args below meth c D cy B H0 4 0 0 Q 23 [(0, vR (some x0)), (1, vI x1), (2, vI x2), (3, vI x3)] [] M := by
  intro M x0 x1 x2 x3 z hf hK
  unfold bb_X14_blame_23 at hf
  refine g_iload_n X dX14_blame_23 rfl rfl ?_
  refine g_aload_n X dX14_blame_24 rfl rfl ?_
  obtain ⟨hT1, hf⟩ := ck_e hf
  refine g_get (ci := 12) (v := vR (mR M x0 11)) 11 X cdX14 i_X14_blame_X14 (by decide) k_X14_blame_f35 rfl dX14_blame_25 rfl hT1 rfl ?_
  obtain ⟨a2, ha2, hf⟩ := dr_e hf
  obtain ⟨hT3, hf⟩ := ck_e hf
  refine g_getN (ci := 11) (w := vI (mI M a2 4)) 4 X cdX13 i_X14_blame_X13 (by decide) (gNw X _ kn_X14_67) rfl dX14_blame_28 ha2 hT3 rfl ?_
  refine g_icmp_ge (tgt := 82) X dX14_blame_31 (by decide) (fun hc => ?_) (fun hc => ?_)
  · have hf := ife_t hc hf
    refine g_iload_n X dX14_blame_82 rfl rfl ?_
    obtain ⟨w4, hw4, hz4⟩ := oI_e hf
    subst hz4
    have hf := hw4
    cases hf
    refine g_eqQ hK ?_
    exact g_iret X hr dX14_blame_83
  · have hf := ife_f hc hf
    refine g_aload_n X dX14_blame_34 rfl rfl ?_
    refine g_get (ci := 12) (v := vR (mR M x0 13)) 13 X cdX14 i_X14_blame_X14 (by decide) k_X14_blame_f47 rfl dX14_blame_35 rfl hT1 rfl ?_
    obtain ⟨a5, ha5, hf⟩ := dr_e hf
    obtain ⟨hT6, hf⟩ := ck_e hf
    refine g_getN (ci := 10) (w := vR (mR M a5 4)) 4 X cdX12 i_X14_blame_X12 (by decide) (gNw X _ kn_X14_299) rfl dX14_blame_38 ha5 hT6 rfl ?_
    refine g_bipush (v := (8 : Int32)) X dX14_blame_41 (by decide) ?_
    refine g_iload_n X dX14_blame_43 rfl rfl ?_
    refine g_imul X dX14_blame_44 ?_
    refine g_iload_n X dX14_blame_45 rfl rfl ?_
    refine g_iadd X dX14_blame_46 ?_
    obtain ⟨a7, ha7, hf⟩ := dr_e hf
    obtain ⟨hT8, hf⟩ := ck_e hf
    obtain ⟨hg9, hf⟩ := ck_e hf
    refine g_iald X dX14_blame_47 ha7 hT8 hg9 ?_
    refine g_iload_n X dX14_blame_48 rfl rfl ?_
    refine g_iconst (v := (-1 : Int32)) X dX14_blame_49 (by decide) ?_
    refine g_icmp_ne (tgt := 57) X dX14_blame_50 (by decide) (fun hc => ?_) (fun hc => ?_)
    · have hf := ife_f hc hf
      refine g_aload_n X dX14_blame_57 rfl rfl ?_
      refine g_get (ci := 12) (v := vR (mR M x0 13)) 13 X cdX14 i_X14_blame_X14 (by decide) k_X14_blame_f47 rfl dX14_blame_58 rfl hT1 rfl ?_
      refine g_getN (ci := 10) (w := vR (mR M a5 4)) 4 X cdX12 i_X14_blame_X12 (by decide) (gNw X _ kn_X14_299) rfl dX14_blame_61 ha5 hT6 rfl ?_
      refine g_bipush (v := (8 : Int32)) X dX14_blame_64 (by decide) ?_
      refine g_iload_n X dX14_blame_66 rfl rfl ?_
      refine g_imul X dX14_blame_67 ?_
      refine g_iload_n X dX14_blame_68 rfl rfl ?_
      refine g_iadd X dX14_blame_69 ?_
      obtain ⟨hg10, hf⟩ := ck_e hf
      refine g_iald X dX14_blame_70 ha7 hT8 hg10 ?_
      refine g_sub (lvsub_of _ _ [0, 1, 2, 3] rfl) ?_
      exact t_X14_blame_71 X hr _ _ _ _ _ _ _ _ hf hK
    · have hf := ife_t hc hf
      refine g_iconst (v := (0 : Int32)) X dX14_blame_53 (by decide) ?_
      refine g_goto (tgt := 71) X dX14_blame_54 (by decide) ?_
      refine g_sub (lvsub_of _ _ [0, 1, 2, 3] rfl) ?_
      exact t_X14_blame_71 X hr _ _ _ _ _ _ _ _ hf hK
set_option maxHeartbeats 4000000 in
set_option maxRecDepth 100000 in
theorem tl_X14_blame_23 (X : gX p s m args meth c D cy B (gSt Z B H0) RX14 cX14_blame wsX14_blame 4) (hr : meth.sig.returnType = (some .int)) {Q : State → Prop} : ∀ (M : gMem) (x0 : Nat) (x1 : Int32) (x2 : Int32) (x3 : Int32) (z : Int32 × gMem), lp_X14_blame_23 M x0 x1 x2 x3 = some z → (fun (r : Int32 × gMem) => Q = gMQ below D cy B H0 args s 0 0 (some (vI r.1)) r.2) z → gGo p l e rX14_blame s m args below meth c D cy B H0 4 0 0 Q 23 [(0, vR (some x0)), (1, vI x1), (2, vI x2), (3, vI x3)] [] M := by
  intro M x0 x1 x2 x3 z hf hK
  refine lp_ind (P := (fun (q : gMem × Int32 × Int32) (z : Int32 × gMem) => (fun (r : Int32 × gMem) => Q = gMQ below D cy B H0 args s 0 0 (some (vI r.1)) r.2) z → gGo p l e rX14_blame s m args below meth c D cy B H0 4 0 0 Q 23 [(0, vR (some x0)), (1, vI x1), (2, vI q.2.1), (3, vI q.2.2)] [] q.1)) (fun q z hq => ?_) _ _ hf hK
  intro hK
  obtain ⟨w, hw, hm⟩ := hq
  refine tb_X14_blame_23 X hr _ _ _ _ _ w hw ?_
  cases w with
  | inl a => exact hm hK
  | inr b => cases hm; exact hK
set_option maxHeartbeats 4000000 in
set_option maxRecDepth 100000 in
theorem t_X14_blame_0 (X : gX p s m args meth c D cy B (gSt Z B H0) RX14 cX14_blame wsX14_blame 4) (hr : meth.sig.returnType = (some .int)) {Q : State → Prop} : ∀ (M : gMem) (x0 : Nat) (x1 : Int32) (z : Int32 × gMem), b_X14_blame_0 M x0 x1 = some z → (fun (r : Int32 × gMem) => Q = gMQ below D cy B H0 args s 0 0 (some (vI r.1)) r.2) z → gGo p l e rX14_blame s m args below meth c D cy B H0 4 0 0 Q 0 [(0, vR (some x0)), (1, vI x1)] [] M := by
  intro M x0 x1 z hf hK
  unfold b_X14_blame_0 at hf
  refine g_aload_n X dX14_blame_0 rfl rfl ?_
  refine g_iconst (v := (0 : Int32)) X dX14_blame_1 (by decide) ?_
  obtain ⟨hT11, hf⟩ := ck_e hf
  refine g_putI (ci := 12) 0 X cdX14 i_X14_blame_X14 (by decide) k_X14_blame_f57 rfl dX14_blame_2 rfl hT11 (Or.inl rfl) rfl rfl rfl ?_
  obtain ⟨M12, hM12, hf⟩ := lw_e hf
  rw [← hM12]
  have hT13 : mT M12 x0 = 13 := by rw [hM12]; exact hT11
  refine g_aload_n X dX14_blame_5 rfl rfl ?_
  refine g_iload_n X dX14_blame_6 rfl rfl ?_
  obtain ⟨r14, M14, hq14, hf⟩ := bd_e hf
  refine g_callV (ci := 12) (b := x0) (As := [vI x1]) (st := []) (v := some (vI r14)) (M1 := M14) X (m_X14_isGround l hq14) (cwV 1 X.2.2.1 gX14_blame_X14_isGround rfl rfl rfl (by decide +kernel) ⟨Nat.le_of_ble_eq_true rfl, Nat.le_of_ble_eq_true rfl⟩) rfl rfl rfl hT13 (by decide) rfl (Nat.le_of_ble_eq_true rfl) dX14_blame_7 ⟨by decide, by decide⟩ ?_
  refine g_if_ne (tgt := 19) X dX14_blame_10 (by decide) (fun hc => ?_) (fun hc => ?_)
  · have hf := ife_f hc hf
    refine g_iconst (v := (-1 : Int32)) X dX14_blame_19 (by decide) ?_
    refine g_istore_n (lv' := [(2, vI (-1 : Int32)), (0, vR (some x0)), (1, vI x1)]) X dX14_blame_20 rfl (by decide) rfl ?_
    refine g_iconst (v := (0 : Int32)) X dX14_blame_21 (by decide) ?_
    refine g_istore_n (lv' := [(3, vI (0 : Int32)), (2, vI (-1 : Int32)), (0, vR (some x0)), (1, vI x1)]) X dX14_blame_22 rfl (by decide) rfl ?_
    refine g_sub (lvsub_of _ _ [2, 3, 1, 0] rfl) ?_
    exact tl_X14_blame_23 X hr _ _ _ _ _ _ hf hK
  · have hf := ife_t hc hf
    refine g_aload_n X dX14_blame_13 rfl rfl ?_
    refine g_iconst (v := (1 : Int32)) X dX14_blame_14 (by decide) ?_
    obtain ⟨hT16, hf⟩ := ck_e hf
    obtain ⟨r15, M15, hq15, hf⟩ := bd_e hf
    refine g_callV (ci := 12) (b := x0) (As := [vI (1 : Int32)]) (st := []) (v := some (vI r15)) (M1 := M15) X (m_X14_no l hq15) (cwV 1 X.2.2.1 gX14_blame_X14_no rfl rfl rfl (by decide +kernel) ⟨Nat.le_of_ble_eq_true rfl, Nat.le_of_ble_eq_true rfl⟩) rfl rfl rfl hT16 (by decide) rfl (Nat.le_of_ble_eq_true rfl) dX14_blame_15 ⟨by decide, by decide⟩ ?_
    cases hf
    refine g_eqQ hK ?_
    exact g_iret X hr dX14_blame_18
set_option maxHeartbeats 4000000 in
set_option maxRecDepth 100000 in
theorem m_X14_blame (l : Launch) {D : va_G} {cy : Nat → ClassId} {B : Nat} {H0 : Heap} {Z : Nat → Nat} {M M1 : gMem} {x0 : Nat} {x1 : Int32} {r : Int32} (hf : f_X14_blame M x0 x1 = some (r, M1)) : Met l yX14_blame wsX14_blame rX14_blame (va_Pc (Value.ref x0 :: List.map gv [vI x1]) (gPre D cy B H0 (gSt Z B H0) M)) (gQ D cy B H0 (some (vI r)) M1) 0 0 (gA B) := by
  refine Met.ofW (cc := cX14_blame) (maxL := 4) (ret := (some .int)) (by decide) rfl ?_
  intro p e s m args below meth c s₁ Bd hml hv
  obtain ⟨rfl, hW, hKK, hFs⟩ := hv
  have X : gX p s m _ meth c D cy B (gSt Z B H0) RX14 cX14_blame wsX14_blame 4 := ⟨Bd.exec, Bd.bytes, atoms_spec (ws := wsX14_blame) Bd.pre, findClass_of_methodNamed Bd.named, hml, hKK, by rw [hW.1]; exact hW.2.1, Bd.notSynchronized, hFs⟩
  have hr := Bd.returns
  have hl := lv_entry ([.ref x0, .int x1]) (n := 4) (Nat.le_of_ble_eq_true rfl)
  show W p l e rX14_blame s m _ below meth c s.heap [] 0 0 _ (entryFrame m ([.ref x0, .int x1] : List Value).toArray 4)
  rw [lg_entry_eq]
  generalize (lg_sl ([.ref x0, .int x1]) ++ List.replicate (4 - (lg_sl ([.ref x0, .int x1])).length) Slot.unset).toArray = ls at hl ⊢
  have hl : lv_has ls 4 (List.map gq [(0, vR (some x0)), (1, vI x1)]) := hl
  exact t_X14_blame_0 X hr _ _ _ _ hf rfl s.heap [] ls hW va_S.rf (lv_has_sub hl (lvsub_of _ _ [0, 1] rfl))
/-! ## TideLotsModel.gap()I -/
theorem dX14_gap_0 : decode cX14_gap 0 = .ok (.aload_n 0, 1) := by decide +kernel
theorem dX14_gap_1 : decode cX14_gap 1 = .ok (.iconst 0, 1) := by decide +kernel
theorem dX14_gap_2 : decode cX14_gap 2 = .ok (.putfield 57, 3) := by decide +kernel
theorem dX14_gap_5 : decode cX14_gap 5 = .ok (.aload_n 0, 1) := by decide +kernel
theorem dX14_gap_6 : decode cX14_gap 6 = .ok (.getfield 47, 3) := by decide +kernel
theorem dX14_gap_9 : decode cX14_gap 9 = .ok (.invokevirtual 359, 3) := by decide +kernel
theorem dX14_gap_12 : decode cX14_gap 12 = .ok (.ireturn, 1) := by decide +kernel
set_option maxRecDepth 20000 in
theorem ggX14_gap_X12_gap : GoodIn wsX14_gap wsX12_gap := goodIn_r _ [7, 8, 9, 10, 11, 12, 13, 14, 15, 16, 17, 33, 34, 35, 36, 37, 38, 39, 40, 41, 42, 43, 44, 45, 46, 47, 48, 49, 50, 51, 18, 19, 20, 21, 22, 23, 24, 25, 26, 27, 28, 29, 30, 31, 32, 52, 53, 54, 55, 56, 57, 58, 59, 60, 61, 62, 63, 64, 65, 66, 67, 68, 69, 70, 71, 72, 73, 74, 75, 76] (by decide +kernel) (by decide +kernel)
set_option maxRecDepth 20000 in
theorem gX14_gap_X12_gap : GoodIn wsX14_gap (wsV RX14 359 RX12 yX12_gap wsX12_gap) := goodIn_app (goodIn_of _ (by decide +kernel)) ggX14_gap_X12_gap
theorem k_X14_gap_f57 : Cond.fieldLink RX14 57 "TideLotsModel" "thrown" "I" ∈ wsX14_gap := by decide +kernel
theorem i_X14_gap_X14 : ∀ w ∈ u_ws RX14 TX14 15, w ∈ wsX14_gap := by decide +kernel
theorem k_X14_gap_f47 : Cond.fieldLink RX14 47 "TideLotsModel" "s" "LTideLotsModel$State;" ∈ wsX14_gap := by decide +kernel
abbrev rX14_gap : Room := { frames := 2, cells := 0, slots := 0, locals := 36 }
noncomputable def b_X14_gap_0 (M : gMem) (x0 : Nat) : Option (Int32 × gMem) :=
  ck (mT M x0 = 13) <| lw (wI M x0 0 ((0 : Int32))) fun M2 => dr ((mR M2 x0 13)) fun a5 => ck (mT M2 a5 = 11) <| bd (f_X12_gap M2 a5) fun r4 M4 => some (r4, M4)
noncomputable def f_X14_gap (M : gMem) (x0 : Nat) : Option (Int32 × gMem) :=
  b_X14_gap_0 M x0
set_option maxHeartbeats 4000000 in
set_option maxRecDepth 100000 in
theorem t_X14_gap_0 (X : gX p s m args meth c D cy B (gSt Z B H0) RX14 cX14_gap wsX14_gap 1) (hr : meth.sig.returnType = (some .int)) {Q : State → Prop} : ∀ (M : gMem) (x0 : Nat) (z : Int32 × gMem), b_X14_gap_0 M x0 = some z → (fun (r : Int32 × gMem) => Q = gMQ below D cy B H0 args s 0 0 (some (vI r.1)) r.2) z → gGo p l e rX14_gap s m args below meth c D cy B H0 1 0 0 Q 0 [(0, vR (some x0))] [] M := by
  intro M x0 z hf hK
  unfold b_X14_gap_0 at hf
  refine g_aload_n X dX14_gap_0 rfl rfl ?_
  refine g_iconst (v := (0 : Int32)) X dX14_gap_1 (by decide) ?_
  obtain ⟨hT1, hf⟩ := ck_e hf
  refine g_putI (ci := 12) 0 X cdX14 i_X14_gap_X14 (by decide) k_X14_gap_f57 rfl dX14_gap_2 rfl hT1 (Or.inl rfl) rfl rfl rfl ?_
  obtain ⟨M2, hM2, hf⟩ := lw_e hf
  rw [← hM2]
  have hT3 : mT M2 x0 = 13 := by rw [hM2]; exact hT1
  refine g_aload_n X dX14_gap_5 rfl rfl ?_
  refine g_get (ci := 12) (v := vR (mR M2 x0 13)) 13 X cdX14 i_X14_gap_X14 (by decide) k_X14_gap_f47 rfl dX14_gap_6 rfl hT3 rfl ?_
  obtain ⟨a5, ha5, hf⟩ := dr_e hf
  obtain ⟨hT6, hf⟩ := ck_e hf
  obtain ⟨r4, M4, hq4, hf⟩ := bd_e hf
  refine g_callV (ci := 10) (b := a5) (As := []) (st := []) (v := some (vI r4)) (M1 := M4) X (m_X12_gap l hq4) (cwV 0 X.2.2.1 gX14_gap_X12_gap rfl rfl rfl (by decide +kernel) ⟨Nat.le_of_ble_eq_true rfl, Nat.le_of_ble_eq_true rfl⟩) rfl rfl ha5 hT6 (by decide) rfl (Nat.le_of_ble_eq_true rfl) dX14_gap_9 ⟨by decide, by decide⟩ ?_
  cases hf
  refine g_eqQ hK ?_
  exact g_iret X hr dX14_gap_12
set_option maxHeartbeats 4000000 in
set_option maxRecDepth 100000 in
theorem m_X14_gap (l : Launch) {D : va_G} {cy : Nat → ClassId} {B : Nat} {H0 : Heap} {Z : Nat → Nat} {M M1 : gMem} {x0 : Nat} {r : Int32} (hf : f_X14_gap M x0 = some (r, M1)) : Met l yX14_gap wsX14_gap rX14_gap (va_Pc (Value.ref x0 :: List.map gv []) (gPre D cy B H0 (gSt Z B H0) M)) (gQ D cy B H0 (some (vI r)) M1) 0 0 (gA B) := by
  refine Met.ofW (cc := cX14_gap) (maxL := 1) (ret := (some .int)) (by decide) rfl ?_
  intro p e s m args below meth c s₁ Bd hml hv
  obtain ⟨rfl, hW, hKK, hFs⟩ := hv
  have X : gX p s m _ meth c D cy B (gSt Z B H0) RX14 cX14_gap wsX14_gap 1 := ⟨Bd.exec, Bd.bytes, atoms_spec (ws := wsX14_gap) Bd.pre, findClass_of_methodNamed Bd.named, hml, hKK, by rw [hW.1]; exact hW.2.1, Bd.notSynchronized, hFs⟩
  have hr := Bd.returns
  have hl := lv_entry ([.ref x0]) (n := 1) (Nat.le_of_ble_eq_true rfl)
  show W p l e rX14_gap s m _ below meth c s.heap [] 0 0 _ (entryFrame m ([.ref x0] : List Value).toArray 1)
  rw [lg_entry_eq]
  generalize (lg_sl ([.ref x0]) ++ List.replicate (1 - (lg_sl ([.ref x0])).length) Slot.unset).toArray = ls at hl ⊢
  have hl : lv_has ls 1 (List.map gq [(0, vR (some x0))]) := hl
  exact t_X14_gap_0 X hr _ _ _ hf rfl s.heap [] ls hW va_S.rf (lv_has_sub hl (lvsub_of _ _ [0] rfl))
/-! ## TideLotsModel.pass(I)I -/
theorem dX14_pass_0 : decode cX14_pass 0 = .ok (.aload_n 0, 1) := by decide +kernel
theorem dX14_pass_1 : decode cX14_pass 1 = .ok (.iconst 0, 1) := by decide +kernel
theorem dX14_pass_2 : decode cX14_pass 2 = .ok (.putfield 57, 3) := by decide +kernel
theorem dX14_pass_5 : decode cX14_pass 5 = .ok (.iload_n 1, 1) := by decide +kernel
theorem dX14_pass_6 : decode cX14_pass 6 = .ok (.iconst 1, 1) := by decide +kernel
theorem dX14_pass_7 : decode cX14_pass 7 = .ok (.bipush 60, 2) := by decide +kernel
theorem dX14_pass_9 : decode cX14_pass 9 = .ok (.invokestatic 63, 3) := by decide +kernel
theorem dX14_pass_12 : decode cX14_pass 12 = .ok (.ifCond .ne 9, 3) := by decide +kernel
theorem dX14_pass_15 : decode cX14_pass 15 = .ok (.aload_n 0, 1) := by decide +kernel
theorem dX14_pass_16 : decode cX14_pass 16 = .ok (.iconst 1, 1) := by decide +kernel
theorem dX14_pass_17 : decode cX14_pass 17 = .ok (.invokevirtual 276, 3) := by decide +kernel
theorem dX14_pass_20 : decode cX14_pass 20 = .ok (.ireturn, 1) := by decide +kernel
theorem dX14_pass_21 : decode cX14_pass 21 = .ok (.aload_n 0, 1) := by decide +kernel
theorem dX14_pass_22 : decode cX14_pass 22 = .ok (.getfield 47, 3) := by decide +kernel
theorem dX14_pass_25 : decode cX14_pass 25 = .ok (.aload_n 0, 1) := by decide +kernel
theorem dX14_pass_26 : decode cX14_pass 26 = .ok (.getfield 47, 3) := by decide +kernel
theorem dX14_pass_29 : decode cX14_pass 29 = .ok (.getfield 290, 3) := by decide +kernel
theorem dX14_pass_32 : decode cX14_pass 32 = .ok (.invokevirtual 287, 3) := by decide +kernel
theorem dX14_pass_35 : decode cX14_pass 35 = .ok (.istore_n 2, 1) := by decide +kernel
theorem dX14_pass_36 : decode cX14_pass 36 = .ok (.iconst 0, 1) := by decide +kernel
theorem dX14_pass_37 : decode cX14_pass 37 = .ok (.istore_n 3, 1) := by decide +kernel
theorem dX14_pass_38 : decode cX14_pass 38 = .ok (.iload_n 3, 1) := by decide +kernel
theorem dX14_pass_39 : decode cX14_pass 39 = .ok (.iload_n 1, 1) := by decide +kernel
theorem dX14_pass_40 : decode cX14_pass 40 = .ok (.if_icmp .ge 16, 3) := by decide +kernel
theorem dX14_pass_43 : decode cX14_pass 43 = .ok (.aload_n 0, 1) := by decide +kernel
theorem dX14_pass_44 : decode cX14_pass 44 = .ok (.getfield 47, 3) := by decide +kernel
theorem dX14_pass_47 : decode cX14_pass 47 = .ok (.invokevirtual 362, 3) := by decide +kernel
theorem dX14_pass_50 : decode cX14_pass 50 = .ok (.iinc 3 1, 3) := by decide +kernel
theorem dX14_pass_53 : decode cX14_pass 53 = .ok (.goto (-15), 3) := by decide +kernel
theorem dX14_pass_56 : decode cX14_pass 56 = .ok (.aload_n 0, 1) := by decide +kernel
theorem dX14_pass_57 : decode cX14_pass 57 = .ok (.getfield 47, 3) := by decide +kernel
theorem dX14_pass_60 : decode cX14_pass 60 = .ok (.aload_n 0, 1) := by decide +kernel
theorem dX14_pass_61 : decode cX14_pass 61 = .ok (.getfield 47, 3) := by decide +kernel
theorem dX14_pass_64 : decode cX14_pass 64 = .ok (.getfield 290, 3) := by decide +kernel
theorem dX14_pass_67 : decode cX14_pass 67 = .ok (.invokevirtual 287, 3) := by decide +kernel
theorem dX14_pass_70 : decode cX14_pass 70 = .ok (.iload_n 2, 1) := by decide +kernel
theorem dX14_pass_71 : decode cX14_pass 71 = .ok (.isub, 1) := by decide +kernel
theorem dX14_pass_72 : decode cX14_pass 72 = .ok (.ireturn, 1) := by decide +kernel
set_option maxRecDepth 20000 in
theorem ggX14_pass_X12_sum : GoodIn wsX14_pass wsX12_sum := goodIn_r _ [15] (by decide +kernel) (by decide +kernel)
set_option maxRecDepth 20000 in
theorem gX14_pass_X12_sum : GoodIn wsX14_pass (wsV RX14 287 RX12 yX12_sum wsX12_sum) := goodIn_app (goodIn_of _ (by decide +kernel)) ggX14_pass_X12_sum
set_option maxRecDepth 20000 in
theorem ggX14_pass_X12_pass : GoodIn wsX14_pass wsX12_pass := goodIn_r _ [19, 20, 21, 22, 23, 24, 25, 26, 27, 28, 14, 29, 30, 31, 32, 33, 34, 35, 36, 37, 38, 39, 40, 41, 42, 43, 44, 45, 46, 47, 48, 49, 50, 51, 52, 5, 53, 3, 4, 6, 54, 55, 56, 57, 58, 59, 60, 61, 62, 63, 64, 65, 66, 67, 68, 69, 70, 71, 72, 73, 74, 75, 76, 77, 78, 79, 80, 81, 82, 83, 84, 85, 86, 87, 88, 89, 90, 91, 92, 93, 94, 95, 111, 112, 113, 114, 115, 116, 117, 118, 119, 120, 121, 122, 123, 124, 125, 126, 127, 128, 129, 96, 97, 98, 99, 100, 101, 102, 103, 104, 105, 106, 107, 108, 109, 110, 130, 131, 132, 133, 134, 135, 136, 137, 138, 139, 140, 141, 142, 143, 144, 145, 146, 147, 148, 149, 150, 151, 152, 153, 154] (by decide +kernel) (by decide +kernel)
set_option maxRecDepth 20000 in
theorem gX14_pass_X12_pass : GoodIn wsX14_pass (wsV RX14 362 RX12 yX12_pass wsX12_pass) := goodIn_app (goodIn_of _ (by decide +kernel)) ggX14_pass_X12_pass
set_option maxRecDepth 20000 in
theorem ggX14_pass_X14_isIn : GoodIn wsX14_pass wsX14_isIn := goodIn_r _ [6] (by decide +kernel) (by decide +kernel)
set_option maxRecDepth 20000 in
theorem gX14_pass_X14_isIn : GoodIn wsX14_pass (va_wsS RX14 63 yX14_isIn wsX14_isIn) := goodIn_app (goodIn_of _ (by decide +kernel)) ggX14_pass_X14_isIn
set_option maxRecDepth 20000 in
theorem ggX14_pass_X14_no : GoodIn wsX14_pass wsX14_no := goodIn_r _ [10, 1, 96, 97, 98, 99, 100, 101, 102, 103, 104, 105, 106, 107, 108, 109, 110] (by decide +kernel) (by decide +kernel)
set_option maxRecDepth 20000 in
theorem gX14_pass_X14_no : GoodIn wsX14_pass (wsV RX14 276 RX14 yX14_no wsX14_no) := goodIn_app (goodIn_of _ (by decide +kernel)) ggX14_pass_X14_no
theorem k_X14_pass_f47 : Cond.fieldLink RX14 47 "TideLotsModel" "s" "LTideLotsModel$State;" ∈ wsX14_pass := by decide +kernel
theorem i_X14_pass_X14 : ∀ w ∈ u_ws RX14 TX14 15, w ∈ wsX14_pass := by decide +kernel
theorem i_X14_pass_X12 : ∀ w ∈ u_ws RX12 TX12 19, w ∈ wsX14_pass := by decide +kernel
theorem k_X14_pass_f57 : Cond.fieldLink RX14 57 "TideLotsModel" "thrown" "I" ∈ wsX14_pass := by decide +kernel
abbrev rX14_pass : Room := { frames := 7, cells := 0, slots := 0, locals := 161 }
noncomputable def bb_X14_pass_38 (M : gMem) (x0 : Nat) (x1 : Int32) (x2 : Int32) (x3 : Int32) : Option ((gMem × Int32) ⊕ (Int32 × gMem)) :=
  (if x1 ≤ x3 then ck (mT M x0 = 13) <| dr ((mR M x0 13)) fun a2 => ck (mT M a2 = 11) <| bd (f_X12_sum M a2 ((mR M a2 6))) fun r4 M4 => oI (some ((r4 - x2), M4)) else ck (mT M x0 = 13) <| dr ((mR M x0 13)) fun a8 => ck (mT M a8 = 11) <| bd (f_X12_pass M a8) fun _ M7 => some (.inl (M7, (x3 + (1 : Int32)))))
noncomputable def lp_X14_pass_38 (M : gMem) (x0 : Nat) (x1 : Int32) (x2 : Int32) (x3 : Int32) : Option (Int32 × gMem) :=
  lp (fun (q : gMem × Int32) => bb_X14_pass_38 q.1 x0 x1 x2 q.2) (M, x3)
noncomputable def b_X14_pass_0 (M : gMem) (x0 : Nat) (x1 : Int32) : Option (Int32 × gMem) :=
  ck (mT M x0 = 13) <| lw (wI M x0 0 ((0 : Int32))) fun M11 => bd (f_X14_isIn M11 x1 ((1 : Int32)) ((60 : Int32))) fun r13 M13 => (if r13 = 0 then ck (mT M13 x0 = 13) <| bd (f_X14_no M13 x0 ((1 : Int32))) fun r18 M18 => some (r18, M18) else ck (mT M13 x0 = 13) <| dr ((mR M13 x0 13)) fun a15 => ck (mT M13 a15 = 11) <| bd (f_X12_sum M13 a15 ((mR M13 a15 6))) fun r17 M17 => lp_X14_pass_38 M17 x0 x1 r17 ((0 : Int32)))
noncomputable def f_X14_pass (M : gMem) (x0 : Nat) (x1 : Int32) : Option (Int32 × gMem) :=
  b_X14_pass_0 M x0 x1
set_option maxHeartbeats 4000000 in
set_option maxRecDepth 100000 in
theorem tb_X14_pass_38 (X : gX p s m args meth c D cy B (gSt Z B H0) RX14 cX14_pass wsX14_pass 4) (hr : meth.sig.returnType = (some .int)) {Q : State → Prop} : ∀ (M : gMem) (x0 : Nat) (x1 : Int32) (x2 : Int32) (x3 : Int32) (z : (gMem × Int32) ⊕ (Int32 × gMem)), bb_X14_pass_38 M x0 x1 x2 x3 = some z → (Sum.elim (fun (q : gMem × Int32) => gGo p l e rX14_pass s m args below meth c D cy B H0 4 0 0 Q 38 [(0, vR (some x0)), (1, vI x1), (2, vI x2), (3, vI q.2)] [] q.1) (fun (r : Int32 × gMem) => Q = gMQ below D cy B H0 args s 0 0 (some (vI r.1)) r.2)) z → gGo p l e rX14_pass s m args below meth c D cy B H0 4 0 0 Q 38 [(0, vR (some x0)), (1, vI x1), (2, vI x2), (3, vI x3)] [] M := by
  intro M x0 x1 x2 x3 z hf hK
  unfold bb_X14_pass_38 at hf
  refine g_iload_n X dX14_pass_38 rfl rfl ?_
  refine g_iload_n X dX14_pass_39 rfl rfl ?_
  refine g_icmp_ge (tgt := 56) X dX14_pass_40 (by decide) (fun hc => ?_) (fun hc => ?_)
  · have hf := ife_t hc hf
    refine g_aload_n X dX14_pass_56 rfl rfl ?_
    obtain ⟨hT1, hf⟩ := ck_e hf
    refine g_get (ci := 12) (v := vR (mR M x0 13)) 13 X cdX14 i_X14_pass_X14 (by decide) k_X14_pass_f47 rfl dX14_pass_57 rfl hT1 rfl ?_
    refine g_aload_n X dX14_pass_60 rfl rfl ?_
    refine g_get (ci := 12) (v := vR (mR M x0 13)) 13 X cdX14 i_X14_pass_X14 (by decide) k_X14_pass_f47 rfl dX14_pass_61 rfl hT1 rfl ?_
    obtain ⟨a2, ha2, hf⟩ := dr_e hf
    obtain ⟨hT3, hf⟩ := ck_e hf
    refine g_getN (ci := 10) (w := vR (mR M a2 6)) 6 X cdX12 i_X14_pass_X12 (by decide) (gNw X _ kn_X14_290) rfl dX14_pass_64 ha2 hT3 rfl ?_
    obtain ⟨r4, M4, hq4, hf⟩ := bd_e hf
    refine g_callV (ci := 10) (b := a2) (As := [vR (mR M a2 6)]) (st := []) (v := some (vI r4)) (M1 := M4) X (m_X12_sum l hq4) (cwV 1 X.2.2.1 gX14_pass_X12_sum rfl rfl rfl (by decide +kernel) ⟨Nat.le_of_ble_eq_true rfl, Nat.le_of_ble_eq_true rfl⟩) rfl rfl ha2 hT3 (by decide) rfl (Nat.le_of_ble_eq_true rfl) dX14_pass_67 ⟨by decide, by decide⟩ ?_
    refine g_iload_n X dX14_pass_70 rfl rfl ?_
    refine g_isub X dX14_pass_71 ?_
    obtain ⟨w5, hw5, hz5⟩ := oI_e hf
    subst hz5
    have hf := hw5
    cases hf
    refine g_eqQ hK ?_
    exact g_iret X hr dX14_pass_72
  · have hf := ife_f hc hf
    refine g_aload_n X dX14_pass_43 rfl rfl ?_
    obtain ⟨hT6, hf⟩ := ck_e hf
    refine g_get (ci := 12) (v := vR (mR M x0 13)) 13 X cdX14 i_X14_pass_X14 (by decide) k_X14_pass_f47 rfl dX14_pass_44 rfl hT6 rfl ?_
    obtain ⟨a8, ha8, hf⟩ := dr_e hf
    obtain ⟨hT9, hf⟩ := ck_e hf
    obtain ⟨r7, M7, hq7, hf⟩ := bd_e hf
    refine g_callV (ci := 10) (b := a8) (As := []) (st := []) (v := none) (M1 := M7) X (m_X12_pass l hq7) (cwV 0 X.2.2.1 gX14_pass_X12_pass rfl rfl rfl (by decide +kernel) ⟨Nat.le_of_ble_eq_true rfl, Nat.le_of_ble_eq_true rfl⟩) rfl rfl ha8 hT9 (by decide) rfl (Nat.le_of_ble_eq_true rfl) dX14_pass_47 ⟨by decide, by decide⟩ ?_
    refine g_iinc (v := (1 : Int32)) (lv' := [(3, vI (x3 + (1 : Int32))), (0, vR (some x0)), (1, vI x1), (2, vI x2)]) X dX14_pass_50 rfl (by decide) (by decide) rfl ?_
    refine g_goto (tgt := 38) X dX14_pass_53 (by decide) ?_
    cases hf
    refine g_sub (lvsub_of _ _ [1, 2, 3, 0] rfl) ?_
    exact hK
set_option maxHeartbeats 4000000 in
set_option maxRecDepth 100000 in
theorem tl_X14_pass_38 (X : gX p s m args meth c D cy B (gSt Z B H0) RX14 cX14_pass wsX14_pass 4) (hr : meth.sig.returnType = (some .int)) {Q : State → Prop} : ∀ (M : gMem) (x0 : Nat) (x1 : Int32) (x2 : Int32) (x3 : Int32) (z : Int32 × gMem), lp_X14_pass_38 M x0 x1 x2 x3 = some z → (fun (r : Int32 × gMem) => Q = gMQ below D cy B H0 args s 0 0 (some (vI r.1)) r.2) z → gGo p l e rX14_pass s m args below meth c D cy B H0 4 0 0 Q 38 [(0, vR (some x0)), (1, vI x1), (2, vI x2), (3, vI x3)] [] M := by
  intro M x0 x1 x2 x3 z hf hK
  refine lp_ind (P := (fun (q : gMem × Int32) (z : Int32 × gMem) => (fun (r : Int32 × gMem) => Q = gMQ below D cy B H0 args s 0 0 (some (vI r.1)) r.2) z → gGo p l e rX14_pass s m args below meth c D cy B H0 4 0 0 Q 38 [(0, vR (some x0)), (1, vI x1), (2, vI x2), (3, vI q.2)] [] q.1)) (fun q z hq => ?_) _ _ hf hK
  intro hK
  obtain ⟨w, hw, hm⟩ := hq
  refine tb_X14_pass_38 X hr _ _ _ _ _ w hw ?_
  cases w with
  | inl a => exact hm hK
  | inr b => cases hm; exact hK
set_option maxHeartbeats 4000000 in
set_option maxRecDepth 100000 in
theorem t_X14_pass_0 (X : gX p s m args meth c D cy B (gSt Z B H0) RX14 cX14_pass wsX14_pass 4) (hr : meth.sig.returnType = (some .int)) {Q : State → Prop} : ∀ (M : gMem) (x0 : Nat) (x1 : Int32) (z : Int32 × gMem), b_X14_pass_0 M x0 x1 = some z → (fun (r : Int32 × gMem) => Q = gMQ below D cy B H0 args s 0 0 (some (vI r.1)) r.2) z → gGo p l e rX14_pass s m args below meth c D cy B H0 4 0 0 Q 0 [(0, vR (some x0)), (1, vI x1)] [] M := by
  intro M x0 x1 z hf hK
  unfold b_X14_pass_0 at hf
  refine g_aload_n X dX14_pass_0 rfl rfl ?_
  refine g_iconst (v := (0 : Int32)) X dX14_pass_1 (by decide) ?_
  obtain ⟨hT10, hf⟩ := ck_e hf
  refine g_putI (ci := 12) 0 X cdX14 i_X14_pass_X14 (by decide) k_X14_pass_f57 rfl dX14_pass_2 rfl hT10 (Or.inl rfl) rfl rfl rfl ?_
  obtain ⟨M11, hM11, hf⟩ := lw_e hf
  rw [← hM11]
  have hT12 : mT M11 x0 = 13 := by rw [hM11]; exact hT10
  refine g_iload_n X dX14_pass_5 rfl rfl ?_
  refine g_iconst (v := (1 : Int32)) X dX14_pass_6 (by decide) ?_
  refine g_bipush (v := (60 : Int32)) X dX14_pass_7 (by decide) ?_
  obtain ⟨r13, M13, hq13, hf⟩ := bd_e hf
  refine g_callS (As := [vI x1, vI (1 : Int32), vI (60 : Int32)]) (st := []) (v := some (vI r13)) (M1 := M13) X (m_X14_isIn l hq13) (va_cwS 3 X.2.2.1 gX14_pass_X14_isIn rfl rfl rfl (by decide +kernel) ⟨Nat.le_of_ble_eq_true rfl, Nat.le_of_ble_eq_true rfl⟩) rfl rfl (Nat.le_of_ble_eq_true rfl) dX14_pass_9 ⟨by decide, by decide⟩ ?_
  refine g_if_ne (tgt := 21) X dX14_pass_12 (by decide) (fun hc => ?_) (fun hc => ?_)
  · have hf := ife_f hc hf
    refine g_aload_n X dX14_pass_21 rfl rfl ?_
    obtain ⟨hT14, hf⟩ := ck_e hf
    refine g_get (ci := 12) (v := vR (mR M13 x0 13)) 13 X cdX14 i_X14_pass_X14 (by decide) k_X14_pass_f47 rfl dX14_pass_22 rfl hT14 rfl ?_
    refine g_aload_n X dX14_pass_25 rfl rfl ?_
    refine g_get (ci := 12) (v := vR (mR M13 x0 13)) 13 X cdX14 i_X14_pass_X14 (by decide) k_X14_pass_f47 rfl dX14_pass_26 rfl hT14 rfl ?_
    obtain ⟨a15, ha15, hf⟩ := dr_e hf
    obtain ⟨hT16, hf⟩ := ck_e hf
    refine g_getN (ci := 10) (w := vR (mR M13 a15 6)) 6 X cdX12 i_X14_pass_X12 (by decide) (gNw X _ kn_X14_290) rfl dX14_pass_29 ha15 hT16 rfl ?_
    obtain ⟨r17, M17, hq17, hf⟩ := bd_e hf
    refine g_callV (ci := 10) (b := a15) (As := [vR (mR M13 a15 6)]) (st := []) (v := some (vI r17)) (M1 := M17) X (m_X12_sum l hq17) (cwV 1 X.2.2.1 gX14_pass_X12_sum rfl rfl rfl (by decide +kernel) ⟨Nat.le_of_ble_eq_true rfl, Nat.le_of_ble_eq_true rfl⟩) rfl rfl ha15 hT16 (by decide) rfl (Nat.le_of_ble_eq_true rfl) dX14_pass_32 ⟨by decide, by decide⟩ ?_
    refine g_istore_n (lv' := [(2, vI r17), (0, vR (some x0)), (1, vI x1)]) X dX14_pass_35 rfl (by decide) rfl ?_
    refine g_iconst (v := (0 : Int32)) X dX14_pass_36 (by decide) ?_
    refine g_istore_n (lv' := [(3, vI (0 : Int32)), (2, vI r17), (0, vR (some x0)), (1, vI x1)]) X dX14_pass_37 rfl (by decide) rfl ?_
    refine g_sub (lvsub_of _ _ [2, 3, 1, 0] rfl) ?_
    exact tl_X14_pass_38 X hr _ _ _ _ _ _ hf hK
  · have hf := ife_t hc hf
    refine g_aload_n X dX14_pass_15 rfl rfl ?_
    refine g_iconst (v := (1 : Int32)) X dX14_pass_16 (by decide) ?_
    obtain ⟨hT19, hf⟩ := ck_e hf
    obtain ⟨r18, M18, hq18, hf⟩ := bd_e hf
    refine g_callV (ci := 12) (b := x0) (As := [vI (1 : Int32)]) (st := []) (v := some (vI r18)) (M1 := M18) X (m_X14_no l hq18) (cwV 1 X.2.2.1 gX14_pass_X14_no rfl rfl rfl (by decide +kernel) ⟨Nat.le_of_ble_eq_true rfl, Nat.le_of_ble_eq_true rfl⟩) rfl rfl rfl hT19 (by decide) rfl (Nat.le_of_ble_eq_true rfl) dX14_pass_17 ⟨by decide, by decide⟩ ?_
    cases hf
    refine g_eqQ hK ?_
    exact g_iret X hr dX14_pass_20
set_option maxHeartbeats 4000000 in
set_option maxRecDepth 100000 in
theorem m_X14_pass (l : Launch) {D : va_G} {cy : Nat → ClassId} {B : Nat} {H0 : Heap} {Z : Nat → Nat} {M M1 : gMem} {x0 : Nat} {x1 : Int32} {r : Int32} (hf : f_X14_pass M x0 x1 = some (r, M1)) : Met l yX14_pass wsX14_pass rX14_pass (va_Pc (Value.ref x0 :: List.map gv [vI x1]) (gPre D cy B H0 (gSt Z B H0) M)) (gQ D cy B H0 (some (vI r)) M1) 0 0 (gA B) := by
  refine Met.ofW (cc := cX14_pass) (maxL := 4) (ret := (some .int)) (by decide) rfl ?_
  intro p e s m args below meth c s₁ Bd hml hv
  obtain ⟨rfl, hW, hKK, hFs⟩ := hv
  have X : gX p s m _ meth c D cy B (gSt Z B H0) RX14 cX14_pass wsX14_pass 4 := ⟨Bd.exec, Bd.bytes, atoms_spec (ws := wsX14_pass) Bd.pre, findClass_of_methodNamed Bd.named, hml, hKK, by rw [hW.1]; exact hW.2.1, Bd.notSynchronized, hFs⟩
  have hr := Bd.returns
  have hl := lv_entry ([.ref x0, .int x1]) (n := 4) (Nat.le_of_ble_eq_true rfl)
  show W p l e rX14_pass s m _ below meth c s.heap [] 0 0 _ (entryFrame m ([.ref x0, .int x1] : List Value).toArray 4)
  rw [lg_entry_eq]
  generalize (lg_sl ([.ref x0, .int x1]) ++ List.replicate (4 - (lg_sl ([.ref x0, .int x1])).length) Slot.unset).toArray = ls at hl ⊢
  have hl : lv_has ls 4 (List.map gq [(0, vR (some x0)), (1, vI x1)]) := hl
  exact t_X14_pass_0 X hr _ _ _ _ hf rfl s.heap [] ls hW va_S.rf (lv_has_sub hl (lvsub_of _ _ [0, 1] rfl))
/-! ## TideLotsModel.foresee(II)I -/
theorem dX14_foresee_0 : decode cX14_foresee 0 = .ok (.aload_n 0, 1) := by decide +kernel
theorem dX14_foresee_1 : decode cX14_foresee 1 = .ok (.iconst 0, 1) := by decide +kernel
theorem dX14_foresee_2 : decode cX14_foresee 2 = .ok (.putfield 57, 3) := by decide +kernel
theorem dX14_foresee_5 : decode cX14_foresee 5 = .ok (.iload_n 1, 1) := by decide +kernel
theorem dX14_foresee_6 : decode cX14_foresee 6 = .ok (.iconst 1, 1) := by decide +kernel
theorem dX14_foresee_7 : decode cX14_foresee 7 = .ok (.bipush 60, 2) := by decide +kernel
theorem dX14_foresee_9 : decode cX14_foresee 9 = .ok (.invokestatic 63, 3) := by decide +kernel
theorem dX14_foresee_12 : decode cX14_foresee 12 = .ok (.ifCond .ne 9, 3) := by decide +kernel
theorem dX14_foresee_15 : decode cX14_foresee 15 = .ok (.aload_n 0, 1) := by decide +kernel
theorem dX14_foresee_16 : decode cX14_foresee 16 = .ok (.iconst 1, 1) := by decide +kernel
theorem dX14_foresee_17 : decode cX14_foresee 17 = .ok (.invokevirtual 276, 3) := by decide +kernel
theorem dX14_foresee_20 : decode cX14_foresee 20 = .ok (.ireturn, 1) := by decide +kernel
theorem dX14_foresee_21 : decode cX14_foresee 21 = .ok (.iload_n 2, 1) := by decide +kernel
theorem dX14_foresee_22 : decode cX14_foresee 22 = .ok (.iconst 0, 1) := by decide +kernel
theorem dX14_foresee_23 : decode cX14_foresee 23 = .ok (.iconst 2, 1) := by decide +kernel
theorem dX14_foresee_24 : decode cX14_foresee 24 = .ok (.invokestatic 63, 3) := by decide +kernel
theorem dX14_foresee_27 : decode cX14_foresee 27 = .ok (.ifCond .ne 9, 3) := by decide +kernel
theorem dX14_foresee_30 : decode cX14_foresee 30 = .ok (.aload_n 0, 1) := by decide +kernel
theorem dX14_foresee_31 : decode cX14_foresee 31 = .ok (.iconst 2, 1) := by decide +kernel
theorem dX14_foresee_32 : decode cX14_foresee 32 = .ok (.invokevirtual 276, 3) := by decide +kernel
theorem dX14_foresee_35 : decode cX14_foresee 35 = .ok (.ireturn, 1) := by decide +kernel
theorem dX14_foresee_36 : decode cX14_foresee 36 = .ok (.aload_n 0, 1) := by decide +kernel
theorem dX14_foresee_37 : decode cX14_foresee 37 = .ok (.getfield 51, 3) := by decide +kernel
theorem dX14_foresee_40 : decode cX14_foresee 40 = .ok (.aload_n 0, 1) := by decide +kernel
theorem dX14_foresee_41 : decode cX14_foresee 41 = .ok (.getfield 47, 3) := by decide +kernel
theorem dX14_foresee_44 : decode cX14_foresee 44 = .ok (.invokevirtual 365, 3) := by decide +kernel
theorem dX14_foresee_47 : decode cX14_foresee 47 = .ok (.iconst 0, 1) := by decide +kernel
theorem dX14_foresee_48 : decode cX14_foresee 48 = .ok (.istore_n 3, 1) := by decide +kernel
theorem dX14_foresee_49 : decode cX14_foresee 49 = .ok (.iload_n 3, 1) := by decide +kernel
theorem dX14_foresee_50 : decode cX14_foresee 50 = .ok (.iload_n 1, 1) := by decide +kernel
theorem dX14_foresee_51 : decode cX14_foresee 51 = .ok (.if_icmp .ge 16, 3) := by decide +kernel
theorem dX14_foresee_54 : decode cX14_foresee 54 = .ok (.aload_n 0, 1) := by decide +kernel
theorem dX14_foresee_55 : decode cX14_foresee 55 = .ok (.getfield 51, 3) := by decide +kernel
theorem dX14_foresee_58 : decode cX14_foresee 58 = .ok (.invokevirtual 362, 3) := by decide +kernel
theorem dX14_foresee_61 : decode cX14_foresee 61 = .ok (.iinc 3 1, 3) := by decide +kernel
theorem dX14_foresee_64 : decode cX14_foresee 64 = .ok (.goto (-15), 3) := by decide +kernel
theorem dX14_foresee_67 : decode cX14_foresee 67 = .ok (.iload_n 2, 1) := by decide +kernel
theorem dX14_foresee_68 : decode cX14_foresee 68 = .ok (.ifCond .ne 20, 3) := by decide +kernel
theorem dX14_foresee_71 : decode cX14_foresee 71 = .ok (.aload_n 0, 1) := by decide +kernel
theorem dX14_foresee_72 : decode cX14_foresee 72 = .ok (.getfield 51, 3) := by decide +kernel
theorem dX14_foresee_75 : decode cX14_foresee 75 = .ok (.aload_n 0, 1) := by decide +kernel
theorem dX14_foresee_76 : decode cX14_foresee 76 = .ok (.getfield 51, 3) := by decide +kernel
theorem dX14_foresee_79 : decode cX14_foresee 79 = .ok (.getfield 290, 3) := by decide +kernel
theorem dX14_foresee_82 : decode cX14_foresee 82 = .ok (.invokevirtual 287, 3) := by decide +kernel
theorem dX14_foresee_85 : decode cX14_foresee 85 = .ok (.goto 32, 3) := by decide +kernel
theorem dX14_foresee_88 : decode cX14_foresee 88 = .ok (.iload_n 2, 1) := by decide +kernel
theorem dX14_foresee_89 : decode cX14_foresee 89 = .ok (.iconst 1, 1) := by decide +kernel
theorem dX14_foresee_90 : decode cX14_foresee 90 = .ok (.if_icmp .ne 20, 3) := by decide +kernel
theorem dX14_foresee_93 : decode cX14_foresee 93 = .ok (.aload_n 0, 1) := by decide +kernel
theorem dX14_foresee_94 : decode cX14_foresee 94 = .ok (.getfield 51, 3) := by decide +kernel
theorem dX14_foresee_97 : decode cX14_foresee 97 = .ok (.aload_n 0, 1) := by decide +kernel
theorem dX14_foresee_98 : decode cX14_foresee 98 = .ok (.getfield 51, 3) := by decide +kernel
theorem dX14_foresee_101 : decode cX14_foresee 101 = .ok (.getfield 286, 3) := by decide +kernel
theorem dX14_foresee_104 : decode cX14_foresee 104 = .ok (.invokevirtual 287, 3) := by decide +kernel
theorem dX14_foresee_107 : decode cX14_foresee 107 = .ok (.goto 10, 3) := by decide +kernel
theorem dX14_foresee_110 : decode cX14_foresee 110 = .ok (.aload_n 0, 1) := by decide +kernel
theorem dX14_foresee_111 : decode cX14_foresee 111 = .ok (.getfield 51, 3) := by decide +kernel
theorem dX14_foresee_114 : decode cX14_foresee 114 = .ok (.invokevirtual 359, 3) := by decide +kernel
theorem dX14_foresee_117 : decode cX14_foresee 117 = .ok (.ireturn, 1) := by decide +kernel
set_option maxRecDepth 20000 in
theorem ggX14_foresee_X12_gap : GoodIn wsX14_foresee wsX12_gap := goodIn_r _ [108, 109, 43, 23, 92, 77, 78, 79, 110, 81, 82, 126, 127, 128, 129, 130, 131, 132, 133, 134, 135, 136, 137, 138, 139, 140, 141, 142, 143, 144, 111, 112, 113, 114, 115, 116, 117, 118, 119, 120, 121, 122, 123, 124, 125, 145, 146, 147, 148, 149, 150, 151, 152, 153, 154, 155, 156, 157, 158, 159, 160, 161, 162, 163, 164, 165, 166, 167, 168, 169] (by decide +kernel) (by decide +kernel)
set_option maxRecDepth 20000 in
theorem gX14_foresee_X12_gap : GoodIn wsX14_foresee (wsV RX14 359 RX12 yX12_gap wsX12_gap) := goodIn_app (goodIn_of _ (by decide +kernel)) ggX14_foresee_X12_gap
set_option maxRecDepth 20000 in
theorem ggX14_foresee_X12_sum : GoodIn wsX14_foresee wsX12_sum := goodIn_r _ [104] (by decide +kernel) (by decide +kernel)
set_option maxRecDepth 20000 in
theorem gX14_foresee_X12_sum : GoodIn wsX14_foresee (wsV RX14 287 RX12 yX12_sum wsX12_sum) := goodIn_app (goodIn_of _ (by decide +kernel)) ggX14_foresee_X12_sum
set_option maxRecDepth 20000 in
theorem ggX14_foresee_X12_pass : GoodIn wsX14_foresee wsX12_pass := goodIn_r _ [42, 20, 43, 44, 23, 24, 17, 45, 46, 47, 15, 48, 49, 18, 50, 35, 36, 37, 38, 51, 52, 53, 54, 25, 55, 56, 57, 58, 27, 59, 60, 61, 62, 63, 64, 6, 65, 4, 5, 7, 66, 67, 68, 69, 22, 70, 71, 72, 73, 19, 74, 75, 76, 77, 78, 79, 80, 81, 82, 83, 84, 85, 86, 87, 88, 89, 90, 91, 92, 26, 21, 93, 94, 95, 96, 28, 29, 30, 97, 98, 99, 100, 126, 127, 128, 129, 130, 131, 132, 133, 134, 135, 136, 137, 138, 139, 140, 141, 142, 143, 144, 111, 112, 113, 114, 115, 116, 117, 118, 119, 120, 121, 122, 123, 124, 125, 145, 146, 147, 148, 149, 150, 151, 152, 153, 154, 155, 156, 157, 158, 159, 160, 161, 162, 163, 164, 165, 166, 167, 168, 169] (by decide +kernel) (by decide +kernel)
set_option maxRecDepth 20000 in
theorem gX14_foresee_X12_pass : GoodIn wsX14_foresee (wsV RX14 362 RX12 yX12_pass wsX12_pass) := goodIn_app (goodIn_of _ (by decide +kernel)) ggX14_foresee_X12_pass
set_option maxRecDepth 20000 in
theorem ggX14_foresee_X14_isIn : GoodIn wsX14_foresee wsX14_isIn := goodIn_r _ [7] (by decide +kernel) (by decide +kernel)
set_option maxRecDepth 20000 in
theorem gX14_foresee_X14_isIn : GoodIn wsX14_foresee (va_wsS RX14 63 yX14_isIn wsX14_isIn) := goodIn_app (goodIn_of _ (by decide +kernel)) ggX14_foresee_X14_isIn
set_option maxRecDepth 20000 in
theorem ggX14_foresee_X12_become : GoodIn wsX14_foresee wsX12_become := goodIn_r _ [16, 17, 18, 19, 20, 21, 22, 23, 24, 25, 26, 27, 28, 29, 30, 31, 32, 33, 15, 34, 35, 36, 37, 38, 126, 127, 128, 129, 130, 131, 132, 133, 134, 135, 136, 137, 138, 139, 140, 141, 142, 143, 144] (by decide +kernel) (by decide +kernel)
set_option maxRecDepth 20000 in
theorem gX14_foresee_X12_become : GoodIn wsX14_foresee (wsV RX14 365 RX12 yX12_become wsX12_become) := goodIn_app (goodIn_of _ (by decide +kernel)) ggX14_foresee_X12_become
set_option maxRecDepth 20000 in
theorem ggX14_foresee_X14_no : GoodIn wsX14_foresee wsX14_no := goodIn_r _ [11, 1, 111, 112, 113, 114, 115, 116, 117, 118, 119, 120, 121, 122, 123, 124, 125] (by decide +kernel) (by decide +kernel)
set_option maxRecDepth 20000 in
theorem gX14_foresee_X14_no : GoodIn wsX14_foresee (wsV RX14 276 RX14 yX14_no wsX14_no) := goodIn_app (goodIn_of _ (by decide +kernel)) ggX14_foresee_X14_no
theorem k_X14_foresee_f51 : Cond.fieldLink RX14 51 "TideLotsModel" "ahead" "LTideLotsModel$State;" ∈ wsX14_foresee := by decide +kernel
theorem i_X14_foresee_X14 : ∀ w ∈ u_ws RX14 TX14 15, w ∈ wsX14_foresee := by decide +kernel
theorem i_X14_foresee_X12 : ∀ w ∈ u_ws RX12 TX12 19, w ∈ wsX14_foresee := by decide +kernel
theorem k_X14_foresee_f57 : Cond.fieldLink RX14 57 "TideLotsModel" "thrown" "I" ∈ wsX14_foresee := by decide +kernel
theorem k_X14_foresee_f47 : Cond.fieldLink RX14 47 "TideLotsModel" "s" "LTideLotsModel$State;" ∈ wsX14_foresee := by decide +kernel
abbrev rX14_foresee : Room := { frames := 7, cells := 0, slots := 0, locals := 161 }
noncomputable def b_X14_foresee_117 (M : gMem) (s0 : Int32) : Option (Int32 × gMem) :=
  some (s0, M)
noncomputable def bb_X14_foresee_49 (M : gMem) (x0 : Nat) (x1 : Int32) (x2 : Int32) (x3 : Int32) : Option ((gMem × Int32) ⊕ (Int32 × gMem)) :=
  (if x1 ≤ x3 then (if x2 = 0 then ck (mT M x0 = 13) <| dr ((mR M x0 14)) fun a12 => ck (mT M a12 = 11) <| bd (f_X12_sum M a12 ((mR M a12 6))) fun r14 M14 => oI (b_X14_foresee_117 M14 r14) else (if x2 = (1 : Int32) then ck (mT M x0 = 13) <| dr ((mR M x0 14)) fun a7 => ck (mT M a7 = 11) <| bd (f_X12_sum M a7 ((mR M a7 2))) fun r9 M9 => oI (b_X14_foresee_117 M9 r9) else ck (mT M x0 = 13) <| dr ((mR M x0 14)) fun a3 => ck (mT M a3 = 11) <| bd (f_X12_gap M a3) fun r2 M2 => oI (b_X14_foresee_117 M2 r2))) else ck (mT M x0 = 13) <| dr ((mR M x0 14)) fun a18 => ck (mT M a18 = 11) <| bd (f_X12_pass M a18) fun _ M17 => some (.inl (M17, (x3 + (1 : Int32)))))
noncomputable def lp_X14_foresee_49 (M : gMem) (x0 : Nat) (x1 : Int32) (x2 : Int32) (x3 : Int32) : Option (Int32 × gMem) :=
  lp (fun (q : gMem × Int32) => bb_X14_foresee_49 q.1 x0 x1 x2 q.2) (M, x3)
noncomputable def b_X14_foresee_0 (M : gMem) (x0 : Nat) (x1 : Int32) (x2 : Int32) : Option (Int32 × gMem) :=
  ck (mT M x0 = 13) <| lw (wI M x0 0 ((0 : Int32))) fun M21 => bd (f_X14_isIn M21 x1 ((1 : Int32)) ((60 : Int32))) fun r23 M23 => (if r23 = 0 then ck (mT M23 x0 = 13) <| bd (f_X14_no M23 x0 ((1 : Int32))) fun r31 M31 => some (r31, M31) else bd (f_X14_isIn M23 x2 ((0 : Int32)) ((2 : Int32))) fun r24 M24 => (if r24 = 0 then ck (mT M24 x0 = 13) <| bd (f_X14_no M24 x0 ((2 : Int32))) fun r29 M29 => some (r29, M29) else ck (mT M24 x0 = 13) <| dr ((mR M24 x0 14)) fun a27 => ck (mT M24 a27 = 11) <| bd (f_X12_become M24 a27 ((mR M24 x0 13))) fun _ M26 => lp_X14_foresee_49 M26 x0 x1 x2 ((0 : Int32))))
noncomputable def f_X14_foresee (M : gMem) (x0 : Nat) (x1 : Int32) (x2 : Int32) : Option (Int32 × gMem) :=
  b_X14_foresee_0 M x0 x1 x2
set_option maxHeartbeats 4000000 in
set_option maxRecDepth 100000 in
theorem t_X14_foresee_117 (X : gX p s m args meth c D cy B (gSt Z B H0) RX14 cX14_foresee wsX14_foresee 4) (hr : meth.sig.returnType = (some .int)) {Q : State → Prop} : ∀ (M : gMem) (s0 : Int32) (z : Int32 × gMem), b_X14_foresee_117 M s0 = some z → (fun (r : Int32 × gMem) => Q = gMQ below D cy B H0 args s 0 0 (some (vI r.1)) r.2) z → gGo p l e rX14_foresee s m args below meth c D cy B H0 4 0 0 Q 117 [] [vI s0] M := by
  intro M s0 z hf hK
  unfold b_X14_foresee_117 at hf
  cases hf
  refine g_eqQ hK ?_
  exact g_iret X hr dX14_foresee_117
set_option maxHeartbeats 4000000 in
set_option maxRecDepth 100000 in
theorem tb_X14_foresee_49 (X : gX p s m args meth c D cy B (gSt Z B H0) RX14 cX14_foresee wsX14_foresee 4) (hr : meth.sig.returnType = (some .int)) {Q : State → Prop} : ∀ (M : gMem) (x0 : Nat) (x1 : Int32) (x2 : Int32) (x3 : Int32) (z : (gMem × Int32) ⊕ (Int32 × gMem)), bb_X14_foresee_49 M x0 x1 x2 x3 = some z → (Sum.elim (fun (q : gMem × Int32) => gGo p l e rX14_foresee s m args below meth c D cy B H0 4 0 0 Q 49 [(0, vR (some x0)), (1, vI x1), (2, vI x2), (3, vI q.2)] [] q.1) (fun (r : Int32 × gMem) => Q = gMQ below D cy B H0 args s 0 0 (some (vI r.1)) r.2)) z → gGo p l e rX14_foresee s m args below meth c D cy B H0 4 0 0 Q 49 [(0, vR (some x0)), (1, vI x1), (2, vI x2), (3, vI x3)] [] M := by
  intro M x0 x1 x2 x3 z hf hK
  unfold bb_X14_foresee_49 at hf
  refine g_iload_n X dX14_foresee_49 rfl rfl ?_
  refine g_iload_n X dX14_foresee_50 rfl rfl ?_
  refine g_icmp_ge (tgt := 67) X dX14_foresee_51 (by decide) (fun hc => ?_) (fun hc => ?_)
  · have hf := ife_t hc hf
    refine g_iload_n X dX14_foresee_67 rfl rfl ?_
    refine g_if_ne (tgt := 88) X dX14_foresee_68 (by decide) (fun hc => ?_) (fun hc => ?_)
    · have hf := ife_f hc hf
      refine g_iload_n X dX14_foresee_88 rfl rfl ?_
      refine g_iconst (v := (1 : Int32)) X dX14_foresee_89 (by decide) ?_
      refine g_icmp_ne (tgt := 110) X dX14_foresee_90 (by decide) (fun hc => ?_) (fun hc => ?_)
      · have hf := ife_f hc hf
        refine g_aload_n X dX14_foresee_110 rfl rfl ?_
        obtain ⟨hT1, hf⟩ := ck_e hf
        refine g_get (ci := 12) (v := vR (mR M x0 14)) 14 X cdX14 i_X14_foresee_X14 (by decide) k_X14_foresee_f51 rfl dX14_foresee_111 rfl hT1 rfl ?_
        obtain ⟨a3, ha3, hf⟩ := dr_e hf
        obtain ⟨hT4, hf⟩ := ck_e hf
        obtain ⟨r2, M2, hq2, hf⟩ := bd_e hf
        refine g_callV (ci := 10) (b := a3) (As := []) (st := []) (v := some (vI r2)) (M1 := M2) X (m_X12_gap l hq2) (cwV 0 X.2.2.1 gX14_foresee_X12_gap rfl rfl rfl (by decide +kernel) ⟨Nat.le_of_ble_eq_true rfl, Nat.le_of_ble_eq_true rfl⟩) rfl rfl ha3 hT4 (by decide) rfl (Nat.le_of_ble_eq_true rfl) dX14_foresee_114 ⟨by decide, by decide⟩ ?_
        obtain ⟨w5, hw5, hz5⟩ := oI_e hf
        subst hz5
        have hf := hw5
        refine g_sub (lvsub_of _ _ [] rfl) ?_
        exact t_X14_foresee_117 X hr _ _ _ hf hK
      · have hf := ife_t hc hf
        refine g_aload_n X dX14_foresee_93 rfl rfl ?_
        obtain ⟨hT6, hf⟩ := ck_e hf
        refine g_get (ci := 12) (v := vR (mR M x0 14)) 14 X cdX14 i_X14_foresee_X14 (by decide) k_X14_foresee_f51 rfl dX14_foresee_94 rfl hT6 rfl ?_
        refine g_aload_n X dX14_foresee_97 rfl rfl ?_
        refine g_get (ci := 12) (v := vR (mR M x0 14)) 14 X cdX14 i_X14_foresee_X14 (by decide) k_X14_foresee_f51 rfl dX14_foresee_98 rfl hT6 rfl ?_
        obtain ⟨a7, ha7, hf⟩ := dr_e hf
        obtain ⟨hT8, hf⟩ := ck_e hf
        refine g_getN (ci := 10) (w := vR (mR M a7 2)) 2 X cdX12 i_X14_foresee_X12 (by decide) (gNw X _ kn_X14_286) rfl dX14_foresee_101 ha7 hT8 rfl ?_
        obtain ⟨r9, M9, hq9, hf⟩ := bd_e hf
        refine g_callV (ci := 10) (b := a7) (As := [vR (mR M a7 2)]) (st := []) (v := some (vI r9)) (M1 := M9) X (m_X12_sum l hq9) (cwV 1 X.2.2.1 gX14_foresee_X12_sum rfl rfl rfl (by decide +kernel) ⟨Nat.le_of_ble_eq_true rfl, Nat.le_of_ble_eq_true rfl⟩) rfl rfl ha7 hT8 (by decide) rfl (Nat.le_of_ble_eq_true rfl) dX14_foresee_104 ⟨by decide, by decide⟩ ?_
        refine g_goto (tgt := 117) X dX14_foresee_107 (by decide) ?_
        obtain ⟨w10, hw10, hz10⟩ := oI_e hf
        subst hz10
        have hf := hw10
        refine g_sub (lvsub_of _ _ [] rfl) ?_
        exact t_X14_foresee_117 X hr _ _ _ hf hK
    · have hf := ife_t hc hf
      refine g_aload_n X dX14_foresee_71 rfl rfl ?_
      obtain ⟨hT11, hf⟩ := ck_e hf
      refine g_get (ci := 12) (v := vR (mR M x0 14)) 14 X cdX14 i_X14_foresee_X14 (by decide) k_X14_foresee_f51 rfl dX14_foresee_72 rfl hT11 rfl ?_
      refine g_aload_n X dX14_foresee_75 rfl rfl ?_
      refine g_get (ci := 12) (v := vR (mR M x0 14)) 14 X cdX14 i_X14_foresee_X14 (by decide) k_X14_foresee_f51 rfl dX14_foresee_76 rfl hT11 rfl ?_
      obtain ⟨a12, ha12, hf⟩ := dr_e hf
      obtain ⟨hT13, hf⟩ := ck_e hf
      refine g_getN (ci := 10) (w := vR (mR M a12 6)) 6 X cdX12 i_X14_foresee_X12 (by decide) (gNw X _ kn_X14_290) rfl dX14_foresee_79 ha12 hT13 rfl ?_
      obtain ⟨r14, M14, hq14, hf⟩ := bd_e hf
      refine g_callV (ci := 10) (b := a12) (As := [vR (mR M a12 6)]) (st := []) (v := some (vI r14)) (M1 := M14) X (m_X12_sum l hq14) (cwV 1 X.2.2.1 gX14_foresee_X12_sum rfl rfl rfl (by decide +kernel) ⟨Nat.le_of_ble_eq_true rfl, Nat.le_of_ble_eq_true rfl⟩) rfl rfl ha12 hT13 (by decide) rfl (Nat.le_of_ble_eq_true rfl) dX14_foresee_82 ⟨by decide, by decide⟩ ?_
      refine g_goto (tgt := 117) X dX14_foresee_85 (by decide) ?_
      obtain ⟨w15, hw15, hz15⟩ := oI_e hf
      subst hz15
      have hf := hw15
      refine g_sub (lvsub_of _ _ [] rfl) ?_
      exact t_X14_foresee_117 X hr _ _ _ hf hK
  · have hf := ife_f hc hf
    refine g_aload_n X dX14_foresee_54 rfl rfl ?_
    obtain ⟨hT16, hf⟩ := ck_e hf
    refine g_get (ci := 12) (v := vR (mR M x0 14)) 14 X cdX14 i_X14_foresee_X14 (by decide) k_X14_foresee_f51 rfl dX14_foresee_55 rfl hT16 rfl ?_
    obtain ⟨a18, ha18, hf⟩ := dr_e hf
    obtain ⟨hT19, hf⟩ := ck_e hf
    obtain ⟨r17, M17, hq17, hf⟩ := bd_e hf
    refine g_callV (ci := 10) (b := a18) (As := []) (st := []) (v := none) (M1 := M17) X (m_X12_pass l hq17) (cwV 0 X.2.2.1 gX14_foresee_X12_pass rfl rfl rfl (by decide +kernel) ⟨Nat.le_of_ble_eq_true rfl, Nat.le_of_ble_eq_true rfl⟩) rfl rfl ha18 hT19 (by decide) rfl (Nat.le_of_ble_eq_true rfl) dX14_foresee_58 ⟨by decide, by decide⟩ ?_
    refine g_iinc (v := (1 : Int32)) (lv' := [(3, vI (x3 + (1 : Int32))), (0, vR (some x0)), (1, vI x1), (2, vI x2)]) X dX14_foresee_61 rfl (by decide) (by decide) rfl ?_
    refine g_goto (tgt := 49) X dX14_foresee_64 (by decide) ?_
    cases hf
    refine g_sub (lvsub_of _ _ [1, 2, 3, 0] rfl) ?_
    exact hK
set_option maxHeartbeats 4000000 in
set_option maxRecDepth 100000 in
theorem tl_X14_foresee_49 (X : gX p s m args meth c D cy B (gSt Z B H0) RX14 cX14_foresee wsX14_foresee 4) (hr : meth.sig.returnType = (some .int)) {Q : State → Prop} : ∀ (M : gMem) (x0 : Nat) (x1 : Int32) (x2 : Int32) (x3 : Int32) (z : Int32 × gMem), lp_X14_foresee_49 M x0 x1 x2 x3 = some z → (fun (r : Int32 × gMem) => Q = gMQ below D cy B H0 args s 0 0 (some (vI r.1)) r.2) z → gGo p l e rX14_foresee s m args below meth c D cy B H0 4 0 0 Q 49 [(0, vR (some x0)), (1, vI x1), (2, vI x2), (3, vI x3)] [] M := by
  intro M x0 x1 x2 x3 z hf hK
  refine lp_ind (P := (fun (q : gMem × Int32) (z : Int32 × gMem) => (fun (r : Int32 × gMem) => Q = gMQ below D cy B H0 args s 0 0 (some (vI r.1)) r.2) z → gGo p l e rX14_foresee s m args below meth c D cy B H0 4 0 0 Q 49 [(0, vR (some x0)), (1, vI x1), (2, vI x2), (3, vI q.2)] [] q.1)) (fun q z hq => ?_) _ _ hf hK
  intro hK
  obtain ⟨w, hw, hm⟩ := hq
  refine tb_X14_foresee_49 X hr _ _ _ _ _ w hw ?_
  cases w with
  | inl a => exact hm hK
  | inr b => cases hm; exact hK
set_option maxHeartbeats 4000000 in
set_option maxRecDepth 100000 in
theorem t_X14_foresee_0 (X : gX p s m args meth c D cy B (gSt Z B H0) RX14 cX14_foresee wsX14_foresee 4) (hr : meth.sig.returnType = (some .int)) {Q : State → Prop} : ∀ (M : gMem) (x0 : Nat) (x1 : Int32) (x2 : Int32) (z : Int32 × gMem), b_X14_foresee_0 M x0 x1 x2 = some z → (fun (r : Int32 × gMem) => Q = gMQ below D cy B H0 args s 0 0 (some (vI r.1)) r.2) z → gGo p l e rX14_foresee s m args below meth c D cy B H0 4 0 0 Q 0 [(0, vR (some x0)), (1, vI x1), (2, vI x2)] [] M := by
  intro M x0 x1 x2 z hf hK
  unfold b_X14_foresee_0 at hf
  refine g_aload_n X dX14_foresee_0 rfl rfl ?_
  refine g_iconst (v := (0 : Int32)) X dX14_foresee_1 (by decide) ?_
  obtain ⟨hT20, hf⟩ := ck_e hf
  refine g_putI (ci := 12) 0 X cdX14 i_X14_foresee_X14 (by decide) k_X14_foresee_f57 rfl dX14_foresee_2 rfl hT20 (Or.inl rfl) rfl rfl rfl ?_
  obtain ⟨M21, hM21, hf⟩ := lw_e hf
  rw [← hM21]
  have hT22 : mT M21 x0 = 13 := by rw [hM21]; exact hT20
  refine g_iload_n X dX14_foresee_5 rfl rfl ?_
  refine g_iconst (v := (1 : Int32)) X dX14_foresee_6 (by decide) ?_
  refine g_bipush (v := (60 : Int32)) X dX14_foresee_7 (by decide) ?_
  obtain ⟨r23, M23, hq23, hf⟩ := bd_e hf
  refine g_callS (As := [vI x1, vI (1 : Int32), vI (60 : Int32)]) (st := []) (v := some (vI r23)) (M1 := M23) X (m_X14_isIn l hq23) (va_cwS 3 X.2.2.1 gX14_foresee_X14_isIn rfl rfl rfl (by decide +kernel) ⟨Nat.le_of_ble_eq_true rfl, Nat.le_of_ble_eq_true rfl⟩) rfl rfl (Nat.le_of_ble_eq_true rfl) dX14_foresee_9 ⟨by decide, by decide⟩ ?_
  refine g_if_ne (tgt := 21) X dX14_foresee_12 (by decide) (fun hc => ?_) (fun hc => ?_)
  · have hf := ife_f hc hf
    refine g_iload_n X dX14_foresee_21 rfl rfl ?_
    refine g_iconst (v := (0 : Int32)) X dX14_foresee_22 (by decide) ?_
    refine g_iconst (v := (2 : Int32)) X dX14_foresee_23 (by decide) ?_
    obtain ⟨r24, M24, hq24, hf⟩ := bd_e hf
    refine g_callS (As := [vI x2, vI (0 : Int32), vI (2 : Int32)]) (st := []) (v := some (vI r24)) (M1 := M24) X (m_X14_isIn l hq24) (va_cwS 3 X.2.2.1 gX14_foresee_X14_isIn rfl rfl rfl (by decide +kernel) ⟨Nat.le_of_ble_eq_true rfl, Nat.le_of_ble_eq_true rfl⟩) rfl rfl (Nat.le_of_ble_eq_true rfl) dX14_foresee_24 ⟨by decide, by decide⟩ ?_
    refine g_if_ne (tgt := 36) X dX14_foresee_27 (by decide) (fun hc => ?_) (fun hc => ?_)
    · have hf := ife_f hc hf
      refine g_aload_n X dX14_foresee_36 rfl rfl ?_
      obtain ⟨hT25, hf⟩ := ck_e hf
      refine g_get (ci := 12) (v := vR (mR M24 x0 14)) 14 X cdX14 i_X14_foresee_X14 (by decide) k_X14_foresee_f51 rfl dX14_foresee_37 rfl hT25 rfl ?_
      refine g_aload_n X dX14_foresee_40 rfl rfl ?_
      refine g_get (ci := 12) (v := vR (mR M24 x0 13)) 13 X cdX14 i_X14_foresee_X14 (by decide) k_X14_foresee_f47 rfl dX14_foresee_41 rfl hT25 rfl ?_
      obtain ⟨a27, ha27, hf⟩ := dr_e hf
      obtain ⟨hT28, hf⟩ := ck_e hf
      obtain ⟨r26, M26, hq26, hf⟩ := bd_e hf
      refine g_callV (ci := 10) (b := a27) (As := [vR (mR M24 x0 13)]) (st := []) (v := none) (M1 := M26) X (m_X12_become l hq26) (cwV 1 X.2.2.1 gX14_foresee_X12_become rfl rfl rfl (by decide +kernel) ⟨Nat.le_of_ble_eq_true rfl, Nat.le_of_ble_eq_true rfl⟩) rfl rfl ha27 hT28 (by decide) rfl (Nat.le_of_ble_eq_true rfl) dX14_foresee_44 ⟨by decide, by decide⟩ ?_
      refine g_iconst (v := (0 : Int32)) X dX14_foresee_47 (by decide) ?_
      refine g_istore_n (lv' := [(3, vI (0 : Int32)), (0, vR (some x0)), (1, vI x1), (2, vI x2)]) X dX14_foresee_48 rfl (by decide) rfl ?_
      refine g_sub (lvsub_of _ _ [1, 2, 3, 0] rfl) ?_
      exact tl_X14_foresee_49 X hr _ _ _ _ _ _ hf hK
    · have hf := ife_t hc hf
      refine g_aload_n X dX14_foresee_30 rfl rfl ?_
      refine g_iconst (v := (2 : Int32)) X dX14_foresee_31 (by decide) ?_
      obtain ⟨hT30, hf⟩ := ck_e hf
      obtain ⟨r29, M29, hq29, hf⟩ := bd_e hf
      refine g_callV (ci := 12) (b := x0) (As := [vI (2 : Int32)]) (st := []) (v := some (vI r29)) (M1 := M29) X (m_X14_no l hq29) (cwV 1 X.2.2.1 gX14_foresee_X14_no rfl rfl rfl (by decide +kernel) ⟨Nat.le_of_ble_eq_true rfl, Nat.le_of_ble_eq_true rfl⟩) rfl rfl rfl hT30 (by decide) rfl (Nat.le_of_ble_eq_true rfl) dX14_foresee_32 ⟨by decide, by decide⟩ ?_
      cases hf
      refine g_eqQ hK ?_
      exact g_iret X hr dX14_foresee_35
  · have hf := ife_t hc hf
    refine g_aload_n X dX14_foresee_15 rfl rfl ?_
    refine g_iconst (v := (1 : Int32)) X dX14_foresee_16 (by decide) ?_
    obtain ⟨hT32, hf⟩ := ck_e hf
    obtain ⟨r31, M31, hq31, hf⟩ := bd_e hf
    refine g_callV (ci := 12) (b := x0) (As := [vI (1 : Int32)]) (st := []) (v := some (vI r31)) (M1 := M31) X (m_X14_no l hq31) (cwV 1 X.2.2.1 gX14_foresee_X14_no rfl rfl rfl (by decide +kernel) ⟨Nat.le_of_ble_eq_true rfl, Nat.le_of_ble_eq_true rfl⟩) rfl rfl rfl hT32 (by decide) rfl (Nat.le_of_ble_eq_true rfl) dX14_foresee_17 ⟨by decide, by decide⟩ ?_
    cases hf
    refine g_eqQ hK ?_
    exact g_iret X hr dX14_foresee_20
set_option maxHeartbeats 4000000 in
set_option maxRecDepth 100000 in
theorem m_X14_foresee (l : Launch) {D : va_G} {cy : Nat → ClassId} {B : Nat} {H0 : Heap} {Z : Nat → Nat} {M M1 : gMem} {x0 : Nat} {x1 : Int32} {x2 : Int32} {r : Int32} (hf : f_X14_foresee M x0 x1 x2 = some (r, M1)) : Met l yX14_foresee wsX14_foresee rX14_foresee (va_Pc (Value.ref x0 :: List.map gv [vI x1, vI x2]) (gPre D cy B H0 (gSt Z B H0) M)) (gQ D cy B H0 (some (vI r)) M1) 0 0 (gA B) := by
  refine Met.ofW (cc := cX14_foresee) (maxL := 4) (ret := (some .int)) (by decide) rfl ?_
  intro p e s m args below meth c s₁ Bd hml hv
  obtain ⟨rfl, hW, hKK, hFs⟩ := hv
  have X : gX p s m _ meth c D cy B (gSt Z B H0) RX14 cX14_foresee wsX14_foresee 4 := ⟨Bd.exec, Bd.bytes, atoms_spec (ws := wsX14_foresee) Bd.pre, findClass_of_methodNamed Bd.named, hml, hKK, by rw [hW.1]; exact hW.2.1, Bd.notSynchronized, hFs⟩
  have hr := Bd.returns
  have hl := lv_entry ([.ref x0, .int x1, .int x2]) (n := 4) (Nat.le_of_ble_eq_true rfl)
  show W p l e rX14_foresee s m _ below meth c s.heap [] 0 0 _ (entryFrame m ([.ref x0, .int x1, .int x2] : List Value).toArray 4)
  rw [lg_entry_eq]
  generalize (lg_sl ([.ref x0, .int x1, .int x2]) ++ List.replicate (4 - (lg_sl ([.ref x0, .int x1, .int x2])).length) Slot.unset).toArray = ls at hl ⊢
  have hl : lv_has ls 4 (List.map gq [(0, vR (some x0)), (1, vI x1), (2, vI x2)]) := hl
  exact t_X14_foresee_0 X hr _ _ _ _ _ hf rfl s.heap [] ls hW va_S.rf (lv_has_sub hl (lvsub_of _ _ [0, 1, 2] rfl))
/-! ## TideLotsModel.storeAs(IIII)I -/
theorem dX14_storeAs_0 : decode cX14_storeAs 0 = .ok (.aload_n 0, 1) := by decide +kernel
theorem dX14_storeAs_1 : decode cX14_storeAs 1 = .ok (.getfield 51, 3) := by decide +kernel
theorem dX14_storeAs_4 : decode cX14_storeAs 4 = .ok (.aload_n 0, 1) := by decide +kernel
theorem dX14_storeAs_5 : decode cX14_storeAs 5 = .ok (.getfield 47, 3) := by decide +kernel
theorem dX14_storeAs_8 : decode cX14_storeAs 8 = .ok (.invokevirtual 365, 3) := by decide +kernel
theorem dX14_storeAs_11 : decode cX14_storeAs 11 = .ok (.aload_n 0, 1) := by decide +kernel
theorem dX14_storeAs_12 : decode cX14_storeAs 12 = .ok (.getfield 51, 3) := by decide +kernel
theorem dX14_storeAs_15 : decode cX14_storeAs 15 = .ok (.getfield 293, 3) := by decide +kernel
theorem dX14_storeAs_18 : decode cX14_storeAs 18 = .ok (.iload_n 1, 1) := by decide +kernel
theorem dX14_storeAs_19 : decode cX14_storeAs 19 = .ok (.iload_n 3, 1) := by decide +kernel
theorem dX14_storeAs_20 : decode cX14_storeAs 20 = .ok (.iastore, 1) := by decide +kernel
theorem dX14_storeAs_21 : decode cX14_storeAs 21 = .ok (.aload_n 0, 1) := by decide +kernel
theorem dX14_storeAs_22 : decode cX14_storeAs 22 = .ok (.getfield 51, 3) := by decide +kernel
theorem dX14_storeAs_25 : decode cX14_storeAs 25 = .ok (.getfield 282, 3) := by decide +kernel
theorem dX14_storeAs_28 : decode cX14_storeAs 28 = .ok (.iload_n 1, 1) := by decide +kernel
theorem dX14_storeAs_29 : decode cX14_storeAs 29 = .ok (.iload 4, 2) := by decide +kernel
theorem dX14_storeAs_31 : decode cX14_storeAs 31 = .ok (.iastore, 1) := by decide +kernel
theorem dX14_storeAs_32 : decode cX14_storeAs 32 = .ok (.iconst 0, 1) := by decide +kernel
theorem dX14_storeAs_33 : decode cX14_storeAs 33 = .ok (.istore 5, 2) := by decide +kernel
theorem dX14_storeAs_35 : decode cX14_storeAs 35 = .ok (.iload 5, 2) := by decide +kernel
theorem dX14_storeAs_37 : decode cX14_storeAs 37 = .ok (.iload_n 2, 1) := by decide +kernel
theorem dX14_storeAs_38 : decode cX14_storeAs 38 = .ok (.if_icmp .ge 16, 3) := by decide +kernel
theorem dX14_storeAs_41 : decode cX14_storeAs 41 = .ok (.aload_n 0, 1) := by decide +kernel
theorem dX14_storeAs_42 : decode cX14_storeAs 42 = .ok (.getfield 51, 3) := by decide +kernel
theorem dX14_storeAs_45 : decode cX14_storeAs 45 = .ok (.invokevirtual 362, 3) := by decide +kernel
theorem dX14_storeAs_48 : decode cX14_storeAs 48 = .ok (.iinc 5 1, 3) := by decide +kernel
theorem dX14_storeAs_51 : decode cX14_storeAs 51 = .ok (.goto (-16), 3) := by decide +kernel
theorem dX14_storeAs_54 : decode cX14_storeAs 54 = .ok (.aload_n 0, 1) := by decide +kernel
theorem dX14_storeAs_55 : decode cX14_storeAs 55 = .ok (.getfield 51, 3) := by decide +kernel
theorem dX14_storeAs_58 : decode cX14_storeAs 58 = .ok (.getfield 290, 3) := by decide +kernel
theorem dX14_storeAs_61 : decode cX14_storeAs 61 = .ok (.iload_n 1, 1) := by decide +kernel
theorem dX14_storeAs_62 : decode cX14_storeAs 62 = .ok (.iaload, 1) := by decide +kernel
theorem dX14_storeAs_63 : decode cX14_storeAs 63 = .ok (.ireturn, 1) := by decide +kernel
set_option maxRecDepth 20000 in
theorem ggX14_storeAs_X12_pass : GoodIn wsX14_storeAs wsX12_pass := goodIn_r _ [33, 11, 34, 35, 14, 15, 8, 36, 37, 38, 6, 39, 40, 9, 41, 26, 27, 28, 29, 42, 43, 44, 45, 16, 46, 47, 48, 49, 18, 50, 51, 52, 53, 54, 55, 56, 57, 58, 59, 60, 61, 62, 63, 64, 13, 65, 66, 67, 68, 10, 69, 70, 71, 72, 73, 74, 75, 76, 77, 78, 79, 80, 81, 82, 83, 84, 85, 86, 87, 17, 12, 88, 89, 90, 91, 19, 20, 21, 92, 93, 94, 95, 111, 112, 113, 114, 115, 116, 117, 118, 119, 120, 121, 122, 123, 124, 125, 126, 127, 128, 129, 96, 97, 98, 99, 100, 101, 102, 103, 104, 105, 106, 107, 108, 109, 110, 130, 131, 132, 133, 134, 135, 136, 137, 138, 139, 140, 141, 142, 143, 144, 145, 146, 147, 148, 149, 150, 151, 152, 153, 154] (by decide +kernel) (by decide +kernel)
set_option maxRecDepth 20000 in
theorem gX14_storeAs_X12_pass : GoodIn wsX14_storeAs (wsV RX14 362 RX12 yX12_pass wsX12_pass) := goodIn_app (goodIn_of _ (by decide +kernel)) ggX14_storeAs_X12_pass
set_option maxRecDepth 20000 in
theorem ggX14_storeAs_X12_become : GoodIn wsX14_storeAs wsX12_become := goodIn_r _ [7, 8, 9, 10, 11, 12, 13, 14, 15, 16, 17, 18, 19, 20, 21, 22, 23, 24, 6, 25, 26, 27, 28, 29, 111, 112, 113, 114, 115, 116, 117, 118, 119, 120, 121, 122, 123, 124, 125, 126, 127, 128, 129] (by decide +kernel) (by decide +kernel)
set_option maxRecDepth 20000 in
theorem gX14_storeAs_X12_become : GoodIn wsX14_storeAs (wsV RX14 365 RX12 yX12_become wsX12_become) := goodIn_app (goodIn_of _ (by decide +kernel)) ggX14_storeAs_X12_become
theorem k_X14_storeAs_f51 : Cond.fieldLink RX14 51 "TideLotsModel" "ahead" "LTideLotsModel$State;" ∈ wsX14_storeAs := by decide +kernel
theorem i_X14_storeAs_X14 : ∀ w ∈ u_ws RX14 TX14 15, w ∈ wsX14_storeAs := by decide +kernel
theorem i_X14_storeAs_X12 : ∀ w ∈ u_ws RX12 TX12 19, w ∈ wsX14_storeAs := by decide +kernel
theorem k_X14_storeAs_f47 : Cond.fieldLink RX14 47 "TideLotsModel" "s" "LTideLotsModel$State;" ∈ wsX14_storeAs := by decide +kernel
abbrev rX14_storeAs : Room := { frames := 7, cells := 0, slots := 0, locals := 161 }
noncomputable def bb_X14_storeAs_35 (M : gMem) (x0 : Nat) (x1 : Int32) (x2 : Int32) (x5 : Int32) : Option ((gMem × Int32) ⊕ (Int32 × gMem)) :=
  (if x2 ≤ x5 then ck (mT M x0 = 13) <| dr ((mR M x0 14)) fun a2 => ck (mT M a2 = 11) <| dr ((mR M a2 6)) fun a4 => ck (mT M a4 = 20) <| ck (inb x1 (mL M a4)) <| oI (some ((mI M a4 x1.toNatClampNeg), M)) else ck (mT M x0 = 13) <| dr ((mR M x0 14)) fun a10 => ck (mT M a10 = 11) <| bd (f_X12_pass M a10) fun _ M9 => some (.inl (M9, (x5 + (1 : Int32)))))
noncomputable def lp_X14_storeAs_35 (M : gMem) (x0 : Nat) (x1 : Int32) (x2 : Int32) (x5 : Int32) : Option (Int32 × gMem) :=
  lp (fun (q : gMem × Int32) => bb_X14_storeAs_35 q.1 x0 x1 x2 q.2) (M, x5)
noncomputable def b_X14_storeAs_0 (M : gMem) (x0 : Nat) (x1 : Int32) (x2 : Int32) (x3 : Int32) (x4 : Int32) : Option (Int32 × gMem) :=
  ck (mT M x0 = 13) <| dr ((mR M x0 14)) fun a14 => ck (mT M a14 = 11) <| bd (f_X12_become M a14 ((mR M x0 13))) fun _ M13 => ck (mT M13 x0 = 13) <| dr ((mR M13 x0 14)) fun a17 => ck (mT M13 a17 = 11) <| dr ((mR M13 a17 10)) fun a19 => ck (mT M13 a19 = 20) <| ck (inb x1 (mL M13 a19)) <| lw (wI M13 a19 x1.toNatClampNeg x3) fun M22 => dr ((mR M22 x0 14)) fun a26 => ck (mT M22 a26 = 11) <| dr ((mR M22 a26 5)) fun a28 => ck (mT M22 a28 = 20) <| ck (inb x1 (mL M22 a28)) <| lw (wI M22 a28 x1.toNatClampNeg x4) fun M31 => lp_X14_storeAs_35 M31 x0 x1 x2 ((0 : Int32))
noncomputable def f_X14_storeAs (M : gMem) (x0 : Nat) (x1 : Int32) (x2 : Int32) (x3 : Int32) (x4 : Int32) : Option (Int32 × gMem) :=
  b_X14_storeAs_0 M x0 x1 x2 x3 x4
set_option maxHeartbeats 4000000 in
set_option maxRecDepth 100000 in
theorem tb_X14_storeAs_35 (X : gX p s m args meth c D cy B (gSt Z B H0) RX14 cX14_storeAs wsX14_storeAs 6) (hr : meth.sig.returnType = (some .int)) {Q : State → Prop} : ∀ (M : gMem) (x0 : Nat) (x1 : Int32) (x2 : Int32) (x5 : Int32) (z : (gMem × Int32) ⊕ (Int32 × gMem)), bb_X14_storeAs_35 M x0 x1 x2 x5 = some z → (Sum.elim (fun (q : gMem × Int32) => gGo p l e rX14_storeAs s m args below meth c D cy B H0 6 0 0 Q 35 [(0, vR (some x0)), (1, vI x1), (2, vI x2), (5, vI q.2)] [] q.1) (fun (r : Int32 × gMem) => Q = gMQ below D cy B H0 args s 0 0 (some (vI r.1)) r.2)) z → gGo p l e rX14_storeAs s m args below meth c D cy B H0 6 0 0 Q 35 [(0, vR (some x0)), (1, vI x1), (2, vI x2), (5, vI x5)] [] M := by
  intro M x0 x1 x2 x5 z hf hK
  unfold bb_X14_storeAs_35 at hf
  refine g_iload X dX14_storeAs_35 rfl ?_
  refine g_iload_n X dX14_storeAs_37 rfl rfl ?_
  refine g_icmp_ge (tgt := 54) X dX14_storeAs_38 (by decide) (fun hc => ?_) (fun hc => ?_)
  · have hf := ife_t hc hf
    refine g_aload_n X dX14_storeAs_54 rfl rfl ?_
    obtain ⟨hT1, hf⟩ := ck_e hf
    refine g_get (ci := 12) (v := vR (mR M x0 14)) 14 X cdX14 i_X14_storeAs_X14 (by decide) k_X14_storeAs_f51 rfl dX14_storeAs_55 rfl hT1 rfl ?_
    obtain ⟨a2, ha2, hf⟩ := dr_e hf
    obtain ⟨hT3, hf⟩ := ck_e hf
    refine g_getN (ci := 10) (w := vR (mR M a2 6)) 6 X cdX12 i_X14_storeAs_X12 (by decide) (gNw X _ kn_X14_290) rfl dX14_storeAs_58 ha2 hT3 rfl ?_
    refine g_iload_n X dX14_storeAs_61 rfl rfl ?_
    obtain ⟨a4, ha4, hf⟩ := dr_e hf
    obtain ⟨hT5, hf⟩ := ck_e hf
    obtain ⟨hg6, hf⟩ := ck_e hf
    refine g_iald X dX14_storeAs_62 ha4 hT5 hg6 ?_
    obtain ⟨w7, hw7, hz7⟩ := oI_e hf
    subst hz7
    have hf := hw7
    cases hf
    refine g_eqQ hK ?_
    exact g_iret X hr dX14_storeAs_63
  · have hf := ife_f hc hf
    refine g_aload_n X dX14_storeAs_41 rfl rfl ?_
    obtain ⟨hT8, hf⟩ := ck_e hf
    refine g_get (ci := 12) (v := vR (mR M x0 14)) 14 X cdX14 i_X14_storeAs_X14 (by decide) k_X14_storeAs_f51 rfl dX14_storeAs_42 rfl hT8 rfl ?_
    obtain ⟨a10, ha10, hf⟩ := dr_e hf
    obtain ⟨hT11, hf⟩ := ck_e hf
    obtain ⟨r9, M9, hq9, hf⟩ := bd_e hf
    refine g_callV (ci := 10) (b := a10) (As := []) (st := []) (v := none) (M1 := M9) X (m_X12_pass l hq9) (cwV 0 X.2.2.1 gX14_storeAs_X12_pass rfl rfl rfl (by decide +kernel) ⟨Nat.le_of_ble_eq_true rfl, Nat.le_of_ble_eq_true rfl⟩) rfl rfl ha10 hT11 (by decide) rfl (Nat.le_of_ble_eq_true rfl) dX14_storeAs_45 ⟨by decide, by decide⟩ ?_
    refine g_iinc (v := (1 : Int32)) (lv' := [(5, vI (x5 + (1 : Int32))), (0, vR (some x0)), (1, vI x1), (2, vI x2)]) X dX14_storeAs_48 rfl (by decide) (by decide) rfl ?_
    refine g_goto (tgt := 35) X dX14_storeAs_51 (by decide) ?_
    cases hf
    refine g_sub (lvsub_of _ _ [1, 2, 3, 0] rfl) ?_
    exact hK
set_option maxHeartbeats 4000000 in
set_option maxRecDepth 100000 in
theorem tl_X14_storeAs_35 (X : gX p s m args meth c D cy B (gSt Z B H0) RX14 cX14_storeAs wsX14_storeAs 6) (hr : meth.sig.returnType = (some .int)) {Q : State → Prop} : ∀ (M : gMem) (x0 : Nat) (x1 : Int32) (x2 : Int32) (x5 : Int32) (z : Int32 × gMem), lp_X14_storeAs_35 M x0 x1 x2 x5 = some z → (fun (r : Int32 × gMem) => Q = gMQ below D cy B H0 args s 0 0 (some (vI r.1)) r.2) z → gGo p l e rX14_storeAs s m args below meth c D cy B H0 6 0 0 Q 35 [(0, vR (some x0)), (1, vI x1), (2, vI x2), (5, vI x5)] [] M := by
  intro M x0 x1 x2 x5 z hf hK
  refine lp_ind (P := (fun (q : gMem × Int32) (z : Int32 × gMem) => (fun (r : Int32 × gMem) => Q = gMQ below D cy B H0 args s 0 0 (some (vI r.1)) r.2) z → gGo p l e rX14_storeAs s m args below meth c D cy B H0 6 0 0 Q 35 [(0, vR (some x0)), (1, vI x1), (2, vI x2), (5, vI q.2)] [] q.1)) (fun q z hq => ?_) _ _ hf hK
  intro hK
  obtain ⟨w, hw, hm⟩ := hq
  refine tb_X14_storeAs_35 X hr _ _ _ _ _ w hw ?_
  cases w with
  | inl a => exact hm hK
  | inr b => cases hm; exact hK
set_option maxHeartbeats 4000000 in
set_option maxRecDepth 100000 in
theorem t_X14_storeAs_0 (X : gX p s m args meth c D cy B (gSt Z B H0) RX14 cX14_storeAs wsX14_storeAs 6) (hr : meth.sig.returnType = (some .int)) {Q : State → Prop} : ∀ (M : gMem) (x0 : Nat) (x1 : Int32) (x2 : Int32) (x3 : Int32) (x4 : Int32) (z : Int32 × gMem), b_X14_storeAs_0 M x0 x1 x2 x3 x4 = some z → (fun (r : Int32 × gMem) => Q = gMQ below D cy B H0 args s 0 0 (some (vI r.1)) r.2) z → gGo p l e rX14_storeAs s m args below meth c D cy B H0 6 0 0 Q 0 [(0, vR (some x0)), (1, vI x1), (2, vI x2), (3, vI x3), (4, vI x4)] [] M := by
  intro M x0 x1 x2 x3 x4 z hf hK
  unfold b_X14_storeAs_0 at hf
  refine g_aload_n X dX14_storeAs_0 rfl rfl ?_
  obtain ⟨hT12, hf⟩ := ck_e hf
  refine g_get (ci := 12) (v := vR (mR M x0 14)) 14 X cdX14 i_X14_storeAs_X14 (by decide) k_X14_storeAs_f51 rfl dX14_storeAs_1 rfl hT12 rfl ?_
  refine g_aload_n X dX14_storeAs_4 rfl rfl ?_
  refine g_get (ci := 12) (v := vR (mR M x0 13)) 13 X cdX14 i_X14_storeAs_X14 (by decide) k_X14_storeAs_f47 rfl dX14_storeAs_5 rfl hT12 rfl ?_
  obtain ⟨a14, ha14, hf⟩ := dr_e hf
  obtain ⟨hT15, hf⟩ := ck_e hf
  obtain ⟨r13, M13, hq13, hf⟩ := bd_e hf
  refine g_callV (ci := 10) (b := a14) (As := [vR (mR M x0 13)]) (st := []) (v := none) (M1 := M13) X (m_X12_become l hq13) (cwV 1 X.2.2.1 gX14_storeAs_X12_become rfl rfl rfl (by decide +kernel) ⟨Nat.le_of_ble_eq_true rfl, Nat.le_of_ble_eq_true rfl⟩) rfl rfl ha14 hT15 (by decide) rfl (Nat.le_of_ble_eq_true rfl) dX14_storeAs_8 ⟨by decide, by decide⟩ ?_
  refine g_aload_n X dX14_storeAs_11 rfl rfl ?_
  obtain ⟨hT16, hf⟩ := ck_e hf
  refine g_get (ci := 12) (v := vR (mR M13 x0 14)) 14 X cdX14 i_X14_storeAs_X14 (by decide) k_X14_storeAs_f51 rfl dX14_storeAs_12 rfl hT16 rfl ?_
  obtain ⟨a17, ha17, hf⟩ := dr_e hf
  obtain ⟨hT18, hf⟩ := ck_e hf
  refine g_getN (ci := 10) (w := vR (mR M13 a17 10)) 10 X cdX12 i_X14_storeAs_X12 (by decide) (gNw X _ kn_X14_293) rfl dX14_storeAs_15 ha17 hT18 rfl ?_
  refine g_iload_n X dX14_storeAs_18 rfl rfl ?_
  refine g_iload_n X dX14_storeAs_19 rfl rfl ?_
  obtain ⟨a19, ha19, hf⟩ := dr_e hf
  obtain ⟨hT20, hf⟩ := ck_e hf
  obtain ⟨hg21, hf⟩ := ck_e hf
  refine g_iast X dX14_storeAs_20 ha19 hT20 hg21 ?_
  obtain ⟨M22, hM22, hf⟩ := lw_e hf
  rw [← hM22]
  have hT23 : mT M22 x0 = 13 := by rw [hM22]; exact hT16
  have hT24 : mT M22 a17 = 11 := by rw [hM22]; exact hT18
  have hT25 : mT M22 a19 = 20 := by rw [hM22]; exact hT20
  refine g_aload_n X dX14_storeAs_21 rfl rfl ?_
  refine g_get (ci := 12) (v := vR (mR M22 x0 14)) 14 X cdX14 i_X14_storeAs_X14 (by decide) k_X14_storeAs_f51 rfl dX14_storeAs_22 rfl hT23 rfl ?_
  obtain ⟨a26, ha26, hf⟩ := dr_e hf
  obtain ⟨hT27, hf⟩ := ck_e hf
  refine g_getN (ci := 10) (w := vR (mR M22 a26 5)) 5 X cdX12 i_X14_storeAs_X12 (by decide) (gNw X _ kn_X14_282) rfl dX14_storeAs_25 ha26 hT27 rfl ?_
  refine g_iload_n X dX14_storeAs_28 rfl rfl ?_
  refine g_iload X dX14_storeAs_29 rfl ?_
  obtain ⟨a28, ha28, hf⟩ := dr_e hf
  obtain ⟨hT29, hf⟩ := ck_e hf
  obtain ⟨hg30, hf⟩ := ck_e hf
  refine g_iast X dX14_storeAs_31 ha28 hT29 hg30 ?_
  obtain ⟨M31, hM31, hf⟩ := lw_e hf
  rw [← hM31]
  have hT32 : mT M31 x0 = 13 := by rw [hM31]; exact hT23
  have hT33 : mT M31 a17 = 11 := by rw [hM31]; exact hT24
  have hT34 : mT M31 a19 = 20 := by rw [hM31]; exact hT25
  have hT35 : mT M31 a26 = 11 := by rw [hM31]; exact hT27
  have hT36 : mT M31 a28 = 20 := by rw [hM31]; exact hT29
  refine g_iconst (v := (0 : Int32)) X dX14_storeAs_32 (by decide) ?_
  refine g_istore (lv' := [(5, vI (0 : Int32)), (0, vR (some x0)), (1, vI x1), (2, vI x2), (3, vI x3), (4, vI x4)]) X dX14_storeAs_33 (by decide) rfl ?_
  refine g_sub (lvsub_of _ _ [1, 2, 3, 0] rfl) ?_
  exact tl_X14_storeAs_35 X hr _ _ _ _ _ _ hf hK
set_option maxHeartbeats 4000000 in
set_option maxRecDepth 100000 in
theorem m_X14_storeAs (l : Launch) {D : va_G} {cy : Nat → ClassId} {B : Nat} {H0 : Heap} {Z : Nat → Nat} {M M1 : gMem} {x0 : Nat} {x1 : Int32} {x2 : Int32} {x3 : Int32} {x4 : Int32} {r : Int32} (hf : f_X14_storeAs M x0 x1 x2 x3 x4 = some (r, M1)) : Met l yX14_storeAs wsX14_storeAs rX14_storeAs (va_Pc (Value.ref x0 :: List.map gv [vI x1, vI x2, vI x3, vI x4]) (gPre D cy B H0 (gSt Z B H0) M)) (gQ D cy B H0 (some (vI r)) M1) 0 0 (gA B) := by
  refine Met.ofW (cc := cX14_storeAs) (maxL := 6) (ret := (some .int)) (by decide) rfl ?_
  intro p e s m args below meth c s₁ Bd hml hv
  obtain ⟨rfl, hW, hKK, hFs⟩ := hv
  have X : gX p s m _ meth c D cy B (gSt Z B H0) RX14 cX14_storeAs wsX14_storeAs 6 := ⟨Bd.exec, Bd.bytes, atoms_spec (ws := wsX14_storeAs) Bd.pre, findClass_of_methodNamed Bd.named, hml, hKK, by rw [hW.1]; exact hW.2.1, Bd.notSynchronized, hFs⟩
  have hr := Bd.returns
  have hl := lv_entry ([.ref x0, .int x1, .int x2, .int x3, .int x4]) (n := 6) (Nat.le_of_ble_eq_true rfl)
  show W p l e rX14_storeAs s m _ below meth c s.heap [] 0 0 _ (entryFrame m ([.ref x0, .int x1, .int x2, .int x3, .int x4] : List Value).toArray 6)
  rw [lg_entry_eq]
  generalize (lg_sl ([.ref x0, .int x1, .int x2, .int x3, .int x4]) ++ List.replicate (6 - (lg_sl ([.ref x0, .int x1, .int x2, .int x3, .int x4])).length) Slot.unset).toArray = ls at hl ⊢
  have hl : lv_has ls 6 (List.map gq [(0, vR (some x0)), (1, vI x1), (2, vI x2), (3, vI x3), (4, vI x4)]) := hl
  exact t_X14_storeAs_0 X hr _ _ _ _ _ _ _ hf rfl s.heap [] ls hW va_S.rf (lv_has_sub hl (lvsub_of _ _ [0, 1, 2, 3, 4] rfl))
/-! ## TideLotsModel.pays(II)I -/
theorem dX14_pays_0 : decode cX14_pays 0 = .ok (.aload_n 0, 1) := by decide +kernel
theorem dX14_pays_1 : decode cX14_pays 1 = .ok (.iconst 0, 1) := by decide +kernel
theorem dX14_pays_2 : decode cX14_pays 2 = .ok (.putfield 57, 3) := by decide +kernel
theorem dX14_pays_5 : decode cX14_pays 5 = .ok (.aload_n 0, 1) := by decide +kernel
theorem dX14_pays_6 : decode cX14_pays 6 = .ok (.iload_n 1, 1) := by decide +kernel
theorem dX14_pays_7 : decode cX14_pays 7 = .ok (.invokevirtual 329, 3) := by decide +kernel
theorem dX14_pays_10 : decode cX14_pays 10 = .ok (.ifCond .ne 9, 3) := by decide +kernel
theorem dX14_pays_13 : decode cX14_pays 13 = .ok (.aload_n 0, 1) := by decide +kernel
theorem dX14_pays_14 : decode cX14_pays 14 = .ok (.iconst 1, 1) := by decide +kernel
theorem dX14_pays_15 : decode cX14_pays 15 = .ok (.invokevirtual 276, 3) := by decide +kernel
theorem dX14_pays_18 : decode cX14_pays 18 = .ok (.ireturn, 1) := by decide +kernel
theorem dX14_pays_19 : decode cX14_pays 19 = .ok (.iload_n 2, 1) := by decide +kernel
theorem dX14_pays_20 : decode cX14_pays 20 = .ok (.iconst 1, 1) := by decide +kernel
theorem dX14_pays_21 : decode cX14_pays 21 = .ok (.bipush 60, 2) := by decide +kernel
theorem dX14_pays_23 : decode cX14_pays 23 = .ok (.invokestatic 63, 3) := by decide +kernel
theorem dX14_pays_26 : decode cX14_pays 26 = .ok (.ifCond .ne 9, 3) := by decide +kernel
theorem dX14_pays_29 : decode cX14_pays 29 = .ok (.aload_n 0, 1) := by decide +kernel
theorem dX14_pays_30 : decode cX14_pays 30 = .ok (.iconst 2, 1) := by decide +kernel
theorem dX14_pays_31 : decode cX14_pays 31 = .ok (.invokevirtual 276, 3) := by decide +kernel
theorem dX14_pays_34 : decode cX14_pays 34 = .ok (.ireturn, 1) := by decide +kernel
theorem dX14_pays_35 : decode cX14_pays 35 = .ok (.aload_n 0, 1) := by decide +kernel
theorem dX14_pays_36 : decode cX14_pays 36 = .ok (.iload_n 1, 1) := by decide +kernel
theorem dX14_pays_37 : decode cX14_pays 37 = .ok (.iload_n 2, 1) := by decide +kernel
theorem dX14_pays_38 : decode cX14_pays 38 = .ok (.iconst 1, 1) := by decide +kernel
theorem dX14_pays_39 : decode cX14_pays 39 = .ok (.aload_n 0, 1) := by decide +kernel
theorem dX14_pays_40 : decode cX14_pays 40 = .ok (.getfield 47, 3) := by decide +kernel
theorem dX14_pays_43 : decode cX14_pays 43 = .ok (.getfield 282, 3) := by decide +kernel
theorem dX14_pays_46 : decode cX14_pays 46 = .ok (.iload_n 1, 1) := by decide +kernel
theorem dX14_pays_47 : decode cX14_pays 47 = .ok (.iaload, 1) := by decide +kernel
theorem dX14_pays_48 : decode cX14_pays 48 = .ok (.invokevirtual 369, 3) := by decide +kernel
theorem dX14_pays_51 : decode cX14_pays 51 = .ok (.aload_n 0, 1) := by decide +kernel
theorem dX14_pays_52 : decode cX14_pays 52 = .ok (.iload_n 1, 1) := by decide +kernel
theorem dX14_pays_53 : decode cX14_pays 53 = .ok (.iload_n 2, 1) := by decide +kernel
theorem dX14_pays_54 : decode cX14_pays 54 = .ok (.iconst 0, 1) := by decide +kernel
theorem dX14_pays_55 : decode cX14_pays 55 = .ok (.aload_n 0, 1) := by decide +kernel
theorem dX14_pays_56 : decode cX14_pays 56 = .ok (.getfield 47, 3) := by decide +kernel
theorem dX14_pays_59 : decode cX14_pays 59 = .ok (.getfield 282, 3) := by decide +kernel
theorem dX14_pays_62 : decode cX14_pays 62 = .ok (.iload_n 1, 1) := by decide +kernel
theorem dX14_pays_63 : decode cX14_pays 63 = .ok (.iaload, 1) := by decide +kernel
theorem dX14_pays_64 : decode cX14_pays 64 = .ok (.invokevirtual 369, 3) := by decide +kernel
theorem dX14_pays_67 : decode cX14_pays 67 = .ok (.isub, 1) := by decide +kernel
theorem dX14_pays_68 : decode cX14_pays 68 = .ok (.ireturn, 1) := by decide +kernel
set_option maxRecDepth 20000 in
theorem ggX14_pays_X14_isFisher : GoodIn wsX14_pays wsX14_isFisher := goodIn_r _ [7, 8, 9, 10, 6, 11, 110, 111, 112, 113, 114, 115, 116, 117, 118, 119, 120, 121, 122, 123, 124, 144, 145, 146, 147, 148, 149, 150, 151, 152, 153, 154, 155, 156, 157, 158, 159, 160, 161, 162, 163, 164, 165, 166, 167, 168] (by decide +kernel) (by decide +kernel)
set_option maxRecDepth 20000 in
theorem gX14_pays_X14_isFisher : GoodIn wsX14_pays (wsV RX14 329 RX14 yX14_isFisher wsX14_isFisher) := goodIn_app (goodIn_of _ (by decide +kernel)) ggX14_pays_X14_isFisher
set_option maxRecDepth 20000 in
theorem ggX14_pays_X14_isIn : GoodIn wsX14_pays wsX14_isIn := goodIn_r _ [11] (by decide +kernel) (by decide +kernel)
set_option maxRecDepth 20000 in
theorem gX14_pays_X14_isIn : GoodIn wsX14_pays (va_wsS RX14 63 yX14_isIn wsX14_isIn) := goodIn_app (goodIn_of _ (by decide +kernel)) ggX14_pays_X14_isIn
set_option maxRecDepth 20000 in
theorem ggX14_pays_X14_storeAs : GoodIn wsX14_pays wsX14_storeAs := goodIn_r _ [19, 20, 2, 21, 22, 23, 24, 25, 26, 27, 28, 29, 30, 31, 32, 33, 34, 35, 36, 37, 38, 39, 40, 41, 42, 43, 44, 45, 46, 47, 48, 49, 50, 51, 52, 53, 54, 55, 56, 57, 58, 59, 60, 61, 62, 63, 64, 65, 66, 67, 68, 69, 70, 71, 72, 73, 6, 74, 9, 10, 11, 75, 76, 77, 78, 79, 80, 81, 82, 83, 84, 85, 86, 87, 88, 89, 90, 91, 92, 93, 94, 95, 96, 97, 98, 99, 100, 101, 102, 103, 104, 105, 106, 107, 108, 109, 110, 111, 112, 113, 114, 115, 116, 117, 118, 119, 120, 121, 122, 123, 124, 125, 126, 127, 128, 129, 130, 131, 132, 133, 134, 135, 136, 137, 138, 139, 140, 141, 142, 143, 144, 145, 146, 147, 148, 149, 150, 151, 152, 153, 154, 155, 156, 157, 158, 159, 160, 161, 162, 163, 164, 165, 166, 167, 168] (by decide +kernel) (by decide +kernel)
set_option maxRecDepth 20000 in
theorem gX14_pays_X14_storeAs : GoodIn wsX14_pays (wsV RX14 369 RX14 yX14_storeAs wsX14_storeAs) := goodIn_app (goodIn_of _ (by decide +kernel)) ggX14_pays_X14_storeAs
set_option maxRecDepth 20000 in
theorem ggX14_pays_X14_no : GoodIn wsX14_pays wsX14_no := goodIn_r _ [15, 1, 110, 111, 112, 113, 114, 115, 116, 117, 118, 119, 120, 121, 122, 123, 124] (by decide +kernel) (by decide +kernel)
set_option maxRecDepth 20000 in
theorem gX14_pays_X14_no : GoodIn wsX14_pays (wsV RX14 276 RX14 yX14_no wsX14_no) := goodIn_app (goodIn_of _ (by decide +kernel)) ggX14_pays_X14_no
theorem k_X14_pays_f57 : Cond.fieldLink RX14 57 "TideLotsModel" "thrown" "I" ∈ wsX14_pays := by decide +kernel
theorem i_X14_pays_X14 : ∀ w ∈ u_ws RX14 TX14 15, w ∈ wsX14_pays := by decide +kernel
theorem k_X14_pays_f47 : Cond.fieldLink RX14 47 "TideLotsModel" "s" "LTideLotsModel$State;" ∈ wsX14_pays := by decide +kernel
theorem i_X14_pays_X12 : ∀ w ∈ u_ws RX12 TX12 19, w ∈ wsX14_pays := by decide +kernel
abbrev rX14_pays : Room := { frames := 8, cells := 0, slots := 0, locals := 186 }
noncomputable def b_X14_pays_0 (M : gMem) (x0 : Nat) (x1 : Int32) (x2 : Int32) : Option (Int32 × gMem) :=
  ck (mT M x0 = 13) <| lw (wI M x0 0 ((0 : Int32))) fun M2 => bd (f_X14_isFisher M2 x0 x1) fun r4 M4 => (if r4 = 0 then ck (mT M4 x0 = 13) <| bd (f_X14_no M4 x0 ((1 : Int32))) fun r22 M22 => some (r22, M22) else bd (f_X14_isIn M4 x2 ((1 : Int32)) ((60 : Int32))) fun r5 M5 => (if r5 = 0 then ck (mT M5 x0 = 13) <| bd (f_X14_no M5 x0 ((2 : Int32))) fun r20 M20 => some (r20, M20) else ck (mT M5 x0 = 13) <| dr ((mR M5 x0 13)) fun a7 => ck (mT M5 a7 = 11) <| dr ((mR M5 a7 5)) fun a9 => ck (mT M5 a9 = 20) <| ck (inb x1 (mL M5 a9)) <| bd (f_X14_storeAs M5 x0 x1 x2 ((1 : Int32)) ((mI M5 a9 x1.toNatClampNeg))) fun r12 M12 => ck (mT M12 x0 = 13) <| dr ((mR M12 x0 13)) fun a14 => ck (mT M12 a14 = 11) <| dr ((mR M12 a14 5)) fun a16 => ck (mT M12 a16 = 20) <| ck (inb x1 (mL M12 a16)) <| bd (f_X14_storeAs M12 x0 x1 x2 ((0 : Int32)) ((mI M12 a16 x1.toNatClampNeg))) fun r19 M19 => some ((r12 - r19), M19)))
noncomputable def f_X14_pays (M : gMem) (x0 : Nat) (x1 : Int32) (x2 : Int32) : Option (Int32 × gMem) :=
  b_X14_pays_0 M x0 x1 x2
set_option maxHeartbeats 4000000 in
set_option maxRecDepth 100000 in
theorem t_X14_pays_0 (X : gX p s m args meth c D cy B (gSt Z B H0) RX14 cX14_pays wsX14_pays 3) (hr : meth.sig.returnType = (some .int)) {Q : State → Prop} : ∀ (M : gMem) (x0 : Nat) (x1 : Int32) (x2 : Int32) (z : Int32 × gMem), b_X14_pays_0 M x0 x1 x2 = some z → (fun (r : Int32 × gMem) => Q = gMQ below D cy B H0 args s 0 0 (some (vI r.1)) r.2) z → gGo p l e rX14_pays s m args below meth c D cy B H0 3 0 0 Q 0 [(0, vR (some x0)), (1, vI x1), (2, vI x2)] [] M := by
  intro M x0 x1 x2 z hf hK
  unfold b_X14_pays_0 at hf
  refine g_aload_n X dX14_pays_0 rfl rfl ?_
  refine g_iconst (v := (0 : Int32)) X dX14_pays_1 (by decide) ?_
  obtain ⟨hT1, hf⟩ := ck_e hf
  refine g_putI (ci := 12) 0 X cdX14 i_X14_pays_X14 (by decide) k_X14_pays_f57 rfl dX14_pays_2 rfl hT1 (Or.inl rfl) rfl rfl rfl ?_
  obtain ⟨M2, hM2, hf⟩ := lw_e hf
  rw [← hM2]
  have hT3 : mT M2 x0 = 13 := by rw [hM2]; exact hT1
  refine g_aload_n X dX14_pays_5 rfl rfl ?_
  refine g_iload_n X dX14_pays_6 rfl rfl ?_
  obtain ⟨r4, M4, hq4, hf⟩ := bd_e hf
  refine g_callV (ci := 12) (b := x0) (As := [vI x1]) (st := []) (v := some (vI r4)) (M1 := M4) X (m_X14_isFisher l hq4) (cwV 1 X.2.2.1 gX14_pays_X14_isFisher rfl rfl rfl (by decide +kernel) ⟨Nat.le_of_ble_eq_true rfl, Nat.le_of_ble_eq_true rfl⟩) rfl rfl rfl hT3 (by decide) rfl (Nat.le_of_ble_eq_true rfl) dX14_pays_7 ⟨by decide, by decide⟩ ?_
  refine g_if_ne (tgt := 19) X dX14_pays_10 (by decide) (fun hc => ?_) (fun hc => ?_)
  · have hf := ife_f hc hf
    refine g_iload_n X dX14_pays_19 rfl rfl ?_
    refine g_iconst (v := (1 : Int32)) X dX14_pays_20 (by decide) ?_
    refine g_bipush (v := (60 : Int32)) X dX14_pays_21 (by decide) ?_
    obtain ⟨r5, M5, hq5, hf⟩ := bd_e hf
    refine g_callS (As := [vI x2, vI (1 : Int32), vI (60 : Int32)]) (st := []) (v := some (vI r5)) (M1 := M5) X (m_X14_isIn l hq5) (va_cwS 3 X.2.2.1 gX14_pays_X14_isIn rfl rfl rfl (by decide +kernel) ⟨Nat.le_of_ble_eq_true rfl, Nat.le_of_ble_eq_true rfl⟩) rfl rfl (Nat.le_of_ble_eq_true rfl) dX14_pays_23 ⟨by decide, by decide⟩ ?_
    refine g_if_ne (tgt := 35) X dX14_pays_26 (by decide) (fun hc => ?_) (fun hc => ?_)
    · have hf := ife_f hc hf
      refine g_aload_n X dX14_pays_35 rfl rfl ?_
      refine g_iload_n X dX14_pays_36 rfl rfl ?_
      refine g_iload_n X dX14_pays_37 rfl rfl ?_
      refine g_iconst (v := (1 : Int32)) X dX14_pays_38 (by decide) ?_
      refine g_aload_n X dX14_pays_39 rfl rfl ?_
      obtain ⟨hT6, hf⟩ := ck_e hf
      refine g_get (ci := 12) (v := vR (mR M5 x0 13)) 13 X cdX14 i_X14_pays_X14 (by decide) k_X14_pays_f47 rfl dX14_pays_40 rfl hT6 rfl ?_
      obtain ⟨a7, ha7, hf⟩ := dr_e hf
      obtain ⟨hT8, hf⟩ := ck_e hf
      refine g_getN (ci := 10) (w := vR (mR M5 a7 5)) 5 X cdX12 i_X14_pays_X12 (by decide) (gNw X _ kn_X14_282) rfl dX14_pays_43 ha7 hT8 rfl ?_
      refine g_iload_n X dX14_pays_46 rfl rfl ?_
      obtain ⟨a9, ha9, hf⟩ := dr_e hf
      obtain ⟨hT10, hf⟩ := ck_e hf
      obtain ⟨hg11, hf⟩ := ck_e hf
      refine g_iald X dX14_pays_47 ha9 hT10 hg11 ?_
      obtain ⟨r12, M12, hq12, hf⟩ := bd_e hf
      refine g_callV (ci := 12) (b := x0) (As := [vI x1, vI x2, vI (1 : Int32), vI (mI M5 a9 x1.toNatClampNeg)]) (st := []) (v := some (vI r12)) (M1 := M12) X (m_X14_storeAs l hq12) (cwV 4 X.2.2.1 gX14_pays_X14_storeAs rfl rfl rfl (by decide +kernel) ⟨Nat.le_of_ble_eq_true rfl, Nat.le_of_ble_eq_true rfl⟩) rfl rfl rfl hT6 (by decide) rfl (Nat.le_of_ble_eq_true rfl) dX14_pays_48 ⟨by decide, by decide⟩ ?_
      refine g_aload_n X dX14_pays_51 rfl rfl ?_
      refine g_iload_n X dX14_pays_52 rfl rfl ?_
      refine g_iload_n X dX14_pays_53 rfl rfl ?_
      refine g_iconst (v := (0 : Int32)) X dX14_pays_54 (by decide) ?_
      refine g_aload_n X dX14_pays_55 rfl rfl ?_
      obtain ⟨hT13, hf⟩ := ck_e hf
      refine g_get (ci := 12) (v := vR (mR M12 x0 13)) 13 X cdX14 i_X14_pays_X14 (by decide) k_X14_pays_f47 rfl dX14_pays_56 rfl hT13 rfl ?_
      obtain ⟨a14, ha14, hf⟩ := dr_e hf
      obtain ⟨hT15, hf⟩ := ck_e hf
      refine g_getN (ci := 10) (w := vR (mR M12 a14 5)) 5 X cdX12 i_X14_pays_X12 (by decide) (gNw X _ kn_X14_282) rfl dX14_pays_59 ha14 hT15 rfl ?_
      refine g_iload_n X dX14_pays_62 rfl rfl ?_
      obtain ⟨a16, ha16, hf⟩ := dr_e hf
      obtain ⟨hT17, hf⟩ := ck_e hf
      obtain ⟨hg18, hf⟩ := ck_e hf
      refine g_iald X dX14_pays_63 ha16 hT17 hg18 ?_
      obtain ⟨r19, M19, hq19, hf⟩ := bd_e hf
      refine g_callV (ci := 12) (b := x0) (As := [vI x1, vI x2, vI (0 : Int32), vI (mI M12 a16 x1.toNatClampNeg)]) (st := [vI r12]) (v := some (vI r19)) (M1 := M19) X (m_X14_storeAs l hq19) (cwV 4 X.2.2.1 gX14_pays_X14_storeAs rfl rfl rfl (by decide +kernel) ⟨Nat.le_of_ble_eq_true rfl, Nat.le_of_ble_eq_true rfl⟩) rfl rfl rfl hT13 (by decide) rfl (Nat.le_of_ble_eq_true rfl) dX14_pays_64 ⟨by decide, by decide⟩ ?_
      refine g_isub X dX14_pays_67 ?_
      cases hf
      refine g_eqQ hK ?_
      exact g_iret X hr dX14_pays_68
    · have hf := ife_t hc hf
      refine g_aload_n X dX14_pays_29 rfl rfl ?_
      refine g_iconst (v := (2 : Int32)) X dX14_pays_30 (by decide) ?_
      obtain ⟨hT21, hf⟩ := ck_e hf
      obtain ⟨r20, M20, hq20, hf⟩ := bd_e hf
      refine g_callV (ci := 12) (b := x0) (As := [vI (2 : Int32)]) (st := []) (v := some (vI r20)) (M1 := M20) X (m_X14_no l hq20) (cwV 1 X.2.2.1 gX14_pays_X14_no rfl rfl rfl (by decide +kernel) ⟨Nat.le_of_ble_eq_true rfl, Nat.le_of_ble_eq_true rfl⟩) rfl rfl rfl hT21 (by decide) rfl (Nat.le_of_ble_eq_true rfl) dX14_pays_31 ⟨by decide, by decide⟩ ?_
      cases hf
      refine g_eqQ hK ?_
      exact g_iret X hr dX14_pays_34
  · have hf := ife_t hc hf
    refine g_aload_n X dX14_pays_13 rfl rfl ?_
    refine g_iconst (v := (1 : Int32)) X dX14_pays_14 (by decide) ?_
    obtain ⟨hT23, hf⟩ := ck_e hf
    obtain ⟨r22, M22, hq22, hf⟩ := bd_e hf
    refine g_callV (ci := 12) (b := x0) (As := [vI (1 : Int32)]) (st := []) (v := some (vI r22)) (M1 := M22) X (m_X14_no l hq22) (cwV 1 X.2.2.1 gX14_pays_X14_no rfl rfl rfl (by decide +kernel) ⟨Nat.le_of_ble_eq_true rfl, Nat.le_of_ble_eq_true rfl⟩) rfl rfl rfl hT23 (by decide) rfl (Nat.le_of_ble_eq_true rfl) dX14_pays_15 ⟨by decide, by decide⟩ ?_
    cases hf
    refine g_eqQ hK ?_
    exact g_iret X hr dX14_pays_18
set_option maxHeartbeats 4000000 in
set_option maxRecDepth 100000 in
theorem m_X14_pays (l : Launch) {D : va_G} {cy : Nat → ClassId} {B : Nat} {H0 : Heap} {Z : Nat → Nat} {M M1 : gMem} {x0 : Nat} {x1 : Int32} {x2 : Int32} {r : Int32} (hf : f_X14_pays M x0 x1 x2 = some (r, M1)) : Met l yX14_pays wsX14_pays rX14_pays (va_Pc (Value.ref x0 :: List.map gv [vI x1, vI x2]) (gPre D cy B H0 (gSt Z B H0) M)) (gQ D cy B H0 (some (vI r)) M1) 0 0 (gA B) := by
  refine Met.ofW (cc := cX14_pays) (maxL := 3) (ret := (some .int)) (by decide) rfl ?_
  intro p e s m args below meth c s₁ Bd hml hv
  obtain ⟨rfl, hW, hKK, hFs⟩ := hv
  have X : gX p s m _ meth c D cy B (gSt Z B H0) RX14 cX14_pays wsX14_pays 3 := ⟨Bd.exec, Bd.bytes, atoms_spec (ws := wsX14_pays) Bd.pre, findClass_of_methodNamed Bd.named, hml, hKK, by rw [hW.1]; exact hW.2.1, Bd.notSynchronized, hFs⟩
  have hr := Bd.returns
  have hl := lv_entry ([.ref x0, .int x1, .int x2]) (n := 3) (Nat.le_of_ble_eq_true rfl)
  show W p l e rX14_pays s m _ below meth c s.heap [] 0 0 _ (entryFrame m ([.ref x0, .int x1, .int x2] : List Value).toArray 3)
  rw [lg_entry_eq]
  generalize (lg_sl ([.ref x0, .int x1, .int x2]) ++ List.replicate (3 - (lg_sl ([.ref x0, .int x1, .int x2])).length) Slot.unset).toArray = ls at hl ⊢
  have hl : lv_has ls 3 (List.map gq [(0, vR (some x0)), (1, vI x1), (2, vI x2)]) := hl
  exact t_X14_pays_0 X hr _ _ _ _ _ hf rfl s.heap [] ls hW va_S.rf (lv_has_sub hl (lvsub_of _ _ [0, 1, 2] rfl))
/-! ## TideLotsModel.empty(I)I -/
theorem dX14_empty_0 : decode cX14_empty 0 = .ok (.aload_n 0, 1) := by decide +kernel
theorem dX14_empty_1 : decode cX14_empty 1 = .ok (.iconst 0, 1) := by decide +kernel
theorem dX14_empty_2 : decode cX14_empty 2 = .ok (.putfield 57, 3) := by decide +kernel
theorem dX14_empty_5 : decode cX14_empty 5 = .ok (.aload_n 0, 1) := by decide +kernel
theorem dX14_empty_6 : decode cX14_empty 6 = .ok (.iload_n 1, 1) := by decide +kernel
theorem dX14_empty_7 : decode cX14_empty 7 = .ok (.invokevirtual 311, 3) := by decide +kernel
theorem dX14_empty_10 : decode cX14_empty 10 = .ok (.ifCond .ne 9, 3) := by decide +kernel
theorem dX14_empty_13 : decode cX14_empty 13 = .ok (.aload_n 0, 1) := by decide +kernel
theorem dX14_empty_14 : decode cX14_empty 14 = .ok (.iconst 1, 1) := by decide +kernel
theorem dX14_empty_15 : decode cX14_empty 15 = .ok (.invokevirtual 276, 3) := by decide +kernel
theorem dX14_empty_18 : decode cX14_empty 18 = .ok (.ireturn, 1) := by decide +kernel
theorem dX14_empty_19 : decode cX14_empty 19 = .ok (.aload_n 0, 1) := by decide +kernel
theorem dX14_empty_20 : decode cX14_empty 20 = .ok (.getfield 51, 3) := by decide +kernel
theorem dX14_empty_23 : decode cX14_empty 23 = .ok (.aload_n 0, 1) := by decide +kernel
theorem dX14_empty_24 : decode cX14_empty 24 = .ok (.getfield 47, 3) := by decide +kernel
theorem dX14_empty_27 : decode cX14_empty 27 = .ok (.invokevirtual 365, 3) := by decide +kernel
theorem dX14_empty_30 : decode cX14_empty 30 = .ok (.iconst 0, 1) := by decide +kernel
theorem dX14_empty_31 : decode cX14_empty 31 = .ok (.istore_n 2, 1) := by decide +kernel
theorem dX14_empty_32 : decode cX14_empty 32 = .ok (.iload_n 2, 1) := by decide +kernel
theorem dX14_empty_33 : decode cX14_empty 33 = .ok (.bipush 100, 2) := by decide +kernel
theorem dX14_empty_35 : decode cX14_empty 35 = .ok (.if_icmp .gt 29, 3) := by decide +kernel
theorem dX14_empty_38 : decode cX14_empty 38 = .ok (.aload_n 0, 1) := by decide +kernel
theorem dX14_empty_39 : decode cX14_empty 39 = .ok (.getfield 51, 3) := by decide +kernel
theorem dX14_empty_42 : decode cX14_empty 42 = .ok (.iload_n 1, 1) := by decide +kernel
theorem dX14_empty_43 : decode cX14_empty 43 = .ok (.invokevirtual 302, 3) := by decide +kernel
theorem dX14_empty_46 : decode cX14_empty 46 = .ok (.ifCond .ne 5, 3) := by decide +kernel
theorem dX14_empty_49 : decode cX14_empty 49 = .ok (.iload_n 2, 1) := by decide +kernel
theorem dX14_empty_50 : decode cX14_empty 50 = .ok (.ireturn, 1) := by decide +kernel
theorem dX14_empty_51 : decode cX14_empty 51 = .ok (.aload_n 0, 1) := by decide +kernel
theorem dX14_empty_52 : decode cX14_empty 52 = .ok (.getfield 51, 3) := by decide +kernel
theorem dX14_empty_55 : decode cX14_empty 55 = .ok (.invokevirtual 362, 3) := by decide +kernel
theorem dX14_empty_58 : decode cX14_empty 58 = .ok (.iinc 2 1, 3) := by decide +kernel
theorem dX14_empty_61 : decode cX14_empty 61 = .ok (.goto (-29), 3) := by decide +kernel
theorem dX14_empty_64 : decode cX14_empty 64 = .ok (.iconst (-1), 1) := by decide +kernel
theorem dX14_empty_65 : decode cX14_empty 65 = .ok (.ireturn, 1) := by decide +kernel
set_option maxRecDepth 20000 in
theorem ggX14_empty_X12_fishAt : GoodIn wsX14_empty wsX12_fishAt := goodIn_r _ [47, 24, 147, 148, 149, 150, 151, 152, 153, 154, 155, 156, 157, 158, 159, 160, 161, 162, 163, 164, 165] (by decide +kernel) (by decide +kernel)
set_option maxRecDepth 20000 in
theorem gX14_empty_X12_fishAt : GoodIn wsX14_empty (wsV RX14 302 RX12 yX12_fishAt wsX12_fishAt) := goodIn_app (goodIn_of _ (by decide +kernel)) ggX14_empty_X12_fishAt
set_option maxRecDepth 20000 in
theorem ggX14_empty_X12_pass : GoodIn wsX14_empty wsX12_pass := goodIn_r _ [51, 25, 52, 53, 28, 29, 22, 54, 55, 56, 20, 57, 58, 23, 59, 40, 41, 42, 43, 60, 61, 62, 63, 30, 64, 65, 66, 67, 32, 68, 69, 70, 71, 72, 73, 7, 74, 10, 11, 12, 75, 76, 77, 78, 27, 79, 45, 46, 47, 24, 80, 81, 82, 83, 84, 85, 86, 87, 88, 89, 90, 91, 92, 93, 94, 95, 96, 97, 98, 31, 26, 99, 100, 101, 102, 33, 34, 35, 103, 104, 105, 106, 147, 148, 149, 150, 151, 152, 153, 154, 155, 156, 157, 158, 159, 160, 161, 162, 163, 164, 165, 107, 108, 109, 110, 111, 112, 113, 114, 115, 116, 117, 118, 119, 120, 121, 122, 123, 124, 125, 126, 127, 128, 129, 130, 131, 132, 133, 134, 135, 136, 137, 138, 139, 140, 141, 142, 143, 144, 145, 146] (by decide +kernel) (by decide +kernel)
set_option maxRecDepth 20000 in
theorem gX14_empty_X12_pass : GoodIn wsX14_empty (wsV RX14 362 RX12 yX12_pass wsX12_pass) := goodIn_app (goodIn_of _ (by decide +kernel)) ggX14_empty_X12_pass
set_option maxRecDepth 20000 in
theorem ggX14_empty_X14_isGround : GoodIn wsX14_empty wsX14_isGround := goodIn_r _ [8, 9, 10, 11, 7, 12, 107, 108, 109, 110, 111, 112, 113, 114, 115, 116, 117, 118, 119, 120, 121, 122, 123, 124, 125, 126, 127, 128, 129, 130, 131, 132, 133, 134, 135, 136, 137, 138, 139, 140, 141, 142, 143, 144, 145, 146] (by decide +kernel) (by decide +kernel)
set_option maxRecDepth 20000 in
theorem gX14_empty_X14_isGround : GoodIn wsX14_empty (wsV RX14 311 RX14 yX14_isGround wsX14_isGround) := goodIn_app (goodIn_of _ (by decide +kernel)) ggX14_empty_X14_isGround
set_option maxRecDepth 20000 in
theorem ggX14_empty_X12_become : GoodIn wsX14_empty wsX12_become := goodIn_r _ [21, 22, 23, 24, 25, 26, 27, 28, 29, 30, 31, 32, 33, 34, 35, 36, 37, 38, 20, 39, 40, 41, 42, 43, 147, 148, 149, 150, 151, 152, 153, 154, 155, 156, 157, 158, 159, 160, 161, 162, 163, 164, 165] (by decide +kernel) (by decide +kernel)
set_option maxRecDepth 20000 in
theorem gX14_empty_X12_become : GoodIn wsX14_empty (wsV RX14 365 RX12 yX12_become wsX12_become) := goodIn_app (goodIn_of _ (by decide +kernel)) ggX14_empty_X12_become
set_option maxRecDepth 20000 in
theorem ggX14_empty_X14_no : GoodIn wsX14_empty wsX14_no := goodIn_r _ [16, 1, 107, 108, 109, 110, 111, 112, 113, 114, 115, 116, 117, 118, 119, 120, 121] (by decide +kernel) (by decide +kernel)
set_option maxRecDepth 20000 in
theorem gX14_empty_X14_no : GoodIn wsX14_empty (wsV RX14 276 RX14 yX14_no wsX14_no) := goodIn_app (goodIn_of _ (by decide +kernel)) ggX14_empty_X14_no
theorem k_X14_empty_f51 : Cond.fieldLink RX14 51 "TideLotsModel" "ahead" "LTideLotsModel$State;" ∈ wsX14_empty := by decide +kernel
theorem i_X14_empty_X14 : ∀ w ∈ u_ws RX14 TX14 15, w ∈ wsX14_empty := by decide +kernel
theorem k_X14_empty_f57 : Cond.fieldLink RX14 57 "TideLotsModel" "thrown" "I" ∈ wsX14_empty := by decide +kernel
theorem k_X14_empty_f47 : Cond.fieldLink RX14 47 "TideLotsModel" "s" "LTideLotsModel$State;" ∈ wsX14_empty := by decide +kernel
abbrev rX14_empty : Room := { frames := 7, cells := 0, slots := 0, locals := 161 }
noncomputable def bb_X14_empty_32 (M : gMem) (x0 : Nat) (x1 : Int32) (x2 : Int32) : Option ((gMem × Int32) ⊕ (Int32 × gMem)) :=
  (if (100 : Int32) < x2 then oI (some ((-1 : Int32), M)) else ck (mT M x0 = 13) <| dr ((mR M x0 14)) fun a4 => ck (mT M a4 = 11) <| bd (f_X12_fishAt M a4 x1) fun r3 M3 => (if r3 = 0 then oI (some (x2, M3)) else ck (mT M3 x0 = 13) <| dr ((mR M3 x0 14)) fun a8 => ck (mT M3 a8 = 11) <| bd (f_X12_pass M3 a8) fun _ M7 => some (.inl (M7, (x2 + (1 : Int32))))))
noncomputable def lp_X14_empty_32 (M : gMem) (x0 : Nat) (x1 : Int32) (x2 : Int32) : Option (Int32 × gMem) :=
  lp (fun (q : gMem × Int32) => bb_X14_empty_32 q.1 x0 x1 q.2) (M, x2)
noncomputable def b_X14_empty_0 (M : gMem) (x0 : Nat) (x1 : Int32) : Option (Int32 × gMem) :=
  ck (mT M x0 = 13) <| lw (wI M x0 0 ((0 : Int32))) fun M12 => bd (f_X14_isGround M12 x0 x1) fun r14 M14 => (if r14 = 0 then ck (mT M14 x0 = 13) <| bd (f_X14_no M14 x0 ((1 : Int32))) fun r19 M19 => some (r19, M19) else ck (mT M14 x0 = 13) <| dr ((mR M14 x0 14)) fun a17 => ck (mT M14 a17 = 11) <| bd (f_X12_become M14 a17 ((mR M14 x0 13))) fun _ M16 => lp_X14_empty_32 M16 x0 x1 ((0 : Int32)))
noncomputable def f_X14_empty (M : gMem) (x0 : Nat) (x1 : Int32) : Option (Int32 × gMem) :=
  b_X14_empty_0 M x0 x1
set_option maxHeartbeats 4000000 in
set_option maxRecDepth 100000 in
theorem tb_X14_empty_32 (X : gX p s m args meth c D cy B (gSt Z B H0) RX14 cX14_empty wsX14_empty 3) (hr : meth.sig.returnType = (some .int)) {Q : State → Prop} : ∀ (M : gMem) (x0 : Nat) (x1 : Int32) (x2 : Int32) (z : (gMem × Int32) ⊕ (Int32 × gMem)), bb_X14_empty_32 M x0 x1 x2 = some z → (Sum.elim (fun (q : gMem × Int32) => gGo p l e rX14_empty s m args below meth c D cy B H0 3 0 0 Q 32 [(0, vR (some x0)), (1, vI x1), (2, vI q.2)] [] q.1) (fun (r : Int32 × gMem) => Q = gMQ below D cy B H0 args s 0 0 (some (vI r.1)) r.2)) z → gGo p l e rX14_empty s m args below meth c D cy B H0 3 0 0 Q 32 [(0, vR (some x0)), (1, vI x1), (2, vI x2)] [] M := by
  intro M x0 x1 x2 z hf hK
  unfold bb_X14_empty_32 at hf
  refine g_iload_n X dX14_empty_32 rfl rfl ?_
  refine g_bipush (v := (100 : Int32)) X dX14_empty_33 (by decide) ?_
  refine g_icmp_gt (tgt := 64) X dX14_empty_35 (by decide) (fun hc => ?_) (fun hc => ?_)
  · have hf := ife_t hc hf
    refine g_iconst (v := (-1 : Int32)) X dX14_empty_64 (by decide) ?_
    obtain ⟨w1, hw1, hz1⟩ := oI_e hf
    subst hz1
    have hf := hw1
    cases hf
    refine g_eqQ hK ?_
    exact g_iret X hr dX14_empty_65
  · have hf := ife_f hc hf
    refine g_aload_n X dX14_empty_38 rfl rfl ?_
    obtain ⟨hT2, hf⟩ := ck_e hf
    refine g_get (ci := 12) (v := vR (mR M x0 14)) 14 X cdX14 i_X14_empty_X14 (by decide) k_X14_empty_f51 rfl dX14_empty_39 rfl hT2 rfl ?_
    refine g_iload_n X dX14_empty_42 rfl rfl ?_
    obtain ⟨a4, ha4, hf⟩ := dr_e hf
    obtain ⟨hT5, hf⟩ := ck_e hf
    obtain ⟨r3, M3, hq3, hf⟩ := bd_e hf
    refine g_callV (ci := 10) (b := a4) (As := [vI x1]) (st := []) (v := some (vI r3)) (M1 := M3) X (m_X12_fishAt l hq3) (cwV 1 X.2.2.1 gX14_empty_X12_fishAt rfl rfl rfl (by decide +kernel) ⟨Nat.le_of_ble_eq_true rfl, Nat.le_of_ble_eq_true rfl⟩) rfl rfl ha4 hT5 (by decide) rfl (Nat.le_of_ble_eq_true rfl) dX14_empty_43 ⟨by decide, by decide⟩ ?_
    refine g_if_ne (tgt := 51) X dX14_empty_46 (by decide) (fun hc => ?_) (fun hc => ?_)
    · have hf := ife_f hc hf
      refine g_aload_n X dX14_empty_51 rfl rfl ?_
      obtain ⟨hT6, hf⟩ := ck_e hf
      refine g_get (ci := 12) (v := vR (mR M3 x0 14)) 14 X cdX14 i_X14_empty_X14 (by decide) k_X14_empty_f51 rfl dX14_empty_52 rfl hT6 rfl ?_
      obtain ⟨a8, ha8, hf⟩ := dr_e hf
      obtain ⟨hT9, hf⟩ := ck_e hf
      obtain ⟨r7, M7, hq7, hf⟩ := bd_e hf
      refine g_callV (ci := 10) (b := a8) (As := []) (st := []) (v := none) (M1 := M7) X (m_X12_pass l hq7) (cwV 0 X.2.2.1 gX14_empty_X12_pass rfl rfl rfl (by decide +kernel) ⟨Nat.le_of_ble_eq_true rfl, Nat.le_of_ble_eq_true rfl⟩) rfl rfl ha8 hT9 (by decide) rfl (Nat.le_of_ble_eq_true rfl) dX14_empty_55 ⟨by decide, by decide⟩ ?_
      refine g_iinc (v := (1 : Int32)) (lv' := [(2, vI (x2 + (1 : Int32))), (0, vR (some x0)), (1, vI x1)]) X dX14_empty_58 rfl (by decide) (by decide) rfl ?_
      refine g_goto (tgt := 32) X dX14_empty_61 (by decide) ?_
      cases hf
      refine g_sub (lvsub_of _ _ [1, 2, 0] rfl) ?_
      exact hK
    · have hf := ife_t hc hf
      refine g_iload_n X dX14_empty_49 rfl rfl ?_
      obtain ⟨w10, hw10, hz10⟩ := oI_e hf
      subst hz10
      have hf := hw10
      cases hf
      refine g_eqQ hK ?_
      exact g_iret X hr dX14_empty_50
set_option maxHeartbeats 4000000 in
set_option maxRecDepth 100000 in
theorem tl_X14_empty_32 (X : gX p s m args meth c D cy B (gSt Z B H0) RX14 cX14_empty wsX14_empty 3) (hr : meth.sig.returnType = (some .int)) {Q : State → Prop} : ∀ (M : gMem) (x0 : Nat) (x1 : Int32) (x2 : Int32) (z : Int32 × gMem), lp_X14_empty_32 M x0 x1 x2 = some z → (fun (r : Int32 × gMem) => Q = gMQ below D cy B H0 args s 0 0 (some (vI r.1)) r.2) z → gGo p l e rX14_empty s m args below meth c D cy B H0 3 0 0 Q 32 [(0, vR (some x0)), (1, vI x1), (2, vI x2)] [] M := by
  intro M x0 x1 x2 z hf hK
  refine lp_ind (P := (fun (q : gMem × Int32) (z : Int32 × gMem) => (fun (r : Int32 × gMem) => Q = gMQ below D cy B H0 args s 0 0 (some (vI r.1)) r.2) z → gGo p l e rX14_empty s m args below meth c D cy B H0 3 0 0 Q 32 [(0, vR (some x0)), (1, vI x1), (2, vI q.2)] [] q.1)) (fun q z hq => ?_) _ _ hf hK
  intro hK
  obtain ⟨w, hw, hm⟩ := hq
  refine tb_X14_empty_32 X hr _ _ _ _ w hw ?_
  cases w with
  | inl a => exact hm hK
  | inr b => cases hm; exact hK
set_option maxHeartbeats 4000000 in
set_option maxRecDepth 100000 in
theorem t_X14_empty_0 (X : gX p s m args meth c D cy B (gSt Z B H0) RX14 cX14_empty wsX14_empty 3) (hr : meth.sig.returnType = (some .int)) {Q : State → Prop} : ∀ (M : gMem) (x0 : Nat) (x1 : Int32) (z : Int32 × gMem), b_X14_empty_0 M x0 x1 = some z → (fun (r : Int32 × gMem) => Q = gMQ below D cy B H0 args s 0 0 (some (vI r.1)) r.2) z → gGo p l e rX14_empty s m args below meth c D cy B H0 3 0 0 Q 0 [(0, vR (some x0)), (1, vI x1)] [] M := by
  intro M x0 x1 z hf hK
  unfold b_X14_empty_0 at hf
  refine g_aload_n X dX14_empty_0 rfl rfl ?_
  refine g_iconst (v := (0 : Int32)) X dX14_empty_1 (by decide) ?_
  obtain ⟨hT11, hf⟩ := ck_e hf
  refine g_putI (ci := 12) 0 X cdX14 i_X14_empty_X14 (by decide) k_X14_empty_f57 rfl dX14_empty_2 rfl hT11 (Or.inl rfl) rfl rfl rfl ?_
  obtain ⟨M12, hM12, hf⟩ := lw_e hf
  rw [← hM12]
  have hT13 : mT M12 x0 = 13 := by rw [hM12]; exact hT11
  refine g_aload_n X dX14_empty_5 rfl rfl ?_
  refine g_iload_n X dX14_empty_6 rfl rfl ?_
  obtain ⟨r14, M14, hq14, hf⟩ := bd_e hf
  refine g_callV (ci := 12) (b := x0) (As := [vI x1]) (st := []) (v := some (vI r14)) (M1 := M14) X (m_X14_isGround l hq14) (cwV 1 X.2.2.1 gX14_empty_X14_isGround rfl rfl rfl (by decide +kernel) ⟨Nat.le_of_ble_eq_true rfl, Nat.le_of_ble_eq_true rfl⟩) rfl rfl rfl hT13 (by decide) rfl (Nat.le_of_ble_eq_true rfl) dX14_empty_7 ⟨by decide, by decide⟩ ?_
  refine g_if_ne (tgt := 19) X dX14_empty_10 (by decide) (fun hc => ?_) (fun hc => ?_)
  · have hf := ife_f hc hf
    refine g_aload_n X dX14_empty_19 rfl rfl ?_
    obtain ⟨hT15, hf⟩ := ck_e hf
    refine g_get (ci := 12) (v := vR (mR M14 x0 14)) 14 X cdX14 i_X14_empty_X14 (by decide) k_X14_empty_f51 rfl dX14_empty_20 rfl hT15 rfl ?_
    refine g_aload_n X dX14_empty_23 rfl rfl ?_
    refine g_get (ci := 12) (v := vR (mR M14 x0 13)) 13 X cdX14 i_X14_empty_X14 (by decide) k_X14_empty_f47 rfl dX14_empty_24 rfl hT15 rfl ?_
    obtain ⟨a17, ha17, hf⟩ := dr_e hf
    obtain ⟨hT18, hf⟩ := ck_e hf
    obtain ⟨r16, M16, hq16, hf⟩ := bd_e hf
    refine g_callV (ci := 10) (b := a17) (As := [vR (mR M14 x0 13)]) (st := []) (v := none) (M1 := M16) X (m_X12_become l hq16) (cwV 1 X.2.2.1 gX14_empty_X12_become rfl rfl rfl (by decide +kernel) ⟨Nat.le_of_ble_eq_true rfl, Nat.le_of_ble_eq_true rfl⟩) rfl rfl ha17 hT18 (by decide) rfl (Nat.le_of_ble_eq_true rfl) dX14_empty_27 ⟨by decide, by decide⟩ ?_
    refine g_iconst (v := (0 : Int32)) X dX14_empty_30 (by decide) ?_
    refine g_istore_n (lv' := [(2, vI (0 : Int32)), (0, vR (some x0)), (1, vI x1)]) X dX14_empty_31 rfl (by decide) rfl ?_
    refine g_sub (lvsub_of _ _ [1, 2, 0] rfl) ?_
    exact tl_X14_empty_32 X hr _ _ _ _ _ hf hK
  · have hf := ife_t hc hf
    refine g_aload_n X dX14_empty_13 rfl rfl ?_
    refine g_iconst (v := (1 : Int32)) X dX14_empty_14 (by decide) ?_
    obtain ⟨hT20, hf⟩ := ck_e hf
    obtain ⟨r19, M19, hq19, hf⟩ := bd_e hf
    refine g_callV (ci := 12) (b := x0) (As := [vI (1 : Int32)]) (st := []) (v := some (vI r19)) (M1 := M19) X (m_X14_no l hq19) (cwV 1 X.2.2.1 gX14_empty_X14_no rfl rfl rfl (by decide +kernel) ⟨Nat.le_of_ble_eq_true rfl, Nat.le_of_ble_eq_true rfl⟩) rfl rfl rfl hT20 (by decide) rfl (Nat.le_of_ble_eq_true rfl) dX14_empty_15 ⟨by decide, by decide⟩ ?_
    cases hf
    refine g_eqQ hK ?_
    exact g_iret X hr dX14_empty_18
set_option maxHeartbeats 4000000 in
set_option maxRecDepth 100000 in
theorem m_X14_empty (l : Launch) {D : va_G} {cy : Nat → ClassId} {B : Nat} {H0 : Heap} {Z : Nat → Nat} {M M1 : gMem} {x0 : Nat} {x1 : Int32} {r : Int32} (hf : f_X14_empty M x0 x1 = some (r, M1)) : Met l yX14_empty wsX14_empty rX14_empty (va_Pc (Value.ref x0 :: List.map gv [vI x1]) (gPre D cy B H0 (gSt Z B H0) M)) (gQ D cy B H0 (some (vI r)) M1) 0 0 (gA B) := by
  refine Met.ofW (cc := cX14_empty) (maxL := 3) (ret := (some .int)) (by decide) rfl ?_
  intro p e s m args below meth c s₁ Bd hml hv
  obtain ⟨rfl, hW, hKK, hFs⟩ := hv
  have X : gX p s m _ meth c D cy B (gSt Z B H0) RX14 cX14_empty wsX14_empty 3 := ⟨Bd.exec, Bd.bytes, atoms_spec (ws := wsX14_empty) Bd.pre, findClass_of_methodNamed Bd.named, hml, hKK, by rw [hW.1]; exact hW.2.1, Bd.notSynchronized, hFs⟩
  have hr := Bd.returns
  have hl := lv_entry ([.ref x0, .int x1]) (n := 3) (Nat.le_of_ble_eq_true rfl)
  show W p l e rX14_empty s m _ below meth c s.heap [] 0 0 _ (entryFrame m ([.ref x0, .int x1] : List Value).toArray 3)
  rw [lg_entry_eq]
  generalize (lg_sl ([.ref x0, .int x1]) ++ List.replicate (3 - (lg_sl ([.ref x0, .int x1])).length) Slot.unset).toArray = ls at hl ⊢
  have hl : lv_has ls 3 (List.map gq [(0, vR (some x0)), (1, vI x1)]) := hl
  exact t_X14_empty_0 X hr _ _ _ _ hf rfl s.heap [] ls hW va_S.rf (lv_has_sub hl (lvsub_of _ _ [0, 1] rfl))
/-! ## TideLotsModel.advise(II)I -/
theorem dX14_advise_0 : decode cX14_advise 0 = .ok (.aload_n 0, 1) := by decide +kernel
theorem dX14_advise_1 : decode cX14_advise 1 = .ok (.iconst 0, 1) := by decide +kernel
theorem dX14_advise_2 : decode cX14_advise 2 = .ok (.putfield 57, 3) := by decide +kernel
theorem dX14_advise_5 : decode cX14_advise 5 = .ok (.aload_n 0, 1) := by decide +kernel
theorem dX14_advise_6 : decode cX14_advise 6 = .ok (.iload_n 1, 1) := by decide +kernel
theorem dX14_advise_7 : decode cX14_advise 7 = .ok (.invokevirtual 329, 3) := by decide +kernel
theorem dX14_advise_10 : decode cX14_advise 10 = .ok (.ifCond .ne 9, 3) := by decide +kernel
theorem dX14_advise_13 : decode cX14_advise 13 = .ok (.aload_n 0, 1) := by decide +kernel
theorem dX14_advise_14 : decode cX14_advise 14 = .ok (.iconst 1, 1) := by decide +kernel
theorem dX14_advise_15 : decode cX14_advise 15 = .ok (.invokevirtual 276, 3) := by decide +kernel
theorem dX14_advise_18 : decode cX14_advise 18 = .ok (.ireturn, 1) := by decide +kernel
theorem dX14_advise_19 : decode cX14_advise 19 = .ok (.iload_n 2, 1) := by decide +kernel
theorem dX14_advise_20 : decode cX14_advise 20 = .ok (.iconst 1, 1) := by decide +kernel
theorem dX14_advise_21 : decode cX14_advise 21 = .ok (.bipush 40, 2) := by decide +kernel
theorem dX14_advise_23 : decode cX14_advise 23 = .ok (.invokestatic 63, 3) := by decide +kernel
theorem dX14_advise_26 : decode cX14_advise 26 = .ok (.ifCond .ne 9, 3) := by decide +kernel
theorem dX14_advise_29 : decode cX14_advise 29 = .ok (.aload_n 0, 1) := by decide +kernel
theorem dX14_advise_30 : decode cX14_advise 30 = .ok (.iconst 2, 1) := by decide +kernel
theorem dX14_advise_31 : decode cX14_advise 31 = .ok (.invokevirtual 276, 3) := by decide +kernel
theorem dX14_advise_34 : decode cX14_advise 34 = .ok (.ireturn, 1) := by decide +kernel
theorem dX14_advise_35 : decode cX14_advise 35 = .ok (.iconst 0, 1) := by decide +kernel
theorem dX14_advise_36 : decode cX14_advise 36 = .ok (.istore_n 3, 1) := by decide +kernel
theorem dX14_advise_37 : decode cX14_advise 37 = .ok (.iconst 0, 1) := by decide +kernel
theorem dX14_advise_38 : decode cX14_advise 38 = .ok (.istore 4, 2) := by decide +kernel
theorem dX14_advise_40 : decode cX14_advise 40 = .ok (.iconst 1, 1) := by decide +kernel
theorem dX14_advise_41 : decode cX14_advise 41 = .ok (.istore 5, 2) := by decide +kernel
theorem dX14_advise_43 : decode cX14_advise 43 = .ok (.iload 5, 2) := by decide +kernel
theorem dX14_advise_45 : decode cX14_advise 45 = .ok (.iconst 5, 1) := by decide +kernel
theorem dX14_advise_46 : decode cX14_advise 46 = .ok (.if_icmp .gt 49, 3) := by decide +kernel
theorem dX14_advise_49 : decode cX14_advise 49 = .ok (.aload_n 0, 1) := by decide +kernel
theorem dX14_advise_50 : decode cX14_advise 50 = .ok (.iload_n 1, 1) := by decide +kernel
theorem dX14_advise_51 : decode cX14_advise 51 = .ok (.iload_n 2, 1) := by decide +kernel
theorem dX14_advise_52 : decode cX14_advise 52 = .ok (.aload_n 0, 1) := by decide +kernel
theorem dX14_advise_53 : decode cX14_advise 53 = .ok (.getfield 47, 3) := by decide +kernel
theorem dX14_advise_56 : decode cX14_advise 56 = .ok (.getfield 293, 3) := by decide +kernel
theorem dX14_advise_59 : decode cX14_advise 59 = .ok (.iload_n 1, 1) := by decide +kernel
theorem dX14_advise_60 : decode cX14_advise 60 = .ok (.iaload, 1) := by decide +kernel
theorem dX14_advise_61 : decode cX14_advise 61 = .ok (.iload 5, 2) := by decide +kernel
theorem dX14_advise_63 : decode cX14_advise 63 = .ok (.invokevirtual 369, 3) := by decide +kernel
theorem dX14_advise_66 : decode cX14_advise 66 = .ok (.istore 6, 2) := by decide +kernel
theorem dX14_advise_68 : decode cX14_advise 68 = .ok (.iload_n 3, 1) := by decide +kernel
theorem dX14_advise_69 : decode cX14_advise 69 = .ok (.ifCond .le 13, 3) := by decide +kernel
theorem dX14_advise_72 : decode cX14_advise 72 = .ok (.iload 6, 2) := by decide +kernel
theorem dX14_advise_74 : decode cX14_advise 74 = .ok (.iload 4, 2) := by decide +kernel
theorem dX14_advise_76 : decode cX14_advise 76 = .ok (.if_icmp .gt 6, 3) := by decide +kernel
theorem dX14_advise_79 : decode cX14_advise 79 = .ok (.goto 10, 3) := by decide +kernel
theorem dX14_advise_82 : decode cX14_advise 82 = .ok (.iload 5, 2) := by decide +kernel
theorem dX14_advise_84 : decode cX14_advise 84 = .ok (.istore_n 3, 1) := by decide +kernel
theorem dX14_advise_85 : decode cX14_advise 85 = .ok (.iload 6, 2) := by decide +kernel
theorem dX14_advise_87 : decode cX14_advise 87 = .ok (.istore 4, 2) := by decide +kernel
theorem dX14_advise_89 : decode cX14_advise 89 = .ok (.iinc 5 1, 3) := by decide +kernel
theorem dX14_advise_92 : decode cX14_advise 92 = .ok (.goto (-49), 3) := by decide +kernel
theorem dX14_advise_95 : decode cX14_advise 95 = .ok (.iload_n 3, 1) := by decide +kernel
theorem dX14_advise_96 : decode cX14_advise 96 = .ok (.ireturn, 1) := by decide +kernel
set_option maxRecDepth 20000 in
theorem ggX14_advise_X14_storeAs : GoodIn wsX14_advise wsX14_storeAs := goodIn_r _ [19, 20, 2, 21, 22, 23, 24, 25, 26, 27, 28, 29, 30, 31, 32, 33, 34, 35, 36, 37, 38, 39, 40, 41, 42, 43, 44, 45, 46, 47, 48, 49, 50, 51, 52, 53, 54, 55, 56, 57, 58, 59, 60, 61, 62, 63, 64, 65, 66, 67, 68, 69, 70, 71, 72, 73, 6, 74, 9, 10, 11, 75, 76, 77, 78, 79, 80, 81, 82, 83, 84, 85, 86, 87, 88, 89, 90, 91, 92, 93, 94, 95, 96, 97, 98, 99, 100, 101, 102, 103, 104, 105, 106, 107, 108, 109, 110, 111, 112, 113, 114, 115, 116, 117, 118, 119, 120, 121, 122, 123, 124, 125, 126, 127, 128, 129, 130, 131, 132, 133, 134, 135, 136, 137, 138, 139, 140, 141, 142, 143, 144, 145, 146, 147, 148, 149, 150, 151, 152, 153, 154, 155, 156, 157, 158, 159, 160, 161, 162, 163, 164, 165, 166, 167, 168] (by decide +kernel) (by decide +kernel)
set_option maxRecDepth 20000 in
theorem gX14_advise_X14_storeAs : GoodIn wsX14_advise (wsV RX14 369 RX14 yX14_storeAs wsX14_storeAs) := goodIn_app (goodIn_of _ (by decide +kernel)) ggX14_advise_X14_storeAs
set_option maxRecDepth 20000 in
theorem ggX14_advise_X14_isFisher : GoodIn wsX14_advise wsX14_isFisher := goodIn_r _ [7, 8, 9, 10, 6, 11, 110, 111, 112, 113, 114, 115, 116, 117, 118, 119, 120, 121, 122, 123, 124, 144, 145, 146, 147, 148, 149, 150, 151, 152, 153, 154, 155, 156, 157, 158, 159, 160, 161, 162, 163, 164, 165, 166, 167, 168] (by decide +kernel) (by decide +kernel)
set_option maxRecDepth 20000 in
theorem gX14_advise_X14_isFisher : GoodIn wsX14_advise (wsV RX14 329 RX14 yX14_isFisher wsX14_isFisher) := goodIn_app (goodIn_of _ (by decide +kernel)) ggX14_advise_X14_isFisher
set_option maxRecDepth 20000 in
theorem ggX14_advise_X14_isIn : GoodIn wsX14_advise wsX14_isIn := goodIn_r _ [11] (by decide +kernel) (by decide +kernel)
set_option maxRecDepth 20000 in
theorem gX14_advise_X14_isIn : GoodIn wsX14_advise (va_wsS RX14 63 yX14_isIn wsX14_isIn) := goodIn_app (goodIn_of _ (by decide +kernel)) ggX14_advise_X14_isIn
set_option maxRecDepth 20000 in
theorem ggX14_advise_X14_no : GoodIn wsX14_advise wsX14_no := goodIn_r _ [15, 1, 110, 111, 112, 113, 114, 115, 116, 117, 118, 119, 120, 121, 122, 123, 124] (by decide +kernel) (by decide +kernel)
set_option maxRecDepth 20000 in
theorem gX14_advise_X14_no : GoodIn wsX14_advise (wsV RX14 276 RX14 yX14_no wsX14_no) := goodIn_app (goodIn_of _ (by decide +kernel)) ggX14_advise_X14_no
theorem k_X14_advise_f47 : Cond.fieldLink RX14 47 "TideLotsModel" "s" "LTideLotsModel$State;" ∈ wsX14_advise := by decide +kernel
theorem i_X14_advise_X14 : ∀ w ∈ u_ws RX14 TX14 15, w ∈ wsX14_advise := by decide +kernel
theorem i_X14_advise_X12 : ∀ w ∈ u_ws RX12 TX12 19, w ∈ wsX14_advise := by decide +kernel
theorem k_X14_advise_f57 : Cond.fieldLink RX14 57 "TideLotsModel" "thrown" "I" ∈ wsX14_advise := by decide +kernel
abbrev rX14_advise : Room := { frames := 8, cells := 0, slots := 0, locals := 186 }
noncomputable def b_X14_advise_89 (M : gMem) (x0 : Nat) (x1 : Int32) (x2 : Int32) (x3 : Int32) (x4 : Int32) (x5 : Int32) : Option ((gMem × Int32 × Int32 × Int32) ⊕ (Int32 × gMem)) :=
  some (.inl (M, x3, x4, (x5 + (1 : Int32))))
noncomputable def b_X14_advise_82 (M : gMem) (x0 : Nat) (x1 : Int32) (x2 : Int32) (x5 : Int32) (x6 : Int32) : Option ((gMem × Int32 × Int32 × Int32) ⊕ (Int32 × gMem)) :=
  b_X14_advise_89 M x0 x1 x2 x5 x6 x5
noncomputable def bb_X14_advise_43 (M : gMem) (x0 : Nat) (x1 : Int32) (x2 : Int32) (x3 : Int32) (x4 : Int32) (x5 : Int32) : Option ((gMem × Int32 × Int32 × Int32) ⊕ (Int32 × gMem)) :=
  (if (5 : Int32) < x5 then oI (some (x3, M)) else ck (mT M x0 = 13) <| dr ((mR M x0 13)) fun a3 => ck (mT M a3 = 11) <| dr ((mR M a3 10)) fun a5 => ck (mT M a5 = 20) <| ck (inb x1 (mL M a5)) <| bd (f_X14_storeAs M x0 x1 x2 ((mI M a5 x1.toNatClampNeg)) x5) fun r8 M8 => (if x3 ≤ 0 then b_X14_advise_82 M8 x0 x1 x2 x5 r8 else (if x4 < r8 then b_X14_advise_82 M8 x0 x1 x2 x5 r8 else b_X14_advise_89 M8 x0 x1 x2 x3 x4 x5)))
noncomputable def lp_X14_advise_43 (M : gMem) (x0 : Nat) (x1 : Int32) (x2 : Int32) (x3 : Int32) (x4 : Int32) (x5 : Int32) : Option (Int32 × gMem) :=
  lp (fun (q : gMem × Int32 × Int32 × Int32) => bb_X14_advise_43 q.1 x0 x1 x2 q.2.1 q.2.2.1 q.2.2.2) (M, x3, x4, x5)
noncomputable def b_X14_advise_0 (M : gMem) (x0 : Nat) (x1 : Int32) (x2 : Int32) : Option (Int32 × gMem) :=
  ck (mT M x0 = 13) <| lw (wI M x0 0 ((0 : Int32))) fun M10 => bd (f_X14_isFisher M10 x0 x1) fun r12 M12 => (if r12 = 0 then ck (mT M12 x0 = 13) <| bd (f_X14_no M12 x0 ((1 : Int32))) fun r16 M16 => some (r16, M16) else bd (f_X14_isIn M12 x2 ((1 : Int32)) ((40 : Int32))) fun r13 M13 => (if r13 = 0 then ck (mT M13 x0 = 13) <| bd (f_X14_no M13 x0 ((2 : Int32))) fun r14 M14 => some (r14, M14) else lp_X14_advise_43 M13 x0 x1 x2 ((0 : Int32)) ((0 : Int32)) ((1 : Int32))))
noncomputable def f_X14_advise (M : gMem) (x0 : Nat) (x1 : Int32) (x2 : Int32) : Option (Int32 × gMem) :=
  b_X14_advise_0 M x0 x1 x2
set_option maxHeartbeats 4000000 in
set_option maxRecDepth 100000 in
theorem t_X14_advise_89 (X : gX p s m args meth c D cy B (gSt Z B H0) RX14 cX14_advise wsX14_advise 7) (hr : meth.sig.returnType = (some .int)) {Q : State → Prop} : ∀ (M : gMem) (x0 : Nat) (x1 : Int32) (x2 : Int32) (x3 : Int32) (x4 : Int32) (x5 : Int32) (z : (gMem × Int32 × Int32 × Int32) ⊕ (Int32 × gMem)), b_X14_advise_89 M x0 x1 x2 x3 x4 x5 = some z → (Sum.elim (fun (q : gMem × Int32 × Int32 × Int32) => gGo p l e rX14_advise s m args below meth c D cy B H0 7 0 0 Q 43 [(0, vR (some x0)), (1, vI x1), (2, vI x2), (3, vI q.2.1), (4, vI q.2.2.1), (5, vI q.2.2.2)] [] q.1) (fun (r : Int32 × gMem) => Q = gMQ below D cy B H0 args s 0 0 (some (vI r.1)) r.2)) z → gGo p l e rX14_advise s m args below meth c D cy B H0 7 0 0 Q 89 [(0, vR (some x0)), (1, vI x1), (2, vI x2), (3, vI x3), (4, vI x4), (5, vI x5)] [] M := by
  intro M x0 x1 x2 x3 x4 x5 z hf hK
  unfold b_X14_advise_89 at hf
  refine g_iinc (v := (1 : Int32)) (lv' := [(5, vI (x5 + (1 : Int32))), (0, vR (some x0)), (1, vI x1), (2, vI x2), (3, vI x3), (4, vI x4)]) X dX14_advise_89 rfl (by decide) (by decide) rfl ?_
  refine g_goto (tgt := 43) X dX14_advise_92 (by decide) ?_
  cases hf
  refine g_sub (lvsub_of _ _ [1, 2, 3, 4, 5, 0] rfl) ?_
  exact hK
set_option maxHeartbeats 4000000 in
set_option maxRecDepth 100000 in
theorem t_X14_advise_82 (X : gX p s m args meth c D cy B (gSt Z B H0) RX14 cX14_advise wsX14_advise 7) (hr : meth.sig.returnType = (some .int)) {Q : State → Prop} : ∀ (M : gMem) (x0 : Nat) (x1 : Int32) (x2 : Int32) (x5 : Int32) (x6 : Int32) (z : (gMem × Int32 × Int32 × Int32) ⊕ (Int32 × gMem)), b_X14_advise_82 M x0 x1 x2 x5 x6 = some z → (Sum.elim (fun (q : gMem × Int32 × Int32 × Int32) => gGo p l e rX14_advise s m args below meth c D cy B H0 7 0 0 Q 43 [(0, vR (some x0)), (1, vI x1), (2, vI x2), (3, vI q.2.1), (4, vI q.2.2.1), (5, vI q.2.2.2)] [] q.1) (fun (r : Int32 × gMem) => Q = gMQ below D cy B H0 args s 0 0 (some (vI r.1)) r.2)) z → gGo p l e rX14_advise s m args below meth c D cy B H0 7 0 0 Q 82 [(0, vR (some x0)), (1, vI x1), (2, vI x2), (5, vI x5), (6, vI x6)] [] M := by
  intro M x0 x1 x2 x5 x6 z hf hK
  unfold b_X14_advise_82 at hf
  refine g_iload X dX14_advise_82 rfl ?_
  refine g_istore_n (lv' := [(3, vI x5), (0, vR (some x0)), (1, vI x1), (2, vI x2), (5, vI x5), (6, vI x6)]) X dX14_advise_84 rfl (by decide) rfl ?_
  refine g_iload X dX14_advise_85 rfl ?_
  refine g_istore (lv' := [(4, vI x6), (3, vI x5), (0, vR (some x0)), (1, vI x1), (2, vI x2), (5, vI x5), (6, vI x6)]) X dX14_advise_87 (by decide) rfl ?_
  refine g_sub (lvsub_of _ _ [2, 3, 4, 1, 0, 5] rfl) ?_
  exact t_X14_advise_89 X hr _ _ _ _ _ _ _ _ hf hK
set_option maxHeartbeats 4000000 in
set_option maxRecDepth 100000 in
theorem tb_X14_advise_43 (X : gX p s m args meth c D cy B (gSt Z B H0) RX14 cX14_advise wsX14_advise 7) (hr : meth.sig.returnType = (some .int)) {Q : State → Prop} : ∀ (M : gMem) (x0 : Nat) (x1 : Int32) (x2 : Int32) (x3 : Int32) (x4 : Int32) (x5 : Int32) (z : (gMem × Int32 × Int32 × Int32) ⊕ (Int32 × gMem)), bb_X14_advise_43 M x0 x1 x2 x3 x4 x5 = some z → (Sum.elim (fun (q : gMem × Int32 × Int32 × Int32) => gGo p l e rX14_advise s m args below meth c D cy B H0 7 0 0 Q 43 [(0, vR (some x0)), (1, vI x1), (2, vI x2), (3, vI q.2.1), (4, vI q.2.2.1), (5, vI q.2.2.2)] [] q.1) (fun (r : Int32 × gMem) => Q = gMQ below D cy B H0 args s 0 0 (some (vI r.1)) r.2)) z → gGo p l e rX14_advise s m args below meth c D cy B H0 7 0 0 Q 43 [(0, vR (some x0)), (1, vI x1), (2, vI x2), (3, vI x3), (4, vI x4), (5, vI x5)] [] M := by
  intro M x0 x1 x2 x3 x4 x5 z hf hK
  unfold bb_X14_advise_43 at hf
  refine g_iload X dX14_advise_43 rfl ?_
  refine g_iconst (v := (5 : Int32)) X dX14_advise_45 (by decide) ?_
  refine g_icmp_gt (tgt := 95) X dX14_advise_46 (by decide) (fun hc => ?_) (fun hc => ?_)
  · have hf := ife_t hc hf
    refine g_iload_n X dX14_advise_95 rfl rfl ?_
    obtain ⟨w1, hw1, hz1⟩ := oI_e hf
    subst hz1
    have hf := hw1
    cases hf
    refine g_eqQ hK ?_
    exact g_iret X hr dX14_advise_96
  · have hf := ife_f hc hf
    refine g_aload_n X dX14_advise_49 rfl rfl ?_
    refine g_iload_n X dX14_advise_50 rfl rfl ?_
    refine g_iload_n X dX14_advise_51 rfl rfl ?_
    refine g_aload_n X dX14_advise_52 rfl rfl ?_
    obtain ⟨hT2, hf⟩ := ck_e hf
    refine g_get (ci := 12) (v := vR (mR M x0 13)) 13 X cdX14 i_X14_advise_X14 (by decide) k_X14_advise_f47 rfl dX14_advise_53 rfl hT2 rfl ?_
    obtain ⟨a3, ha3, hf⟩ := dr_e hf
    obtain ⟨hT4, hf⟩ := ck_e hf
    refine g_getN (ci := 10) (w := vR (mR M a3 10)) 10 X cdX12 i_X14_advise_X12 (by decide) (gNw X _ kn_X14_293) rfl dX14_advise_56 ha3 hT4 rfl ?_
    refine g_iload_n X dX14_advise_59 rfl rfl ?_
    obtain ⟨a5, ha5, hf⟩ := dr_e hf
    obtain ⟨hT6, hf⟩ := ck_e hf
    obtain ⟨hg7, hf⟩ := ck_e hf
    refine g_iald X dX14_advise_60 ha5 hT6 hg7 ?_
    refine g_iload X dX14_advise_61 rfl ?_
    obtain ⟨r8, M8, hq8, hf⟩ := bd_e hf
    refine g_callV (ci := 12) (b := x0) (As := [vI x1, vI x2, vI (mI M a5 x1.toNatClampNeg), vI x5]) (st := []) (v := some (vI r8)) (M1 := M8) X (m_X14_storeAs l hq8) (cwV 4 X.2.2.1 gX14_advise_X14_storeAs rfl rfl rfl (by decide +kernel) ⟨Nat.le_of_ble_eq_true rfl, Nat.le_of_ble_eq_true rfl⟩) rfl rfl rfl hT2 (by decide) rfl (Nat.le_of_ble_eq_true rfl) dX14_advise_63 ⟨by decide, by decide⟩ ?_
    refine g_istore (lv' := [(6, vI r8), (0, vR (some x0)), (1, vI x1), (2, vI x2), (3, vI x3), (4, vI x4), (5, vI x5)]) X dX14_advise_66 (by decide) rfl ?_
    refine g_iload_n X dX14_advise_68 rfl rfl ?_
    refine g_if_le (tgt := 82) X dX14_advise_69 (by decide) (fun hc => ?_) (fun hc => ?_)
    · have hf := ife_t hc hf
      refine g_sub (lvsub_of _ _ [1, 2, 3, 6, 0] rfl) ?_
      exact t_X14_advise_82 X hr _ _ _ _ _ _ _ hf hK
    · have hf := ife_f hc hf
      refine g_iload X dX14_advise_72 rfl ?_
      refine g_iload X dX14_advise_74 rfl ?_
      refine g_icmp_gt (tgt := 82) X dX14_advise_76 (by decide) (fun hc => ?_) (fun hc => ?_)
      · have hf := ife_t hc hf
        refine g_sub (lvsub_of _ _ [1, 2, 3, 6, 0] rfl) ?_
        exact t_X14_advise_82 X hr _ _ _ _ _ _ _ hf hK
      · have hf := ife_f hc hf
        refine g_goto (tgt := 89) X dX14_advise_79 (by decide) ?_
        refine g_sub (lvsub_of _ _ [1, 2, 3, 4, 5, 6] rfl) ?_
        exact t_X14_advise_89 X hr _ _ _ _ _ _ _ _ hf hK
set_option maxHeartbeats 4000000 in
set_option maxRecDepth 100000 in
theorem tl_X14_advise_43 (X : gX p s m args meth c D cy B (gSt Z B H0) RX14 cX14_advise wsX14_advise 7) (hr : meth.sig.returnType = (some .int)) {Q : State → Prop} : ∀ (M : gMem) (x0 : Nat) (x1 : Int32) (x2 : Int32) (x3 : Int32) (x4 : Int32) (x5 : Int32) (z : Int32 × gMem), lp_X14_advise_43 M x0 x1 x2 x3 x4 x5 = some z → (fun (r : Int32 × gMem) => Q = gMQ below D cy B H0 args s 0 0 (some (vI r.1)) r.2) z → gGo p l e rX14_advise s m args below meth c D cy B H0 7 0 0 Q 43 [(0, vR (some x0)), (1, vI x1), (2, vI x2), (3, vI x3), (4, vI x4), (5, vI x5)] [] M := by
  intro M x0 x1 x2 x3 x4 x5 z hf hK
  refine lp_ind (P := (fun (q : gMem × Int32 × Int32 × Int32) (z : Int32 × gMem) => (fun (r : Int32 × gMem) => Q = gMQ below D cy B H0 args s 0 0 (some (vI r.1)) r.2) z → gGo p l e rX14_advise s m args below meth c D cy B H0 7 0 0 Q 43 [(0, vR (some x0)), (1, vI x1), (2, vI x2), (3, vI q.2.1), (4, vI q.2.2.1), (5, vI q.2.2.2)] [] q.1)) (fun q z hq => ?_) _ _ hf hK
  intro hK
  obtain ⟨w, hw, hm⟩ := hq
  refine tb_X14_advise_43 X hr _ _ _ _ _ _ _ w hw ?_
  cases w with
  | inl a => exact hm hK
  | inr b => cases hm; exact hK
set_option maxHeartbeats 4000000 in
set_option maxRecDepth 100000 in
theorem t_X14_advise_0 (X : gX p s m args meth c D cy B (gSt Z B H0) RX14 cX14_advise wsX14_advise 7) (hr : meth.sig.returnType = (some .int)) {Q : State → Prop} : ∀ (M : gMem) (x0 : Nat) (x1 : Int32) (x2 : Int32) (z : Int32 × gMem), b_X14_advise_0 M x0 x1 x2 = some z → (fun (r : Int32 × gMem) => Q = gMQ below D cy B H0 args s 0 0 (some (vI r.1)) r.2) z → gGo p l e rX14_advise s m args below meth c D cy B H0 7 0 0 Q 0 [(0, vR (some x0)), (1, vI x1), (2, vI x2)] [] M := by
  intro M x0 x1 x2 z hf hK
  unfold b_X14_advise_0 at hf
  refine g_aload_n X dX14_advise_0 rfl rfl ?_
  refine g_iconst (v := (0 : Int32)) X dX14_advise_1 (by decide) ?_
  obtain ⟨hT9, hf⟩ := ck_e hf
  refine g_putI (ci := 12) 0 X cdX14 i_X14_advise_X14 (by decide) k_X14_advise_f57 rfl dX14_advise_2 rfl hT9 (Or.inl rfl) rfl rfl rfl ?_
  obtain ⟨M10, hM10, hf⟩ := lw_e hf
  rw [← hM10]
  have hT11 : mT M10 x0 = 13 := by rw [hM10]; exact hT9
  refine g_aload_n X dX14_advise_5 rfl rfl ?_
  refine g_iload_n X dX14_advise_6 rfl rfl ?_
  obtain ⟨r12, M12, hq12, hf⟩ := bd_e hf
  refine g_callV (ci := 12) (b := x0) (As := [vI x1]) (st := []) (v := some (vI r12)) (M1 := M12) X (m_X14_isFisher l hq12) (cwV 1 X.2.2.1 gX14_advise_X14_isFisher rfl rfl rfl (by decide +kernel) ⟨Nat.le_of_ble_eq_true rfl, Nat.le_of_ble_eq_true rfl⟩) rfl rfl rfl hT11 (by decide) rfl (Nat.le_of_ble_eq_true rfl) dX14_advise_7 ⟨by decide, by decide⟩ ?_
  refine g_if_ne (tgt := 19) X dX14_advise_10 (by decide) (fun hc => ?_) (fun hc => ?_)
  · have hf := ife_f hc hf
    refine g_iload_n X dX14_advise_19 rfl rfl ?_
    refine g_iconst (v := (1 : Int32)) X dX14_advise_20 (by decide) ?_
    refine g_bipush (v := (40 : Int32)) X dX14_advise_21 (by decide) ?_
    obtain ⟨r13, M13, hq13, hf⟩ := bd_e hf
    refine g_callS (As := [vI x2, vI (1 : Int32), vI (40 : Int32)]) (st := []) (v := some (vI r13)) (M1 := M13) X (m_X14_isIn l hq13) (va_cwS 3 X.2.2.1 gX14_advise_X14_isIn rfl rfl rfl (by decide +kernel) ⟨Nat.le_of_ble_eq_true rfl, Nat.le_of_ble_eq_true rfl⟩) rfl rfl (Nat.le_of_ble_eq_true rfl) dX14_advise_23 ⟨by decide, by decide⟩ ?_
    refine g_if_ne (tgt := 35) X dX14_advise_26 (by decide) (fun hc => ?_) (fun hc => ?_)
    · have hf := ife_f hc hf
      refine g_iconst (v := (0 : Int32)) X dX14_advise_35 (by decide) ?_
      refine g_istore_n (lv' := [(3, vI (0 : Int32)), (0, vR (some x0)), (1, vI x1), (2, vI x2)]) X dX14_advise_36 rfl (by decide) rfl ?_
      refine g_iconst (v := (0 : Int32)) X dX14_advise_37 (by decide) ?_
      refine g_istore (lv' := [(4, vI (0 : Int32)), (3, vI (0 : Int32)), (0, vR (some x0)), (1, vI x1), (2, vI x2)]) X dX14_advise_38 (by decide) rfl ?_
      refine g_iconst (v := (1 : Int32)) X dX14_advise_40 (by decide) ?_
      refine g_istore (lv' := [(5, vI (1 : Int32)), (4, vI (0 : Int32)), (3, vI (0 : Int32)), (0, vR (some x0)), (1, vI x1), (2, vI x2)]) X dX14_advise_41 (by decide) rfl ?_
      refine g_sub (lvsub_of _ _ [3, 4, 5, 2, 1, 0] rfl) ?_
      exact tl_X14_advise_43 X hr _ _ _ _ _ _ _ _ hf hK
    · have hf := ife_t hc hf
      refine g_aload_n X dX14_advise_29 rfl rfl ?_
      refine g_iconst (v := (2 : Int32)) X dX14_advise_30 (by decide) ?_
      obtain ⟨hT15, hf⟩ := ck_e hf
      obtain ⟨r14, M14, hq14, hf⟩ := bd_e hf
      refine g_callV (ci := 12) (b := x0) (As := [vI (2 : Int32)]) (st := []) (v := some (vI r14)) (M1 := M14) X (m_X14_no l hq14) (cwV 1 X.2.2.1 gX14_advise_X14_no rfl rfl rfl (by decide +kernel) ⟨Nat.le_of_ble_eq_true rfl, Nat.le_of_ble_eq_true rfl⟩) rfl rfl rfl hT15 (by decide) rfl (Nat.le_of_ble_eq_true rfl) dX14_advise_31 ⟨by decide, by decide⟩ ?_
      cases hf
      refine g_eqQ hK ?_
      exact g_iret X hr dX14_advise_34
  · have hf := ife_t hc hf
    refine g_aload_n X dX14_advise_13 rfl rfl ?_
    refine g_iconst (v := (1 : Int32)) X dX14_advise_14 (by decide) ?_
    obtain ⟨hT17, hf⟩ := ck_e hf
    obtain ⟨r16, M16, hq16, hf⟩ := bd_e hf
    refine g_callV (ci := 12) (b := x0) (As := [vI (1 : Int32)]) (st := []) (v := some (vI r16)) (M1 := M16) X (m_X14_no l hq16) (cwV 1 X.2.2.1 gX14_advise_X14_no rfl rfl rfl (by decide +kernel) ⟨Nat.le_of_ble_eq_true rfl, Nat.le_of_ble_eq_true rfl⟩) rfl rfl rfl hT17 (by decide) rfl (Nat.le_of_ble_eq_true rfl) dX14_advise_15 ⟨by decide, by decide⟩ ?_
    cases hf
    refine g_eqQ hK ?_
    exact g_iret X hr dX14_advise_18
set_option maxHeartbeats 4000000 in
set_option maxRecDepth 100000 in
theorem m_X14_advise (l : Launch) {D : va_G} {cy : Nat → ClassId} {B : Nat} {H0 : Heap} {Z : Nat → Nat} {M M1 : gMem} {x0 : Nat} {x1 : Int32} {x2 : Int32} {r : Int32} (hf : f_X14_advise M x0 x1 x2 = some (r, M1)) : Met l yX14_advise wsX14_advise rX14_advise (va_Pc (Value.ref x0 :: List.map gv [vI x1, vI x2]) (gPre D cy B H0 (gSt Z B H0) M)) (gQ D cy B H0 (some (vI r)) M1) 0 0 (gA B) := by
  refine Met.ofW (cc := cX14_advise) (maxL := 7) (ret := (some .int)) (by decide) rfl ?_
  intro p e s m args below meth c s₁ Bd hml hv
  obtain ⟨rfl, hW, hKK, hFs⟩ := hv
  have X : gX p s m _ meth c D cy B (gSt Z B H0) RX14 cX14_advise wsX14_advise 7 := ⟨Bd.exec, Bd.bytes, atoms_spec (ws := wsX14_advise) Bd.pre, findClass_of_methodNamed Bd.named, hml, hKK, by rw [hW.1]; exact hW.2.1, Bd.notSynchronized, hFs⟩
  have hr := Bd.returns
  have hl := lv_entry ([.ref x0, .int x1, .int x2]) (n := 7) (Nat.le_of_ble_eq_true rfl)
  show W p l e rX14_advise s m _ below meth c s.heap [] 0 0 _ (entryFrame m ([.ref x0, .int x1, .int x2] : List Value).toArray 7)
  rw [lg_entry_eq]
  generalize (lg_sl ([.ref x0, .int x1, .int x2]) ++ List.replicate (7 - (lg_sl ([.ref x0, .int x1, .int x2])).length) Slot.unset).toArray = ls at hl ⊢
  have hl : lv_has ls 7 (List.map gq [(0, vR (some x0)), (1, vI x1), (2, vI x2)]) := hl
  exact t_X14_advise_0 X hr _ _ _ _ _ hf rfl s.heap [] ls hW va_S.rf (lv_has_sub hl (lvsub_of _ _ [0, 1, 2] rfl))
end
