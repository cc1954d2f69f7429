section
variable {p : Program} {l : Launch} {e : Env} {s : State} {m : MethodId} {args : Array Value} {below : List Frame} {meth : Method} {c : Code} {D : va_G} {cy : Nat → ClassId} {B : Nat} {H0 : Heap} {Z : Nat → Nat}
/-! ## TideLotsModel.trim(I)I -/
theorem dX14_trim_0 : decode cX14_trim 0 = .ok (.aload_n 0, 1) := by decide +kernel
theorem dX14_trim_1 : decode cX14_trim 1 = .ok (.iconst 0, 1) := by decide +kernel
theorem dX14_trim_2 : decode cX14_trim 2 = .ok (.putfield 57, 3) := by decide +kernel
theorem dX14_trim_5 : decode cX14_trim 5 = .ok (.iload_n 1, 1) := by decide +kernel
theorem dX14_trim_6 : decode cX14_trim 6 = .ok (.iconst 0, 1) := by decide +kernel
theorem dX14_trim_7 : decode cX14_trim 7 = .ok (.aload_n 0, 1) := by decide +kernel
theorem dX14_trim_8 : decode cX14_trim 8 = .ok (.getfield 79, 3) := by decide +kernel
theorem dX14_trim_11 : decode cX14_trim 11 = .ok (.invokestatic 63, 3) := by decide +kernel
theorem dX14_trim_14 : decode cX14_trim 14 = .ok (.ifCond .ne 9, 3) := by decide +kernel
theorem dX14_trim_17 : decode cX14_trim 17 = .ok (.aload_n 0, 1) := by decide +kernel
theorem dX14_trim_18 : decode cX14_trim 18 = .ok (.iconst 1, 1) := by decide +kernel
theorem dX14_trim_19 : decode cX14_trim 19 = .ok (.invokevirtual 276, 3) := by decide +kernel
theorem dX14_trim_22 : decode cX14_trim 22 = .ok (.ireturn, 1) := by decide +kernel
theorem dX14_trim_23 : decode cX14_trim 23 = .ok (.aload_n 0, 1) := by decide +kernel
theorem dX14_trim_24 : decode cX14_trim 24 = .ok (.iload_n 1, 1) := by decide +kernel
theorem dX14_trim_25 : decode cX14_trim 25 = .ok (.putfield 79, 3) := by decide +kernel
theorem dX14_trim_28 : decode cX14_trim 28 = .ok (.iload_n 1, 1) := by decide +kernel
theorem dX14_trim_29 : decode cX14_trim 29 = .ok (.ireturn, 1) := by decide +kernel
set_option maxRecDepth 20000 in
theorem ggX14_trim_X14_isIn : GoodIn wsX14_trim wsX14_isIn := goodIn_r _ [6] (by decide +kernel) (by decide +kernel)
set_option maxRecDepth 20000 in
theorem gX14_trim_X14_isIn : GoodIn wsX14_trim (va_wsS RX14 63 yX14_isIn wsX14_isIn) := goodIn_app (goodIn_of _ (by decide +kernel)) ggX14_trim_X14_isIn
set_option maxRecDepth 20000 in
theorem ggX14_trim_X14_no : GoodIn wsX14_trim wsX14_no := goodIn_r _ [10, 1, 11, 12, 13, 14, 15, 16, 17, 18, 19, 20, 21, 22, 23, 24, 25] (by decide +kernel) (by decide +kernel)
set_option maxRecDepth 20000 in
theorem gX14_trim_X14_no : GoodIn wsX14_trim (wsV RX14 276 RX14 yX14_no wsX14_no) := goodIn_app (goodIn_of _ (by decide +kernel)) ggX14_trim_X14_no
theorem k_X14_trim_f57 : Cond.fieldLink RX14 57 "TideLotsModel" "thrown" "I" ∈ wsX14_trim := by decide +kernel
theorem i_X14_trim_X14 : ∀ w ∈ u_ws RX14 TX14 15, w ∈ wsX14_trim := by decide +kernel
theorem k_X14_trim_f79 : Cond.fieldLink RX14 79 "TideLotsModel" "size" "I" ∈ wsX14_trim := by decide +kernel
abbrev rX14_trim : Room := { frames := 1, cells := 0, slots := 0, locals := 22 }
noncomputable def b_X14_trim_0 (M : gMem) (x0 : Nat) (x1 : Int32) : Option (Int32 × gMem) :=
  ck (mT M x0 = 13) <| lw (wI M x0 0 ((0 : Int32))) fun M2 => bd (f_X14_isIn M2 x1 ((0 : Int32)) ((mI M2 x0 2))) fun r4 M4 => (if r4 = 0 then ck (mT M4 x0 = 13) <| bd (f_X14_no M4 x0 ((1 : Int32))) fun r8 M8 => some (r8, M8) else ck (mT M4 x0 = 13) <| lw (wI M4 x0 2 x1) fun M6 => some (x1, M6))
noncomputable def f_X14_trim (M : gMem) (x0 : Nat) (x1 : Int32) : Option (Int32 × gMem) :=
  b_X14_trim_0 M x0 x1
set_option maxHeartbeats 4000000 in
set_option maxRecDepth 100000 in
theorem t_X14_trim_0 (X : gX p s m args meth c D cy B (gSt Z B H0) RX14 cX14_trim wsX14_trim 2) (hr : meth.sig.returnType = (some .int)) {Q : State → Prop} : ∀ (M : gMem) (x0 : Nat) (x1 : Int32) (z : Int32 × gMem), b_X14_trim_0 M x0 x1 = some z → (fun (r : Int32 × gMem) => Q = gMQ below D cy B H0 args s 0 0 (some (vI r.1)) r.2) z → gGo p l e rX14_trim s m args below meth c D cy B H0 2 0 0 Q 0 [(0, vR (some x0)), (1, vI x1)] [] M := by
  intro M x0 x1 z hf hK
  unfold b_X14_trim_0 at hf
  refine g_aload_n X dX14_trim_0 rfl rfl ?_
  refine g_iconst (v := (0 : Int32)) X dX14_trim_1 (by decide) ?_
  obtain ⟨hT1, hf⟩ := ck_e hf
  refine g_putI (ci := 12) 0 X cdX14 i_X14_trim_X14 (by decide) k_X14_trim_f57 rfl dX14_trim_2 rfl hT1 (Or.inl rfl) rfl rfl rfl ?_
  obtain ⟨M2, hM2, hf⟩ := lw_e hf
  rw [← hM2]
  have hT3 : mT M2 x0 = 13 := by rw [hM2]; exact hT1
  refine g_iload_n X dX14_trim_5 rfl rfl ?_
  refine g_iconst (v := (0 : Int32)) X dX14_trim_6 (by decide) ?_
  refine g_aload_n X dX14_trim_7 rfl rfl ?_
  refine g_get (ci := 12) (v := vI (mI M2 x0 2)) 2 X cdX14 i_X14_trim_X14 (by decide) k_X14_trim_f79 rfl dX14_trim_8 rfl hT3 rfl ?_
  obtain ⟨r4, M4, hq4, hf⟩ := bd_e hf
  refine g_callS (As := [vI x1, vI (0 : Int32), vI (mI M2 x0 2)]) (st := []) (v := some (vI r4)) (M1 := M4) X (m_X14_isIn l hq4) (va_cwS 3 X.2.2.1 gX14_trim_X14_isIn rfl rfl rfl (by decide +kernel) ⟨Nat.le_of_ble_eq_true rfl, Nat.le_of_ble_eq_true rfl⟩) rfl rfl (Nat.le_of_ble_eq_true rfl) dX14_trim_11 ⟨by decide, by decide⟩ ?_
  refine g_if_ne (tgt := 23) X dX14_trim_14 (by decide) (fun hc => ?_) (fun hc => ?_)
  · have hf := ife_f hc hf
    refine g_aload_n X dX14_trim_23 rfl rfl ?_
    refine g_iload_n X dX14_trim_24 rfl rfl ?_
    obtain ⟨hT5, hf⟩ := ck_e hf
    refine g_putI (ci := 12) 2 X cdX14 i_X14_trim_X14 (by decide) k_X14_trim_f79 rfl dX14_trim_25 rfl hT5 (Or.inl rfl) rfl rfl rfl ?_
    obtain ⟨M6, hM6, hf⟩ := lw_e hf
    rw [← hM6]
    have hT7 : mT M6 x0 = 13 := by rw [hM6]; exact hT5
    refine g_iload_n X dX14_trim_28 rfl rfl ?_
    cases hf
    refine g_eqQ hK ?_
    exact g_iret X hr dX14_trim_29
  · have hf := ife_t hc hf
    refine g_aload_n X dX14_trim_17 rfl rfl ?_
    refine g_iconst (v := (1 : Int32)) X dX14_trim_18 (by decide) ?_
    obtain ⟨hT9, hf⟩ := ck_e hf
    obtain ⟨r8, M8, hq8, hf⟩ := bd_e hf
    refine g_callV (ci := 12) (b := x0) (As := [vI (1 : Int32)]) (st := []) (v := some (vI r8)) (M1 := M8) X (m_X14_no l hq8) (cwV 1 X.2.2.1 gX14_trim_X14_no rfl rfl rfl (by decide +kernel) ⟨Nat.le_of_ble_eq_true rfl, Nat.le_of_ble_eq_true rfl⟩) rfl rfl rfl hT9 (by decide) rfl (Nat.le_of_ble_eq_true rfl) dX14_trim_19 ⟨by decide, by decide⟩ ?_
    cases hf
    refine g_eqQ hK ?_
    exact g_iret X hr dX14_trim_22
set_option maxHeartbeats 4000000 in
set_option maxRecDepth 100000 in
theorem m_X14_trim (l : Launch) {D : va_G} {cy : Nat → ClassId} {B : Nat} {H0 : Heap} {Z : Nat → Nat} {M M1 : gMem} {x0 : Nat} {x1 : Int32} {r : Int32} (hf : f_X14_trim M x0 x1 = some (r, M1)) : Met l yX14_trim wsX14_trim rX14_trim (va_Pc (Value.ref x0 :: List.map gv [vI x1]) (gPre D cy B H0 (gSt Z B H0) M)) (gQ D cy B H0 (some (vI r)) M1) 0 0 (gA B) := by
  refine Met.ofW (cc := cX14_trim) (maxL := 2) (ret := (some .int)) (by decide) rfl ?_
  intro p e s m args below meth c s₁ Bd hml hv
  obtain ⟨rfl, hW, hKK, hFs⟩ := hv
  have X : gX p s m _ meth c D cy B (gSt Z B H0) RX14 cX14_trim wsX14_trim 2 := ⟨Bd.exec, Bd.bytes, atoms_spec (ws := wsX14_trim) Bd.pre, findClass_of_methodNamed Bd.named, hml, hKK, by rw [hW.1]; exact hW.2.1, Bd.notSynchronized, hFs⟩
  have hr := Bd.returns
  have hl := lv_entry ([.ref x0, .int x1]) (n := 2) (Nat.le_of_ble_eq_true rfl)
  show W p l e rX14_trim s m _ below meth c s.heap [] 0 0 _ (entryFrame m ([.ref x0, .int x1] : List Value).toArray 2)
  rw [lg_entry_eq]
  generalize (lg_sl ([.ref x0, .int x1]) ++ List.replicate (2 - (lg_sl ([.ref x0, .int x1])).length) Slot.unset).toArray = ls at hl ⊢
  have hl : lv_has ls 2 (List.map gq [(0, vR (some x0)), (1, vI x1)]) := hl
  exact t_X14_trim_0 X hr _ _ _ _ hf rfl s.heap [] ls hW va_S.rf (lv_has_sub hl (lvsub_of _ _ [0, 1] rfl))
/-! ## TideLotsModel.errorAt()I -/
theorem dX14_errorAt_0 : decode cX14_errorAt 0 = .ok (.aload_n 0, 1) := by decide +kernel
theorem dX14_errorAt_1 : decode cX14_errorAt 1 = .ok (.iconst 0, 1) := by decide +kernel
theorem dX14_errorAt_2 : decode cX14_errorAt 2 = .ok (.putfield 57, 3) := by decide +kernel
theorem dX14_errorAt_5 : decode cX14_errorAt 5 = .ok (.aload_n 0, 1) := by decide +kernel
theorem dX14_errorAt_6 : decode cX14_errorAt 6 = .ok (.getfield 13, 3) := by decide +kernel
theorem dX14_errorAt_9 : decode cX14_errorAt 9 = .ok (.ireturn, 1) := by decide +kernel
theorem k_X14_errorAt_f57 : Cond.fieldLink RX14 57 "TideLotsModel" "thrown" "I" ∈ wsX14_errorAt := by decide +kernel
theorem i_X14_errorAt_X14 : ∀ w ∈ u_ws RX14 TX14 15, w ∈ wsX14_errorAt := by decide +kernel
theorem k_X14_errorAt_f13 : Cond.fieldLink RX14 13 "TideLotsModel" "errorAt" "I" ∈ wsX14_errorAt := by decide +kernel
abbrev rX14_errorAt : Room := { frames := 0, cells := 0, slots := 0, locals := 0 }
noncomputable def b_X14_errorAt_0 (M : gMem) (x0 : Nat) : Option (Int32 × gMem) :=
  ck (mT M x0 = 13) <| lw (wI M x0 0 ((0 : Int32))) fun M2 => some ((mI M2 x0 3), M2)
noncomputable def f_X14_errorAt (M : gMem) (x0 : Nat) : Option (Int32 × gMem) :=
  b_X14_errorAt_0 M x0
set_option maxHeartbeats 4000000 in
set_option maxRecDepth 100000 in
theorem t_X14_errorAt_0 (X : gX p s m args meth c D cy B (gSt Z B H0) RX14 cX14_errorAt wsX14_errorAt 1) (hr : meth.sig.returnType = (some .int)) {Q : State → Prop} : ∀ (M : gMem) (x0 : Nat) (z : Int32 × gMem), b_X14_errorAt_0 M x0 = some z → (fun (r : Int32 × gMem) => Q = gMQ below D cy B H0 args s 0 0 (some (vI r.1)) r.2) z → gGo p l e rX14_errorAt s m args below meth c D cy B H0 1 0 0 Q 0 [(0, vR (some x0))] [] M := by
  intro M x0 z hf hK
  unfold b_X14_errorAt_0 at hf
  refine g_aload_n X dX14_errorAt_0 rfl rfl ?_
  refine g_iconst (v := (0 : Int32)) X dX14_errorAt_1 (by decide) ?_
  obtain ⟨hT1, hf⟩ := ck_e hf
  refine g_putI (ci := 12) 0 X cdX14 i_X14_errorAt_X14 (by decide) k_X14_errorAt_f57 rfl dX14_errorAt_2 rfl hT1 (Or.inl rfl) rfl rfl rfl ?_
  obtain ⟨M2, hM2, hf⟩ := lw_e hf
  rw [← hM2]
  have hT3 : mT M2 x0 = 13 := by rw [hM2]; exact hT1
  refine g_aload_n X dX14_errorAt_5 rfl rfl ?_
  refine g_get (ci := 12) (v := vI (mI M2 x0 3)) 3 X cdX14 i_X14_errorAt_X14 (by decide) k_X14_errorAt_f13 rfl dX14_errorAt_6 rfl hT3 rfl ?_
  cases hf
  refine g_eqQ hK ?_
  exact g_iret X hr dX14_errorAt_9
set_option maxHeartbeats 4000000 in
set_option maxRecDepth 100000 in
theorem m_X14_errorAt (l : Launch) {D : va_G} {cy : Nat → ClassId} {B : Nat} {H0 : Heap} {Z : Nat → Nat} {M M1 : gMem} {x0 : Nat} {r : Int32} (hf : f_X14_errorAt M x0 = some (r, M1)) : Met l yX14_errorAt wsX14_errorAt rX14_errorAt (va_Pc (Value.ref x0 :: List.map gv []) (gPre D cy B H0 (gSt Z B H0) M)) (gQ D cy B H0 (some (vI r)) M1) 0 0 (gA B) := by
  refine Met.ofW (cc := cX14_errorAt) (maxL := 1) (ret := (some .int)) (by decide) rfl ?_
  intro p e s m args below meth c s₁ Bd hml hv
  obtain ⟨rfl, hW, hKK, hFs⟩ := hv
  have X : gX p s m _ meth c D cy B (gSt Z B H0) RX14 cX14_errorAt wsX14_errorAt 1 := ⟨Bd.exec, Bd.bytes, atoms_spec (ws := wsX14_errorAt) Bd.pre, findClass_of_methodNamed Bd.named, hml, hKK, by rw [hW.1]; exact hW.2.1, Bd.notSynchronized, hFs⟩
  have hr := Bd.returns
  have hl := lv_entry ([.ref x0]) (n := 1) (Nat.le_of_ble_eq_true rfl)
  show W p l e rX14_errorAt s m _ below meth c s.heap [] 0 0 _ (entryFrame m ([.ref x0] : List Value).toArray 1)
  rw [lg_entry_eq]
  generalize (lg_sl ([.ref x0]) ++ List.replicate (1 - (lg_sl ([.ref x0])).length) Slot.unset).toArray = ls at hl ⊢
  have hl : lv_has ls 1 (List.map gq [(0, vR (some x0))]) := hl
  exact t_X14_errorAt_0 X hr _ _ _ hf rfl s.heap [] ls hW va_S.rf (lv_has_sub hl (lvsub_of _ _ [0] rfl))
/-! ## TideLotsModel.takenAt(I)I -/
theorem dX14_takenAt_0 : decode cX14_takenAt 0 = .ok (.iconst 0, 1) := by decide +kernel
theorem dX14_takenAt_1 : decode cX14_takenAt 1 = .ok (.istore_n 2, 1) := by decide +kernel
theorem dX14_takenAt_2 : decode cX14_takenAt 2 = .ok (.iconst 0, 1) := by decide +kernel
theorem dX14_takenAt_3 : decode cX14_takenAt 3 = .ok (.istore_n 3, 1) := by decide +kernel
theorem dX14_takenAt_4 : decode cX14_takenAt 4 = .ok (.iload_n 3, 1) := by decide +kernel
theorem dX14_takenAt_5 : decode cX14_takenAt 5 = .ok (.aload_n 0, 1) := by decide +kernel
theorem dX14_takenAt_6 : decode cX14_takenAt 6 = .ok (.getfield 35, 3) := by decide +kernel
theorem dX14_takenAt_9 : decode cX14_takenAt 9 = .ok (.getfield 67, 3) := by decide +kernel
theorem dX14_takenAt_12 : decode cX14_takenAt 12 = .ok (.if_icmp .ge 26, 3) := by decide +kernel
theorem dX14_takenAt_15 : decode cX14_takenAt 15 = .ok (.iload_n 2, 1) := by decide +kernel
theorem dX14_takenAt_16 : decode cX14_takenAt 16 = .ok (.aload_n 0, 1) := by decide +kernel
theorem dX14_takenAt_17 : decode cX14_takenAt 17 = .ok (.getfield 47, 3) := by decide +kernel
theorem dX14_takenAt_20 : decode cX14_takenAt 20 = .ok (.getfield 299, 3) := by decide +kernel
theorem dX14_takenAt_23 : decode cX14_takenAt 23 = .ok (.bipush 8, 2) := by decide +kernel
theorem dX14_takenAt_25 : decode cX14_takenAt 25 = .ok (.iload_n 1, 1) := by decide +kernel
theorem dX14_takenAt_26 : decode cX14_takenAt 26 = .ok (.imul, 1) := by decide +kernel
theorem dX14_takenAt_27 : decode cX14_takenAt 27 = .ok (.iload_n 3, 1) := by decide +kernel
theorem dX14_takenAt_28 : decode cX14_takenAt 28 = .ok (.iadd, 1) := by decide +kernel
theorem dX14_takenAt_29 : decode cX14_takenAt 29 = .ok (.iaload, 1) := by decide +kernel
theorem dX14_takenAt_30 : decode cX14_takenAt 30 = .ok (.iadd, 1) := by decide +kernel
theorem dX14_takenAt_31 : decode cX14_takenAt 31 = .ok (.istore_n 2, 1) := by decide +kernel
theorem dX14_takenAt_32 : decode cX14_takenAt 32 = .ok (.iinc 3 1, 3) := by decide +kernel
theorem dX14_takenAt_35 : decode cX14_takenAt 35 = .ok (.goto (-31), 3) := by decide +kernel
theorem dX14_takenAt_38 : decode cX14_takenAt 38 = .ok (.iload_n 2, 1) := by decide +kernel
theorem dX14_takenAt_39 : decode cX14_takenAt 39 = .ok (.ireturn, 1) := by decide +kernel
theorem k_X14_takenAt_f35 : Cond.fieldLink RX14 35 "TideLotsModel" "told" "LTideLotsModel$Told;" ∈ wsX14_takenAt := by decide +kernel
theorem i_X14_takenAt_X14 : ∀ w ∈ u_ws RX14 TX14 15, w ∈ wsX14_takenAt := by decide +kernel
theorem i_X14_takenAt_X13 : ∀ w ∈ u_ws RX13 TX13 25, w ∈ wsX14_takenAt := by decide +kernel
theorem k_X14_takenAt_f47 : Cond.fieldLink RX14 47 "TideLotsModel" "s" "LTideLotsModel$State;" ∈ wsX14_takenAt := by decide +kernel
theorem kn_X14_299 : Cond.fieldLinkNest "TideLotsModel" (299 : Nat) "TideLotsModel$State" "took" "[I" "TideLotsModel" ∈ gNs := by decide +kernel
theorem i_X14_takenAt_X12 : ∀ w ∈ u_ws RX12 TX12 19, w ∈ wsX14_takenAt := by decide +kernel
abbrev rX14_takenAt : Room := { frames := 0, cells := 0, slots := 0, locals := 0 }
noncomputable def bb_X14_takenAt_4 (M : gMem) (x0 : Nat) (x1 : Int32) (x2 : Int32) (x3 : Int32) : Option ((gMem × Int32 × Int32) ⊕ (Int32 × gMem)) :=
  ck (mT M x0 = 13) <| dr ((mR M x0 11)) fun a2 => ck (mT M a2 = 12) <| (if (mI M a2 4) ≤ x3 then oI (some (x2, M)) else dr ((mR M x0 13)) fun a5 => ck (mT M a5 = 11) <| dr ((mR M a5 4)) fun a7 => ck (mT M a7 = 20) <| ck (inb (((8 : Int32) * x1) + x3) (mL M a7)) <| some (.inl (M, (x2 + (mI M a7 ((((8 : Int32) * x1) + x3)).toNatClampNeg)), (x3 + (1 : Int32)))))
noncomputable def lp_X14_takenAt_4 (M : gMem) (x0 : Nat) (x1 : Int32) (x2 : Int32) (x3 : Int32) : Option (Int32 × gMem) :=
  lp (fun (q : gMem × Int32 × Int32) => bb_X14_takenAt_4 q.1 x0 x1 q.2.1 q.2.2) (M, x2, x3)
noncomputable def b_X14_takenAt_0 (M : gMem) (x0 : Nat) (x1 : Int32) : Option (Int32 × gMem) :=
  lp_X14_takenAt_4 M x0 x1 ((0 : Int32)) ((0 : Int32))
noncomputable def f_X14_takenAt (M : gMem) (x0 : Nat) (x1 : Int32) : Option (Int32 × gMem) :=
  b_X14_takenAt_0 M x0 x1
set_option maxHeartbeats 4000000 in
set_option maxRecDepth 100000 in
theorem tb_X14_takenAt_4 (X : gX p s m args meth c D cy B (gSt Z B H0) RX14 cX14_takenAt wsX14_takenAt 4) (hr : meth.sig.returnType = (some .int)) {Q : State → Prop} : ∀ (M : gMem) (x0 : Nat) (x1 : Int32) (x2 : Int32) (x3 : Int32) (z : (gMem × Int32 × Int32) ⊕ (Int32 × gMem)), bb_X14_takenAt_4 M x0 x1 x2 x3 = some z → (Sum.elim (fun (q : gMem × Int32 × Int32) => gGo p l e rX14_takenAt s m args below meth c D cy B H0 4 0 0 Q 4 [(0, vR (some x0)), (1, vI x1), (2, vI q.2.1), (3, vI q.2.2)] [] q.1) (fun (r : Int32 × gMem) => Q = gMQ below D cy B H0 args s 0 0 (some (vI r.1)) r.2)) z → gGo p l e rX14_takenAt s m args below meth c D cy B H0 4 0 0 Q 4 [(0, vR (some x0)), (1, vI x1), (2, vI x2), (3, vI x3)] [] M := by
  intro M x0 x1 x2 x3 z hf hK
  unfold bb_X14_takenAt_4 at hf
  refine g_iload_n X dX14_takenAt_4 rfl rfl ?_
  refine g_aload_n X dX14_takenAt_5 rfl rfl ?_
  obtain ⟨hT1, hf⟩ := ck_e hf
  refine g_get (ci := 12) (v := vR (mR M x0 11)) 11 X cdX14 i_X14_takenAt_X14 (by decide) k_X14_takenAt_f35 rfl dX14_takenAt_6 rfl hT1 rfl ?_
  obtain ⟨a2, ha2, hf⟩ := dr_e hf
  obtain ⟨hT3, hf⟩ := ck_e hf
  refine g_getN (ci := 11) (w := vI (mI M a2 4)) 4 X cdX13 i_X14_takenAt_X13 (by decide) (gNw X _ kn_X14_67) rfl dX14_takenAt_9 ha2 hT3 rfl ?_
  refine g_icmp_ge (tgt := 38) X dX14_takenAt_12 (by decide) (fun hc => ?_) (fun hc => ?_)
  · have hf := ife_t hc hf
    refine g_iload_n X dX14_takenAt_38 rfl rfl ?_
    obtain ⟨w4, hw4, hz4⟩ := oI_e hf
    subst hz4
    have hf := hw4
    cases hf
    refine g_eqQ hK ?_
    exact g_iret X hr dX14_takenAt_39
  · have hf := ife_f hc hf
    refine g_iload_n X dX14_takenAt_15 rfl rfl ?_
    refine g_aload_n X dX14_takenAt_16 rfl rfl ?_
    refine g_get (ci := 12) (v := vR (mR M x0 13)) 13 X cdX14 i_X14_takenAt_X14 (by decide) k_X14_takenAt_f47 rfl dX14_takenAt_17 rfl hT1 rfl ?_
    obtain ⟨a5, ha5, hf⟩ := dr_e hf
    obtain ⟨hT6, hf⟩ := ck_e hf
    refine g_getN (ci := 10) (w := vR (mR M a5 4)) 4 X cdX12 i_X14_takenAt_X12 (by decide) (gNw X _ kn_X14_299) rfl dX14_takenAt_20 ha5 hT6 rfl ?_
    refine g_bipush (v := (8 : Int32)) X dX14_takenAt_23 (by decide) ?_
    refine g_iload_n X dX14_takenAt_25 rfl rfl ?_
    refine g_imul X dX14_takenAt_26 ?_
    refine g_iload_n X dX14_takenAt_27 rfl rfl ?_
    refine g_iadd X dX14_takenAt_28 ?_
    obtain ⟨a7, ha7, hf⟩ := dr_e hf
    obtain ⟨hT8, hf⟩ := ck_e hf
    obtain ⟨hg9, hf⟩ := ck_e hf
    refine g_iald X dX14_takenAt_29 ha7 hT8 hg9 ?_
    refine g_iadd X dX14_takenAt_30 ?_
    refine g_istore_n (lv' := [(2, vI (x2 + (mI M a7 ((((8 : Int32) * x1) + x3)).toNatClampNeg))), (0, vR (some x0)), (1, vI x1), (3, vI x3)]) X dX14_takenAt_31 rfl (by decide) rfl ?_
    refine g_iinc (v := (1 : Int32)) (lv' := [(3, vI (x3 + (1 : Int32))), (2, vI (x2 + (mI M a7 ((((8 : Int32) * x1) + x3)).toNatClampNeg))), (0, vR (some x0)), (1, vI x1)]) X dX14_takenAt_32 rfl (by decide) (by decide) rfl ?_
    refine g_goto (tgt := 4) X dX14_takenAt_35 (by decide) ?_
    cases hf
    refine g_sub (lvsub_of _ _ [2, 3, 1, 0] rfl) ?_
    exact hK
set_option maxHeartbeats 4000000 in
set_option maxRecDepth 100000 in
theorem tl_X14_takenAt_4 (X : gX p s m args meth c D cy B (gSt Z B H0) RX14 cX14_takenAt wsX14_takenAt 4) (hr : meth.sig.returnType = (some .int)) {Q : State → Prop} : ∀ (M : gMem) (x0 : Nat) (x1 : Int32) (x2 : Int32) (x3 : Int32) (z : Int32 × gMem), lp_X14_takenAt_4 M x0 x1 x2 x3 = some z → (fun (r : Int32 × gMem) => Q = gMQ below D cy B H0 args s 0 0 (some (vI r.1)) r.2) z → gGo p l e rX14_takenAt s m args below meth c D cy B H0 4 0 0 Q 4 [(0, vR (some x0)), (1, vI x1), (2, vI x2), (3, vI x3)] [] M := by
  intro M x0 x1 x2 x3 z hf hK
  refine lp_ind (P := (fun (q : gMem × Int32 × Int32) (z : Int32 × gMem) => (fun (r : Int32 × gMem) => Q = gMQ below D cy B H0 args s 0 0 (some (vI r.1)) r.2) z → gGo p l e rX14_takenAt s m args below meth c D cy B H0 4 0 0 Q 4 [(0, vR (some x0)), (1, vI x1), (2, vI q.2.1), (3, vI q.2.2)] [] q.1)) (fun q z hq => ?_) _ _ hf hK
  intro hK
  obtain ⟨w, hw, hm⟩ := hq
  refine tb_X14_takenAt_4 X hr _ _ _ _ _ w hw ?_
  cases w with
  | inl a => exact hm hK
  | inr b => cases hm; exact hK
set_option maxHeartbeats 4000000 in
set_option maxRecDepth 100000 in
theorem t_X14_takenAt_0 (X : gX p s m args meth c D cy B (gSt Z B H0) RX14 cX14_takenAt wsX14_takenAt 4) (hr : meth.sig.returnType = (some .int)) {Q : State → Prop} : ∀ (M : gMem) (x0 : Nat) (x1 : Int32) (z : Int32 × gMem), b_X14_takenAt_0 M x0 x1 = some z → (fun (r : Int32 × gMem) => Q = gMQ below D cy B H0 args s 0 0 (some (vI r.1)) r.2) z → gGo p l e rX14_takenAt s m args below meth c D cy B H0 4 0 0 Q 0 [(0, vR (some x0)), (1, vI x1)] [] M := by
  intro M x0 x1 z hf hK
  unfold b_X14_takenAt_0 at hf
  refine g_iconst (v := (0 : Int32)) X dX14_takenAt_0 (by decide) ?_
  refine g_istore_n (lv' := [(2, vI (0 : Int32)), (0, vR (some x0)), (1, vI x1)]) X dX14_takenAt_1 rfl (by decide) rfl ?_
  refine g_iconst (v := (0 : Int32)) X dX14_takenAt_2 (by decide) ?_
  refine g_istore_n (lv' := [(3, vI (0 : Int32)), (2, vI (0 : Int32)), (0, vR (some x0)), (1, vI x1)]) X dX14_takenAt_3 rfl (by decide) rfl ?_
  refine g_sub (lvsub_of _ _ [2, 3, 1, 0] rfl) ?_
  exact tl_X14_takenAt_4 X hr _ _ _ _ _ _ hf hK
set_option maxHeartbeats 4000000 in
set_option maxRecDepth 100000 in
theorem m_X14_takenAt (l : Launch) {D : va_G} {cy : Nat → ClassId} {B : Nat} {H0 : Heap} {Z : Nat → Nat} {M M1 : gMem} {x0 : Nat} {x1 : Int32} {r : Int32} (hf : f_X14_takenAt M x0 x1 = some (r, M1)) : Met l yX14_takenAt wsX14_takenAt rX14_takenAt (va_Pc (Value.ref x0 :: List.map gv [vI x1]) (gPre D cy B H0 (gSt Z B H0) M)) (gQ D cy B H0 (some (vI r)) M1) 0 0 (gA B) := by
  refine Met.ofW (cc := cX14_takenAt) (maxL := 4) (ret := (some .int)) (by decide) rfl ?_
  intro p e s m args below meth c s₁ Bd hml hv
  obtain ⟨rfl, hW, hKK, hFs⟩ := hv
  have X : gX p s m _ meth c D cy B (gSt Z B H0) RX14 cX14_takenAt wsX14_takenAt 4 := ⟨Bd.exec, Bd.bytes, atoms_spec (ws := wsX14_takenAt) Bd.pre, findClass_of_methodNamed Bd.named, hml, hKK, by rw [hW.1]; exact hW.2.1, Bd.notSynchronized, hFs⟩
  have hr := Bd.returns
  have hl := lv_entry ([.ref x0, .int x1]) (n := 4) (Nat.le_of_ble_eq_true rfl)
  show W p l e rX14_takenAt s m _ below meth c s.heap [] 0 0 _ (entryFrame m ([.ref x0, .int x1] : List Value).toArray 4)
  rw [lg_entry_eq]
  generalize (lg_sl ([.ref x0, .int x1]) ++ List.replicate (4 - (lg_sl ([.ref x0, .int x1])).length) Slot.unset).toArray = ls at hl ⊢
  have hl : lv_has ls 4 (List.map gq [(0, vR (some x0)), (1, vI x1)]) := hl
  exact t_X14_takenAt_0 X hr _ _ _ _ hf rfl s.heap [] ls hW va_S.rf (lv_has_sub hl (lvsub_of _ _ [0, 1] rfl))
/-! ## TideLotsModel.takenBy(I)I -/
theorem dX14_takenBy_0 : decode cX14_takenBy 0 = .ok (.iconst 0, 1) := by decide +kernel
theorem dX14_takenBy_1 : decode cX14_takenBy 1 = .ok (.istore_n 2, 1) := by decide +kernel
theorem dX14_takenBy_2 : decode cX14_takenBy 2 = .ok (.iconst 0, 1) := by decide +kernel
theorem dX14_takenBy_3 : decode cX14_takenBy 3 = .ok (.istore_n 3, 1) := by decide +kernel
theorem dX14_takenBy_4 : decode cX14_takenBy 4 = .ok (.iload_n 3, 1) := by decide +kernel
theorem dX14_takenBy_5 : decode cX14_takenBy 5 = .ok (.aload_n 0, 1) := by decide +kernel
theorem dX14_takenBy_6 : decode cX14_takenBy 6 = .ok (.getfield 35, 3) := by decide +kernel
theorem dX14_takenBy_9 : decode cX14_takenBy 9 = .ok (.getfield 60, 3) := by decide +kernel
theorem dX14_takenBy_12 : decode cX14_takenBy 12 = .ok (.if_icmp .ge 26, 3) := by decide +kernel
theorem dX14_takenBy_15 : decode cX14_takenBy 15 = .ok (.iload_n 2, 1) := by decide +kernel
theorem dX14_takenBy_16 : decode cX14_takenBy 16 = .ok (.aload_n 0, 1) := by decide +kernel
theorem dX14_takenBy_17 : decode cX14_takenBy 17 = .ok (.getfield 47, 3) := by decide +kernel
theorem dX14_takenBy_20 : decode cX14_takenBy 20 = .ok (.getfield 299, 3) := by decide +kernel
theorem dX14_takenBy_23 : decode cX14_takenBy 23 = .ok (.bipush 8, 2) := by decide +kernel
theorem dX14_takenBy_25 : decode cX14_takenBy 25 = .ok (.iload_n 3, 1) := by decide +kernel
theorem dX14_takenBy_26 : decode cX14_takenBy 26 = .ok (.imul, 1) := by decide +kernel
theorem dX14_takenBy_27 : decode cX14_takenBy 27 = .ok (.iload_n 1, 1) := by decide +kernel
theorem dX14_takenBy_28 : decode cX14_takenBy 28 = .ok (.iadd, 1) := by decide +kernel
theorem dX14_takenBy_29 : decode cX14_takenBy 29 = .ok (.iaload, 1) := by decide +kernel
theorem dX14_takenBy_30 : decode cX14_takenBy 30 = .ok (.iadd, 1) := by decide +kernel
theorem dX14_takenBy_31 : decode cX14_takenBy 31 = .ok (.istore_n 2, 1) := by decide +kernel
theorem dX14_takenBy_32 : decode cX14_takenBy 32 = .ok (.iinc 3 1, 3) := by decide +kernel
theorem dX14_takenBy_35 : decode cX14_takenBy 35 = .ok (.goto (-31), 3) := by decide +kernel
theorem dX14_takenBy_38 : decode cX14_takenBy 38 = .ok (.iload_n 2, 1) := by decide +kernel
theorem dX14_takenBy_39 : decode cX14_takenBy 39 = .ok (.ireturn, 1) := by decide +kernel
theorem k_X14_takenBy_f35 : Cond.fieldLink RX14 35 "TideLotsModel" "told" "LTideLotsModel$Told;" ∈ wsX14_takenBy := by decide +kernel
theorem i_X14_takenBy_X14 : ∀ w ∈ u_ws RX14 TX14 15, w ∈ wsX14_takenBy := by decide +kernel
theorem i_X14_takenBy_X13 : ∀ w ∈ u_ws RX13 TX13 25, w ∈ wsX14_takenBy := by decide +kernel
theorem k_X14_takenBy_f47 : Cond.fieldLink RX14 47 "TideLotsModel" "s" "LTideLotsModel$State;" ∈ wsX14_takenBy := by decide +kernel
theorem i_X14_takenBy_X12 : ∀ w ∈ u_ws RX12 TX12 19, w ∈ wsX14_takenBy := by decide +kernel
abbrev rX14_takenBy : Room := { frames := 0, cells := 0, slots := 0, locals := 0 }
noncomputable def bb_X14_takenBy_4 (M : gMem) (x0 : Nat) (x1 : Int32) (x2 : Int32) (x3 : Int32) : Option ((gMem × Int32 × Int32) ⊕ (Int32 × gMem)) :=
  ck (mT M x0 = 13) <| dr ((mR M x0 11)) fun a2 => ck (mT M a2 = 12) <| (if (mI M a2 0) ≤ x3 then oI (some (x2, M)) else dr ((mR M x0 13)) fun a5 => ck (mT M a5 = 11) <| dr ((mR M a5 4)) fun a7 => ck (mT M a7 = 20) <| ck (inb (((8 : Int32) * x3) + x1) (mL M a7)) <| some (.inl (M, (x2 + (mI M a7 ((((8 : Int32) * x3) + x1)).toNatClampNeg)), (x3 + (1 : Int32)))))
noncomputable def lp_X14_takenBy_4 (M : gMem) (x0 : Nat) (x1 : Int32) (x2 : Int32) (x3 : Int32) : Option (Int32 × gMem) :=
  lp (fun (q : gMem × Int32 × Int32) => bb_X14_takenBy_4 q.1 x0 x1 q.2.1 q.2.2) (M, x2, x3)
noncomputable def b_X14_takenBy_0 (M : gMem) (x0 : Nat) (x1 : Int32) : Option (Int32 × gMem) :=
  lp_X14_takenBy_4 M x0 x1 ((0 : Int32)) ((0 : Int32))
noncomputable def f_X14_takenBy (M : gMem) (x0 : Nat) (x1 : Int32) : Option (Int32 × gMem) :=
  b_X14_takenBy_0 M x0 x1
set_option maxHeartbeats 4000000 in
set_option maxRecDepth 100000 in
theorem tb_X14_takenBy_4 (X : gX p s m args meth c D cy B (gSt Z B H0) RX14 cX14_takenBy wsX14_takenBy 4) (hr : meth.sig.returnType = (some .int)) {Q : State → Prop} : ∀ (M : gMem) (x0 : Nat) (x1 : Int32) (x2 : Int32) (x3 : Int32) (z : (gMem × Int32 × Int32) ⊕ (Int32 × gMem)), bb_X14_takenBy_4 M x0 x1 x2 x3 = some z → (Sum.elim (fun (q : gMem × Int32 × Int32) => gGo p l e rX14_takenBy s m args below meth c D cy B H0 4 0 0 Q 4 [(0, vR (some x0)), (1, vI x1), (2, vI q.2.1), (3, vI q.2.2)] [] q.1) (fun (r : Int32 × gMem) => Q = gMQ below D cy B H0 args s 0 0 (some (vI r.1)) r.2)) z → gGo p l e rX14_takenBy s m args below meth c D cy B H0 4 0 0 Q 4 [(0, vR (some x0)), (1, vI x1), (2, vI x2), (3, vI x3)] [] M := by
  intro M x0 x1 x2 x3 z hf hK
  unfold bb_X14_takenBy_4 at hf
  refine g_iload_n X dX14_takenBy_4 rfl rfl ?_
  refine g_aload_n X dX14_takenBy_5 rfl rfl ?_
  obtain ⟨hT1, hf⟩ := ck_e hf
  refine g_get (ci := 12) (v := vR (mR M x0 11)) 11 X cdX14 i_X14_takenBy_X14 (by decide) k_X14_takenBy_f35 rfl dX14_takenBy_6 rfl hT1 rfl ?_
  obtain ⟨a2, ha2, hf⟩ := dr_e hf
  obtain ⟨hT3, hf⟩ := ck_e hf
  refine g_getN (ci := 11) (w := vI (mI M a2 0)) 0 X cdX13 i_X14_takenBy_X13 (by decide) (gNw X _ kn_X14_60) rfl dX14_takenBy_9 ha2 hT3 rfl ?_
  refine g_icmp_ge (tgt := 38) X dX14_takenBy_12 (by decide) (fun hc => ?_) (fun hc => ?_)
  · have hf := ife_t hc hf
    refine g_iload_n X dX14_takenBy_38 rfl rfl ?_
    obtain ⟨w4, hw4, hz4⟩ := oI_e hf
    subst hz4
    have hf := hw4
    cases hf
    refine g_eqQ hK ?_
    exact g_iret X hr dX14_takenBy_39
  · have hf := ife_f hc hf
    refine g_iload_n X dX14_takenBy_15 rfl rfl ?_
    refine g_aload_n X dX14_takenBy_16 rfl rfl ?_
    refine g_get (ci := 12) (v := vR (mR M x0 13)) 13 X cdX14 i_X14_takenBy_X14 (by decide) k_X14_takenBy_f47 rfl dX14_takenBy_17 rfl hT1 rfl ?_
    obtain ⟨a5, ha5, hf⟩ := dr_e hf
    obtain ⟨hT6, hf⟩ := ck_e hf
    refine g_getN (ci := 10) (w := vR (mR M a5 4)) 4 X cdX12 i_X14_takenBy_X12 (by decide) (gNw X _ kn_X14_299) rfl dX14_takenBy_20 ha5 hT6 rfl ?_
    refine g_bipush (v := (8 : Int32)) X dX14_takenBy_23 (by decide) ?_
    refine g_iload_n X dX14_takenBy_25 rfl rfl ?_
    refine g_imul X dX14_takenBy_26 ?_
    refine g_iload_n X dX14_takenBy_27 rfl rfl ?_
    refine g_iadd X dX14_takenBy_28 ?_
    obtain ⟨a7, ha7, hf⟩ := dr_e hf
    obtain ⟨hT8, hf⟩ := ck_e hf
    obtain ⟨hg9, hf⟩ := ck_e hf
    refine g_iald X dX14_takenBy_29 ha7 hT8 hg9 ?_
    refine g_iadd X dX14_takenBy_30 ?_
    refine g_istore_n (lv' := [(2, vI (x2 + (mI M a7 ((((8 : Int32) * x3) + x1)).toNatClampNeg))), (0, vR (some x0)), (1, vI x1), (3, vI x3)]) X dX14_takenBy_31 rfl (by decide) rfl ?_
    refine g_iinc (v := (1 : Int32)) (lv' := [(3, vI (x3 + (1 : Int32))), (2, vI (x2 + (mI M a7 ((((8 : Int32) * x3) + x1)).toNatClampNeg))), (0, vR (some x0)), (1, vI x1)]) X dX14_takenBy_32 rfl (by decide) (by decide) rfl ?_
    refine g_goto (tgt := 4) X dX14_takenBy_35 (by decide) ?_
    cases hf
    refine g_sub (lvsub_of _ _ [2, 3, 1, 0] rfl) ?_
    exact hK
set_option maxHeartbeats 4000000 in
set_option maxRecDepth 100000 in
theorem tl_X14_takenBy_4 (X : gX p s m args meth c D cy B (gSt Z B H0) RX14 cX14_takenBy wsX14_takenBy 4) (hr : meth.sig.returnType = (some .int)) {Q : State → Prop} : ∀ (M : gMem) (x0 : Nat) (x1 : Int32) (x2 : Int32) (x3 : Int32) (z : Int32 × gMem), lp_X14_takenBy_4 M x0 x1 x2 x3 = some z → (fun (r : Int32 × gMem) => Q = gMQ below D cy B H0 args s 0 0 (some (vI r.1)) r.2) z → gGo p l e rX14_takenBy s m args below meth c D cy B H0 4 0 0 Q 4 [(0, vR (some x0)), (1, vI x1), (2, vI x2), (3, vI x3)] [] M := by
  intro M x0 x1 x2 x3 z hf hK
  refine lp_ind (P := (fun (q : gMem × Int32 × Int32) (z : Int32 × gMem) => (fun (r : Int32 × gMem) => Q = gMQ below D cy B H0 args s 0 0 (some (vI r.1)) r.2) z → gGo p l e rX14_takenBy s m args below meth c D cy B H0 4 0 0 Q 4 [(0, vR (some x0)), (1, vI x1), (2, vI q.2.1), (3, vI q.2.2)] [] q.1)) (fun q z hq => ?_) _ _ hf hK
  intro hK
  obtain ⟨w, hw, hm⟩ := hq
  refine tb_X14_takenBy_4 X hr _ _ _ _ _ w hw ?_
  cases w with
  | inl a => exact hm hK
  | inr b => cases hm; exact hK
set_option maxHeartbeats 4000000 in
set_option maxRecDepth 100000 in
theorem t_X14_takenBy_0 (X : gX p s m args meth c D cy B (gSt Z B H0) RX14 cX14_takenBy wsX14_takenBy 4) (hr : meth.sig.returnType = (some .int)) {Q : State → Prop} : ∀ (M : gMem) (x0 : Nat) (x1 : Int32) (z : Int32 × gMem), b_X14_takenBy_0 M x0 x1 = some z → (fun (r : Int32 × gMem) => Q = gMQ below D cy B H0 args s 0 0 (some (vI r.1)) r.2) z → gGo p l e rX14_takenBy s m args below meth c D cy B H0 4 0 0 Q 0 [(0, vR (some x0)), (1, vI x1)] [] M := by
  intro M x0 x1 z hf hK
  unfold b_X14_takenBy_0 at hf
  refine g_iconst (v := (0 : Int32)) X dX14_takenBy_0 (by decide) ?_
  refine g_istore_n (lv' := [(2, vI (0 : Int32)), (0, vR (some x0)), (1, vI x1)]) X dX14_takenBy_1 rfl (by decide) rfl ?_
  refine g_iconst (v := (0 : Int32)) X dX14_takenBy_2 (by decide) ?_
  refine g_istore_n (lv' := [(3, vI (0 : Int32)), (2, vI (0 : Int32)), (0, vR (some x0)), (1, vI x1)]) X dX14_takenBy_3 rfl (by decide) rfl ?_
  refine g_sub (lvsub_of _ _ [2, 3, 1, 0] rfl) ?_
  exact tl_X14_takenBy_4 X hr _ _ _ _ _ _ hf hK
set_option maxHeartbeats 4000000 in
set_option maxRecDepth 100000 in
theorem m_X14_takenBy (l : Launch) {D : va_G} {cy : Nat → ClassId} {B : Nat} {H0 : Heap} {Z : Nat → Nat} {M M1 : gMem} {x0 : Nat} {x1 : Int32} {r : Int32} (hf : f_X14_takenBy M x0 x1 = some (r, M1)) : Met l yX14_takenBy wsX14_takenBy rX14_takenBy (va_Pc (Value.ref x0 :: List.map gv [vI x1]) (gPre D cy B H0 (gSt Z B H0) M)) (gQ D cy B H0 (some (vI r)) M1) 0 0 (gA B) := by
  refine Met.ofW (cc := cX14_takenBy) (maxL := 4) (ret := (some .int)) (by decide) rfl ?_
  intro p e s m args below meth c s₁ Bd hml hv
  obtain ⟨rfl, hW, hKK, hFs⟩ := hv
  have X : gX p s m _ meth c D cy B (gSt Z B H0) RX14 cX14_takenBy wsX14_takenBy 4 := ⟨Bd.exec, Bd.bytes, atoms_spec (ws := wsX14_takenBy) Bd.pre, findClass_of_methodNamed Bd.named, hml, hKK, by rw [hW.1]; exact hW.2.1, Bd.notSynchronized, hFs⟩
  have hr := Bd.returns
  have hl := lv_entry ([.ref x0, .int x1]) (n := 4) (Nat.le_of_ble_eq_true rfl)
  show W p l e rX14_takenBy s m _ below meth c s.heap [] 0 0 _ (entryFrame m ([.ref x0, .int x1] : List Value).toArray 4)
  rw [lg_entry_eq]
  generalize (lg_sl ([.ref x0, .int x1]) ++ List.replicate (4 - (lg_sl ([.ref x0, .int x1])).length) Slot.unset).toArray = ls at hl ⊢
  have hl : lv_has ls 4 (List.map gq [(0, vR (some x0)), (1, vI x1)]) := hl
  exact t_X14_takenBy_0 X hr _ _ _ _ hf rfl s.heap [] ls hW va_S.rf (lv_has_sub hl (lvsub_of _ _ [0, 1] rfl))
/-! ## TideLotsModel.groundTold(II)I -/
theorem dX14_groundTold_0 : decode cX14_groundTold 0 = .ok (.iload_n 2, 1) := by decide +kernel
theorem dX14_groundTold_1 : decode cX14_groundTold 1 = .ok (.ifCond .ne 12, 3) := by decide +kernel
theorem dX14_groundTold_4 : decode cX14_groundTold 4 = .ok (.aload_n 0, 1) := by decide +kernel
theorem dX14_groundTold_5 : decode cX14_groundTold 5 = .ok (.getfield 47, 3) := by decide +kernel
theorem dX14_groundTold_8 : decode cX14_groundTold 8 = .ok (.iload_n 1, 1) := by decide +kernel
theorem dX14_groundTold_9 : decode cX14_groundTold 9 = .ok (.invokevirtual 302, 3) := by decide +kernel
theorem dX14_groundTold_12 : decode cX14_groundTold 12 = .ok (.ireturn, 1) := by decide +kernel
theorem dX14_groundTold_13 : decode cX14_groundTold 13 = .ok (.iload_n 2, 1) := by decide +kernel
theorem dX14_groundTold_14 : decode cX14_groundTold 14 = .ok (.iconst 5, 1) := by decide +kernel
theorem dX14_groundTold_15 : decode cX14_groundTold 15 = .ok (.if_icmp .gt 19, 3) := by decide +kernel
theorem dX14_groundTold_18 : decode cX14_groundTold 18 = .ok (.aload_n 0, 1) := by decide +kernel
theorem dX14_groundTold_19 : decode cX14_groundTold 19 = .ok (.getfield 47, 3) := by decide +kernel
theorem dX14_groundTold_22 : decode cX14_groundTold 22 = .ok (.getfield 286, 3) := by decide +kernel
theorem dX14_groundTold_25 : decode cX14_groundTold 25 = .ok (.iconst 5, 1) := by decide +kernel
theorem dX14_groundTold_26 : decode cX14_groundTold 26 = .ok (.iload_n 1, 1) := by decide +kernel
theorem dX14_groundTold_27 : decode cX14_groundTold 27 = .ok (.imul, 1) := by decide +kernel
theorem dX14_groundTold_28 : decode cX14_groundTold 28 = .ok (.iload_n 2, 1) := by decide +kernel
theorem dX14_groundTold_29 : decode cX14_groundTold 29 = .ok (.iadd, 1) := by decide +kernel
theorem dX14_groundTold_30 : decode cX14_groundTold 30 = .ok (.iconst 1, 1) := by decide +kernel
theorem dX14_groundTold_31 : decode cX14_groundTold 31 = .ok (.isub, 1) := by decide +kernel
theorem dX14_groundTold_32 : decode cX14_groundTold 32 = .ok (.iaload, 1) := by decide +kernel
theorem dX14_groundTold_33 : decode cX14_groundTold 33 = .ok (.ireturn, 1) := by decide +kernel
theorem dX14_groundTold_34 : decode cX14_groundTold 34 = .ok (.iload_n 2, 1) := by decide +kernel
theorem dX14_groundTold_35 : decode cX14_groundTold 35 = .ok (.bipush 6, 2) := by decide +kernel
theorem dX14_groundTold_37 : decode cX14_groundTold 37 = .ok (.if_icmp .ne 15, 3) := by decide +kernel
theorem dX14_groundTold_40 : decode cX14_groundTold 40 = .ok (.aload_n 0, 1) := by decide +kernel
theorem dX14_groundTold_41 : decode cX14_groundTold 41 = .ok (.getfield 35, 3) := by decide +kernel
theorem dX14_groundTold_44 : decode cX14_groundTold 44 = .ok (.getfield 231, 3) := by decide +kernel
theorem dX14_groundTold_47 : decode cX14_groundTold 47 = .ok (.iload_n 1, 1) := by decide +kernel
theorem dX14_groundTold_48 : decode cX14_groundTold 48 = .ok (.iaload, 1) := by decide +kernel
theorem dX14_groundTold_49 : decode cX14_groundTold 49 = .ok (.goto 26, 3) := by decide +kernel
theorem dX14_groundTold_52 : decode cX14_groundTold 52 = .ok (.iload_n 2, 1) := by decide +kernel
theorem dX14_groundTold_53 : decode cX14_groundTold 53 = .ok (.bipush 7, 2) := by decide +kernel
theorem dX14_groundTold_55 : decode cX14_groundTold 55 = .ok (.if_icmp .ne 15, 3) := by decide +kernel
theorem dX14_groundTold_58 : decode cX14_groundTold 58 = .ok (.aload_n 0, 1) := by decide +kernel
theorem dX14_groundTold_59 : decode cX14_groundTold 59 = .ok (.getfield 47, 3) := by decide +kernel
theorem dX14_groundTold_62 : decode cX14_groundTold 62 = .ok (.getfield 305, 3) := by decide +kernel
theorem dX14_groundTold_65 : decode cX14_groundTold 65 = .ok (.iload_n 1, 1) := by decide +kernel
theorem dX14_groundTold_66 : decode cX14_groundTold 66 = .ok (.iaload, 1) := by decide +kernel
theorem dX14_groundTold_67 : decode cX14_groundTold 67 = .ok (.goto 8, 3) := by decide +kernel
theorem dX14_groundTold_70 : decode cX14_groundTold 70 = .ok (.aload_n 0, 1) := by decide +kernel
theorem dX14_groundTold_71 : decode cX14_groundTold 71 = .ok (.iload_n 1, 1) := by decide +kernel
theorem dX14_groundTold_72 : decode cX14_groundTold 72 = .ok (.invokevirtual 308, 3) := by decide +kernel
theorem dX14_groundTold_75 : decode cX14_groundTold 75 = .ok (.ireturn, 1) := by decide +kernel
set_option maxRecDepth 20000 in
theorem ggX14_groundTold_X14_takenAt : GoodIn wsX14_groundTold wsX14_takenAt := goodIn_2 24 (goodIn_rr wsB_X14_groundTold_in _ [(1, 12), (1, 1), (1, 0), (2, 0), (2, 1), (2, 2), (2, 3), (2, 4), (2, 5), (2, 6), (2, 7), (2, 8), (2, 9), (2, 10), (2, 11), (2, 12), (2, 13), (2, 14), (4, 0), (4, 1), (4, 2), (4, 3), (4, 4), (4, 5)] (by decide +kernel) (by decide +kernel)) (goodIn_2 24 (goodIn_rr wsB_X14_groundTold_in _ [(4, 6), (4, 7), (4, 8), (4, 9), (4, 10), (4, 11), (4, 12), (4, 13), (4, 14), (4, 15), (4, 16), (4, 17), (4, 18), (4, 19), (4, 20), (4, 21), (4, 22), (4, 23), (4, 24), (3, 0), (3, 1), (3, 2), (3, 3), (3, 4)] (by decide +kernel) (by decide +kernel)) (goodIn_rr wsB_X14_groundTold_in _ [(3, 5), (3, 6), (3, 7), (3, 8), (3, 9), (3, 10), (3, 11), (3, 12), (3, 13), (3, 14), (3, 15), (3, 16), (3, 17), (3, 18)] (by decide +kernel) (by decide +kernel)))
set_option maxRecDepth 20000 in
theorem gX14_groundTold_X14_takenAt : GoodIn wsX14_groundTold (wsV RX14 308 RX14 yX14_takenAt wsX14_takenAt) := goodIn_app (goodIn_rr wsB_X14_groundTold_in _ [(1, 8), (1, 9), (1, 10), (1, 11)] (by decide +kernel) (by decide +kernel)) ggX14_groundTold_X14_takenAt
set_option maxRecDepth 20000 in
theorem ggX14_groundTold_X12_fishAt : GoodIn wsX14_groundTold wsX12_fishAt := goodIn_rr wsB_X14_groundTold_in _ [(1, 6), (1, 7), (3, 0), (3, 1), (3, 2), (3, 3), (3, 4), (3, 5), (3, 6), (3, 7), (3, 8), (3, 9), (3, 10), (3, 11), (3, 12), (3, 13), (3, 14), (3, 15), (3, 16), (3, 17), (3, 18)] (by decide +kernel) (by decide +kernel)
set_option maxRecDepth 20000 in
theorem gX14_groundTold_X12_fishAt : GoodIn wsX14_groundTold (wsV RX14 302 RX12 yX12_fishAt wsX12_fishAt) := goodIn_app (goodIn_rr wsB_X14_groundTold_in _ [(1, 2), (1, 3), (1, 4), (1, 5)] (by decide +kernel) (by decide +kernel)) ggX14_groundTold_X12_fishAt
theorem k_X14_groundTold_f47 : Cond.fieldLink RX14 47 "TideLotsModel" "s" "LTideLotsModel$State;" ∈ wsX14_groundTold := by decide +kernel
theorem i_X14_groundTold_X14 : ∀ w ∈ u_ws RX14 TX14 15, w ∈ wsX14_groundTold := by decide +kernel
theorem kn_X14_305 : Cond.fieldLinkNest "TideLotsModel" (305 : Nat) "TideLotsModel$State" "boats" "[I" "TideLotsModel" ∈ gNs := by decide +kernel
theorem i_X14_groundTold_X12 : ∀ w ∈ u_ws RX12 TX12 19, w ∈ wsX14_groundTold := by decide +kernel
theorem k_X14_groundTold_f35 : Cond.fieldLink RX14 35 "TideLotsModel" "told" "LTideLotsModel$Told;" ∈ wsX14_groundTold := by decide +kernel
theorem i_X14_groundTold_X13 : ∀ w ∈ u_ws RX13 TX13 25, w ∈ wsX14_groundTold := by decide +kernel
theorem kn_X14_286 : Cond.fieldLinkNest "TideLotsModel" (286 : Nat) "TideLotsModel$State" "fish" "[I" "TideLotsModel" ∈ gNs := by decide +kernel
abbrev rX14_groundTold : Room := { frames := 1, cells := 0, slots := 0, locals := 23 }
noncomputable def b_X14_groundTold_75 (M : gMem) (s0 : Int32) : Option (Int32 × gMem) :=
  some (s0, M)
noncomputable def b_X14_groundTold_0 (M : gMem) (x0 : Nat) (x1 : Int32) (x2 : Int32) : Option (Int32 × gMem) :=
  (if x2 = 0 then ck (mT M x0 = 13) <| dr ((mR M x0 13)) fun a23 => ck (mT M a23 = 11) <| bd (f_X12_fishAt M a23 x1) fun r22 M22 => some (r22, M22) else (if (5 : Int32) < x2 then (if x2 = (6 : Int32) then ck (mT M x0 = 13) <| dr ((mR M x0 11)) fun a10 => ck (mT M a10 = 12) <| dr ((mR M a10 1)) fun a12 => ck (mT M a12 = 20) <| ck (inb x1 (mL M a12)) <| b_X14_groundTold_75 M ((mI M a12 x1.toNatClampNeg)) else (if x2 = (7 : Int32) then ck (mT M x0 = 13) <| dr ((mR M x0 13)) fun a4 => ck (mT M a4 = 11) <| dr ((mR M a4 3)) fun a6 => ck (mT M a6 = 20) <| ck (inb x1 (mL M a6)) <| b_X14_groundTold_75 M ((mI M a6 x1.toNatClampNeg)) else ck (mT M x0 = 13) <| bd (f_X14_takenAt M x0 x1) fun r1 M1 => b_X14_groundTold_75 M1 r1)) else ck (mT M x0 = 13) <| dr ((mR M x0 13)) fun a16 => ck (mT M a16 = 11) <| dr ((mR M a16 2)) fun a18 => ck (mT M a18 = 20) <| ck (inb ((((5 : Int32) * x1) + x2) - (1 : Int32)) (mL M a18)) <| some ((mI M a18 (((((5 : Int32) * x1) + x2) - (1 : Int32))).toNatClampNeg), M)))
noncomputable def f_X14_groundTold (M : gMem) (x0 : Nat) (x1 : Int32) (x2 : Int32) : Option (Int32 × gMem) :=
  b_X14_groundTold_0 M x0 x1 x2
set_option maxHeartbeats 4000000 in
set_option maxRecDepth 100000 in
theorem t_X14_groundTold_75 (X : gX p s m args meth c D cy B (gSt Z B H0) RX14 cX14_groundTold wsX14_groundTold 3) (hr : meth.sig.returnType = (some .int)) {Q : State → Prop} : ∀ (M : gMem) (s0 : Int32) (z : Int32 × gMem), b_X14_groundTold_75 M s0 = some z → (fun (r : Int32 × gMem) => Q = gMQ below D cy B H0 args s 0 0 (some (vI r.1)) r.2) z → gGo p l e rX14_groundTold s m args below meth c D cy B H0 3 0 0 Q 75 [] [vI s0] M := by
  intro M s0 z hf hK
  unfold b_X14_groundTold_75 at hf
  cases hf
  refine g_eqQ hK ?_
  exact g_iret X hr dX14_groundTold_75
set_option maxHeartbeats 4000000 in
set_option maxRecDepth 100000 in
theorem t_X14_groundTold_0 (X : gX p s m args meth c D cy B (gSt Z B H0) RX14 cX14_groundTold wsX14_groundTold 3) (hr : meth.sig.returnType = (some .int)) {Q : State → Prop} : ∀ (M : gMem) (x0 : Nat) (x1 : Int32) (x2 : Int32) (z : Int32 × gMem), b_X14_groundTold_0 M x0 x1 x2 = some z → (fun (r : Int32 × gMem) => Q = gMQ below D cy B H0 args s 0 0 (some (vI r.1)) r.2) z → gGo p l e rX14_groundTold s m args below meth c D cy B H0 3 0 0 Q 0 [(0, vR (some x0)), (1, vI x1), (2, vI x2)] [] M := by
  intro M x0 x1 x2 z hf hK
  unfold b_X14_groundTold_0 at hf
  refine g_iload_n X dX14_groundTold_0 rfl rfl ?_
  refine g_if_ne (tgt := 13) X dX14_groundTold_1 (by decide) (fun hc => ?_) (fun hc => ?_)
  · have hf := ife_f hc hf
    refine g_iload_n X dX14_groundTold_13 rfl rfl ?_
    refine g_iconst (v := (5 : Int32)) X dX14_groundTold_14 (by decide) ?_
    refine g_icmp_gt (tgt := 34) X dX14_groundTold_15 (by decide) (fun hc => ?_) (fun hc => ?_)
    · have hf := ife_t hc hf
      refine g_iload_n X dX14_groundTold_34 rfl rfl ?_
      refine g_bipush (v := (6 : Int32)) X dX14_groundTold_35 (by decide) ?_
      refine g_icmp_ne (tgt := 52) X dX14_groundTold_37 (by decide) (fun hc => ?_) (fun hc => ?_)
      · have hf := ife_f hc hf
        refine g_iload_n X dX14_groundTold_52 rfl rfl ?_
        refine g_bipush (v := (7 : Int32)) X dX14_groundTold_53 (by decide) ?_
        refine g_icmp_ne (tgt := 70) X dX14_groundTold_55 (by decide) (fun hc => ?_) (fun hc => ?_)
        · have hf := ife_f hc hf
          refine g_aload_n X dX14_groundTold_70 rfl rfl ?_
          refine g_iload_n X dX14_groundTold_71 rfl rfl ?_
          obtain ⟨hT2, hf⟩ := ck_e hf
          obtain ⟨r1, M1, hq1, hf⟩ := bd_e hf
          refine g_callV (ci := 12) (b := x0) (As := [vI x1]) (st := []) (v := some (vI r1)) (M1 := M1) X (m_X14_takenAt l hq1) (cwV 1 X.2.2.1 gX14_groundTold_X14_takenAt rfl rfl rfl (by decide +kernel) ⟨Nat.le_of_ble_eq_true rfl, Nat.le_of_ble_eq_true rfl⟩) rfl rfl rfl hT2 (by decide) rfl (Nat.le_of_ble_eq_true rfl) dX14_groundTold_72 ⟨by decide, by decide⟩ ?_
          refine g_sub (lvsub_of _ _ [] rfl) ?_
          exact t_X14_groundTold_75 X hr _ _ _ hf hK
        · have hf := ife_t hc hf
          refine g_aload_n X dX14_groundTold_58 rfl rfl ?_
          obtain ⟨hT3, hf⟩ := ck_e hf
          refine g_get (ci := 12) (v := vR (mR M x0 13)) 13 X cdX14 i_X14_groundTold_X14 (by decide) k_X14_groundTold_f47 rfl dX14_groundTold_59 rfl hT3 rfl ?_
          obtain ⟨a4, ha4, hf⟩ := dr_e hf
          obtain ⟨hT5, hf⟩ := ck_e hf
          refine g_getN (ci := 10) (w := vR (mR M a4 3)) 3 X cdX12 i_X14_groundTold_X12 (by decide) (gNw X _ kn_X14_305) rfl dX14_groundTold_62 ha4 hT5 rfl ?_
          refine g_iload_n X dX14_groundTold_65 rfl rfl ?_
          obtain ⟨a6, ha6, hf⟩ := dr_e hf
          obtain ⟨hT7, hf⟩ := ck_e hf
          obtain ⟨hg8, hf⟩ := ck_e hf
          refine g_iald X dX14_groundTold_66 ha6 hT7 hg8 ?_
          refine g_goto (tgt := 75) X dX14_groundTold_67 (by decide) ?_
          refine g_sub (lvsub_of _ _ [] rfl) ?_
          exact t_X14_groundTold_75 X hr _ _ _ hf hK
      · have hf := ife_t hc hf
        refine g_aload_n X dX14_groundTold_40 rfl rfl ?_
        obtain ⟨hT9, hf⟩ := ck_e hf
        refine g_get (ci := 12) (v := vR (mR M x0 11)) 11 X cdX14 i_X14_groundTold_X14 (by decide) k_X14_groundTold_f35 rfl dX14_groundTold_41 rfl hT9 rfl ?_
        obtain ⟨a10, ha10, hf⟩ := dr_e hf
        obtain ⟨hT11, hf⟩ := ck_e hf
        refine g_getN (ci := 11) (w := vR (mR M a10 1)) 1 X cdX13 i_X14_groundTold_X13 (by decide) (gNw X _ kn_X14_231) rfl dX14_groundTold_44 ha10 hT11 rfl ?_
        refine g_iload_n X dX14_groundTold_47 rfl rfl ?_
        obtain ⟨a12, ha12, hf⟩ := dr_e hf
        obtain ⟨hT13, hf⟩ := ck_e hf
        obtain ⟨hg14, hf⟩ := ck_e hf
        refine g_iald X dX14_groundTold_48 ha12 hT13 hg14 ?_
        refine g_goto (tgt := 75) X dX14_groundTold_49 (by decide) ?_
        refine g_sub (lvsub_of _ _ [] rfl) ?_
        exact t_X14_groundTold_75 X hr _ _ _ hf hK
    · have hf := ife_f hc hf
      refine g_aload_n X dX14_groundTold_18 rfl rfl ?_
      obtain ⟨hT15, hf⟩ := ck_e hf
      refine g_get (ci := 12) (v := vR (mR M x0 13)) 13 X cdX14 i_X14_groundTold_X14 (by decide) k_X14_groundTold_f47 rfl dX14_groundTold_19 rfl hT15 rfl ?_
      obtain ⟨a16, ha16, hf⟩ := dr_e hf
      obtain ⟨hT17, hf⟩ := ck_e hf
      refine g_getN (ci := 10) (w := vR (mR M a16 2)) 2 X cdX12 i_X14_groundTold_X12 (by decide) (gNw X _ kn_X14_286) rfl dX14_groundTold_22 ha16 hT17 rfl ?_
      refine g_iconst (v := (5 : Int32)) X dX14_groundTold_25 (by decide) ?_
      refine g_iload_n X dX14_groundTold_26 rfl rfl ?_
      refine g_imul X dX14_groundTold_27 ?_
      refine g_iload_n X dX14_groundTold_28 rfl rfl ?_
      refine g_iadd X dX14_groundTold_29 ?_
      refine g_iconst (v := (1 : Int32)) X dX14_groundTold_30 (by decide) ?_
      refine g_isub X dX14_groundTold_31 ?_
      obtain ⟨a18, ha18, hf⟩ := dr_e hf
      obtain ⟨hT19, hf⟩ := ck_e hf
      obtain ⟨hg20, hf⟩ := ck_e hf
      refine g_iald X dX14_groundTold_32 ha18 hT19 hg20 ?_
      cases hf
      refine g_eqQ hK ?_
      exact g_iret X hr dX14_groundTold_33
  · have hf := ife_t hc hf
    refine g_aload_n X dX14_groundTold_4 rfl rfl ?_
    obtain ⟨hT21, hf⟩ := ck_e hf
    refine g_get (ci := 12) (v := vR (mR M x0 13)) 13 X cdX14 i_X14_groundTold_X14 (by decide) k_X14_groundTold_f47 rfl dX14_groundTold_5 rfl hT21 rfl ?_
    refine g_iload_n X dX14_groundTold_8 rfl rfl ?_
    obtain ⟨a23, ha23, hf⟩ := dr_e hf
    obtain ⟨hT24, hf⟩ := ck_e hf
    obtain ⟨r22, M22, hq22, hf⟩ := bd_e hf
    refine g_callV (ci := 10) (b := a23) (As := [vI x1]) (st := []) (v := some (vI r22)) (M1 := M22) X (m_X12_fishAt l hq22) (cwV 1 X.2.2.1 gX14_groundTold_X12_fishAt rfl rfl rfl (by decide +kernel) ⟨Nat.le_of_ble_eq_true rfl, Nat.le_of_ble_eq_true rfl⟩) rfl rfl ha23 hT24 (by decide) rfl (Nat.le_of_ble_eq_true rfl) dX14_groundTold_9 ⟨by decide, by decide⟩ ?_
    cases hf
    refine g_eqQ hK ?_
    exact g_iret X hr dX14_groundTold_12
set_option maxHeartbeats 4000000 in
set_option maxRecDepth 100000 in
theorem m_X14_groundTold (l : Launch) {D : va_G} {cy : Nat → ClassId} {B : Nat} {H0 : Heap} {Z : Nat → Nat} {M M1 : gMem} {x0 : Nat} {x1 : Int32} {x2 : Int32} {r : Int32} (hf : f_X14_groundTold M x0 x1 x2 = some (r, M1)) : Met l yX14_groundTold wsX14_groundTold rX14_groundTold (va_Pc (Value.ref x0 :: List.map gv [vI x1, vI x2]) (gPre D cy B H0 (gSt Z B H0) M)) (gQ D cy B H0 (some (vI r)) M1) 0 0 (gA B) := by
  refine Met.ofW (cc := cX14_groundTold) (maxL := 3) (ret := (some .int)) (by decide) rfl ?_
  intro p e s m args below meth c s₁ Bd hml hv
  obtain ⟨rfl, hW, hKK, hFs⟩ := hv
  have X : gX p s m _ meth c D cy B (gSt Z B H0) RX14 cX14_groundTold wsX14_groundTold 3 := ⟨Bd.exec, Bd.bytes, atoms_spec (ws := wsX14_groundTold) Bd.pre, findClass_of_methodNamed Bd.named, hml, hKK, by rw [hW.1]; exact hW.2.1, Bd.notSynchronized, hFs⟩
  have hr := Bd.returns
  have hl := lv_entry ([.ref x0, .int x1, .int x2]) (n := 3) (Nat.le_of_ble_eq_true rfl)
  show W p l e rX14_groundTold s m _ below meth c s.heap [] 0 0 _ (entryFrame m ([.ref x0, .int x1, .int x2] : List Value).toArray 3)
  rw [lg_entry_eq]
  generalize (lg_sl ([.ref x0, .int x1, .int x2]) ++ List.replicate (3 - (lg_sl ([.ref x0, .int x1, .int x2])).length) Slot.unset).toArray = ls at hl ⊢
  have hl : lv_has ls 3 (List.map gq [(0, vR (some x0)), (1, vI x1), (2, vI x2)]) := hl
  exact t_X14_groundTold_0 X hr _ _ _ _ _ hf rfl s.heap [] ls hW va_S.rf (lv_has_sub hl (lvsub_of _ _ [0, 1, 2] rfl))
/-! ## TideLotsModel.ground(II)I -/
theorem dX14_ground_0 : decode cX14_ground 0 = .ok (.aload_n 0, 1) := by decide +kernel
theorem dX14_ground_1 : decode cX14_ground 1 = .ok (.iconst 0, 1) := by decide +kernel
theorem dX14_ground_2 : decode cX14_ground 2 = .ok (.putfield 57, 3) := by decide +kernel
theorem dX14_ground_5 : decode cX14_ground 5 = .ok (.aload_n 0, 1) := by decide +kernel
theorem dX14_ground_6 : decode cX14_ground 6 = .ok (.iload_n 1, 1) := by decide +kernel
theorem dX14_ground_7 : decode cX14_ground 7 = .ok (.invokevirtual 311, 3) := by decide +kernel
theorem dX14_ground_10 : decode cX14_ground 10 = .ok (.ifCond .eq 22, 3) := by decide +kernel
theorem dX14_ground_13 : decode cX14_ground 13 = .ok (.iload_n 2, 1) := by decide +kernel
theorem dX14_ground_14 : decode cX14_ground 14 = .ok (.iconst 0, 1) := by decide +kernel
theorem dX14_ground_15 : decode cX14_ground 15 = .ok (.bipush 8, 2) := by decide +kernel
theorem dX14_ground_17 : decode cX14_ground 17 = .ok (.invokestatic 63, 3) := by decide +kernel
theorem dX14_ground_20 : decode cX14_ground 20 = .ok (.ifCond .eq 12, 3) := by decide +kernel
theorem dX14_ground_23 : decode cX14_ground 23 = .ok (.aload_n 0, 1) := by decide +kernel
theorem dX14_ground_24 : decode cX14_ground 24 = .ok (.iload_n 1, 1) := by decide +kernel
theorem dX14_ground_25 : decode cX14_ground 25 = .ok (.iload_n 2, 1) := by decide +kernel
theorem dX14_ground_26 : decode cX14_ground 26 = .ok (.invokevirtual 314, 3) := by decide +kernel
theorem dX14_ground_29 : decode cX14_ground 29 = .ok (.goto 8, 3) := by decide +kernel
theorem dX14_ground_32 : decode cX14_ground 32 = .ok (.aload_n 0, 1) := by decide +kernel
theorem dX14_ground_33 : decode cX14_ground 33 = .ok (.iconst 1, 1) := by decide +kernel
theorem dX14_ground_34 : decode cX14_ground 34 = .ok (.invokevirtual 276, 3) := by decide +kernel
theorem dX14_ground_37 : decode cX14_ground 37 = .ok (.ireturn, 1) := by decide +kernel
set_option maxRecDepth 20000 in
theorem ggX14_ground_X14_no : GoodIn wsX14_ground wsX14_no := goodIn_rr wsB_X14_ground_in _ [(2, 4), (1, 0), (3, 0), (3, 1), (3, 2), (3, 3), (3, 4), (3, 5), (3, 6), (3, 7), (3, 8), (3, 9), (3, 10), (3, 11), (3, 12), (3, 13), (3, 14)] (by decide +kernel) (by decide +kernel)
set_option maxRecDepth 20000 in
theorem gX14_ground_X14_no : GoodIn wsX14_ground (wsV RX14 276 RX14 yX14_no wsX14_no) := goodIn_app (goodIn_rr wsB_X14_ground_in _ [(2, 1), (2, 2), (2, 3), (1, 4)] (by decide +kernel) (by decide +kernel)) ggX14_ground_X14_no
set_option maxRecDepth 20000 in
theorem ggX14_ground_X14_isGround : GoodIn wsX14_ground wsX14_isGround := goodIn_2 24 (goodIn_rr wsB_X14_ground_in _ [(1, 5), (1, 6), (1, 7), (1, 8), (1, 4), (1, 9), (3, 0), (3, 1), (3, 2), (3, 3), (3, 4), (3, 5), (3, 6), (3, 7), (3, 8), (3, 9), (3, 10), (3, 11), (3, 12), (3, 13), (3, 14), (4, 0), (4, 1), (4, 2)] (by decide +kernel) (by decide +kernel)) (goodIn_rr wsB_X14_ground_in _ [(4, 3), (4, 4), (4, 5), (4, 6), (4, 7), (4, 8), (4, 9), (4, 10), (4, 11), (4, 12), (4, 13), (4, 14), (4, 15), (4, 16), (4, 17), (4, 18), (4, 19), (4, 20), (4, 21), (4, 22), (4, 23), (4, 24)] (by decide +kernel) (by decide +kernel))
set_option maxRecDepth 20000 in
theorem gX14_ground_X14_isGround : GoodIn wsX14_ground (wsV RX14 311 RX14 yX14_isGround wsX14_isGround) := goodIn_app (goodIn_rr wsB_X14_ground_in _ [(1, 1), (1, 2), (1, 3), (1, 4)] (by decide +kernel) (by decide +kernel)) ggX14_ground_X14_isGround
set_option maxRecDepth 20000 in
theorem ggX14_ground_X14_isIn : GoodIn wsX14_ground wsX14_isIn := goodIn_rr wsB_X14_ground_in _ [(1, 9)] (by decide +kernel) (by decide +kernel)
set_option maxRecDepth 20000 in
theorem gX14_ground_X14_isIn : GoodIn wsX14_ground (va_wsS RX14 63 yX14_isIn wsX14_isIn) := goodIn_app (goodIn_rr wsB_X14_ground_in _ [(1, 7), (1, 8), (1, 4)] (by decide +kernel) (by decide +kernel)) ggX14_ground_X14_isIn
set_option maxRecDepth 20000 in
theorem ggX14_ground_X14_groundTold : GoodIn wsX14_ground wsX14_groundTold := goodIn_2 24 (goodIn_rr wsB_X14_ground_in _ [(1, 13), (1, 14), (1, 6), (1, 15), (1, 16), (1, 17), (1, 18), (1, 19), (1, 20), (1, 21), (1, 22), (1, 23), (1, 4), (2, 0), (3, 0), (3, 1), (3, 2), (3, 3), (3, 4), (3, 5), (3, 6), (3, 7), (3, 8), (3, 9)] (by decide +kernel) (by decide +kernel)) (goodIn_2 24 (goodIn_rr wsB_X14_ground_in _ [(3, 10), (3, 11), (3, 12), (3, 13), (3, 14), (5, 0), (5, 1), (5, 2), (5, 3), (5, 4), (5, 5), (5, 6), (5, 7), (5, 8), (5, 9), (5, 10), (5, 11), (5, 12), (5, 13), (5, 14), (5, 15), (5, 16), (5, 17), (5, 18)] (by decide +kernel) (by decide +kernel)) (goodIn_2 24 (goodIn_rr wsB_X14_ground_in _ [(4, 0), (4, 1), (4, 2), (4, 3), (4, 4), (4, 5), (4, 6), (4, 7), (4, 8), (4, 9), (4, 10), (4, 11), (4, 12), (4, 13), (4, 14), (4, 15), (4, 16), (4, 17), (4, 18), (4, 19), (4, 20), (4, 21), (4, 22), (4, 23)] (by decide +kernel) (by decide +kernel)) (goodIn_rr wsB_X14_ground_in _ [(4, 24)] (by decide +kernel) (by decide +kernel))))
set_option maxRecDepth 20000 in
theorem gX14_ground_X14_groundTold : GoodIn wsX14_ground (wsV RX14 314 RX14 yX14_groundTold wsX14_groundTold) := goodIn_app (goodIn_rr wsB_X14_ground_in _ [(1, 10), (1, 11), (1, 12), (1, 4)] (by decide +kernel) (by decide +kernel)) ggX14_ground_X14_groundTold
theorem k_X14_ground_f57 : Cond.fieldLink RX14 57 "TideLotsModel" "thrown" "I" ∈ wsX14_ground := by decide +kernel
theorem i_X14_ground_X14 : ∀ w ∈ u_ws RX14 TX14 15, w ∈ wsX14_ground := by decide +kernel
abbrev rX14_ground : Room := { frames := 2, cells := 0, slots := 0, locals := 45 }
noncomputable def b_X14_ground_37 (M : gMem) (s0 : Int32) : Option (Int32 × gMem) :=
  some (s0, M)
noncomputable def b_X14_ground_32 (M : gMem) (x0 : Nat) : Option (Int32 × gMem) :=
  ck (mT M x0 = 13) <| bd (f_X14_no M x0 ((1 : Int32))) fun r1 M1 => b_X14_ground_37 M1 r1
noncomputable def b_X14_ground_0 (M : gMem) (x0 : Nat) (x1 : Int32) (x2 : Int32) : Option (Int32 × gMem) :=
  ck (mT M x0 = 13) <| lw (wI M x0 0 ((0 : Int32))) fun M4 => bd (f_X14_isGround M4 x0 x1) fun r6 M6 => (if r6 = 0 then b_X14_ground_32 M6 x0 else bd (f_X14_isIn M6 x2 ((0 : Int32)) ((8 : Int32))) fun r7 M7 => (if r7 = 0 then b_X14_ground_32 M7 x0 else ck (mT M7 x0 = 13) <| bd (f_X14_groundTold M7 x0 x1 x2) fun r8 M8 => b_X14_ground_37 M8 r8))
noncomputable def f_X14_ground (M : gMem) (x0 : Nat) (x1 : Int32) (x2 : Int32) : Option (Int32 × gMem) :=
  b_X14_ground_0 M x0 x1 x2
set_option maxHeartbeats 4000000 in
set_option maxRecDepth 100000 in
theorem t_X14_ground_37 (X : gX p s m args meth c D cy B (gSt Z B H0) RX14 cX14_ground wsX14_ground 3) (hr : meth.sig.returnType = (some .int)) {Q : State → Prop} : ∀ (M : gMem) (s0 : Int32) (z : Int32 × gMem), b_X14_ground_37 M s0 = some z → (fun (r : Int32 × gMem) => Q = gMQ below D cy B H0 args s 0 0 (some (vI r.1)) r.2) z → gGo p l e rX14_ground s m args below meth c D cy B H0 3 0 0 Q 37 [] [vI s0] M := by
  intro M s0 z hf hK
  unfold b_X14_ground_37 at hf
  cases hf
  refine g_eqQ hK ?_
  exact g_iret X hr dX14_ground_37
set_option maxHeartbeats 4000000 in
set_option maxRecDepth 100000 in
theorem t_X14_ground_32 (X : gX p s m args meth c D cy B (gSt Z B H0) RX14 cX14_ground wsX14_ground 3) (hr : meth.sig.returnType = (some .int)) {Q : State → Prop} : ∀ (M : gMem) (x0 : Nat) (z : Int32 × gMem), b_X14_ground_32 M x0 = some z → (fun (r : Int32 × gMem) => Q = gMQ below D cy B H0 args s 0 0 (some (vI r.1)) r.2) z → gGo p l e rX14_ground s m args below meth c D cy B H0 3 0 0 Q 32 [(0, vR (some x0))] [] M := by
  intro M x0 z hf hK
  unfold b_X14_ground_32 at hf
  refine g_aload_n X dX14_ground_32 rfl rfl ?_
  refine g_iconst (v := (1 : Int32)) X dX14_ground_33 (by decide) ?_
  obtain ⟨hT2, hf⟩ := ck_e hf
  obtain ⟨r1, M1, hq1, hf⟩ := bd_e hf
  refine g_callV (ci := 12) (b := x0) (As := [vI (1 : Int32)]) (st := []) (v := some (vI r1)) (M1 := M1) X (m_X14_no l hq1) (cwV 1 X.2.2.1 gX14_ground_X14_no rfl rfl rfl (by decide +kernel) ⟨Nat.le_of_ble_eq_true rfl, Nat.le_of_ble_eq_true rfl⟩) rfl rfl rfl hT2 (by decide) rfl (Nat.le_of_ble_eq_true rfl) dX14_ground_34 ⟨by decide, by decide⟩ ?_
  refine g_sub (lvsub_of _ _ [] rfl) ?_
  exact t_X14_ground_37 X hr _ _ _ hf hK
set_option maxHeartbeats 4000000 in
set_option maxRecDepth 100000 in
theorem t_X14_ground_0 (X : gX p s m args meth c D cy B (gSt Z B H0) RX14 cX14_ground wsX14_ground 3) (hr : meth.sig.returnType = (some .int)) {Q : State → Prop} : ∀ (M : gMem) (x0 : Nat) (x1 : Int32) (x2 : Int32) (z : Int32 × gMem), b_X14_ground_0 M x0 x1 x2 = some z → (fun (r : Int32 × gMem) => Q = gMQ below D cy B H0 args s 0 0 (some (vI r.1)) r.2) z → gGo p l e rX14_ground s m args below meth c D cy B H0 3 0 0 Q 0 [(0, vR (some x0)), (1, vI x1), (2, vI x2)] [] M := by
  intro M x0 x1 x2 z hf hK
  unfold b_X14_ground_0 at hf
  refine g_aload_n X dX14_ground_0 rfl rfl ?_
  refine g_iconst (v := (0 : Int32)) X dX14_ground_1 (by decide) ?_
  obtain ⟨hT3, hf⟩ := ck_e hf
  refine g_putI (ci := 12) 0 X cdX14 i_X14_ground_X14 (by decide) k_X14_ground_f57 rfl dX14_ground_2 rfl hT3 (Or.inl rfl) rfl rfl rfl ?_
  obtain ⟨M4, hM4, hf⟩ := lw_e hf
  rw [← hM4]
  have hT5 : mT M4 x0 = 13 := by rw [hM4]; exact hT3
  refine g_aload_n X dX14_ground_5 rfl rfl ?_
  refine g_iload_n X dX14_ground_6 rfl rfl ?_
  obtain ⟨r6, M6, hq6, hf⟩ := bd_e hf
  refine g_callV (ci := 12) (b := x0) (As := [vI x1]) (st := []) (v := some (vI r6)) (M1 := M6) X (m_X14_isGround l hq6) (cwV 1 X.2.2.1 gX14_ground_X14_isGround rfl rfl rfl (by decide +kernel) ⟨Nat.le_of_ble_eq_true rfl, Nat.le_of_ble_eq_true rfl⟩) rfl rfl rfl hT5 (by decide) rfl (Nat.le_of_ble_eq_true rfl) dX14_ground_7 ⟨by decide, by decide⟩ ?_
  refine g_if_eq (tgt := 32) X dX14_ground_10 (by decide) (fun hc => ?_) (fun hc => ?_)
  · have hf := ife_t hc hf
    refine g_sub (lvsub_of _ _ [0] rfl) ?_
    exact t_X14_ground_32 X hr _ _ _ hf hK
  · have hf := ife_f hc hf
    refine g_iload_n X dX14_ground_13 rfl rfl ?_
    refine g_iconst (v := (0 : Int32)) X dX14_ground_14 (by decide) ?_
    refine g_bipush (v := (8 : Int32)) X dX14_ground_15 (by decide) ?_
    obtain ⟨r7, M7, hq7, hf⟩ := bd_e hf
    refine g_callS (As := [vI x2, vI (0 : Int32), vI (8 : Int32)]) (st := []) (v := some (vI r7)) (M1 := M7) X (m_X14_isIn l hq7) (va_cwS 3 X.2.2.1 gX14_ground_X14_isIn rfl rfl rfl (by decide +kernel) ⟨Nat.le_of_ble_eq_true rfl, Nat.le_of_ble_eq_true rfl⟩) rfl rfl (Nat.le_of_ble_eq_true rfl) dX14_ground_17 ⟨by decide, by decide⟩ ?_
    refine g_if_eq (tgt := 32) X dX14_ground_20 (by decide) (fun hc => ?_) (fun hc => ?_)
    · have hf := ife_t hc hf
      refine g_sub (lvsub_of _ _ [0] rfl) ?_
      exact t_X14_ground_32 X hr _ _ _ hf hK
    · have hf := ife_f hc hf
      refine g_aload_n X dX14_ground_23 rfl rfl ?_
      refine g_iload_n X dX14_ground_24 rfl rfl ?_
      refine g_iload_n X dX14_ground_25 rfl rfl ?_
      obtain ⟨hT9, hf⟩ := ck_e hf
      obtain ⟨r8, M8, hq8, hf⟩ := bd_e hf
      refine g_callV (ci := 12) (b := x0) (As := [vI x1, vI x2]) (st := []) (v := some (vI r8)) (M1 := M8) X (m_X14_groundTold l hq8) (cwV 2 X.2.2.1 gX14_ground_X14_groundTold rfl rfl rfl (by decide +kernel) ⟨Nat.le_of_ble_eq_true rfl, Nat.le_of_ble_eq_true rfl⟩) rfl rfl rfl hT9 (by decide) rfl (Nat.le_of_ble_eq_true rfl) dX14_ground_26 ⟨by decide, by decide⟩ ?_
      refine g_goto (tgt := 37) X dX14_ground_29 (by decide) ?_
      refine g_sub (lvsub_of _ _ [] rfl) ?_
      exact t_X14_ground_37 X hr _ _ _ hf hK
set_option maxHeartbeats 4000000 in
set_option maxRecDepth 100000 in
theorem m_X14_ground (l : Launch) {D : va_G} {cy : Nat → ClassId} {B : Nat} {H0 : Heap} {Z : Nat → Nat} {M M1 : gMem} {x0 : Nat} {x1 : Int32} {x2 : Int32} {r : Int32} (hf : f_X14_ground M x0 x1 x2 = some (r, M1)) : Met l yX14_ground wsX14_ground rX14_ground (va_Pc (Value.ref x0 :: List.map gv [vI x1, vI x2]) (gPre D cy B H0 (gSt Z B H0) M)) (gQ D cy B H0 (some (vI r)) M1) 0 0 (gA B) := by
  refine Met.ofW (cc := cX14_ground) (maxL := 3) (ret := (some .int)) (by decide) rfl ?_
  intro p e s m args below meth c s₁ Bd hml hv
  obtain ⟨rfl, hW, hKK, hFs⟩ := hv
  have X : gX p s m _ meth c D cy B (gSt Z B H0) RX14 cX14_ground wsX14_ground 3 := ⟨Bd.exec, Bd.bytes, atoms_spec (ws := wsX14_ground) Bd.pre, findClass_of_methodNamed Bd.named, hml, hKK, by rw [hW.1]; exact hW.2.1, Bd.notSynchronized, hFs⟩
  have hr := Bd.returns
  have hl := lv_entry ([.ref x0, .int x1, .int x2]) (n := 3) (Nat.le_of_ble_eq_true rfl)
  show W p l e rX14_ground s m _ below meth c s.heap [] 0 0 _ (entryFrame m ([.ref x0, .int x1, .int x2] : List Value).toArray 3)
  rw [lg_entry_eq]
  generalize (lg_sl ([.ref x0, .int x1, .int x2]) ++ List.replicate (3 - (lg_sl ([.ref x0, .int x1, .int x2])).length) Slot.unset).toArray = ls at hl ⊢
  have hl : lv_has ls 3 (List.map gq [(0, vR (some x0)), (1, vI x1), (2, vI x2)]) := hl
  exact t_X14_ground_0 X hr _ _ _ _ _ hf rfl s.heap [] ls hW va_S.rf (lv_has_sub hl (lvsub_of _ _ [0, 1, 2] rfl))
/-! ## TideLotsModel.cheat(IZ)I -/
theorem dX14_cheat_0 : decode cX14_cheat 0 = .ok (.aload_n 0, 1) := by decide +kernel
theorem dX14_cheat_1 : decode cX14_cheat 1 = .ok (.iconst 0, 1) := by decide +kernel
theorem dX14_cheat_2 : decode cX14_cheat 2 = .ok (.putfield 57, 3) := by decide +kernel
theorem dX14_cheat_5 : decode cX14_cheat 5 = .ok (.aload_n 0, 1) := by decide +kernel
theorem dX14_cheat_6 : decode cX14_cheat 6 = .ok (.iload_n 1, 1) := by decide +kernel
theorem dX14_cheat_7 : decode cX14_cheat 7 = .ok (.invokevirtual 329, 3) := by decide +kernel
theorem dX14_cheat_10 : decode cX14_cheat 10 = .ok (.ifCond .ne 9, 3) := by decide +kernel
theorem dX14_cheat_13 : decode cX14_cheat 13 = .ok (.aload_n 0, 1) := by decide +kernel
theorem dX14_cheat_14 : decode cX14_cheat 14 = .ok (.iconst 1, 1) := by decide +kernel
theorem dX14_cheat_15 : decode cX14_cheat 15 = .ok (.invokevirtual 276, 3) := by decide +kernel
theorem dX14_cheat_18 : decode cX14_cheat 18 = .ok (.ireturn, 1) := by decide +kernel
theorem dX14_cheat_19 : decode cX14_cheat 19 = .ok (.aload_n 0, 1) := by decide +kernel
theorem dX14_cheat_20 : decode cX14_cheat 20 = .ok (.getfield 47, 3) := by decide +kernel
theorem dX14_cheat_23 : decode cX14_cheat 23 = .ok (.getfield 293, 3) := by decide +kernel
theorem dX14_cheat_26 : decode cX14_cheat 26 = .ok (.iload_n 1, 1) := by decide +kernel
theorem dX14_cheat_27 : decode cX14_cheat 27 = .ok (.iload_n 2, 1) := by decide +kernel
theorem dX14_cheat_28 : decode cX14_cheat 28 = .ok (.ifCond .eq 7, 3) := by decide +kernel
theorem dX14_cheat_31 : decode cX14_cheat 31 = .ok (.iconst 1, 1) := by decide +kernel
theorem dX14_cheat_32 : decode cX14_cheat 32 = .ok (.goto 4, 3) := by decide +kernel
theorem dX14_cheat_35 : decode cX14_cheat 35 = .ok (.iconst 0, 1) := by decide +kernel
theorem dX14_cheat_36 : decode cX14_cheat 36 = .ok (.iastore, 1) := by decide +kernel
theorem dX14_cheat_37 : decode cX14_cheat 37 = .ok (.aload_n 0, 1) := by decide +kernel
theorem dX14_cheat_38 : decode cX14_cheat 38 = .ok (.getfield 47, 3) := by decide +kernel
theorem dX14_cheat_41 : decode cX14_cheat 41 = .ok (.aload_n 0, 1) := by decide +kernel
theorem dX14_cheat_42 : decode cX14_cheat 42 = .ok (.getfield 47, 3) := by decide +kernel
theorem dX14_cheat_45 : decode cX14_cheat 45 = .ok (.getfield 293, 3) := by decide +kernel
theorem dX14_cheat_48 : decode cX14_cheat 48 = .ok (.invokevirtual 287, 3) := by decide +kernel
theorem dX14_cheat_51 : decode cX14_cheat 51 = .ok (.ireturn, 1) := by decide +kernel
set_option maxRecDepth 20000 in
theorem ggX14_cheat_X12_sum : GoodIn wsX14_cheat wsX12_sum := goodIn_rr wsB_X14_cheat_in _ [(1, 19)] (by decide +kernel) (by decide +kernel)
set_option maxRecDepth 20000 in
theorem gX14_cheat_X12_sum : GoodIn wsX14_cheat (wsV RX14 287 RX12 yX12_sum wsX12_sum) := goodIn_app (goodIn_rr wsB_X14_cheat_in _ [(1, 15), (1, 16), (1, 17), (1, 18)] (by decide +kernel) (by decide +kernel)) ggX14_cheat_X12_sum
set_option maxRecDepth 20000 in
theorem ggX14_cheat_X14_isFisher : GoodIn wsX14_cheat wsX14_isFisher := goodIn_2 24 (goodIn_rr wsB_X14_cheat_in _ [(1, 6), (1, 7), (1, 8), (1, 9), (1, 5), (1, 10), (2, 0), (2, 1), (2, 2), (2, 3), (2, 4), (2, 5), (2, 6), (2, 7), (2, 8), (2, 9), (2, 10), (2, 11), (2, 12), (2, 13), (2, 14), (4, 0), (4, 1), (4, 2)] (by decide +kernel) (by decide +kernel)) (goodIn_rr wsB_X14_cheat_in _ [(4, 3), (4, 4), (4, 5), (4, 6), (4, 7), (4, 8), (4, 9), (4, 10), (4, 11), (4, 12), (4, 13), (4, 14), (4, 15), (4, 16), (4, 17), (4, 18), (4, 19), (4, 20), (4, 21), (4, 22), (4, 23), (4, 24)] (by decide +kernel) (by decide +kernel))
set_option maxRecDepth 20000 in
theorem gX14_cheat_X14_isFisher : GoodIn wsX14_cheat (wsV RX14 329 RX14 yX14_isFisher wsX14_isFisher) := goodIn_app (goodIn_rr wsB_X14_cheat_in _ [(1, 2), (1, 3), (1, 4), (1, 5)] (by decide +kernel) (by decide +kernel)) ggX14_cheat_X14_isFisher
set_option maxRecDepth 20000 in
theorem ggX14_cheat_X14_no : GoodIn wsX14_cheat wsX14_no := goodIn_rr wsB_X14_cheat_in _ [(1, 14), (1, 0), (2, 0), (2, 1), (2, 2), (2, 3), (2, 4), (2, 5), (2, 6), (2, 7), (2, 8), (2, 9), (2, 10), (2, 11), (2, 12), (2, 13), (2, 14)] (by decide +kernel) (by decide +kernel)
set_option maxRecDepth 20000 in
theorem gX14_cheat_X14_no : GoodIn wsX14_cheat (wsV RX14 276 RX14 yX14_no wsX14_no) := goodIn_app (goodIn_rr wsB_X14_cheat_in _ [(1, 11), (1, 12), (1, 13), (1, 5)] (by decide +kernel) (by decide +kernel)) ggX14_cheat_X14_no
theorem k_X14_cheat_f47 : Cond.fieldLink RX14 47 "TideLotsModel" "s" "LTideLotsModel$State;" ∈ wsX14_cheat := by decide +kernel
theorem i_X14_cheat_X14 : ∀ w ∈ u_ws RX14 TX14 15, w ∈ wsX14_cheat := by decide +kernel
theorem kn_X14_293 : Cond.fieldLinkNest "TideLotsModel" (293 : Nat) "TideLotsModel$State" "cheats" "[I" "TideLotsModel" ∈ gNs := by decide +kernel
theorem i_X14_cheat_X12 : ∀ w ∈ u_ws RX12 TX12 19, w ∈ wsX14_cheat := by decide +kernel
theorem k_X14_cheat_f57 : Cond.fieldLink RX14 57 "TideLotsModel" "thrown" "I" ∈ wsX14_cheat := by decide +kernel
abbrev rX14_cheat : Room := { frames := 2, cells := 0, slots := 0, locals := 43 }
noncomputable def b_X14_cheat_36 (M : gMem) (x0 : Nat) (s0 : Option Nat) (s1 : Int32) (s2 : Int32) : Option (Int32 × gMem) :=
  dr s0 fun a1 => ck (mT M a1 = 20) <| ck (inb s1 (mL M a1)) <| lw (wI M a1 s1.toNatClampNeg s2) fun M4 => ck (mT M4 x0 = 13) <| dr ((mR M4 x0 13)) fun a7 => ck (mT M4 a7 = 11) <| bd (f_X12_sum M4 a7 ((mR M4 a7 10))) fun r9 M9 => some (r9, M9)
noncomputable def b_X14_cheat_0 (M : gMem) (x0 : Nat) (x1 : Int32) (x2 : Int32) : Option (Int32 × gMem) :=
  ck (mT M x0 = 13) <| lw (wI M x0 0 ((0 : Int32))) fun M11 => bd (f_X14_isFisher M11 x0 x1) fun r13 M13 => (if r13 = 0 then ck (mT M13 x0 = 13) <| bd (f_X14_no M13 x0 ((1 : Int32))) fun r17 M17 => some (r17, M17) else ck (mT M13 x0 = 13) <| dr ((mR M13 x0 13)) fun a15 => ck (mT M13 a15 = 11) <| (if x2 = 0 then b_X14_cheat_36 M13 x0 ((mR M13 a15 10)) x1 ((0 : Int32)) else b_X14_cheat_36 M13 x0 ((mR M13 a15 10)) x1 ((1 : Int32))))
noncomputable def f_X14_cheat (M : gMem) (x0 : Nat) (x1 : Int32) (x2 : Int32) : Option (Int32 × gMem) :=
  b_X14_cheat_0 M x0 x1 x2
set_option maxHeartbeats 4000000 in
set_option maxRecDepth 100000 in
theorem t_X14_cheat_36 (X : gX p s m args meth c D cy B (gSt Z B H0) RX14 cX14_cheat wsX14_cheat 3) (hr : meth.sig.returnType = (some .int)) {Q : State → Prop} : ∀ (M : gMem) (x0 : Nat) (s0 : Option Nat) (s1 : Int32) (s2 : Int32) (z : Int32 × gMem), b_X14_cheat_36 M x0 s0 s1 s2 = some z → (fun (r : Int32 × gMem) => Q = gMQ below D cy B H0 args s 0 0 (some (vI r.1)) r.2) z → gGo p l e rX14_cheat s m args below meth c D cy B H0 3 0 0 Q 36 [(0, vR (some x0))] [vI s2, vI s1, vR s0] M := by
  intro M x0 s0 s1 s2 z hf hK
  unfold b_X14_cheat_36 at hf
  obtain ⟨a1, ha1, hf⟩ := dr_e hf
  obtain ⟨hT2, hf⟩ := ck_e hf
  obtain ⟨hg3, hf⟩ := ck_e hf
  refine g_iast X dX14_cheat_36 ha1 hT2 hg3 ?_
  obtain ⟨M4, hM4, hf⟩ := lw_e hf
  rw [← hM4]
  have hT5 : mT M4 a1 = 20 := by rw [hM4]; exact hT2
  refine g_aload_n X dX14_cheat_37 rfl rfl ?_
  obtain ⟨hT6, hf⟩ := ck_e hf
  refine g_get (ci := 12) (v := vR (mR M4 x0 13)) 13 X cdX14 i_X14_cheat_X14 (by decide) k_X14_cheat_f47 rfl dX14_cheat_38 rfl hT6 rfl ?_
  refine g_aload_n X dX14_cheat_41 rfl rfl ?_
  refine g_get (ci := 12) (v := vR (mR M4 x0 13)) 13 X cdX14 i_X14_cheat_X14 (by decide) k_X14_cheat_f47 rfl dX14_cheat_42 rfl hT6 rfl ?_
  obtain ⟨a7, ha7, hf⟩ := dr_e hf
  obtain ⟨hT8, hf⟩ := ck_e hf
  refine g_getN (ci := 10) (w := vR (mR M4 a7 10)) 10 X cdX12 i_X14_cheat_X12 (by decide) (gNw X _ kn_X14_293) rfl dX14_cheat_45 ha7 hT8 rfl ?_
  obtain ⟨r9, M9, hq9, hf⟩ := bd_e hf
  refine g_callV (ci := 10) (b := a7) (As := [vR (mR M4 a7 10)]) (st := []) (v := some (vI r9)) (M1 := M9) X (m_X12_sum l hq9) (cwV 1 X.2.2.1 gX14_cheat_X12_sum rfl rfl rfl (by decide +kernel) ⟨Nat.le_of_ble_eq_true rfl, Nat.le_of_ble_eq_true rfl⟩) rfl rfl ha7 hT8 (by decide) rfl (Nat.le_of_ble_eq_true rfl) dX14_cheat_48 ⟨by decide, by decide⟩ ?_
  cases hf
  refine g_eqQ hK ?_
  exact g_iret X hr dX14_cheat_51
set_option maxHeartbeats 4000000 in
set_option maxRecDepth 100000 in
theorem t_X14_cheat_0 (X : gX p s m args meth c D cy B (gSt Z B H0) RX14 cX14_cheat wsX14_cheat 3) (hr : meth.sig.returnType = (some .int)) {Q : State → Prop} : ∀ (M : gMem) (x0 : Nat) (x1 : Int32) (x2 : Int32) (z : Int32 × gMem), b_X14_cheat_0 M x0 x1 x2 = some z → (fun (r : Int32 × gMem) => Q = gMQ below D cy B H0 args s 0 0 (some (vI r.1)) r.2) z → gGo p l e rX14_cheat s m args below meth c D cy B H0 3 0 0 Q 0 [(0, vR (some x0)), (1, vI x1), (2, vI x2)] [] M := by
  intro M x0 x1 x2 z hf hK
  unfold b_X14_cheat_0 at hf
  refine g_aload_n X dX14_cheat_0 rfl rfl ?_
  refine g_iconst (v := (0 : Int32)) X dX14_cheat_1 (by decide) ?_
  obtain ⟨hT10, hf⟩ := ck_e hf
  refine g_putI (ci := 12) 0 X cdX14 i_X14_cheat_X14 (by decide) k_X14_cheat_f57 rfl dX14_cheat_2 rfl hT10 (Or.inl rfl) rfl rfl rfl ?_
  obtain ⟨M11, hM11, hf⟩ := lw_e hf
  rw [← hM11]
  have hT12 : mT M11 x0 = 13 := by rw [hM11]; exact hT10
  refine g_aload_n X dX14_cheat_5 rfl rfl ?_
  refine g_iload_n X dX14_cheat_6 rfl rfl ?_
  obtain ⟨r13, M13, hq13, hf⟩ := bd_e hf
  refine g_callV (ci := 12) (b := x0) (As := [vI x1]) (st := []) (v := some (vI r13)) (M1 := M13) X (m_X14_isFisher l hq13) (cwV 1 X.2.2.1 gX14_cheat_X14_isFisher rfl rfl rfl (by decide +kernel) ⟨Nat.le_of_ble_eq_true rfl, Nat.le_of_ble_eq_true rfl⟩) rfl rfl rfl hT12 (by decide) rfl (Nat.le_of_ble_eq_true rfl) dX14_cheat_7 ⟨by decide, by decide⟩ ?_
  refine g_if_ne (tgt := 19) X dX14_cheat_10 (by decide) (fun hc => ?_) (fun hc => ?_)
  · have hf := ife_f hc hf
    refine g_aload_n X dX14_cheat_19 rfl rfl ?_
    obtain ⟨hT14, hf⟩ := ck_e hf
    refine g_get (ci := 12) (v := vR (mR M13 x0 13)) 13 X cdX14 i_X14_cheat_X14 (by decide) k_X14_cheat_f47 rfl dX14_cheat_20 rfl hT14 rfl ?_
    obtain ⟨a15, ha15, hf⟩ := dr_e hf
    obtain ⟨hT16, hf⟩ := ck_e hf
    refine g_getN (ci := 10) (w := vR (mR M13 a15 10)) 10 X cdX12 i_X14_cheat_X12 (by decide) (gNw X _ kn_X14_293) rfl dX14_cheat_23 ha15 hT16 rfl ?_
    refine g_iload_n X dX14_cheat_26 rfl rfl ?_
    refine g_iload_n X dX14_cheat_27 rfl rfl ?_
    refine g_if_eq (tgt := 35) X dX14_cheat_28 (by decide) (fun hc => ?_) (fun hc => ?_)
    · have hf := ife_t hc hf
      refine g_iconst (v := (0 : Int32)) X dX14_cheat_35 (by decide) ?_
      refine g_sub (lvsub_of _ _ [0] rfl) ?_
      exact t_X14_cheat_36 X hr _ _ _ _ _ _ hf hK
    · have hf := ife_f hc hf
      refine g_iconst (v := (1 : Int32)) X dX14_cheat_31 (by decide) ?_
      refine g_goto (tgt := 36) X dX14_cheat_32 (by decide) ?_
      refine g_sub (lvsub_of _ _ [0] rfl) ?_
      exact t_X14_cheat_36 X hr _ _ _ _ _ _ hf hK
  · have hf := ife_t hc hf
    refine g_aload_n X dX14_cheat_13 rfl rfl ?_
    refine g_iconst (v := (1 : Int32)) X dX14_cheat_14 (by decide) ?_
    obtain ⟨hT18, hf⟩ := ck_e hf
    obtain ⟨r17, M17, hq17, hf⟩ := bd_e hf
    refine g_callV (ci := 12) (b := x0) (As := [vI (1 : Int32)]) (st := []) (v := some (vI r17)) (M1 := M17) X (m_X14_no l hq17) (cwV 1 X.2.2.1 gX14_cheat_X14_no rfl rfl rfl (by decide +kernel) ⟨Nat.le_of_ble_eq_true rfl, Nat.le_of_ble_eq_true rfl⟩) rfl rfl rfl hT18 (by decide) rfl (Nat.le_of_ble_eq_true rfl) dX14_cheat_15 ⟨by decide, by decide⟩ ?_
    cases hf
    refine g_eqQ hK ?_
    exact g_iret X hr dX14_cheat_18
set_option maxHeartbeats 4000000 in
set_option maxRecDepth 100000 in
theorem m_X14_cheat (l : Launch) {D : va_G} {cy : Nat → ClassId} {B : Nat} {H0 : Heap} {Z : Nat → Nat} {M M1 : gMem} {x0 : Nat} {x1 : Int32} {x2 : Int32} {r : Int32} (hf : f_X14_cheat M x0 x1 x2 = some (r, M1)) : Met l yX14_cheat wsX14_cheat rX14_cheat (va_Pc (Value.ref x0 :: List.map gv [vI x1, vI x2]) (gPre D cy B H0 (gSt Z B H0) M)) (gQ D cy B H0 (some (vI r)) M1) 0 0 (gA B) := by
  refine Met.ofW (cc := cX14_cheat) (maxL := 3) (ret := (some .int)) (by decide) rfl ?_
  intro p e s m args below meth c s₁ Bd hml hv
  obtain ⟨rfl, hW, hKK, hFs⟩ := hv
  have X : gX p s m _ meth c D cy B (gSt Z B H0) RX14 cX14_cheat wsX14_cheat 3 := ⟨Bd.exec, Bd.bytes, atoms_spec (ws := wsX14_cheat) Bd.pre, findClass_of_methodNamed Bd.named, hml, hKK, by rw [hW.1]; exact hW.2.1, Bd.notSynchronized, hFs⟩
  have hr := Bd.returns
  have hl := lv_entry ([.ref x0, .int x1, .int x2]) (n := 3) (Nat.le_of_ble_eq_true rfl)
  show W p l e rX14_cheat s m _ below meth c s.heap [] 0 0 _ (entryFrame m ([.ref x0, .int x1, .int x2] : List Value).toArray 3)
  rw [lg_entry_eq]
  generalize (lg_sl ([.ref x0, .int x1, .int x2]) ++ List.replicate (3 - (lg_sl ([.ref x0, .int x1, .int x2])).length) Slot.unset).toArray = ls at hl ⊢
  have hl : lv_has ls 3 (List.map gq [(0, vR (some x0)), (1, vI x1), (2, vI x2)]) := hl
  exact t_X14_cheat_0 X hr _ _ _ _ _ hf rfl s.heap [] ls hW va_S.rf (lv_has_sub hl (lvsub_of _ _ [0, 1, 2] rfl))
/-! ## TideLotsModel.mend(I)I -/
theorem dX14_mend_0 : decode cX14_mend 0 = .ok (.aload_n 0, 1) := by decide +kernel
theorem dX14_mend_1 : decode cX14_mend 1 = .ok (.iconst 0, 1) := by decide +kernel
theorem dX14_mend_2 : decode cX14_mend 2 = .ok (.putfield 57, 3) := by decide +kernel
theorem dX14_mend_5 : decode cX14_mend 5 = .ok (.aload_n 0, 1) := by decide +kernel
theorem dX14_mend_6 : decode cX14_mend 6 = .ok (.iload_n 1, 1) := by decide +kernel
theorem dX14_mend_7 : decode cX14_mend 7 = .ok (.invokevirtual 329, 3) := by decide +kernel
theorem dX14_mend_10 : decode cX14_mend 10 = .ok (.ifCond .ne 9, 3) := by decide +kernel
theorem dX14_mend_13 : decode cX14_mend 13 = .ok (.aload_n 0, 1) := by decide +kernel
theorem dX14_mend_14 : decode cX14_mend 14 = .ok (.iconst 1, 1) := by decide +kernel
theorem dX14_mend_15 : decode cX14_mend 15 = .ok (.invokevirtual 276, 3) := by decide +kernel
theorem dX14_mend_18 : decode cX14_mend 18 = .ok (.ireturn, 1) := by decide +kernel
theorem dX14_mend_19 : decode cX14_mend 19 = .ok (.aload_n 0, 1) := by decide +kernel
theorem dX14_mend_20 : decode cX14_mend 20 = .ok (.getfield 47, 3) := by decide +kernel
theorem dX14_mend_23 : decode cX14_mend 23 = .ok (.getfield 282, 3) := by decide +kernel
theorem dX14_mend_26 : decode cX14_mend 26 = .ok (.iload_n 1, 1) := by decide +kernel
theorem dX14_mend_27 : decode cX14_mend 27 = .ok (.iaload, 1) := by decide +kernel
theorem dX14_mend_28 : decode cX14_mend 28 = .ok (.aload_n 0, 1) := by decide +kernel
theorem dX14_mend_29 : decode cX14_mend 29 = .ok (.getfield 35, 3) := by decide +kernel
theorem dX14_mend_32 : decode cX14_mend 32 = .ok (.getfield 241, 3) := by decide +kernel
theorem dX14_mend_35 : decode cX14_mend 35 = .ok (.iload_n 1, 1) := by decide +kernel
theorem dX14_mend_36 : decode cX14_mend 36 = .ok (.iaload, 1) := by decide +kernel
theorem dX14_mend_37 : decode cX14_mend 37 = .ok (.if_icmp .eq 16, 3) := by decide +kernel
theorem dX14_mend_40 : decode cX14_mend 40 = .ok (.aload_n 0, 1) := by decide +kernel
theorem dX14_mend_41 : decode cX14_mend 41 = .ok (.getfield 47, 3) := by decide +kernel
theorem dX14_mend_44 : decode cX14_mend 44 = .ok (.getfield 290, 3) := by decide +kernel
theorem dX14_mend_47 : decode cX14_mend 47 = .ok (.iload_n 1, 1) := by decide +kernel
theorem dX14_mend_48 : decode cX14_mend 48 = .ok (.iaload, 1) := by decide +kernel
theorem dX14_mend_49 : decode cX14_mend 49 = .ok (.iconst 3, 1) := by decide +kernel
theorem dX14_mend_50 : decode cX14_mend 50 = .ok (.if_icmp .ge 9, 3) := by decide +kernel
theorem dX14_mend_53 : decode cX14_mend 53 = .ok (.aload_n 0, 1) := by decide +kernel
theorem dX14_mend_54 : decode cX14_mend 54 = .ok (.iconst 2, 1) := by decide +kernel
theorem dX14_mend_55 : decode cX14_mend 55 = .ok (.invokevirtual 276, 3) := by decide +kernel
theorem dX14_mend_58 : decode cX14_mend 58 = .ok (.ireturn, 1) := by decide +kernel
theorem dX14_mend_59 : decode cX14_mend 59 = .ok (.aload_n 0, 1) := by decide +kernel
theorem dX14_mend_60 : decode cX14_mend 60 = .ok (.getfield 47, 3) := by decide +kernel
theorem dX14_mend_63 : decode cX14_mend 63 = .ok (.getfield 282, 3) := by decide +kernel
theorem dX14_mend_66 : decode cX14_mend 66 = .ok (.iload_n 1, 1) := by decide +kernel
theorem dX14_mend_67 : decode cX14_mend 67 = .ok (.aload_n 0, 1) := by decide +kernel
theorem dX14_mend_68 : decode cX14_mend 68 = .ok (.getfield 35, 3) := by decide +kernel
theorem dX14_mend_71 : decode cX14_mend 71 = .ok (.getfield 241, 3) := by decide +kernel
theorem dX14_mend_74 : decode cX14_mend 74 = .ok (.iload_n 1, 1) := by decide +kernel
theorem dX14_mend_75 : decode cX14_mend 75 = .ok (.iaload, 1) := by decide +kernel
theorem dX14_mend_76 : decode cX14_mend 76 = .ok (.iastore, 1) := by decide +kernel
theorem dX14_mend_77 : decode cX14_mend 77 = .ok (.aload_n 0, 1) := by decide +kernel
theorem dX14_mend_78 : decode cX14_mend 78 = .ok (.getfield 47, 3) := by decide +kernel
theorem dX14_mend_81 : decode cX14_mend 81 = .ok (.getfield 290, 3) := by decide +kernel
theorem dX14_mend_84 : decode cX14_mend 84 = .ok (.iload_n 1, 1) := by decide +kernel
theorem dX14_mend_85 : decode cX14_mend 85 = .ok (.dup2, 1) := by decide +kernel
theorem dX14_mend_86 : decode cX14_mend 86 = .ok (.iaload, 1) := by decide +kernel
theorem dX14_mend_87 : decode cX14_mend 87 = .ok (.iconst 3, 1) := by decide +kernel
theorem dX14_mend_88 : decode cX14_mend 88 = .ok (.isub, 1) := by decide +kernel
theorem dX14_mend_89 : decode cX14_mend 89 = .ok (.iastore, 1) := by decide +kernel
theorem dX14_mend_90 : decode cX14_mend 90 = .ok (.aload_n 0, 1) := by decide +kernel
theorem dX14_mend_91 : decode cX14_mend 91 = .ok (.getfield 47, 3) := by decide +kernel
theorem dX14_mend_94 : decode cX14_mend 94 = .ok (.getfield 290, 3) := by decide +kernel
theorem dX14_mend_97 : decode cX14_mend 97 = .ok (.iload_n 1, 1) := by decide +kernel
theorem dX14_mend_98 : decode cX14_mend 98 = .ok (.iaload, 1) := by decide +kernel
theorem dX14_mend_99 : decode cX14_mend 99 = .ok (.ireturn, 1) := by decide +kernel
set_option maxRecDepth 20000 in
theorem ggX14_mend_X14_no : GoodIn wsX14_mend wsX14_no := goodIn_rr wsB_X14_mend_in _ [(1, 14), (1, 0), (2, 0), (2, 1), (2, 2), (2, 3), (2, 4), (2, 5), (2, 6), (2, 7), (2, 8), (2, 9), (2, 10), (2, 11), (2, 12), (2, 13), (2, 14)] (by decide +kernel) (by decide +kernel)
set_option maxRecDepth 20000 in
theorem gX14_mend_X14_no : GoodIn wsX14_mend (wsV RX14 276 RX14 yX14_no wsX14_no) := goodIn_app (goodIn_rr wsB_X14_mend_in _ [(1, 11), (1, 12), (1, 13), (1, 6)] (by decide +kernel) (by decide +kernel)) ggX14_mend_X14_no
set_option maxRecDepth 20000 in
theorem ggX14_mend_X14_isFisher : GoodIn wsX14_mend wsX14_isFisher := goodIn_2 24 (goodIn_rr wsB_X14_mend_in _ [(1, 7), (1, 2), (1, 8), (1, 9), (1, 6), (1, 10), (2, 0), (2, 1), (2, 2), (2, 3), (2, 4), (2, 5), (2, 6), (2, 7), (2, 8), (2, 9), (2, 10), (2, 11), (2, 12), (2, 13), (2, 14), (4, 0), (4, 1), (4, 2)] (by decide +kernel) (by decide +kernel)) (goodIn_rr wsB_X14_mend_in _ [(4, 3), (4, 4), (4, 5), (4, 6), (4, 7), (4, 8), (4, 9), (4, 10), (4, 11), (4, 12), (4, 13), (4, 14), (4, 15), (4, 16), (4, 17), (4, 18), (4, 19), (4, 20), (4, 21), (4, 22), (4, 23), (4, 24)] (by decide +kernel) (by decide +kernel))
set_option maxRecDepth 20000 in
theorem gX14_mend_X14_isFisher : GoodIn wsX14_mend (wsV RX14 329 RX14 yX14_isFisher wsX14_isFisher) := goodIn_app (goodIn_rr wsB_X14_mend_in _ [(1, 3), (1, 4), (1, 5), (1, 6)] (by decide +kernel) (by decide +kernel)) ggX14_mend_X14_isFisher
theorem k_X14_mend_f57 : Cond.fieldLink RX14 57 "TideLotsModel" "thrown" "I" ∈ wsX14_mend := by decide +kernel
theorem i_X14_mend_X14 : ∀ w ∈ u_ws RX14 TX14 15, w ∈ wsX14_mend := by decide +kernel
theorem k_X14_mend_f47 : Cond.fieldLink RX14 47 "TideLotsModel" "s" "LTideLotsModel$State;" ∈ wsX14_mend := by decide +kernel
theorem kn_X14_282 : Cond.fieldLinkNest "TideLotsModel" (282 : Nat) "TideLotsModel$State" "mesh" "[I" "TideLotsModel" ∈ gNs := by decide +kernel
theorem i_X14_mend_X12 : ∀ w ∈ u_ws RX12 TX12 19, w ∈ wsX14_mend := by decide +kernel
theorem k_X14_mend_f35 : Cond.fieldLink RX14 35 "TideLotsModel" "told" "LTideLotsModel$Told;" ∈ wsX14_mend := by decide +kernel
theorem i_X14_mend_X13 : ∀ w ∈ u_ws RX13 TX13 25, w ∈ wsX14_mend := by decide +kernel
theorem kn_X14_290 : Cond.fieldLinkNest "TideLotsModel" (290 : Nat) "TideLotsModel$State" "store" "[I" "TideLotsModel" ∈ gNs := by decide +kernel
abbrev rX14_mend : Room := { frames := 2, cells := 0, slots := 0, locals := 43 }
noncomputable def b_X14_mend_53 (M : gMem) (x0 : Nat) : Option (Int32 × gMem) :=
  ck (mT M x0 = 13) <| bd (f_X14_no M x0 ((2 : Int32))) fun r1 M1 => some (r1, M1)
noncomputable def b_X14_mend_0 (M : gMem) (x0 : Nat) (x1 : Int32) : Option (Int32 × gMem) :=
  ck (mT M x0 = 13) <| lw (wI M x0 0 ((0 : Int32))) fun M4 => bd (f_X14_isFisher M4 x0 x1) fun r6 M6 => (if r6 = 0 then ck (mT M6 x0 = 13) <| bd (f_X14_no M6 x0 ((1 : Int32))) fun r50 M50 => some (r50, M50) else ck (mT M6 x0 = 13) <| dr ((mR M6 x0 13)) fun a8 => ck (mT M6 a8 = 11) <| dr ((mR M6 a8 5)) fun a10 => ck (mT M6 a10 = 20) <| ck (inb x1 (mL M6 a10)) <| dr ((mR M6 x0 11)) fun a13 => ck (mT M6 a13 = 12) <| dr ((mR M6 a13 5)) fun a15 => ck (mT M6 a15 = 20) <| ck (inb x1 (mL M6 a15)) <| (if (mI M6 a10 x1.toNatClampNeg) = (mI M6 a15 x1.toNatClampNeg) then b_X14_mend_53 M6 x0 else dr ((mR M6 a8 6)) fun a18 => ck (mT M6 a18 = 20) <| ck (inb x1 (mL M6 a18)) <| (if (3 : Int32) ≤ (mI M6 a18 x1.toNatClampNeg) then ck (inb x1 (mL M6 a15)) <| ck (inb x1 (mL M6 a10)) <| lw (wI M6 a10 x1.toNatClampNeg ((mI M6 a15 x1.toNatClampNeg))) fun M23 => dr ((mR M23 x0 13)) fun a30 => ck (mT M23 a30 = 11) <| dr ((mR M23 a30 6)) fun a32 => ck (mT M23 a32 = 20) <| ck (inb x1 (mL M23 a32)) <| ck (inb x1 (mL M23 a32)) <| lw (wI M23 a32 x1.toNatClampNeg (((mI M23 a32 x1.toNatClampNeg) - (3 : Int32)))) fun M36 => dr ((mR M36 x0 13)) fun a45 => ck (mT M36 a45 = 11) <| dr ((mR M36 a45 6)) fun a47 => ck (mT M36 a47 = 20) <| ck (inb x1 (mL M36 a47)) <| some ((mI M36 a47 x1.toNatClampNeg), M36) else b_X14_mend_53 M6 x0)))
noncomputable def f_X14_mend (M : gMem) (x0 : Nat) (x1 : Int32) : Option (Int32 × gMem) :=
  b_X14_mend_0 M x0 x1
set_option maxHeartbeats 4000000 in
set_option maxRecDepth 100000 in
theorem t_X14_mend_53 (X : gX p s m args meth c D cy B (gSt Z B H0) RX14 cX14_mend wsX14_mend 2) (hr : meth.sig.returnType = (some .int)) {Q : State → Prop} : ∀ (M : gMem) (x0 : Nat) (z : Int32 × gMem), b_X14_mend_53 M x0 = some z → (fun (r : Int32 × gMem) => Q = gMQ below D cy B H0 args s 0 0 (some (vI r.1)) r.2) z → gGo p l e rX14_mend s m args below meth c D cy B H0 2 0 0 Q 53 [(0, vR (some x0))] [] M := by
  intro M x0 z hf hK
  unfold b_X14_mend_53 at hf
  refine g_aload_n X dX14_mend_53 rfl rfl ?_
  refine g_iconst (v := (2 : Int32)) X dX14_mend_54 (by decide) ?_
  obtain ⟨hT2, hf⟩ := ck_e hf
  obtain ⟨r1, M1, hq1, hf⟩ := bd_e hf
  refine g_callV (ci := 12) (b := x0) (As := [vI (2 : Int32)]) (st := []) (v := some (vI r1)) (M1 := M1) X (m_X14_no l hq1) (cwV 1 X.2.2.1 gX14_mend_X14_no rfl rfl rfl (by decide +kernel) ⟨Nat.le_of_ble_eq_true rfl, Nat.le_of_ble_eq_true rfl⟩) rfl rfl rfl hT2 (by decide) rfl (Nat.le_of_ble_eq_true rfl) dX14_mend_55 ⟨by decide, by decide⟩ ?_
  cases hf
  refine g_eqQ hK ?_
  exact g_iret X hr dX14_mend_58
set_option maxHeartbeats 4000000 in
set_option maxRecDepth 100000 in
theorem t_X14_mend_0 (X : gX p s m args meth c D cy B (gSt Z B H0) RX14 cX14_mend wsX14_mend 2) (hr : meth.sig.returnType = (some .int)) {Q : State → Prop} : ∀ (M : gMem) (x0 : Nat) (x1 : Int32) (z : Int32 × gMem), b_X14_mend_0 M x0 x1 = some z → (fun (r : Int32 × gMem) => Q = gMQ below D cy B H0 args s 0 0 (some (vI r.1)) r.2) z → gGo p l e rX14_mend s m args below meth c D cy B H0 2 0 0 Q 0 [(0, vR (some x0)), (1, vI x1)] [] M := by
  intro M x0 x1 z hf hK
  unfold b_X14_mend_0 at hf
  refine g_aload_n X dX14_mend_0 rfl rfl ?_
  refine g_iconst (v := (0 : Int32)) X dX14_mend_1 (by decide) ?_
  obtain ⟨hT3, hf⟩ := ck_e hf
  refine g_putI (ci := 12) 0 X cdX14 i_X14_mend_X14 (by decide) k_X14_mend_f57 rfl dX14_mend_2 rfl hT3 (Or.inl rfl) rfl rfl rfl ?_
  obtain ⟨M4, hM4, hf⟩ := lw_e hf
  rw [← hM4]
  have hT5 : mT M4 x0 = 13 := by rw [hM4]; exact hT3
  refine g_aload_n X dX14_mend_5 rfl rfl ?_
  refine g_iload_n X dX14_mend_6 rfl rfl ?_
  obtain ⟨r6, M6, hq6, hf⟩ := bd_e hf
  refine g_callV (ci := 12) (b := x0) (As := [vI x1]) (st := []) (v := some (vI r6)) (M1 := M6) X (m_X14_isFisher l hq6) (cwV 1 X.2.2.1 gX14_mend_X14_isFisher rfl rfl rfl (by decide +kernel) ⟨Nat.le_of_ble_eq_true rfl, Nat.le_of_ble_eq_true rfl⟩) rfl rfl rfl hT5 (by decide) rfl (Nat.le_of_ble_eq_true rfl) dX14_mend_7 ⟨by decide, by decide⟩ ?_
  refine g_if_ne (tgt := 19) X dX14_mend_10 (by decide) (fun hc => ?_) (fun hc => ?_)
  · have hf := ife_f hc hf
    refine g_aload_n X dX14_mend_19 rfl rfl ?_
    obtain ⟨hT7, hf⟩ := ck_e hf
    refine g_get (ci := 12) (v := vR (mR M6 x0 13)) 13 X cdX14 i_X14_mend_X14 (by decide) k_X14_mend_f47 rfl dX14_mend_20 rfl hT7 rfl ?_
    obtain ⟨a8, ha8, hf⟩ := dr_e hf
    obtain ⟨hT9, hf⟩ := ck_e hf
    refine g_getN (ci := 10) (w := vR (mR M6 a8 5)) 5 X cdX12 i_X14_mend_X12 (by decide) (gNw X _ kn_X14_282) rfl dX14_mend_23 ha8 hT9 rfl ?_
    refine g_iload_n X dX14_mend_26 rfl rfl ?_
    obtain ⟨a10, ha10, hf⟩ := dr_e hf
    obtain ⟨hT11, hf⟩ := ck_e hf
    obtain ⟨hg12, hf⟩ := ck_e hf
    refine g_iald X dX14_mend_27 ha10 hT11 hg12 ?_
    refine g_aload_n X dX14_mend_28 rfl rfl ?_
    refine g_get (ci := 12) (v := vR (mR M6 x0 11)) 11 X cdX14 i_X14_mend_X14 (by decide) k_X14_mend_f35 rfl dX14_mend_29 rfl hT7 rfl ?_
    obtain ⟨a13, ha13, hf⟩ := dr_e hf
    obtain ⟨hT14, hf⟩ := ck_e hf
    refine g_getN (ci := 11) (w := vR (mR M6 a13 5)) 5 X cdX13 i_X14_mend_X13 (by decide) (gNw X _ kn_X14_241) rfl dX14_mend_32 ha13 hT14 rfl ?_
    refine g_iload_n X dX14_mend_35 rfl rfl ?_
    obtain ⟨a15, ha15, hf⟩ := dr_e hf
    obtain ⟨hT16, hf⟩ := ck_e hf
    obtain ⟨hg17, hf⟩ := ck_e hf
    refine g_iald X dX14_mend_36 ha15 hT16 hg17 ?_
    refine g_icmp_eq (tgt := 53) X dX14_mend_37 (by decide) (fun hc => ?_) (fun hc => ?_)
    · have hf := ife_t hc hf
      refine g_sub (lvsub_of _ _ [0] rfl) ?_
      exact t_X14_mend_53 X hr _ _ _ hf hK
    · have hf := ife_f hc hf
      refine g_aload_n X dX14_mend_40 rfl rfl ?_
      refine g_get (ci := 12) (v := vR (mR M6 x0 13)) 13 X cdX14 i_X14_mend_X14 (by decide) k_X14_mend_f47 rfl dX14_mend_41 rfl hT7 rfl ?_
      refine g_getN (ci := 10) (w := vR (mR M6 a8 6)) 6 X cdX12 i_X14_mend_X12 (by decide) (gNw X _ kn_X14_290) rfl dX14_mend_44 ha8 hT9 rfl ?_
      refine g_iload_n X dX14_mend_47 rfl rfl ?_
      obtain ⟨a18, ha18, hf⟩ := dr_e hf
      obtain ⟨hT19, hf⟩ := ck_e hf
      obtain ⟨hg20, hf⟩ := ck_e hf
      refine g_iald X dX14_mend_48 ha18 hT19 hg20 ?_
      refine g_iconst (v := (3 : Int32)) X dX14_mend_49 (by decide) ?_
      refine g_icmp_ge (tgt := 59) X dX14_mend_50 (by decide) (fun hc => ?_) (fun hc => ?_)
      · have hf := ife_t hc hf
        refine g_aload_n X dX14_mend_59 rfl rfl ?_
        refine g_get (ci := 12) (v := vR (mR M6 x0 13)) 13 X cdX14 i_X14_mend_X14 (by decide) k_X14_mend_f47 rfl dX14_mend_60 rfl hT7 rfl ?_
        refine g_getN (ci := 10) (w := vR (mR M6 a8 5)) 5 X cdX12 i_X14_mend_X12 (by decide) (gNw X _ kn_X14_282) rfl dX14_mend_63 ha8 hT9 rfl ?_
        refine g_iload_n X dX14_mend_66 rfl rfl ?_
        refine g_aload_n X dX14_mend_67 rfl rfl ?_
        refine g_get (ci := 12) (v := vR (mR M6 x0 11)) 11 X cdX14 i_X14_mend_X14 (by decide) k_X14_mend_f35 rfl dX14_mend_68 rfl hT7 rfl ?_
        refine g_getN (ci := 11) (w := vR (mR M6 a13 5)) 5 X cdX13 i_X14_mend_X13 (by decide) (gNw X _ kn_X14_241) rfl dX14_mend_71 ha13 hT14 rfl ?_
        refine g_iload_n X dX14_mend_74 rfl rfl ?_
        obtain ⟨hg21, hf⟩ := ck_e hf
        refine g_iald X dX14_mend_75 ha15 hT16 hg21 ?_
        obtain ⟨hg22, hf⟩ := ck_e hf
        refine g_iast X dX14_mend_76 ha10 hT11 hg22 ?_
        obtain ⟨M23, hM23, hf⟩ := lw_e hf
        rw [← hM23]
        have hT24 : mT M23 x0 = 13 := by rw [hM23]; exact hT7
        have hT25 : mT M23 a8 = 11 := by rw [hM23]; exact hT9
        have hT26 : mT M23 a10 = 20 := by rw [hM23]; exact hT11
        have hT27 : mT M23 a13 = 12 := by rw [hM23]; exact hT14
        have hT28 : mT M23 a15 = 20 := by rw [hM23]; exact hT16
        have hT29 : mT M23 a18 = 20 := by rw [hM23]; exact hT19
        refine g_aload_n X dX14_mend_77 rfl rfl ?_
        refine g_get (ci := 12) (v := vR (mR M23 x0 13)) 13 X cdX14 i_X14_mend_X14 (by decide) k_X14_mend_f47 rfl dX14_mend_78 rfl hT24 rfl ?_
        obtain ⟨a30, ha30, hf⟩ := dr_e hf
        obtain ⟨hT31, hf⟩ := ck_e hf
        refine g_getN (ci := 10) (w := vR (mR M23 a30 6)) 6 X cdX12 i_X14_mend_X12 (by decide) (gNw X _ kn_X14_290) rfl dX14_mend_81 ha30 hT31 rfl ?_
        refine g_iload_n X dX14_mend_84 rfl rfl ?_
        refine g_dup2 X dX14_mend_85 rfl rfl ?_
        obtain ⟨a32, ha32, hf⟩ := dr_e hf
        obtain ⟨hT33, hf⟩ := ck_e hf
        obtain ⟨hg34, hf⟩ := ck_e hf
        refine g_iald X dX14_mend_86 ha32 hT33 hg34 ?_
        refine g_iconst (v := (3 : Int32)) X dX14_mend_87 (by decide) ?_
        refine g_isub X dX14_mend_88 ?_
        obtain ⟨hg35, hf⟩ := ck_e hf
        refine g_iast X dX14_mend_89 ha32 hT33 hg35 ?_
        obtain ⟨M36, hM36, hf⟩ := lw_e hf
        rw [← hM36]
        have hT37 : mT M36 x0 = 13 := by rw [hM36]; exact hT24
        have hT38 : mT M36 a8 = 11 := by rw [hM36]; exact hT25
        have hT39 : mT M36 a10 = 20 := by rw [hM36]; exact hT26
        have hT40 : mT M36 a13 = 12 := by rw [hM36]; exact hT27
        have hT41 : mT M36 a15 = 20 := by rw [hM36]; exact hT28
        have hT42 : mT M36 a18 = 20 := by rw [hM36]; exact hT29
        have hT43 : mT M36 a30 = 11 := by rw [hM36]; exact hT31
        have hT44 : mT M36 a32 = 20 := by rw [hM36]; exact hT33
        refine g_aload_n X dX14_mend_90 rfl rfl ?_
        refine g_get (ci := 12) (v := vR (mR M36 x0 13)) 13 X cdX14 i_X14_mend_X14 (by decide) k_X14_mend_f47 rfl dX14_mend_91 rfl hT37 rfl ?_
        obtain ⟨a45, ha45, hf⟩ := dr_e hf
        obtain ⟨hT46, hf⟩ := ck_e hf
        refine g_getN (ci := 10) (w := vR (mR M36 a45 6)) 6 X cdX12 i_X14_mend_X12 (by decide) (gNw X _ kn_X14_290) rfl dX14_mend_94 ha45 hT46 rfl ?_
        refine g_iload_n X dX14_mend_97 rfl rfl ?_
        obtain ⟨a47, ha47, hf⟩ := dr_e hf
        obtain ⟨hT48, hf⟩ := ck_e hf
        obtain ⟨hg49, hf⟩ := ck_e hf
        refine g_iald X dX14_mend_98 ha47 hT48 hg49 ?_
        cases hf
        refine g_eqQ hK ?_
        exact g_iret X hr dX14_mend_99
      · have hf := ife_f hc hf
        refine g_sub (lvsub_of _ _ [0] rfl) ?_
        exact t_X14_mend_53 X hr _ _ _ hf hK
  · have hf := ife_t hc hf
    refine g_aload_n X dX14_mend_13 rfl rfl ?_
    refine g_iconst (v := (1 : Int32)) X dX14_mend_14 (by decide) ?_
    obtain ⟨hT51, hf⟩ := ck_e hf
    obtain ⟨r50, M50, hq50, hf⟩ := bd_e hf
    refine g_callV (ci := 12) (b := x0) (As := [vI (1 : Int32)]) (st := []) (v := some (vI r50)) (M1 := M50) X (m_X14_no l hq50) (cwV 1 X.2.2.1 gX14_mend_X14_no rfl rfl rfl (by decide +kernel) ⟨Nat.le_of_ble_eq_true rfl, Nat.le_of_ble_eq_true rfl⟩) rfl rfl rfl hT51 (by decide) rfl (Nat.le_of_ble_eq_true rfl) dX14_mend_15 ⟨by decide, by decide⟩ ?_
    cases hf
    refine g_eqQ hK ?_
    exact g_iret X hr dX14_mend_18
set_option maxHeartbeats 4000000 in
set_option maxRecDepth 100000 in
theorem m_X14_mend (l : Launch) {D : va_G} {cy : Nat → ClassId} {B : Nat} {H0 : Heap} {Z : Nat → Nat} {M M1 : gMem} {x0 : Nat} {x1 : Int32} {r : Int32} (hf : f_X14_mend M x0 x1 = some (r, M1)) : Met l yX14_mend wsX14_mend rX14_mend (va_Pc (Value.ref x0 :: List.map gv [vI x1]) (gPre D cy B H0 (gSt Z B H0) M)) (gQ D cy B H0 (some (vI r)) M1) 0 0 (gA B) := by
  refine Met.ofW (cc := cX14_mend) (maxL := 2) (ret := (some .int)) (by decide) rfl ?_
  intro p e s m args below meth c s₁ Bd hml hv
  obtain ⟨rfl, hW, hKK, hFs⟩ := hv
  have X : gX p s m _ meth c D cy B (gSt Z B H0) RX14 cX14_mend wsX14_mend 2 := ⟨Bd.exec, Bd.bytes, atoms_spec (ws := wsX14_mend) Bd.pre, findClass_of_methodNamed Bd.named, hml, hKK, by rw [hW.1]; exact hW.2.1, Bd.notSynchronized, hFs⟩
  have hr := Bd.returns
  have hl := lv_entry ([.ref x0, .int x1]) (n := 2) (Nat.le_of_ble_eq_true rfl)
  show W p l e rX14_mend s m _ below meth c s.heap [] 0 0 _ (entryFrame m ([.ref x0, .int x1] : List Value).toArray 2)
  rw [lg_entry_eq]
  generalize (lg_sl ([.ref x0, .int x1]) ++ List.replicate (2 - (lg_sl ([.ref x0, .int x1])).length) Slot.unset).toArray = ls at hl ⊢
  have hl : lv_has ls 2 (List.map gq [(0, vR (some x0)), (1, vI x1)]) := hl
  exact t_X14_mend_0 X hr _ _ _ _ hf rfl s.heap [] ls hW va_S.rf (lv_has_sub hl (lvsub_of _ _ [0, 1] rfl))
end
