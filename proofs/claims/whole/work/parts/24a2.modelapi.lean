section
variable {p : Program} {l : Launch} {e : Env} {s : State} {m : MethodId} {args : Array Value} {below : List Frame} {meth : Method} {c : Code} {D : va_G} {cy : Nat → ClassId} {B : Nat} {H0 : Heap} {Z : Nat → Nat}
/-! ## TideLotsModel.lotOf(I)I -/
theorem dX14_lotOf_0 : decode cX14_lotOf 0 = .ok (.aload_n 0, 1) := by decide +kernel
theorem dX14_lotOf_1 : decode cX14_lotOf 1 = .ok (.getfield 51, 3) := by decide +kernel
theorem dX14_lotOf_4 : decode cX14_lotOf 4 = .ok (.aload_n 0, 1) := by decide +kernel
theorem dX14_lotOf_5 : decode cX14_lotOf 5 = .ok (.getfield 47, 3) := by decide +kernel
theorem dX14_lotOf_8 : decode cX14_lotOf 8 = .ok (.getfield 347, 3) := by decide +kernel
theorem dX14_lotOf_11 : decode cX14_lotOf 11 = .ok (.putfield 347, 3) := by decide +kernel
theorem dX14_lotOf_14 : decode cX14_lotOf 14 = .ok (.aload_n 0, 1) := by decide +kernel
theorem dX14_lotOf_15 : decode cX14_lotOf 15 = .ok (.getfield 51, 3) := by decide +kernel
theorem dX14_lotOf_18 : decode cX14_lotOf 18 = .ok (.invokevirtual 350, 3) := by decide +kernel
theorem dX14_lotOf_21 : decode cX14_lotOf 21 = .ok (.aload_n 0, 1) := by decide +kernel
theorem dX14_lotOf_22 : decode cX14_lotOf 22 = .ok (.getfield 51, 3) := by decide +kernel
theorem dX14_lotOf_25 : decode cX14_lotOf 25 = .ok (.getfield 353, 3) := by decide +kernel
theorem dX14_lotOf_28 : decode cX14_lotOf 28 = .ok (.iload_n 1, 1) := by decide +kernel
theorem dX14_lotOf_29 : decode cX14_lotOf 29 = .ok (.iaload, 1) := by decide +kernel
theorem dX14_lotOf_30 : decode cX14_lotOf 30 = .ok (.ireturn, 1) := by decide +kernel
set_option maxRecDepth 20000 in
theorem ggX14_lotOf_X12_draw : GoodIn wsX14_lotOf wsX12_draw := goodIn_2 24 (goodIn_rr wsB_X14_lotOf_in _ [(1, 6), (1, 7), (1, 8), (1, 9), (1, 10), (1, 11), (1, 12), (1, 13), (1, 14), (1, 15), (3, 0), (3, 1), (3, 2), (3, 3), (3, 4), (3, 5), (3, 6), (3, 7), (3, 8), (3, 9), (3, 10), (3, 11), (3, 12), (3, 13)] (by decide +kernel) (by decide +kernel)) (goodIn_2 24 (goodIn_rr wsB_X14_lotOf_in _ [(3, 14), (3, 15), (3, 16), (3, 17), (3, 18), (2, 0), (2, 1), (2, 2), (2, 3), (2, 4), (2, 5), (2, 6), (2, 7), (2, 8), (2, 9), (2, 10), (2, 11), (2, 12), (2, 13), (2, 14), (4, 0), (4, 1), (4, 2), (4, 3)] (by decide +kernel) (by decide +kernel)) (goodIn_rr wsB_X14_lotOf_in _ [(4, 4), (4, 5), (4, 6), (4, 7), (4, 8), (4, 9), (4, 10), (4, 11), (4, 12), (4, 13), (4, 14), (4, 15), (4, 16), (4, 17), (4, 18), (4, 19), (4, 20), (4, 21), (4, 22), (4, 23), (4, 24)] (by decide +kernel) (by decide +kernel)))
set_option maxRecDepth 20000 in
theorem gX14_lotOf_X12_draw : GoodIn wsX14_lotOf (wsV RX14 350 RX12 yX12_draw wsX12_draw) := goodIn_app (goodIn_rr wsB_X14_lotOf_in _ [(1, 2), (1, 3), (1, 4), (1, 5)] (by decide +kernel) (by decide +kernel)) ggX14_lotOf_X12_draw
theorem k_X14_lotOf_f51 : Cond.fieldLink RX14 51 "TideLotsModel" "ahead" "LTideLotsModel$State;" ∈ wsX14_lotOf := by decide +kernel
theorem i_X14_lotOf_X14 : ∀ w ∈ u_ws RX14 TX14 15, w ∈ wsX14_lotOf := by decide +kernel
theorem k_X14_lotOf_f47 : Cond.fieldLink RX14 47 "TideLotsModel" "s" "LTideLotsModel$State;" ∈ wsX14_lotOf := by decide +kernel
theorem kn_X14_347 : Cond.fieldLinkNest "TideLotsModel" (347 : Nat) "TideLotsModel$State" "l" "I" "TideLotsModel" ∈ gNs := by decide +kernel
theorem i_X14_lotOf_X12 : ∀ w ∈ u_ws RX12 TX12 19, w ∈ wsX14_lotOf := by decide +kernel
theorem kn_X14_353 : Cond.fieldLinkNest "TideLotsModel" (353 : Nat) "TideLotsModel$State" "lots" "[I" "TideLotsModel" ∈ gNs := by decide +kernel
abbrev rX14_lotOf : Room := { frames := 2, cells := 0, slots := 0, locals := 83 }
noncomputable def b_X14_lotOf_0 (M : gMem) (x0 : Nat) (x1 : Int32) : Option (Int32 × gMem) :=
  ck (mT M x0 = 13) <| dr ((mR M x0 13)) fun a2 => ck (mT M a2 = 11) <| dr ((mR M x0 14)) fun a4 => ck (mT M a4 = 11) <| lw (wI M a4 1 ((mI M a2 1))) fun M6 => dr ((mR M6 x0 14)) fun a11 => ck (mT M6 a11 = 11) <| bd (f_X12_draw M6 a11) fun _ M10 => ck (mT M10 x0 = 13) <| dr ((mR M10 x0 14)) fun a14 => ck (mT M10 a14 = 11) <| dr ((mR M10 a14 14)) fun a16 => ck (mT M10 a16 = 20) <| ck (inb x1 (mL M10 a16)) <| some ((mI M10 a16 x1.toNatClampNeg), M10)
noncomputable def f_X14_lotOf (M : gMem) (x0 : Nat) (x1 : Int32) : Option (Int32 × gMem) :=
  b_X14_lotOf_0 M x0 x1
set_option maxHeartbeats 4000000 in
set_option maxRecDepth 100000 in
theorem t_X14_lotOf_0 (X : gX p s m args meth c D cy B (gSt Z B H0) RX14 cX14_lotOf wsX14_lotOf 2) (hr : meth.sig.returnType = (some .int)) {Q : State → Prop} : ∀ (M : gMem) (x0 : Nat) (x1 : Int32) (z : Int32 × gMem), b_X14_lotOf_0 M x0 x1 = some z → (fun (r : Int32 × gMem) => Q = gMQ below D cy B H0 args s 0 0 (some (vI r.1)) r.2) z → gGo p l e rX14_lotOf s m args below meth c D cy B H0 2 0 0 Q 0 [(0, vR (some x0)), (1, vI x1)] [] M := by
  intro M x0 x1 z hf hK
  unfold b_X14_lotOf_0 at hf
  refine g_aload_n X dX14_lotOf_0 rfl rfl ?_
  obtain ⟨hT1, hf⟩ := ck_e hf
  refine g_get (ci := 12) (v := vR (mR M x0 14)) 14 X cdX14 i_X14_lotOf_X14 (by decide) k_X14_lotOf_f51 rfl dX14_lotOf_1 rfl hT1 rfl ?_
  refine g_aload_n X dX14_lotOf_4 rfl rfl ?_
  refine g_get (ci := 12) (v := vR (mR M x0 13)) 13 X cdX14 i_X14_lotOf_X14 (by decide) k_X14_lotOf_f47 rfl dX14_lotOf_5 rfl hT1 rfl ?_
  obtain ⟨a2, ha2, hf⟩ := dr_e hf
  obtain ⟨hT3, hf⟩ := ck_e hf
  refine g_getN (ci := 10) (w := vI (mI M a2 1)) 1 X cdX12 i_X14_lotOf_X12 (by decide) (gNw X _ kn_X14_347) rfl dX14_lotOf_8 ha2 hT3 rfl ?_
  obtain ⟨a4, ha4, hf⟩ := dr_e hf
  obtain ⟨hT5, hf⟩ := ck_e hf
  refine g_putIN (ci := 10) 1 X cdX12 i_X14_lotOf_X12 (by decide) (gNw X _ kn_X14_347) rfl dX14_lotOf_11 ha4 hT5 rfl rfl rfl rfl ?_
  obtain ⟨M6, hM6, hf⟩ := lw_e hf
  rw [← hM6]
  have hT7 : mT M6 x0 = 13 := by rw [hM6]; exact hT1
  have hT8 : mT M6 a2 = 11 := by rw [hM6]; exact hT3
  have hT9 : mT M6 a4 = 11 := by rw [hM6]; exact hT5
  refine g_aload_n X dX14_lotOf_14 rfl rfl ?_
  refine g_get (ci := 12) (v := vR (mR M6 x0 14)) 14 X cdX14 i_X14_lotOf_X14 (by decide) k_X14_lotOf_f51 rfl dX14_lotOf_15 rfl hT7 rfl ?_
  obtain ⟨a11, ha11, hf⟩ := dr_e hf
  obtain ⟨hT12, hf⟩ := ck_e hf
  obtain ⟨r10, M10, hq10, hf⟩ := bd_e hf
  refine g_callV (ci := 10) (b := a11) (As := []) (st := []) (v := none) (M1 := M10) X (m_X12_draw l hq10) (cwV 0 X.2.2.1 gX14_lotOf_X12_draw rfl rfl rfl (by decide +kernel) ⟨Nat.le_of_ble_eq_true rfl, Nat.le_of_ble_eq_true rfl⟩) rfl rfl ha11 hT12 (by decide) rfl (Nat.le_of_ble_eq_true rfl) dX14_lotOf_18 ⟨by decide, by decide⟩ ?_
  refine g_aload_n X dX14_lotOf_21 rfl rfl ?_
  obtain ⟨hT13, hf⟩ := ck_e hf
  refine g_get (ci := 12) (v := vR (mR M10 x0 14)) 14 X cdX14 i_X14_lotOf_X14 (by decide) k_X14_lotOf_f51 rfl dX14_lotOf_22 rfl hT13 rfl ?_
  obtain ⟨a14, ha14, hf⟩ := dr_e hf
  obtain ⟨hT15, hf⟩ := ck_e hf
  refine g_getN (ci := 10) (w := vR (mR M10 a14 14)) 14 X cdX12 i_X14_lotOf_X12 (by decide) (gNw X _ kn_X14_353) rfl dX14_lotOf_25 ha14 hT15 rfl ?_
  refine g_iload_n X dX14_lotOf_28 rfl rfl ?_
  obtain ⟨a16, ha16, hf⟩ := dr_e hf
  obtain ⟨hT17, hf⟩ := ck_e hf
  obtain ⟨hg18, hf⟩ := ck_e hf
  refine g_iald X dX14_lotOf_29 ha16 hT17 hg18 ?_
  cases hf
  refine g_eqQ hK ?_
  exact g_iret X hr dX14_lotOf_30
set_option maxHeartbeats 4000000 in
set_option maxRecDepth 100000 in
theorem m_X14_lotOf (l : Launch) {D : va_G} {cy : Nat → ClassId} {B : Nat} {H0 : Heap} {Z : Nat → Nat} {M M1 : gMem} {x0 : Nat} {x1 : Int32} {r : Int32} (hf : f_X14_lotOf M x0 x1 = some (r, M1)) : Met l yX14_lotOf wsX14_lotOf rX14_lotOf (va_Pc (Value.ref x0 :: List.map gv [vI x1]) (gPre D cy B H0 (gSt Z B H0) M)) (gQ D cy B H0 (some (vI r)) M1) 0 0 (gA B) := by
  refine Met.ofW (cc := cX14_lotOf) (maxL := 2) (ret := (some .int)) (by decide) rfl ?_
  intro p e s m args below meth c s₁ Bd hml hv
  obtain ⟨rfl, hW, hKK, hFs⟩ := hv
  have X : gX p s m _ meth c D cy B (gSt Z B H0) RX14 cX14_lotOf wsX14_lotOf 2 := ⟨Bd.exec, Bd.bytes, atoms_spec (ws := wsX14_lotOf) Bd.pre, findClass_of_methodNamed Bd.named, hml, hKK, by rw [hW.1]; exact hW.2.1, Bd.notSynchronized, hFs⟩
  have hr := Bd.returns
  have hl := lv_entry ([.ref x0, .int x1]) (n := 2) (Nat.le_of_ble_eq_true rfl)
  show W p l e rX14_lotOf s m _ below meth c s.heap [] 0 0 _ (entryFrame m ([.ref x0, .int x1] : List Value).toArray 2)
  rw [lg_entry_eq]
  generalize (lg_sl ([.ref x0, .int x1]) ++ List.replicate (2 - (lg_sl ([.ref x0, .int x1])).length) Slot.unset).toArray = ls at hl ⊢
  have hl : lv_has ls 2 (List.map gq [(0, vR (some x0)), (1, vI x1)]) := hl
  exact t_X14_lotOf_0 X hr _ _ _ _ hf rfl s.heap [] ls hW va_S.rf (lv_has_sub hl (lvsub_of _ _ [0, 1] rfl))
/-! ## TideLotsModel.lot(I)I -/
theorem dX14_lot_0 : decode cX14_lot 0 = .ok (.aload_n 0, 1) := by decide +kernel
theorem dX14_lot_1 : decode cX14_lot 1 = .ok (.iconst 0, 1) := by decide +kernel
theorem dX14_lot_2 : decode cX14_lot 2 = .ok (.putfield 57, 3) := by decide +kernel
theorem dX14_lot_5 : decode cX14_lot 5 = .ok (.aload_n 0, 1) := by decide +kernel
theorem dX14_lot_6 : decode cX14_lot 6 = .ok (.iload_n 1, 1) := by decide +kernel
theorem dX14_lot_7 : decode cX14_lot 7 = .ok (.invokevirtual 329, 3) := by decide +kernel
theorem dX14_lot_10 : decode cX14_lot 10 = .ok (.ifCond .eq 11, 3) := by decide +kernel
theorem dX14_lot_13 : decode cX14_lot 13 = .ok (.aload_n 0, 1) := by decide +kernel
theorem dX14_lot_14 : decode cX14_lot 14 = .ok (.iload_n 1, 1) := by decide +kernel
theorem dX14_lot_15 : decode cX14_lot 15 = .ok (.invokevirtual 356, 3) := by decide +kernel
theorem dX14_lot_18 : decode cX14_lot 18 = .ok (.goto 8, 3) := by decide +kernel
theorem dX14_lot_21 : decode cX14_lot 21 = .ok (.aload_n 0, 1) := by decide +kernel
theorem dX14_lot_22 : decode cX14_lot 22 = .ok (.iconst 1, 1) := by decide +kernel
theorem dX14_lot_23 : decode cX14_lot 23 = .ok (.invokevirtual 276, 3) := by decide +kernel
theorem dX14_lot_26 : decode cX14_lot 26 = .ok (.ireturn, 1) := by decide +kernel
set_option maxRecDepth 20000 in
theorem ggX14_lot_X14_isFisher : GoodIn wsX14_lot wsX14_isFisher := goodIn_2 24 (goodIn_rr wsB_X14_lot_in _ [(1, 5), (1, 6), (1, 7), (1, 8), (1, 4), (1, 9), (3, 0), (3, 1), (3, 2), (3, 3), (3, 4), (3, 5), (3, 6), (3, 7), (3, 8), (3, 9), (3, 10), (3, 11), (3, 12), (3, 13), (3, 14), (4, 0), (4, 1), (4, 2)] (by decide +kernel) (by decide +kernel)) (goodIn_rr wsB_X14_lot_in _ [(4, 3), (4, 4), (4, 5), (4, 6), (4, 7), (4, 8), (4, 9), (4, 10), (4, 11), (4, 12), (4, 13), (4, 14), (4, 15), (4, 16), (4, 17), (4, 18), (4, 19), (4, 20), (4, 21), (4, 22), (4, 23), (4, 24)] (by decide +kernel) (by decide +kernel))
set_option maxRecDepth 20000 in
theorem gX14_lot_X14_isFisher : GoodIn wsX14_lot (wsV RX14 329 RX14 yX14_isFisher wsX14_isFisher) := goodIn_app (goodIn_rr wsB_X14_lot_in _ [(1, 1), (1, 2), (1, 3), (1, 4)] (by decide +kernel) (by decide +kernel)) ggX14_lot_X14_isFisher
set_option maxRecDepth 20000 in
theorem ggX14_lot_X14_no : GoodIn wsX14_lot wsX14_no := goodIn_rr wsB_X14_lot_in _ [(2, 9), (1, 0), (3, 0), (3, 1), (3, 2), (3, 3), (3, 4), (3, 5), (3, 6), (3, 7), (3, 8), (3, 9), (3, 10), (3, 11), (3, 12), (3, 13), (3, 14)] (by decide +kernel) (by decide +kernel)
set_option maxRecDepth 20000 in
theorem gX14_lot_X14_no : GoodIn wsX14_lot (wsV RX14 276 RX14 yX14_no wsX14_no) := goodIn_app (goodIn_rr wsB_X14_lot_in _ [(2, 6), (2, 7), (2, 8), (1, 4)] (by decide +kernel) (by decide +kernel)) ggX14_lot_X14_no
set_option maxRecDepth 20000 in
theorem ggX14_lot_X14_lotOf : GoodIn wsX14_lot wsX14_lotOf := goodIn_2 24 (goodIn_rr wsB_X14_lot_in _ [(1, 13), (1, 14), (1, 15), (1, 16), (1, 17), (1, 18), (1, 19), (1, 20), (1, 21), (1, 22), (1, 23), (2, 0), (2, 1), (2, 2), (2, 3), (2, 4), (2, 5), (3, 0), (3, 1), (3, 2), (3, 3), (3, 4), (3, 5), (3, 6)] (by decide +kernel) (by decide +kernel)) (goodIn_2 24 (goodIn_rr wsB_X14_lot_in _ [(3, 7), (3, 8), (3, 9), (3, 10), (3, 11), (3, 12), (3, 13), (3, 14), (5, 0), (5, 1), (5, 2), (5, 3), (5, 4), (5, 5), (5, 6), (5, 7), (5, 8), (5, 9), (5, 10), (5, 11), (5, 12), (5, 13), (5, 14), (5, 15)] (by decide +kernel) (by decide +kernel)) (goodIn_2 24 (goodIn_rr wsB_X14_lot_in _ [(5, 16), (5, 17), (5, 18), (4, 0), (4, 1), (4, 2), (4, 3), (4, 4), (4, 5), (4, 6), (4, 7), (4, 8), (4, 9), (4, 10), (4, 11), (4, 12), (4, 13), (4, 14), (4, 15), (4, 16), (4, 17), (4, 18), (4, 19), (4, 20)] (by decide +kernel) (by decide +kernel)) (goodIn_rr wsB_X14_lot_in _ [(4, 21), (4, 22), (4, 23), (4, 24)] (by decide +kernel) (by decide +kernel))))
set_option maxRecDepth 20000 in
theorem gX14_lot_X14_lotOf : GoodIn wsX14_lot (wsV RX14 356 RX14 yX14_lotOf wsX14_lotOf) := goodIn_app (goodIn_rr wsB_X14_lot_in _ [(1, 10), (1, 11), (1, 12), (1, 4)] (by decide +kernel) (by decide +kernel)) ggX14_lot_X14_lotOf
theorem k_X14_lot_f57 : Cond.fieldLink RX14 57 "TideLotsModel" "thrown" "I" ∈ wsX14_lot := by decide +kernel
theorem i_X14_lot_X14 : ∀ w ∈ u_ws RX14 TX14 15, w ∈ wsX14_lot := by decide +kernel
abbrev rX14_lot : Room := { frames := 3, cells := 0, slots := 0, locals := 104 }
noncomputable def b_X14_lot_26 (M : gMem) (s0 : Int32) : Option (Int32 × gMem) :=
  some (s0, M)
noncomputable def b_X14_lot_0 (M : gMem) (x0 : Nat) (x1 : Int32) : Option (Int32 × gMem) :=
  ck (mT M x0 = 13) <| lw (wI M x0 0 ((0 : Int32))) fun M2 => bd (f_X14_isFisher M2 x0 x1) fun r4 M4 => (if r4 = 0 then ck (mT M4 x0 = 13) <| bd (f_X14_no M4 x0 ((1 : Int32))) fun r5 M5 => b_X14_lot_26 M5 r5 else ck (mT M4 x0 = 13) <| bd (f_X14_lotOf M4 x0 x1) fun r7 M7 => b_X14_lot_26 M7 r7)
noncomputable def f_X14_lot (M : gMem) (x0 : Nat) (x1 : Int32) : Option (Int32 × gMem) :=
  b_X14_lot_0 M x0 x1
set_option maxHeartbeats 4000000 in
set_option maxRecDepth 100000 in
theorem t_X14_lot_26 (X : gX p s m args meth c D cy B (gSt Z B H0) RX14 cX14_lot wsX14_lot 2) (hr : meth.sig.returnType = (some .int)) {Q : State → Prop} : ∀ (M : gMem) (s0 : Int32) (z : Int32 × gMem), b_X14_lot_26 M s0 = some z → (fun (r : Int32 × gMem) => Q = gMQ below D cy B H0 args s 0 0 (some (vI r.1)) r.2) z → gGo p l e rX14_lot s m args below meth c D cy B H0 2 0 0 Q 26 [] [vI s0] M := by
  intro M s0 z hf hK
  unfold b_X14_lot_26 at hf
  cases hf
  refine g_eqQ hK ?_
  exact g_iret X hr dX14_lot_26
set_option maxHeartbeats 4000000 in
set_option maxRecDepth 100000 in
theorem t_X14_lot_0 (X : gX p s m args meth c D cy B (gSt Z B H0) RX14 cX14_lot wsX14_lot 2) (hr : meth.sig.returnType = (some .int)) {Q : State → Prop} : ∀ (M : gMem) (x0 : Nat) (x1 : Int32) (z : Int32 × gMem), b_X14_lot_0 M x0 x1 = some z → (fun (r : Int32 × gMem) => Q = gMQ below D cy B H0 args s 0 0 (some (vI r.1)) r.2) z → gGo p l e rX14_lot s m args below meth c D cy B H0 2 0 0 Q 0 [(0, vR (some x0)), (1, vI x1)] [] M := by
  intro M x0 x1 z hf hK
  unfold b_X14_lot_0 at hf
  refine g_aload_n X dX14_lot_0 rfl rfl ?_
  refine g_iconst (v := (0 : Int32)) X dX14_lot_1 (by decide) ?_
  obtain ⟨hT1, hf⟩ := ck_e hf
  refine g_putI (ci := 12) 0 X cdX14 i_X14_lot_X14 (by decide) k_X14_lot_f57 rfl dX14_lot_2 rfl hT1 (Or.inl rfl) rfl rfl rfl ?_
  obtain ⟨M2, hM2, hf⟩ := lw_e hf
  rw [← hM2]
  have hT3 : mT M2 x0 = 13 := by rw [hM2]; exact hT1
  refine g_aload_n X dX14_lot_5 rfl rfl ?_
  refine g_iload_n X dX14_lot_6 rfl rfl ?_
  obtain ⟨r4, M4, hq4, hf⟩ := bd_e hf
  refine g_callV (ci := 12) (b := x0) (As := [vI x1]) (st := []) (v := some (vI r4)) (M1 := M4) X (m_X14_isFisher l hq4) (cwV 1 X.2.2.1 gX14_lot_X14_isFisher rfl rfl rfl (by decide +kernel) ⟨Nat.le_of_ble_eq_true rfl, Nat.le_of_ble_eq_true rfl⟩) rfl rfl rfl hT3 (by decide) rfl (Nat.le_of_ble_eq_true rfl) dX14_lot_7 ⟨by decide, by decide⟩ ?_
  refine g_if_eq (tgt := 21) X dX14_lot_10 (by decide) (fun hc => ?_) (fun hc => ?_)
  · have hf := ife_t hc hf
    refine g_aload_n X dX14_lot_21 rfl rfl ?_
    refine g_iconst (v := (1 : Int32)) X dX14_lot_22 (by decide) ?_
    obtain ⟨hT6, hf⟩ := ck_e hf
    obtain ⟨r5, M5, hq5, hf⟩ := bd_e hf
    refine g_callV (ci := 12) (b := x0) (As := [vI (1 : Int32)]) (st := []) (v := some (vI r5)) (M1 := M5) X (m_X14_no l hq5) (cwV 1 X.2.2.1 gX14_lot_X14_no rfl rfl rfl (by decide +kernel) ⟨Nat.le_of_ble_eq_true rfl, Nat.le_of_ble_eq_true rfl⟩) rfl rfl rfl hT6 (by decide) rfl (Nat.le_of_ble_eq_true rfl) dX14_lot_23 ⟨by decide, by decide⟩ ?_
    refine g_sub (lvsub_of _ _ [] rfl) ?_
    exact t_X14_lot_26 X hr _ _ _ hf hK
  · have hf := ife_f hc hf
    refine g_aload_n X dX14_lot_13 rfl rfl ?_
    refine g_iload_n X dX14_lot_14 rfl rfl ?_
    obtain ⟨hT8, hf⟩ := ck_e hf
    obtain ⟨r7, M7, hq7, hf⟩ := bd_e hf
    refine g_callV (ci := 12) (b := x0) (As := [vI x1]) (st := []) (v := some (vI r7)) (M1 := M7) X (m_X14_lotOf l hq7) (cwV 1 X.2.2.1 gX14_lot_X14_lotOf rfl rfl rfl (by decide +kernel) ⟨Nat.le_of_ble_eq_true rfl, Nat.le_of_ble_eq_true rfl⟩) rfl rfl rfl hT8 (by decide) rfl (Nat.le_of_ble_eq_true rfl) dX14_lot_15 ⟨by decide, by decide⟩ ?_
    refine g_goto (tgt := 26) X dX14_lot_18 (by decide) ?_
    refine g_sub (lvsub_of _ _ [] rfl) ?_
    exact t_X14_lot_26 X hr _ _ _ hf hK
set_option maxHeartbeats 4000000 in
set_option maxRecDepth 100000 in
theorem m_X14_lot (l : Launch) {D : va_G} {cy : Nat → ClassId} {B : Nat} {H0 : Heap} {Z : Nat → Nat} {M M1 : gMem} {x0 : Nat} {x1 : Int32} {r : Int32} (hf : f_X14_lot M x0 x1 = some (r, M1)) : Met l yX14_lot wsX14_lot rX14_lot (va_Pc (Value.ref x0 :: List.map gv [vI x1]) (gPre D cy B H0 (gSt Z B H0) M)) (gQ D cy B H0 (some (vI r)) M1) 0 0 (gA B) := by
  refine Met.ofW (cc := cX14_lot) (maxL := 2) (ret := (some .int)) (by decide) rfl ?_
  intro p e s m args below meth c s₁ Bd hml hv
  obtain ⟨rfl, hW, hKK, hFs⟩ := hv
  have X : gX p s m _ meth c D cy B (gSt Z B H0) RX14 cX14_lot wsX14_lot 2 := ⟨Bd.exec, Bd.bytes, atoms_spec (ws := wsX14_lot) Bd.pre, findClass_of_methodNamed Bd.named, hml, hKK, by rw [hW.1]; exact hW.2.1, Bd.notSynchronized, hFs⟩
  have hr := Bd.returns
  have hl := lv_entry ([.ref x0, .int x1]) (n := 2) (Nat.le_of_ble_eq_true rfl)
  show W p l e rX14_lot s m _ below meth c s.heap [] 0 0 _ (entryFrame m ([.ref x0, .int x1] : List Value).toArray 2)
  rw [lg_entry_eq]
  generalize (lg_sl ([.ref x0, .int x1]) ++ List.replicate (2 - (lg_sl ([.ref x0, .int x1])).length) Slot.unset).toArray = ls at hl ⊢
  have hl : lv_has ls 2 (List.map gq [(0, vR (some x0)), (1, vI x1)]) := hl
  exact t_X14_lot_0 X hr _ _ _ _ hf rfl s.heap [] ls hW va_S.rf (lv_has_sub hl (lvsub_of _ _ [0, 1] rfl))
/-! ## TideLotsModel.took(II)I -/
theorem dX14_took_0 : decode cX14_took 0 = .ok (.aload_n 0, 1) := by decide +kernel
theorem dX14_took_1 : decode cX14_took 1 = .ok (.iconst 0, 1) := by decide +kernel
theorem dX14_took_2 : decode cX14_took 2 = .ok (.putfield 57, 3) := by decide +kernel
theorem dX14_took_5 : decode cX14_took 5 = .ok (.aload_n 0, 1) := by decide +kernel
theorem dX14_took_6 : decode cX14_took 6 = .ok (.iload_n 1, 1) := by decide +kernel
theorem dX14_took_7 : decode cX14_took 7 = .ok (.invokevirtual 311, 3) := by decide +kernel
theorem dX14_took_10 : decode cX14_took 10 = .ok (.ifCond .eq 28, 3) := by decide +kernel
theorem dX14_took_13 : decode cX14_took 13 = .ok (.aload_n 0, 1) := by decide +kernel
theorem dX14_took_14 : decode cX14_took 14 = .ok (.iload_n 2, 1) := by decide +kernel
theorem dX14_took_15 : decode cX14_took 15 = .ok (.invokevirtual 329, 3) := by decide +kernel
theorem dX14_took_18 : decode cX14_took 18 = .ok (.ifCond .eq 20, 3) := by decide +kernel
theorem dX14_took_21 : decode cX14_took 21 = .ok (.aload_n 0, 1) := by decide +kernel
theorem dX14_took_22 : decode cX14_took 22 = .ok (.getfield 47, 3) := by decide +kernel
theorem dX14_took_25 : decode cX14_took 25 = .ok (.getfield 299, 3) := by decide +kernel
theorem dX14_took_28 : decode cX14_took 28 = .ok (.bipush 8, 2) := by decide +kernel
theorem dX14_took_30 : decode cX14_took 30 = .ok (.iload_n 1, 1) := by decide +kernel
theorem dX14_took_31 : decode cX14_took 31 = .ok (.imul, 1) := by decide +kernel
theorem dX14_took_32 : decode cX14_took 32 = .ok (.iload_n 2, 1) := by decide +kernel
theorem dX14_took_33 : decode cX14_took 33 = .ok (.iadd, 1) := by decide +kernel
theorem dX14_took_34 : decode cX14_took 34 = .ok (.iaload, 1) := by decide +kernel
theorem dX14_took_35 : decode cX14_took 35 = .ok (.goto 8, 3) := by decide +kernel
theorem dX14_took_38 : decode cX14_took 38 = .ok (.aload_n 0, 1) := by decide +kernel
theorem dX14_took_39 : decode cX14_took 39 = .ok (.iconst 1, 1) := by decide +kernel
theorem dX14_took_40 : decode cX14_took 40 = .ok (.invokevirtual 276, 3) := by decide +kernel
theorem dX14_took_43 : decode cX14_took 43 = .ok (.ireturn, 1) := by decide +kernel
set_option maxRecDepth 20000 in
theorem ggX14_took_X14_no : GoodIn wsX14_took wsX14_no := goodIn_rr wsB_X14_took_in _ [(1, 18), (1, 0), (2, 0), (2, 1), (2, 2), (2, 3), (2, 4), (2, 5), (2, 6), (2, 7), (2, 8), (2, 9), (2, 10), (2, 11), (2, 12), (2, 13), (2, 14)] (by decide +kernel) (by decide +kernel)
set_option maxRecDepth 20000 in
theorem gX14_took_X14_no : GoodIn wsX14_took (wsV RX14 276 RX14 yX14_no wsX14_no) := goodIn_app (goodIn_rr wsB_X14_took_in _ [(1, 15), (1, 16), (1, 17), (1, 5)] (by decide +kernel) (by decide +kernel)) ggX14_took_X14_no
set_option maxRecDepth 20000 in
theorem ggX14_took_X14_isGround : GoodIn wsX14_took wsX14_isGround := goodIn_2 24 (goodIn_rr wsB_X14_took_in _ [(1, 6), (1, 7), (1, 8), (1, 9), (1, 5), (1, 10), (2, 0), (2, 1), (2, 2), (2, 3), (2, 4), (2, 5), (2, 6), (2, 7), (2, 8), (2, 9), (2, 10), (2, 11), (2, 12), (2, 13), (2, 14), (4, 0), (4, 1), (4, 2)] (by decide +kernel) (by decide +kernel)) (goodIn_rr wsB_X14_took_in _ [(4, 3), (4, 4), (4, 5), (4, 6), (4, 7), (4, 8), (4, 9), (4, 10), (4, 11), (4, 12), (4, 13), (4, 14), (4, 15), (4, 16), (4, 17), (4, 18), (4, 19), (4, 20), (4, 21), (4, 22), (4, 23), (4, 24)] (by decide +kernel) (by decide +kernel))
set_option maxRecDepth 20000 in
theorem gX14_took_X14_isGround : GoodIn wsX14_took (wsV RX14 311 RX14 yX14_isGround wsX14_isGround) := goodIn_app (goodIn_rr wsB_X14_took_in _ [(1, 2), (1, 3), (1, 4), (1, 5)] (by decide +kernel) (by decide +kernel)) ggX14_took_X14_isGround
set_option maxRecDepth 20000 in
theorem ggX14_took_X14_isFisher : GoodIn wsX14_took wsX14_isFisher := goodIn_2 24 (goodIn_rr wsB_X14_took_in _ [(1, 14), (1, 7), (1, 8), (1, 9), (1, 5), (1, 10), (2, 0), (2, 1), (2, 2), (2, 3), (2, 4), (2, 5), (2, 6), (2, 7), (2, 8), (2, 9), (2, 10), (2, 11), (2, 12), (2, 13), (2, 14), (4, 0), (4, 1), (4, 2)] (by decide +kernel) (by decide +kernel)) (goodIn_rr wsB_X14_took_in _ [(4, 3), (4, 4), (4, 5), (4, 6), (4, 7), (4, 8), (4, 9), (4, 10), (4, 11), (4, 12), (4, 13), (4, 14), (4, 15), (4, 16), (4, 17), (4, 18), (4, 19), (4, 20), (4, 21), (4, 22), (4, 23), (4, 24)] (by decide +kernel) (by decide +kernel))
set_option maxRecDepth 20000 in
theorem gX14_took_X14_isFisher : GoodIn wsX14_took (wsV RX14 329 RX14 yX14_isFisher wsX14_isFisher) := goodIn_app (goodIn_rr wsB_X14_took_in _ [(1, 11), (1, 12), (1, 13), (1, 5)] (by decide +kernel) (by decide +kernel)) ggX14_took_X14_isFisher
theorem k_X14_took_f57 : Cond.fieldLink RX14 57 "TideLotsModel" "thrown" "I" ∈ wsX14_took := by decide +kernel
theorem i_X14_took_X14 : ∀ w ∈ u_ws RX14 TX14 15, w ∈ wsX14_took := by decide +kernel
theorem k_X14_took_f47 : Cond.fieldLink RX14 47 "TideLotsModel" "s" "LTideLotsModel$State;" ∈ wsX14_took := by decide +kernel
theorem i_X14_took_X12 : ∀ w ∈ u_ws RX12 TX12 19, w ∈ wsX14_took := by decide +kernel
abbrev rX14_took : Room := { frames := 2, cells := 0, slots := 0, locals := 43 }
noncomputable def b_X14_took_43 (M : gMem) (s0 : Int32) : Option (Int32 × gMem) :=
  some (s0, M)
noncomputable def b_X14_took_38 (M : gMem) (x0 : Nat) : Option (Int32 × gMem) :=
  ck (mT M x0 = 13) <| bd (f_X14_no M x0 ((1 : Int32))) fun r1 M1 => b_X14_took_43 M1 r1
noncomputable def b_X14_took_0 (M : gMem) (x0 : Nat) (x1 : Int32) (x2 : Int32) : Option (Int32 × gMem) :=
  ck (mT M x0 = 13) <| lw (wI M x0 0 ((0 : Int32))) fun M4 => bd (f_X14_isGround M4 x0 x1) fun r6 M6 => (if r6 = 0 then b_X14_took_38 M6 x0 else ck (mT M6 x0 = 13) <| bd (f_X14_isFisher M6 x0 x2) fun r7 M7 => (if r7 = 0 then b_X14_took_38 M7 x0 else ck (mT M7 x0 = 13) <| dr ((mR M7 x0 13)) fun a10 => ck (mT M7 a10 = 11) <| dr ((mR M7 a10 4)) fun a12 => ck (mT M7 a12 = 20) <| ck (inb (((8 : Int32) * x1) + x2) (mL M7 a12)) <| b_X14_took_43 M7 ((mI M7 a12 ((((8 : Int32) * x1) + x2)).toNatClampNeg))))
noncomputable def f_X14_took (M : gMem) (x0 : Nat) (x1 : Int32) (x2 : Int32) : Option (Int32 × gMem) :=
  b_X14_took_0 M x0 x1 x2
set_option maxHeartbeats 4000000 in
set_option maxRecDepth 100000 in
theorem t_X14_took_43 (X : gX p s m args meth c D cy B (gSt Z B H0) RX14 cX14_took wsX14_took 3) (hr : meth.sig.returnType = (some .int)) {Q : State → Prop} : ∀ (M : gMem) (s0 : Int32) (z : Int32 × gMem), b_X14_took_43 M s0 = some z → (fun (r : Int32 × gMem) => Q = gMQ below D cy B H0 args s 0 0 (some (vI r.1)) r.2) z → gGo p l e rX14_took s m args below meth c D cy B H0 3 0 0 Q 43 [] [vI s0] M := by
  intro M s0 z hf hK
  unfold b_X14_took_43 at hf
  cases hf
  refine g_eqQ hK ?_
  exact g_iret X hr dX14_took_43
set_option maxHeartbeats 4000000 in
set_option maxRecDepth 100000 in
theorem t_X14_took_38 (X : gX p s m args meth c D cy B (gSt Z B H0) RX14 cX14_took wsX14_took 3) (hr : meth.sig.returnType = (some .int)) {Q : State → Prop} : ∀ (M : gMem) (x0 : Nat) (z : Int32 × gMem), b_X14_took_38 M x0 = some z → (fun (r : Int32 × gMem) => Q = gMQ below D cy B H0 args s 0 0 (some (vI r.1)) r.2) z → gGo p l e rX14_took s m args below meth c D cy B H0 3 0 0 Q 38 [(0, vR (some x0))] [] M := by
  intro M x0 z hf hK
  unfold b_X14_took_38 at hf
  refine g_aload_n X dX14_took_38 rfl rfl ?_
  refine g_iconst (v := (1 : Int32)) X dX14_took_39 (by decide) ?_
  obtain ⟨hT2, hf⟩ := ck_e hf
  obtain ⟨r1, M1, hq1, hf⟩ := bd_e hf
  refine g_callV (ci := 12) (b := x0) (As := [vI (1 : Int32)]) (st := []) (v := some (vI r1)) (M1 := M1) X (m_X14_no l hq1) (cwV 1 X.2.2.1 gX14_took_X14_no rfl rfl rfl (by decide +kernel) ⟨Nat.le_of_ble_eq_true rfl, Nat.le_of_ble_eq_true rfl⟩) rfl rfl rfl hT2 (by decide) rfl (Nat.le_of_ble_eq_true rfl) dX14_took_40 ⟨by decide, by decide⟩ ?_
  refine g_sub (lvsub_of _ _ [] rfl) ?_
  exact t_X14_took_43 X hr _ _ _ hf hK
set_option maxHeartbeats 4000000 in
set_option maxRecDepth 100000 in
theorem t_X14_took_0 (X : gX p s m args meth c D cy B (gSt Z B H0) RX14 cX14_took wsX14_took 3) (hr : meth.sig.returnType = (some .int)) {Q : State → Prop} : ∀ (M : gMem) (x0 : Nat) (x1 : Int32) (x2 : Int32) (z : Int32 × gMem), b_X14_took_0 M x0 x1 x2 = some z → (fun (r : Int32 × gMem) => Q = gMQ below D cy B H0 args s 0 0 (some (vI r.1)) r.2) z → gGo p l e rX14_took s m args below meth c D cy B H0 3 0 0 Q 0 [(0, vR (some x0)), (1, vI x1), (2, vI x2)] [] M := by
  intro M x0 x1 x2 z hf hK
  unfold b_X14_took_0 at hf
  refine g_aload_n X dX14_took_0 rfl rfl ?_
  refine g_iconst (v := (0 : Int32)) X dX14_took_1 (by decide) ?_
  obtain ⟨hT3, hf⟩ := ck_e hf
  refine g_putI (ci := 12) 0 X cdX14 i_X14_took_X14 (by decide) k_X14_took_f57 rfl dX14_took_2 rfl hT3 (Or.inl rfl) rfl rfl rfl ?_
  obtain ⟨M4, hM4, hf⟩ := lw_e hf
  rw [← hM4]
  have hT5 : mT M4 x0 = 13 := by rw [hM4]; exact hT3
  refine g_aload_n X dX14_took_5 rfl rfl ?_
  refine g_iload_n X dX14_took_6 rfl rfl ?_
  obtain ⟨r6, M6, hq6, hf⟩ := bd_e hf
  refine g_callV (ci := 12) (b := x0) (As := [vI x1]) (st := []) (v := some (vI r6)) (M1 := M6) X (m_X14_isGround l hq6) (cwV 1 X.2.2.1 gX14_took_X14_isGround rfl rfl rfl (by decide +kernel) ⟨Nat.le_of_ble_eq_true rfl, Nat.le_of_ble_eq_true rfl⟩) rfl rfl rfl hT5 (by decide) rfl (Nat.le_of_ble_eq_true rfl) dX14_took_7 ⟨by decide, by decide⟩ ?_
  refine g_if_eq (tgt := 38) X dX14_took_10 (by decide) (fun hc => ?_) (fun hc => ?_)
  · have hf := ife_t hc hf
    refine g_sub (lvsub_of _ _ [0] rfl) ?_
    exact t_X14_took_38 X hr _ _ _ hf hK
  · have hf := ife_f hc hf
    refine g_aload_n X dX14_took_13 rfl rfl ?_
    refine g_iload_n X dX14_took_14 rfl rfl ?_
    obtain ⟨hT8, hf⟩ := ck_e hf
    obtain ⟨r7, M7, hq7, hf⟩ := bd_e hf
    refine g_callV (ci := 12) (b := x0) (As := [vI x2]) (st := []) (v := some (vI r7)) (M1 := M7) X (m_X14_isFisher l hq7) (cwV 1 X.2.2.1 gX14_took_X14_isFisher rfl rfl rfl (by decide +kernel) ⟨Nat.le_of_ble_eq_true rfl, Nat.le_of_ble_eq_true rfl⟩) rfl rfl rfl hT8 (by decide) rfl (Nat.le_of_ble_eq_true rfl) dX14_took_15 ⟨by decide, by decide⟩ ?_
    refine g_if_eq (tgt := 38) X dX14_took_18 (by decide) (fun hc => ?_) (fun hc => ?_)
    · have hf := ife_t hc hf
      refine g_sub (lvsub_of _ _ [0] rfl) ?_
      exact t_X14_took_38 X hr _ _ _ hf hK
    · have hf := ife_f hc hf
      refine g_aload_n X dX14_took_21 rfl rfl ?_
      obtain ⟨hT9, hf⟩ := ck_e hf
      refine g_get (ci := 12) (v := vR (mR M7 x0 13)) 13 X cdX14 i_X14_took_X14 (by decide) k_X14_took_f47 rfl dX14_took_22 rfl hT9 rfl ?_
      obtain ⟨a10, ha10, hf⟩ := dr_e hf
      obtain ⟨hT11, hf⟩ := ck_e hf
      refine g_getN (ci := 10) (w := vR (mR M7 a10 4)) 4 X cdX12 i_X14_took_X12 (by decide) (gNw X _ kn_X14_299) rfl dX14_took_25 ha10 hT11 rfl ?_
      refine g_bipush (v := (8 : Int32)) X dX14_took_28 (by decide) ?_
      refine g_iload_n X dX14_took_30 rfl rfl ?_
      refine g_imul X dX14_took_31 ?_
      refine g_iload_n X dX14_took_32 rfl rfl ?_
      refine g_iadd X dX14_took_33 ?_
      obtain ⟨a12, ha12, hf⟩ := dr_e hf
      obtain ⟨hT13, hf⟩ := ck_e hf
      obtain ⟨hg14, hf⟩ := ck_e hf
      refine g_iald X dX14_took_34 ha12 hT13 hg14 ?_
      refine g_goto (tgt := 43) X dX14_took_35 (by decide) ?_
      refine g_sub (lvsub_of _ _ [] rfl) ?_
      exact t_X14_took_43 X hr _ _ _ hf hK
set_option maxHeartbeats 4000000 in
set_option maxRecDepth 100000 in
theorem m_X14_took (l : Launch) {D : va_G} {cy : Nat → ClassId} {B : Nat} {H0 : Heap} {Z : Nat → Nat} {M M1 : gMem} {x0 : Nat} {x1 : Int32} {x2 : Int32} {r : Int32} (hf : f_X14_took M x0 x1 x2 = some (r, M1)) : Met l yX14_took wsX14_took rX14_took (va_Pc (Value.ref x0 :: List.map gv [vI x1, vI x2]) (gPre D cy B H0 (gSt Z B H0) M)) (gQ D cy B H0 (some (vI r)) M1) 0 0 (gA B) := by
  refine Met.ofW (cc := cX14_took) (maxL := 3) (ret := (some .int)) (by decide) rfl ?_
  intro p e s m args below meth c s₁ Bd hml hv
  obtain ⟨rfl, hW, hKK, hFs⟩ := hv
  have X : gX p s m _ meth c D cy B (gSt Z B H0) RX14 cX14_took wsX14_took 3 := ⟨Bd.exec, Bd.bytes, atoms_spec (ws := wsX14_took) Bd.pre, findClass_of_methodNamed Bd.named, hml, hKK, by rw [hW.1]; exact hW.2.1, Bd.notSynchronized, hFs⟩
  have hr := Bd.returns
  have hl := lv_entry ([.ref x0, .int x1, .int x2]) (n := 3) (Nat.le_of_ble_eq_true rfl)
  show W p l e rX14_took s m _ below meth c s.heap [] 0 0 _ (entryFrame m ([.ref x0, .int x1, .int x2] : List Value).toArray 3)
  rw [lg_entry_eq]
  generalize (lg_sl ([.ref x0, .int x1, .int x2]) ++ List.replicate (3 - (lg_sl ([.ref x0, .int x1, .int x2])).length) Slot.unset).toArray = ls at hl ⊢
  have hl : lv_has ls 3 (List.map gq [(0, vR (some x0)), (1, vI x1), (2, vI x2)]) := hl
  exact t_X14_took_0 X hr _ _ _ _ _ hf rfl s.heap [] ls hW va_S.rf (lv_has_sub hl (lvsub_of _ _ [0, 1, 2] rfl))
/-! ## TideLotsModel.blame(I)I -/
theorem dX14_blame_0 : decode cX14_blame 0 = .ok (.aload_n 0, 1) := by decide +kernel
theorem dX14_blame_1 : decode cX14_blame 1 = .ok (.iconst 0, 1) := by decide +kernel
theorem dX14_blame_2 : decode cX14_blame 2 = .ok (.putfield 57, 3) := by decide +kernel
theorem dX14_blame_5 : decode cX14_blame 5 = .ok (.aload_n 0, 1) := by decide +kernel
theorem dX14_blame_6 : decode cX14_blame 6 = .ok (.iload_n 1, 1) := by decide +kernel
theorem dX14_blame_7 : decode cX14_blame 7 = .ok (.invokevirtual 311, 3) := by decide +kernel
theorem dX14_blame_10 : decode cX14_blame 10 = .ok (.ifCond .ne 9, 3) := by decide +kernel
theorem dX14_blame_13 : decode cX14_blame 13 = .ok (.aload_n 0, 1) := by decide +kernel
theorem dX14_blame_14 : decode cX14_blame 14 = .ok (.iconst 1, 1) := by decide +kernel
theorem dX14_blame_15 : decode cX14_blame 15 = .ok (.invokevirtual 276, 3) := by decide +kernel
theorem dX14_blame_18 : decode cX14_blame 18 = .ok (.ireturn, 1) := by decide +kernel
theorem dX14_blame_19 : decode cX14_blame 19 = .ok (.iconst (-1), 1) := by decide +kernel
theorem dX14_blame_20 : decode cX14_blame 20 = .ok (.istore_n 2, 1) := by decide +kernel
theorem dX14_blame_21 : decode cX14_blame 21 = .ok (.iconst 0, 1) := by decide +kernel
theorem dX14_blame_22 : decode cX14_blame 22 = .ok (.istore_n 3, 1) := by decide +kernel
theorem dX14_blame_23 : decode cX14_blame 23 = .ok (.iload_n 3, 1) := by decide +kernel
theorem dX14_blame_24 : decode cX14_blame 24 = .ok (.aload_n 0, 1) := by decide +kernel
theorem dX14_blame_25 : decode cX14_blame 25 = .ok (.getfield 35, 3) := by decide +kernel
theorem dX14_blame_28 : decode cX14_blame 28 = .ok (.getfield 67, 3) := by decide +kernel
theorem dX14_blame_31 : decode cX14_blame 31 = .ok (.if_icmp .ge 51, 3) := by decide +kernel
theorem dX14_blame_34 : decode cX14_blame 34 = .ok (.aload_n 0, 1) := by decide +kernel
theorem dX14_blame_35 : decode cX14_blame 35 = .ok (.getfield 47, 3) := by decide +kernel
theorem dX14_blame_38 : decode cX14_blame 38 = .ok (.getfield 299, 3) := by decide +kernel
theorem dX14_blame_41 : decode cX14_blame 41 = .ok (.bipush 8, 2) := by decide +kernel
theorem dX14_blame_43 : decode cX14_blame 43 = .ok (.iload_n 1, 1) := by decide +kernel
theorem dX14_blame_44 : decode cX14_blame 44 = .ok (.imul, 1) := by decide +kernel
theorem dX14_blame_45 : decode cX14_blame 45 = .ok (.iload_n 3, 1) := by decide +kernel
theorem dX14_blame_46 : decode cX14_blame 46 = .ok (.iadd, 1) := by decide +kernel
theorem dX14_blame_47 : decode cX14_blame 47 = .ok (.iaload, 1) := by decide +kernel
theorem dX14_blame_48 : decode cX14_blame 48 = .ok (.iload_n 2, 1) := by decide +kernel
theorem dX14_blame_49 : decode cX14_blame 49 = .ok (.iconst (-1), 1) := by decide +kernel
theorem dX14_blame_50 : decode cX14_blame 50 = .ok (.if_icmp .ne 7, 3) := by decide +kernel
theorem dX14_blame_53 : decode cX14_blame 53 = .ok (.iconst 0, 1) := by decide +kernel
theorem dX14_blame_54 : decode cX14_blame 54 = .ok (.goto 17, 3) := by decide +kernel
theorem dX14_blame_57 : decode cX14_blame 57 = .ok (.aload_n 0, 1) := by decide +kernel
theorem dX14_blame_58 : decode cX14_blame 58 = .ok (.getfield 47, 3) := by decide +kernel
theorem dX14_blame_61 : decode cX14_blame 61 = .ok (.getfield 299, 3) := by decide +kernel
theorem dX14_blame_64 : decode cX14_blame 64 = .ok (.bipush 8, 2) := by decide +kernel
theorem dX14_blame_66 : decode cX14_blame 66 = .ok (.iload_n 1, 1) := by decide +kernel
theorem dX14_blame_67 : decode cX14_blame 67 = .ok (.imul, 1) := by decide +kernel
theorem dX14_blame_68 : decode cX14_blame 68 = .ok (.iload_n 2, 1) := by decide +kernel
theorem dX14_blame_69 : decode cX14_blame 69 = .ok (.iadd, 1) := by decide +kernel
theorem dX14_blame_70 : decode cX14_blame 70 = .ok (.iaload, 1) := by decide +kernel
theorem dX14_blame_71 : decode cX14_blame 71 = .ok (.if_icmp .le 5, 3) := by decide +kernel
theorem dX14_blame_74 : decode cX14_blame 74 = .ok (.iload_n 3, 1) := by decide +kernel
theorem dX14_blame_75 : decode cX14_blame 75 = .ok (.istore_n 2, 1) := by decide +kernel
theorem dX14_blame_76 : decode cX14_blame 76 = .ok (.iinc 3 1, 3) := by decide +kernel
theorem dX14_blame_79 : decode cX14_blame 79 = .ok (.goto (-56), 3) := by decide +kernel
theorem dX14_blame_82 : decode cX14_blame 82 = .ok (.iload_n 2, 1) := by decide +kernel
theorem dX14_blame_83 : decode cX14_blame 83 = .ok (.ireturn, 1) := by decide +kernel
set_option maxRecDepth 20000 in
theorem ggX14_blame_X14_isGround : GoodIn wsX14_blame wsX14_isGround := goodIn_2 24 (goodIn_rr wsB_X14_blame_in _ [(1, 7), (1, 1), (1, 8), (1, 9), (1, 6), (1, 10), (2, 0), (2, 1), (2, 2), (2, 3), (2, 4), (2, 5), (2, 6), (2, 7), (2, 8), (2, 9), (2, 10), (2, 11), (2, 12), (2, 13), (2, 14), (3, 0), (3, 1), (3, 2)] (by decide +kernel) (by decide +kernel)) (goodIn_rr wsB_X14_blame_in _ [(3, 3), (3, 4), (3, 5), (3, 6), (3, 7), (3, 8), (3, 9), (3, 10), (3, 11), (3, 12), (3, 13), (3, 14), (3, 15), (3, 16), (3, 17), (3, 18), (3, 19), (3, 20), (3, 21), (3, 22), (3, 23), (3, 24)] (by decide +kernel) (by decide +kernel))
set_option maxRecDepth 20000 in
theorem gX14_blame_X14_isGround : GoodIn wsX14_blame (wsV RX14 311 RX14 yX14_isGround wsX14_isGround) := goodIn_app (goodIn_rr wsB_X14_blame_in _ [(1, 3), (1, 4), (1, 5), (1, 6)] (by decide +kernel) (by decide +kernel)) ggX14_blame_X14_isGround
set_option maxRecDepth 20000 in
theorem ggX14_blame_X14_no : GoodIn wsX14_blame wsX14_no := goodIn_rr wsB_X14_blame_in _ [(1, 14), (1, 0), (2, 0), (2, 1), (2, 2), (2, 3), (2, 4), (2, 5), (2, 6), (2, 7), (2, 8), (2, 9), (2, 10), (2, 11), (2, 12), (2, 13), (2, 14)] (by decide +kernel) (by decide +kernel)
set_option maxRecDepth 20000 in
theorem gX14_blame_X14_no : GoodIn wsX14_blame (wsV RX14 276 RX14 yX14_no wsX14_no) := goodIn_app (goodIn_rr wsB_X14_blame_in _ [(1, 11), (1, 12), (1, 13), (1, 6)] (by decide +kernel) (by decide +kernel)) ggX14_blame_X14_no
theorem k_X14_blame_f35 : Cond.fieldLink RX14 35 "TideLotsModel" "told" "LTideLotsModel$Told;" ∈ wsX14_blame := by decide +kernel
theorem i_X14_blame_X14 : ∀ w ∈ u_ws RX14 TX14 15, w ∈ wsX14_blame := by decide +kernel
theorem i_X14_blame_X13 : ∀ w ∈ u_ws RX13 TX13 25, w ∈ wsX14_blame := by decide +kernel
theorem k_X14_blame_f47 : Cond.fieldLink RX14 47 "TideLotsModel" "s" "LTideLotsModel$State;" ∈ wsX14_blame := by decide +kernel
theorem i_X14_blame_X12 : ∀ w ∈ u_ws RX12 TX12 19, w ∈ wsX14_blame := by decide +kernel
theorem k_X14_blame_f57 : Cond.fieldLink RX14 57 "TideLotsModel" "thrown" "I" ∈ wsX14_blame := by decide +kernel
abbrev rX14_blame : Room := { frames := 2, cells := 0, slots := 0, locals := 43 }
noncomputable def b_X14_blame_76 (M : gMem) (x0 : Nat) (x1 : Int32) (x2 : Int32) (x3 : Int32) : Option ((gMem × Int32 × Int32) ⊕ (Int32 × gMem)) :=
  some (.inl (M, x2, (x3 + (1 : Int32))))
noncomputable def b_X14_blame_71 (M : gMem) (x0 : Nat) (x1 : Int32) (x2 : Int32) (x3 : Int32) (s0 : Int32) (s1 : Int32) : Option ((gMem × Int32 × Int32) ⊕ (Int32 × gMem)) :=
  (if s0 ≤ s1 then b_X14_blame_76 M x0 x1 x2 x3 else b_X14_blame_76 M x0 x1 x3 x3)
noncomputable def bb_X14_blame_23 (M : gMem) (x0 : Nat) (x1 : Int32) (x2 : Int32) (x3 : Int32) : Option ((gMem × Int32 × Int32) ⊕ (Int32 × gMem)) :=
  ck (mT M x0 = 13) <| dr ((mR M x0 11)) fun a2 => ck (mT M a2 = 12) <| (if (mI M a2 4) ≤ x3 then oI (some (x2, M)) else dr ((mR M x0 13)) fun a5 => ck (mT M a5 = 11) <| dr ((mR M a5 4)) fun a7 => ck (mT M a7 = 20) <| ck (inb (((8 : Int32) * x1) + x3) (mL M a7)) <| (if x2 = (-1 : Int32) then b_X14_blame_71 M x0 x1 x2 x3 ((mI M a7 ((((8 : Int32) * x1) + x3)).toNatClampNeg)) ((0 : Int32)) else ck (inb (((8 : Int32) * x1) + x2) (mL M a7)) <| b_X14_blame_71 M x0 x1 x2 x3 ((mI M a7 ((((8 : Int32) * x1) + x3)).toNatClampNeg)) ((mI M a7 ((((8 : Int32) * x1) + x2)).toNatClampNeg))))
noncomputable def lp_X14_blame_23 (M : gMem) (x0 : Nat) (x1 : Int32) (x2 : Int32) (x3 : Int32) : Option (Int32 × gMem) :=
  lp (fun (q : gMem × Int32 × Int32) => bb_X14_blame_23 q.1 x0 x1 q.2.1 q.2.2) (M, x2, x3)
noncomputable def b_X14_blame_0 (M : gMem) (x0 : Nat) (x1 : Int32) : Option (Int32 × gMem) :=
  ck (mT M x0 = 13) <| lw (wI M x0 0 ((0 : Int32))) fun M12 => bd (f_X14_isGround M12 x0 x1) fun r14 M14 => (if r14 = 0 then ck (mT M14 x0 = 13) <| bd (f_X14_no M14 x0 ((1 : Int32))) fun r15 M15 => some (r15, M15) else lp_X14_blame_23 M14 x0 x1 ((-1 : Int32)) ((0 : Int32)))
noncomputable def f_X14_blame (M : gMem) (x0 : Nat) (x1 : Int32) : Option (Int32 × gMem) :=
  b_X14_blame_0 M x0 x1
set_option maxHeartbeats 4000000 in
set_option maxRecDepth 100000 in
theorem t_X14_blame_76 (X : gX p s m args meth c D cy B (gSt Z B H0) RX14 cX14_blame wsX14_blame 4) (hr : meth.sig.returnType = (some .int)) {Q : State → Prop} : ∀ (M : gMem) (x0 : Nat) (x1 : Int32) (x2 : Int32) (x3 : Int32) (z : (gMem × Int32 × Int32) ⊕ (Int32 × gMem)), b_X14_blame_76 M x0 x1 x2 x3 = some z → (Sum.elim (fun (q : gMem × Int32 × Int32) => gGo p l e rX14_blame s m args below meth c D cy B H0 4 0 0 Q 23 [(0, vR (some x0)), (1, vI x1), (2, vI q.2.1), (3, vI q.2.2)] [] q.1) (fun (r : Int32 × gMem) => Q = gMQ below D cy B H0 args s 0 0 (some (vI r.1)) r.2)) z → gGo p l e rX14_blame s m args below meth c D cy B H0 4 0 0 Q 76 [(0, vR (some x0)), (1, vI x1), (2, vI x2), (3, vI x3)] [] M := by
  intro M x0 x1 x2 x3 z hf hK
  unfold b_X14_blame_76 at hf
  refine g_iinc (v := (1 : Int32)) (lv' := [(3, vI (x3 + (1 : Int32))), (0, vR (some x0)), (1, vI x1), (2, vI x2)]) X dX14_blame_76 rfl (by decide) (by decide) rfl ?_
  refine g_goto (tgt := 23) X dX14_blame_79 (by decide) ?_
  cases hf
  refine g_sub (lvsub_of _ _ [1, 2, 3, 0] rfl) ?_
  exact hK
set_option maxHeartbeats 4000000 in
set_option maxRecDepth 100000 in
theorem t_X14_blame_71 (X : gX p s m args meth c D cy B (gSt Z B H0) RX14 cX14_blame wsX14_blame 4) (hr : meth.sig.returnType = (some .int)) {Q : State → Prop} : ∀ (M : gMem) (x0 : Nat) (x1 : Int32) (x2 : Int32) (x3 : Int32) (s0 : Int32) (s1 : Int32) (z : (gMem × Int32 × Int32) ⊕ (Int32 × gMem)), b_X14_blame_71 M x0 x1 x2 x3 s0 s1 = some z → (Sum.elim (fun (q : gMem × Int32 × Int32) => gGo p l e rX14_blame s m args below meth c D cy B H0 4 0 0 Q 23 [(0, vR (some x0)), (1, vI x1), (2, vI q.2.1), (3, vI q.2.2)] [] q.1) (fun (r : Int32 × gMem) => Q = gMQ below D cy B H0 args s 0 0 (some (vI r.1)) r.2)) z → gGo p l e rX14_blame s m args below meth c D cy B H0 4 0 0 Q 71 [(0, vR (some x0)), (1, vI x1), (2, vI x2), (3, vI x3)] [vI s1, vI s0] M := by
  intro M x0 x1 x2 x3 s0 s1 z hf hK
  unfold b_X14_blame_71 at hf
  refine g_icmp_le (tgt := 76) X dX14_blame_71 (by decide) (fun hc => ?_) (fun hc => ?_)
  · have hf := ife_t hc hf
    refine g_sub (lvsub_of _ _ [0, 1, 2, 3] rfl) ?_
    exact t_X14_blame_76 X hr _ _ _ _ _ _ hf hK
  · have hf := ife_f hc hf
    refine g_iload_n X dX14_blame_74 rfl rfl ?_
    refine g_istore_n (lv' := [(2, vI x3), (0, vR (some x0)), (1, vI x1), (3, vI x3)]) X dX14_blame_75 rfl (by decide) rfl ?_
    refine g_sub (lvsub_of _ _ [1, 2, 0, 3] rfl) ?_
    exact t_X14_blame_76 X hr _ _ _ _ _ _ hf hK
set_option maxHeartbeats 4000000 in
set_option maxRecDepth 100000 in
theorem tb_X14_blame_23 (X : gX p s m args meth c D cy B (gSt Z B H0) RX14 cX14_blame wsX14_blame 4) (hr : meth.sig.returnType = (some .int)) {Q : State → Prop} : ∀ (M : gMem) (x0 : Nat) (x1 : Int32) (x2 : Int32) (x3 : Int32) (z : (gMem × Int32 × Int32) ⊕ (Int32 × gMem)), bb_X14_blame_23 M x0 x1 x2 x3 = some z → (Sum.elim (fun (q : gMem × Int32 × Int32) => gGo p l e rX14_blame s m args below meth c D cy B H0 4 0 0 Q 23 [(0, vR (some x0)), (1, vI x1), (2, vI q.2.1), (3, vI q.2.2)] [] q.1) (fun (r : Int32 × gMem) => Q = gMQ below D cy B H0 args s 0 0 (some (vI r.1)) r.2)) z → gGo p l e rX14_blame s m args below meth c D cy B H0 4 0 0 Q 23 [(0, vR (some x0)), (1, vI x1), (2, vI x2), (3, vI x3)] [] M := by
  intro M x0 x1 x2 x3 z hf hK
  unfold bb_X14_blame_23 at hf
  refine g_iload_n X dX14_blame_23 rfl rfl ?_
  refine g_aload_n X dX14_blame_24 rfl rfl ?_
  obtain ⟨hT1, hf⟩ := ck_e hf
  refine g_get (ci := 12) (v := vR (mR M x0 11)) 11 X cdX14 i_X14_blame_X14 (by decide) k_X14_blame_f35 rfl dX14_blame_25 rfl hT1 rfl ?_
  obtain ⟨a2, ha2, hf⟩ := dr_e hf
  obtain ⟨hT3, hf⟩ := ck_e hf
  refine g_getN (ci := 11) (w := vI (mI M a2 4)) 4 X cdX13 i_X14_blame_X13 (by decide) (gNw X _ kn_X14_67) rfl dX14_blame_28 ha2 hT3 rfl ?_
  refine g_icmp_ge (tgt := 82) X dX14_blame_31 (by decide) (fun hc => ?_) (fun hc => ?_)
  · have hf := ife_t hc hf
    refine g_iload_n X dX14_blame_82 rfl rfl ?_
    obtain ⟨w4, hw4, hz4⟩ := oI_e hf
    subst hz4
    have hf := hw4
    cases hf
    refine g_eqQ hK ?_
    exact g_iret X hr dX14_blame_83
  · have hf := ife_f hc hf
    refine g_aload_n X dX14_blame_34 rfl rfl ?_
    refine g_get (ci := 12) (v := vR (mR M x0 13)) 13 X cdX14 i_X14_blame_X14 (by decide) k_X14_blame_f47 rfl dX14_blame_35 rfl hT1 rfl ?_
    obtain ⟨a5, ha5, hf⟩ := dr_e hf
    obtain ⟨hT6, hf⟩ := ck_e hf
    refine g_getN (ci := 10) (w := vR (mR M a5 4)) 4 X cdX12 i_X14_blame_X12 (by decide) (gNw X _ kn_X14_299) rfl dX14_blame_38 ha5 hT6 rfl ?_
    refine g_bipush (v := (8 : Int32)) X dX14_blame_41 (by decide) ?_
    refine g_iload_n X dX14_blame_43 rfl rfl ?_
    refine g_imul X dX14_blame_44 ?_
    refine g_iload_n X dX14_blame_45 rfl rfl ?_
    refine g_iadd X dX14_blame_46 ?_
    obtain ⟨a7, ha7, hf⟩ := dr_e hf
    obtain ⟨hT8, hf⟩ := ck_e hf
    obtain ⟨hg9, hf⟩ := ck_e hf
    refine g_iald X dX14_blame_47 ha7 hT8 hg9 ?_
    refine g_iload_n X dX14_blame_48 rfl rfl ?_
    refine g_iconst (v := (-1 : Int32)) X dX14_blame_49 (by decide) ?_
    refine g_icmp_ne (tgt := 57) X dX14_blame_50 (by decide) (fun hc => ?_) (fun hc => ?_)
    · have hf := ife_f hc hf
      refine g_aload_n X dX14_blame_57 rfl rfl ?_
      refine g_get (ci := 12) (v := vR (mR M x0 13)) 13 X cdX14 i_X14_blame_X14 (by decide) k_X14_blame_f47 rfl dX14_blame_58 rfl hT1 rfl ?_
      refine g_getN (ci := 10) (w := vR (mR M a5 4)) 4 X cdX12 i_X14_blame_X12 (by decide) (gNw X _ kn_X14_299) rfl dX14_blame_61 ha5 hT6 rfl ?_
      refine g_bipush (v := (8 : Int32)) X dX14_blame_64 (by decide) ?_
      refine g_iload_n X dX14_blame_66 rfl rfl ?_
      refine g_imul X dX14_blame_67 ?_
      refine g_iload_n X dX14_blame_68 rfl rfl ?_
      refine g_iadd X dX14_blame_69 ?_
      obtain ⟨hg10, hf⟩ := ck_e hf
      refine g_iald X dX14_blame_70 ha7 hT8 hg10 ?_
      refine g_sub (lvsub_of _ _ [0, 1, 2, 3] rfl) ?_
      exact t_X14_blame_71 X hr _ _ _ _ _ _ _ _ hf hK
    · have hf := ife_t hc hf
      refine g_iconst (v := (0 : Int32)) X dX14_blame_53 (by decide) ?_
      refine g_goto (tgt := 71) X dX14_blame_54 (by decide) ?_
      refine g_sub (lvsub_of _ _ [0, 1, 2, 3] rfl) ?_
      exact t_X14_blame_71 X hr _ _ _ _ _ _ _ _ hf hK
set_option maxHeartbeats 4000000 in
set_option maxRecDepth 100000 in
theorem tl_X14_blame_23 (X : gX p s m args meth c D cy B (gSt Z B H0) RX14 cX14_blame wsX14_blame 4) (hr : meth.sig.returnType = (some .int)) {Q : State → Prop} : ∀ (M : gMem) (x0 : Nat) (x1 : Int32) (x2 : Int32) (x3 : Int32) (z : Int32 × gMem), lp_X14_blame_23 M x0 x1 x2 x3 = some z → (fun (r : Int32 × gMem) => Q = gMQ below D cy B H0 args s 0 0 (some (vI r.1)) r.2) z → gGo p l e rX14_blame s m args below meth c D cy B H0 4 0 0 Q 23 [(0, vR (some x0)), (1, vI x1), (2, vI x2), (3, vI x3)] [] M := by
  intro M x0 x1 x2 x3 z hf hK
  refine lp_ind (P := (fun (q : gMem × Int32 × Int32) (z : Int32 × gMem) => (fun (r : Int32 × gMem) => Q = gMQ below D cy B H0 args s 0 0 (some (vI r.1)) r.2) z → gGo p l e rX14_blame s m args below meth c D cy B H0 4 0 0 Q 23 [(0, vR (some x0)), (1, vI x1), (2, vI q.2.1), (3, vI q.2.2)] [] q.1)) (fun q z hq => ?_) _ _ hf hK
  intro hK
  obtain ⟨w, hw, hm⟩ := hq
  refine tb_X14_blame_23 X hr _ _ _ _ _ w hw ?_
  cases w with
  | inl a => exact hm hK
  | inr b => cases hm; exact hK
set_option maxHeartbeats 4000000 in
set_option maxRecDepth 100000 in
theorem t_X14_blame_0 (X : gX p s m args meth c D cy B (gSt Z B H0) RX14 cX14_blame wsX14_blame 4) (hr : meth.sig.returnType = (some .int)) {Q : State → Prop} : ∀ (M : gMem) (x0 : Nat) (x1 : Int32) (z : Int32 × gMem), b_X14_blame_0 M x0 x1 = some z → (fun (r : Int32 × gMem) => Q = gMQ below D cy B H0 args s 0 0 (some (vI r.1)) r.2) z → gGo p l e rX14_blame s m args below meth c D cy B H0 4 0 0 Q 0 [(0, vR (some x0)), (1, vI x1)] [] M := by
  intro M x0 x1 z hf hK
  unfold b_X14_blame_0 at hf
  refine g_aload_n X dX14_blame_0 rfl rfl ?_
  refine g_iconst (v := (0 : Int32)) X dX14_blame_1 (by decide) ?_
  obtain ⟨hT11, hf⟩ := ck_e hf
  refine g_putI (ci := 12) 0 X cdX14 i_X14_blame_X14 (by decide) k_X14_blame_f57 rfl dX14_blame_2 rfl hT11 (Or.inl rfl) rfl rfl rfl ?_
  obtain ⟨M12, hM12, hf⟩ := lw_e hf
  rw [← hM12]
  have hT13 : mT M12 x0 = 13 := by rw [hM12]; exact hT11
  refine g_aload_n X dX14_blame_5 rfl rfl ?_
  refine g_iload_n X dX14_blame_6 rfl rfl ?_
  obtain ⟨r14, M14, hq14, hf⟩ := bd_e hf
  refine g_callV (ci := 12) (b := x0) (As := [vI x1]) (st := []) (v := some (vI r14)) (M1 := M14) X (m_X14_isGround l hq14) (cwV 1 X.2.2.1 gX14_blame_X14_isGround rfl rfl rfl (by decide +kernel) ⟨Nat.le_of_ble_eq_true rfl, Nat.le_of_ble_eq_true rfl⟩) rfl rfl rfl hT13 (by decide) rfl (Nat.le_of_ble_eq_true rfl) dX14_blame_7 ⟨by decide, by decide⟩ ?_
  refine g_if_ne (tgt := 19) X dX14_blame_10 (by decide) (fun hc => ?_) (fun hc => ?_)
  · have hf := ife_f hc hf
    refine g_iconst (v := (-1 : Int32)) X dX14_blame_19 (by decide) ?_
    refine g_istore_n (lv' := [(2, vI (-1 : Int32)), (0, vR (some x0)), (1, vI x1)]) X dX14_blame_20 rfl (by decide) rfl ?_
    refine g_iconst (v := (0 : Int32)) X dX14_blame_21 (by decide) ?_
    refine g_istore_n (lv' := [(3, vI (0 : Int32)), (2, vI (-1 : Int32)), (0, vR (some x0)), (1, vI x1)]) X dX14_blame_22 rfl (by decide) rfl ?_
    refine g_sub (lvsub_of _ _ [2, 3, 1, 0] rfl) ?_
    exact tl_X14_blame_23 X hr _ _ _ _ _ _ hf hK
  · have hf := ife_t hc hf
    refine g_aload_n X dX14_blame_13 rfl rfl ?_
    refine g_iconst (v := (1 : Int32)) X dX14_blame_14 (by decide) ?_
    obtain ⟨hT16, hf⟩ := ck_e hf
    obtain ⟨r15, M15, hq15, hf⟩ := bd_e hf
    refine g_callV (ci := 12) (b := x0) (As := [vI (1 : Int32)]) (st := []) (v := some (vI r15)) (M1 := M15) X (m_X14_no l hq15) (cwV 1 X.2.2.1 gX14_blame_X14_no rfl rfl rfl (by decide +kernel) ⟨Nat.le_of_ble_eq_true rfl, Nat.le_of_ble_eq_true rfl⟩) rfl rfl rfl hT16 (by decide) rfl (Nat.le_of_ble_eq_true rfl) dX14_blame_15 ⟨by decide, by decide⟩ ?_
    cases hf
    refine g_eqQ hK ?_
    exact g_iret X hr dX14_blame_18
set_option maxHeartbeats 4000000 in
set_option maxRecDepth 100000 in
theorem m_X14_blame (l : Launch) {D : va_G} {cy : Nat → ClassId} {B : Nat} {H0 : Heap} {Z : Nat → Nat} {M M1 : gMem} {x0 : Nat} {x1 : Int32} {r : Int32} (hf : f_X14_blame M x0 x1 = some (r, M1)) : Met l yX14_blame wsX14_blame rX14_blame (va_Pc (Value.ref x0 :: List.map gv [vI x1]) (gPre D cy B H0 (gSt Z B H0) M)) (gQ D cy B H0 (some (vI r)) M1) 0 0 (gA B) := by
  refine Met.ofW (cc := cX14_blame) (maxL := 4) (ret := (some .int)) (by decide) rfl ?_
  intro p e s m args below meth c s₁ Bd hml hv
  obtain ⟨rfl, hW, hKK, hFs⟩ := hv
  have X : gX p s m _ meth c D cy B (gSt Z B H0) RX14 cX14_blame wsX14_blame 4 := ⟨Bd.exec, Bd.bytes, atoms_spec (ws := wsX14_blame) Bd.pre, findClass_of_methodNamed Bd.named, hml, hKK, by rw [hW.1]; exact hW.2.1, Bd.notSynchronized, hFs⟩
  have hr := Bd.returns
  have hl := lv_entry ([.ref x0, .int x1]) (n := 4) (Nat.le_of_ble_eq_true rfl)
  show W p l e rX14_blame s m _ below meth c s.heap [] 0 0 _ (entryFrame m ([.ref x0, .int x1] : List Value).toArray 4)
  rw [lg_entry_eq]
  generalize (lg_sl ([.ref x0, .int x1]) ++ List.replicate (4 - (lg_sl ([.ref x0, .int x1])).length) Slot.unset).toArray = ls at hl ⊢
  have hl : lv_has ls 4 (List.map gq [(0, vR (some x0)), (1, vI x1)]) := hl
  exact t_X14_blame_0 X hr _ _ _ _ hf rfl s.heap [] ls hW va_S.rf (lv_has_sub hl (lvsub_of _ _ [0, 1] rfl))
/-! ## TideLotsModel.gap()I -/
theorem dX14_gap_0 : decode cX14_gap 0 = .ok (.aload_n 0, 1) := by decide +kernel
theorem dX14_gap_1 : decode cX14_gap 1 = .ok (.iconst 0, 1) := by decide +kernel
theorem dX14_gap_2 : decode cX14_gap 2 = .ok (.putfield 57, 3) := by decide +kernel
theorem dX14_gap_5 : decode cX14_gap 5 = .ok (.aload_n 0, 1) := by decide +kernel
theorem dX14_gap_6 : decode cX14_gap 6 = .ok (.getfield 47, 3) := by decide +kernel
theorem dX14_gap_9 : decode cX14_gap 9 = .ok (.invokevirtual 359, 3) := by decide +kernel
theorem dX14_gap_12 : decode cX14_gap 12 = .ok (.ireturn, 1) := by decide +kernel
set_option maxRecDepth 20000 in
theorem ggX14_gap_X12_gap : GoodIn wsX14_gap wsX12_gap := goodIn_2 24 (goodIn_rr wsB_X14_gap_in _ [(1, 6), (1, 7), (1, 8), (1, 9), (1, 10), (1, 11), (1, 12), (1, 13), (1, 14), (1, 15), (1, 16), (3, 0), (3, 1), (3, 2), (3, 3), (3, 4), (3, 5), (3, 6), (3, 7), (3, 8), (3, 9), (3, 10), (3, 11), (3, 12)] (by decide +kernel) (by decide +kernel)) (goodIn_2 24 (goodIn_rr wsB_X14_gap_in _ [(3, 13), (3, 14), (3, 15), (3, 16), (3, 17), (3, 18), (2, 0), (2, 1), (2, 2), (2, 3), (2, 4), (2, 5), (2, 6), (2, 7), (2, 8), (2, 9), (2, 10), (2, 11), (2, 12), (2, 13), (2, 14), (4, 0), (4, 1), (4, 2)] (by decide +kernel) (by decide +kernel)) (goodIn_rr wsB_X14_gap_in _ [(4, 3), (4, 4), (4, 5), (4, 6), (4, 7), (4, 8), (4, 9), (4, 10), (4, 11), (4, 12), (4, 13), (4, 14), (4, 15), (4, 16), (4, 17), (4, 18), (4, 19), (4, 20), (4, 21), (4, 22), (4, 23), (4, 24)] (by decide +kernel) (by decide +kernel)))
set_option maxRecDepth 20000 in
theorem gX14_gap_X12_gap : GoodIn wsX14_gap (wsV RX14 359 RX12 yX12_gap wsX12_gap) := goodIn_app (goodIn_rr wsB_X14_gap_in _ [(1, 2), (1, 3), (1, 4), (1, 5)] (by decide +kernel) (by decide +kernel)) ggX14_gap_X12_gap
theorem k_X14_gap_f57 : Cond.fieldLink RX14 57 "TideLotsModel" "thrown" "I" ∈ wsX14_gap := by decide +kernel
theorem i_X14_gap_X14 : ∀ w ∈ u_ws RX14 TX14 15, w ∈ wsX14_gap := by decide +kernel
theorem k_X14_gap_f47 : Cond.fieldLink RX14 47 "TideLotsModel" "s" "LTideLotsModel$State;" ∈ wsX14_gap := by decide +kernel
abbrev rX14_gap : Room := { frames := 2, cells := 0, slots := 0, locals := 36 }
noncomputable def b_X14_gap_0 (M : gMem) (x0 : Nat) : Option (Int32 × gMem) :=
  ck (mT M x0 = 13) <| lw (wI M x0 0 ((0 : Int32))) fun M2 => dr ((mR M2 x0 13)) fun a5 => ck (mT M2 a5 = 11) <| bd (f_X12_gap M2 a5) fun r4 M4 => some (r4, M4)
noncomputable def f_X14_gap (M : gMem) (x0 : Nat) : Option (Int32 × gMem) :=
  b_X14_gap_0 M x0
set_option maxHeartbeats 4000000 in
set_option maxRecDepth 100000 in
theorem t_X14_gap_0 (X : gX p s m args meth c D cy B (gSt Z B H0) RX14 cX14_gap wsX14_gap 1) (hr : meth.sig.returnType = (some .int)) {Q : State → Prop} : ∀ (M : gMem) (x0 : Nat) (z : Int32 × gMem), b_X14_gap_0 M x0 = some z → (fun (r : Int32 × gMem) => Q = gMQ below D cy B H0 args s 0 0 (some (vI r.1)) r.2) z → gGo p l e rX14_gap s m args below meth c D cy B H0 1 0 0 Q 0 [(0, vR (some x0))] [] M := by
  intro M x0 z hf hK
  unfold b_X14_gap_0 at hf
  refine g_aload_n X dX14_gap_0 rfl rfl ?_
  refine g_iconst (v := (0 : Int32)) X dX14_gap_1 (by decide) ?_
  obtain ⟨hT1, hf⟩ := ck_e hf
  refine g_putI (ci := 12) 0 X cdX14 i_X14_gap_X14 (by decide) k_X14_gap_f57 rfl dX14_gap_2 rfl hT1 (Or.inl rfl) rfl rfl rfl ?_
  obtain ⟨M2, hM2, hf⟩ := lw_e hf
  rw [← hM2]
  have hT3 : mT M2 x0 = 13 := by rw [hM2]; exact hT1
  refine g_aload_n X dX14_gap_5 rfl rfl ?_
  refine g_get (ci := 12) (v := vR (mR M2 x0 13)) 13 X cdX14 i_X14_gap_X14 (by decide) k_X14_gap_f47 rfl dX14_gap_6 rfl hT3 rfl ?_
  obtain ⟨a5, ha5, hf⟩ := dr_e hf
  obtain ⟨hT6, hf⟩ := ck_e hf
  obtain ⟨r4, M4, hq4, hf⟩ := bd_e hf
  refine g_callV (ci := 10) (b := a5) (As := []) (st := []) (v := some (vI r4)) (M1 := M4) X (m_X12_gap l hq4) (cwV 0 X.2.2.1 gX14_gap_X12_gap rfl rfl rfl (by decide +kernel) ⟨Nat.le_of_ble_eq_true rfl, Nat.le_of_ble_eq_true rfl⟩) rfl rfl ha5 hT6 (by decide) rfl (Nat.le_of_ble_eq_true rfl) dX14_gap_9 ⟨by decide, by decide⟩ ?_
  cases hf
  refine g_eqQ hK ?_
  exact g_iret X hr dX14_gap_12
set_option maxHeartbeats 4000000 in
set_option maxRecDepth 100000 in
theorem m_X14_gap (l : Launch) {D : va_G} {cy : Nat → ClassId} {B : Nat} {H0 : Heap} {Z : Nat → Nat} {M M1 : gMem} {x0 : Nat} {r : Int32} (hf : f_X14_gap M x0 = some (r, M1)) : Met l yX14_gap wsX14_gap rX14_gap (va_Pc (Value.ref x0 :: List.map gv []) (gPre D cy B H0 (gSt Z B H0) M)) (gQ D cy B H0 (some (vI r)) M1) 0 0 (gA B) := by
  refine Met.ofW (cc := cX14_gap) (maxL := 1) (ret := (some .int)) (by decide) rfl ?_
  intro p e s m args below meth c s₁ Bd hml hv
  obtain ⟨rfl, hW, hKK, hFs⟩ := hv
  have X : gX p s m _ meth c D cy B (gSt Z B H0) RX14 cX14_gap wsX14_gap 1 := ⟨Bd.exec, Bd.bytes, atoms_spec (ws := wsX14_gap) Bd.pre, findClass_of_methodNamed Bd.named, hml, hKK, by rw [hW.1]; exact hW.2.1, Bd.notSynchronized, hFs⟩
  have hr := Bd.returns
  have hl := lv_entry ([.ref x0]) (n := 1) (Nat.le_of_ble_eq_true rfl)
  show W p l e rX14_gap s m _ below meth c s.heap [] 0 0 _ (entryFrame m ([.ref x0] : List Value).toArray 1)
  rw [lg_entry_eq]
  generalize (lg_sl ([.ref x0]) ++ List.replicate (1 - (lg_sl ([.ref x0])).length) Slot.unset).toArray = ls at hl ⊢
  have hl : lv_has ls 1 (List.map gq [(0, vR (some x0))]) := hl
  exact t_X14_gap_0 X hr _ _ _ hf rfl s.heap [] ls hW va_S.rf (lv_has_sub hl (lvsub_of _ _ [0] rfl))
/-! ## TideLotsModel.pass(I)I -/
theorem dX14_pass_0 : decode cX14_pass 0 = .ok (.aload_n 0, 1) := by decide +kernel
theorem dX14_pass_1 : decode cX14_pass 1 = .ok (.iconst 0, 1) := by decide +kernel
theorem dX14_pass_2 : decode cX14_pass 2 = .ok (.putfield 57, 3) := by decide +kernel
theorem dX14_pass_5 : decode cX14_pass 5 = .ok (.iload_n 1, 1) := by decide +kernel
theorem dX14_pass_6 : decode cX14_pass 6 = .ok (.iconst 1, 1) := by decide +kernel
theorem dX14_pass_7 : decode cX14_pass 7 = .ok (.bipush 60, 2) := by decide +kernel
theorem dX14_pass_9 : decode cX14_pass 9 = .ok (.invokestatic 63, 3) := by decide +kernel
theorem dX14_pass_12 : decode cX14_pass 12 = .ok (.ifCond .ne 9, 3) := by decide +kernel
theorem dX14_pass_15 : decode cX14_pass 15 = .ok (.aload_n 0, 1) := by decide +kernel
theorem dX14_pass_16 : decode cX14_pass 16 = .ok (.iconst 1, 1) := by decide +kernel
theorem dX14_pass_17 : decode cX14_pass 17 = .ok (.invokevirtual 276, 3) := by decide +kernel
theorem dX14_pass_20 : decode cX14_pass 20 = .ok (.ireturn, 1) := by decide +kernel
theorem dX14_pass_21 : decode cX14_pass 21 = .ok (.aload_n 0, 1) := by decide +kernel
theorem dX14_pass_22 : decode cX14_pass 22 = .ok (.getfield 47, 3) := by decide +kernel
theorem dX14_pass_25 : decode cX14_pass 25 = .ok (.aload_n 0, 1) := by decide +kernel
theorem dX14_pass_26 : decode cX14_pass 26 = .ok (.getfield 47, 3) := by decide +kernel
theorem dX14_pass_29 : decode cX14_pass 29 = .ok (.getfield 290, 3) := by decide +kernel
theorem dX14_pass_32 : decode cX14_pass 32 = .ok (.invokevirtual 287, 3) := by decide +kernel
theorem dX14_pass_35 : decode cX14_pass 35 = .ok (.istore_n 2, 1) := by decide +kernel
theorem dX14_pass_36 : decode cX14_pass 36 = .ok (.iconst 0, 1) := by decide +kernel
theorem dX14_pass_37 : decode cX14_pass 37 = .ok (.istore_n 3, 1) := by decide +kernel
theorem dX14_pass_38 : decode cX14_pass 38 = .ok (.iload_n 3, 1) := by decide +kernel
theorem dX14_pass_39 : decode cX14_pass 39 = .ok (.iload_n 1, 1) := by decide +kernel
theorem dX14_pass_40 : decode cX14_pass 40 = .ok (.if_icmp .ge 16, 3) := by decide +kernel
theorem dX14_pass_43 : decode cX14_pass 43 = .ok (.aload_n 0, 1) := by decide +kernel
theorem dX14_pass_44 : decode cX14_pass 44 = .ok (.getfield 47, 3) := by decide +kernel
theorem dX14_pass_47 : decode cX14_pass 47 = .ok (.invokevirtual 362, 3) := by decide +kernel
theorem dX14_pass_50 : decode cX14_pass 50 = .ok (.iinc 3 1, 3) := by decide +kernel
theorem dX14_pass_53 : decode cX14_pass 53 = .ok (.goto (-15), 3) := by decide +kernel
theorem dX14_pass_56 : decode cX14_pass 56 = .ok (.aload_n 0, 1) := by decide +kernel
theorem dX14_pass_57 : decode cX14_pass 57 = .ok (.getfield 47, 3) := by decide +kernel
theorem dX14_pass_60 : decode cX14_pass 60 = .ok (.aload_n 0, 1) := by decide +kernel
theorem dX14_pass_61 : decode cX14_pass 61 = .ok (.getfield 47, 3) := by decide +kernel
theorem dX14_pass_64 : decode cX14_pass 64 = .ok (.getfield 290, 3) := by decide +kernel
theorem dX14_pass_67 : decode cX14_pass 67 = .ok (.invokevirtual 287, 3) := by decide +kernel
theorem dX14_pass_70 : decode cX14_pass 70 = .ok (.iload_n 2, 1) := by decide +kernel
theorem dX14_pass_71 : decode cX14_pass 71 = .ok (.isub, 1) := by decide +kernel
theorem dX14_pass_72 : decode cX14_pass 72 = .ok (.ireturn, 1) := by decide +kernel
set_option maxRecDepth 20000 in
theorem ggX14_pass_X12_sum : GoodIn wsX14_pass wsX12_sum := goodIn_rr wsB_X14_pass_in _ [(1, 14)] (by decide +kernel) (by decide +kernel)
set_option maxRecDepth 20000 in
theorem gX14_pass_X12_sum : GoodIn wsX14_pass (wsV RX14 287 RX12 yX12_sum wsX12_sum) := goodIn_app (goodIn_rr wsB_X14_pass_in _ [(1, 10), (1, 11), (1, 12), (1, 13)] (by decide +kernel) (by decide +kernel)) ggX14_pass_X12_sum
set_option maxRecDepth 20000 in
theorem ggX14_pass_X12_pass : GoodIn wsX14_pass wsX12_pass := goodIn_2 24 (goodIn_rr wsB_X14_pass_in _ [(1, 18), (1, 19), (1, 20), (1, 21), (1, 22), (1, 23), (2, 0), (2, 1), (2, 2), (2, 3), (1, 13), (2, 4), (2, 5), (2, 6), (2, 7), (2, 8), (2, 9), (2, 10), (2, 11), (2, 12), (2, 13), (2, 14), (2, 15), (2, 16)] (by decide +kernel) (by decide +kernel)) (goodIn_2 24 (goodIn_rr wsB_X14_pass_in _ [(2, 17), (2, 18), (2, 19), (2, 20), (2, 21), (2, 22), (2, 23), (3, 0), (3, 1), (3, 2), (3, 3), (1, 4), (3, 4), (1, 2), (1, 3), (1, 5), (3, 5), (3, 6), (3, 7), (3, 8), (3, 9), (3, 10), (3, 11), (3, 12)] (by decide +kernel) (by decide +kernel)) (goodIn_2 24 (goodIn_rr wsB_X14_pass_in _ [(3, 13), (3, 14), (3, 15), (3, 16), (3, 17), (3, 18), (3, 19), (3, 20), (3, 21), (3, 22), (3, 23), (4, 0), (4, 1), (4, 2), (4, 3), (4, 4), (4, 5), (4, 6), (4, 7), (4, 8), (4, 9), (4, 10), (4, 11), (4, 12)] (by decide +kernel) (by decide +kernel)) (goodIn_2 24 (goodIn_rr wsB_X14_pass_in _ [(4, 13), (4, 14), (4, 15), (4, 16), (4, 17), (4, 18), (4, 19), (4, 20), (4, 21), (4, 22), (6, 0), (6, 1), (6, 2), (6, 3), (6, 4), (6, 5), (6, 6), (6, 7), (6, 8), (6, 9), (6, 10), (6, 11), (6, 12), (6, 13)] (by decide +kernel) (by decide +kernel)) (goodIn_2 24 (goodIn_rr wsB_X14_pass_in _ [(6, 14), (6, 15), (6, 16), (6, 17), (6, 18), (5, 0), (5, 1), (5, 2), (5, 3), (5, 4), (5, 5), (5, 6), (5, 7), (5, 8), (5, 9), (5, 10), (5, 11), (5, 12), (5, 13), (5, 14), (7, 0), (7, 1), (7, 2), (7, 3)] (by decide +kernel) (by decide +kernel)) (goodIn_rr wsB_X14_pass_in _ [(7, 4), (7, 5), (7, 6), (7, 7), (7, 8), (7, 9), (7, 10), (7, 11), (7, 12), (7, 13), (7, 14), (7, 15), (7, 16), (7, 17), (7, 18), (7, 19), (7, 20), (7, 21), (7, 22), (7, 23), (7, 24)] (by decide +kernel) (by decide +kernel))))))
set_option maxRecDepth 20000 in
theorem gX14_pass_X12_pass : GoodIn wsX14_pass (wsV RX14 362 RX12 yX12_pass wsX12_pass) := goodIn_app (goodIn_rr wsB_X14_pass_in _ [(1, 15), (1, 16), (1, 17), (1, 13)] (by decide +kernel) (by decide +kernel)) ggX14_pass_X12_pass
set_option maxRecDepth 20000 in
theorem ggX14_pass_X14_isIn : GoodIn wsX14_pass wsX14_isIn := goodIn_rr wsB_X14_pass_in _ [(1, 5)] (by decide +kernel) (by decide +kernel)
set_option maxRecDepth 20000 in
theorem gX14_pass_X14_isIn : GoodIn wsX14_pass (va_wsS RX14 63 yX14_isIn wsX14_isIn) := goodIn_app (goodIn_rr wsB_X14_pass_in _ [(1, 2), (1, 3), (1, 4)] (by decide +kernel) (by decide +kernel)) ggX14_pass_X14_isIn
set_option maxRecDepth 20000 in
theorem ggX14_pass_X14_no : GoodIn wsX14_pass wsX14_no := goodIn_rr wsB_X14_pass_in _ [(1, 9), (1, 0), (5, 0), (5, 1), (5, 2), (5, 3), (5, 4), (5, 5), (5, 6), (5, 7), (5, 8), (5, 9), (5, 10), (5, 11), (5, 12), (5, 13), (5, 14)] (by decide +kernel) (by decide +kernel)
set_option maxRecDepth 20000 in
theorem gX14_pass_X14_no : GoodIn wsX14_pass (wsV RX14 276 RX14 yX14_no wsX14_no) := goodIn_app (goodIn_rr wsB_X14_pass_in _ [(1, 6), (1, 7), (1, 8), (1, 4)] (by decide +kernel) (by decide +kernel)) ggX14_pass_X14_no
theorem k_X14_pass_f47 : Cond.fieldLink RX14 47 "TideLotsModel" "s" "LTideLotsModel$State;" ∈ wsX14_pass := by decide +kernel
theorem i_X14_pass_X14 : ∀ w ∈ u_ws RX14 TX14 15, w ∈ wsX14_pass := by decide +kernel
theorem i_X14_pass_X12 : ∀ w ∈ u_ws RX12 TX12 19, w ∈ wsX14_pass := by decide +kernel
theorem k_X14_pass_f57 : Cond.fieldLink RX14 57 "TideLotsModel" "thrown" "I" ∈ wsX14_pass := by decide +kernel
abbrev rX14_pass : Room := { frames := 7, cells := 0, slots := 0, locals := 161 }
noncomputable def bb_X14_pass_38 (M : gMem) (x0 : Nat) (x1 : Int32) (x2 : Int32) (x3 : Int32) : Option ((gMem × Int32) ⊕ (Int32 × gMem)) :=
  (if x1 ≤ x3 then ck (mT M x0 = 13) <| dr ((mR M x0 13)) fun a2 => ck (mT M a2 = 11) <| bd (f_X12_sum M a2 ((mR M a2 6))) fun r4 M4 => oI (some ((r4 - x2), M4)) else ck (mT M x0 = 13) <| dr ((mR M x0 13)) fun a8 => ck (mT M a8 = 11) <| bd (f_X12_pass M a8) fun _ M7 => some (.inl (M7, (x3 + (1 : Int32)))))
noncomputable def lp_X14_pass_38 (M : gMem) (x0 : Nat) (x1 : Int32) (x2 : Int32) (x3 : Int32) : Option (Int32 × gMem) :=
  lp (fun (q : gMem × Int32) => bb_X14_pass_38 q.1 x0 x1 x2 q.2) (M, x3)
noncomputable def b_X14_pass_0 (M : gMem) (x0 : Nat) (x1 : Int32) : Option (Int32 × gMem) :=
  ck (mT M x0 = 13) <| lw (wI M x0 0 ((0 : Int32))) fun M11 => bd (f_X14_isIn M11 x1 ((1 : Int32)) ((60 : Int32))) fun r13 M13 => (if r13 = 0 then ck (mT M13 x0 = 13) <| bd (f_X14_no M13 x0 ((1 : Int32))) fun r18 M18 => some (r18, M18) else ck (mT M13 x0 = 13) <| dr ((mR M13 x0 13)) fun a15 => ck (mT M13 a15 = 11) <| bd (f_X12_sum M13 a15 ((mR M13 a15 6))) fun r17 M17 => lp_X14_pass_38 M17 x0 x1 r17 ((0 : Int32)))
noncomputable def f_X14_pass (M : gMem) (x0 : Nat) (x1 : Int32) : Option (Int32 × gMem) :=
  b_X14_pass_0 M x0 x1
set_option maxHeartbeats 4000000 in
set_option maxRecDepth 100000 in
theorem tb_X14_pass_38 (X : gX p s m args meth c D cy B (gSt Z B H0) RX14 cX14_pass wsX14_pass 4) (hr : meth.sig.returnType = (some .int)) {Q : State → Prop} : ∀ (M : gMem) (x0 : Nat) (x1 : Int32) (x2 : Int32) (x3 : Int32) (z : (gMem × Int32) ⊕ (Int32 × gMem)), bb_X14_pass_38 M x0 x1 x2 x3 = some z → (Sum.elim (fun (q : gMem × Int32) => gGo p l e rX14_pass s m args below meth c D cy B H0 4 0 0 Q 38 [(0, vR (some x0)), (1, vI x1), (2, vI x2), (3, vI q.2)] [] q.1) (fun (r : Int32 × gMem) => Q = gMQ below D cy B H0 args s 0 0 (some (vI r.1)) r.2)) z → gGo p l e rX14_pass s m args below meth c D cy B H0 4 0 0 Q 38 [(0, vR (some x0)), (1, vI x1), (2, vI x2), (3, vI x3)] [] M := by
  intro M x0 x1 x2 x3 z hf hK
  unfold bb_X14_pass_38 at hf
  refine g_iload_n X dX14_pass_38 rfl rfl ?_
  refine g_iload_n X dX14_pass_39 rfl rfl ?_
  refine g_icmp_ge (tgt := 56) X dX14_pass_40 (by decide) (fun hc => ?_) (fun hc => ?_)
  · have hf := ife_t hc hf
    refine g_aload_n X dX14_pass_56 rfl rfl ?_
    obtain ⟨hT1, hf⟩ := ck_e hf
    refine g_get (ci := 12) (v := vR (mR M x0 13)) 13 X cdX14 i_X14_pass_X14 (by decide) k_X14_pass_f47 rfl dX14_pass_57 rfl hT1 rfl ?_
    refine g_aload_n X dX14_pass_60 rfl rfl ?_
    refine g_get (ci := 12) (v := vR (mR M x0 13)) 13 X cdX14 i_X14_pass_X14 (by decide) k_X14_pass_f47 rfl dX14_pass_61 rfl hT1 rfl ?_
    obtain ⟨a2, ha2, hf⟩ := dr_e hf
    obtain ⟨hT3, hf⟩ := ck_e hf
    refine g_getN (ci := 10) (w := vR (mR M a2 6)) 6 X cdX12 i_X14_pass_X12 (by decide) (gNw X _ kn_X14_290) rfl dX14_pass_64 ha2 hT3 rfl ?_
    obtain ⟨r4, M4, hq4, hf⟩ := bd_e hf
    refine g_callV (ci := 10) (b := a2) (As := [vR (mR M a2 6)]) (st := []) (v := some (vI r4)) (M1 := M4) X (m_X12_sum l hq4) (cwV 1 X.2.2.1 gX14_pass_X12_sum rfl rfl rfl (by decide +kernel) ⟨Nat.le_of_ble_eq_true rfl, Nat.le_of_ble_eq_true rfl⟩) rfl rfl ha2 hT3 (by decide) rfl (Nat.le_of_ble_eq_true rfl) dX14_pass_67 ⟨by decide, by decide⟩ ?_
    refine g_iload_n X dX14_pass_70 rfl rfl ?_
    refine g_isub X dX14_pass_71 ?_
    obtain ⟨w5, hw5, hz5⟩ := oI_e hf
    subst hz5
    have hf := hw5
    cases hf
    refine g_eqQ hK ?_
    exact g_iret X hr dX14_pass_72
  · have hf := ife_f hc hf
    refine g_aload_n X dX14_pass_43 rfl rfl ?_
    obtain ⟨hT6, hf⟩ := ck_e hf
    refine g_get (ci := 12) (v := vR (mR M x0 13)) 13 X cdX14 i_X14_pass_X14 (by decide) k_X14_pass_f47 rfl dX14_pass_44 rfl hT6 rfl ?_
    obtain ⟨a8, ha8, hf⟩ := dr_e hf
    obtain ⟨hT9, hf⟩ := ck_e hf
    obtain ⟨r7, M7, hq7, hf⟩ := bd_e hf
    refine g_callV (ci := 10) (b := a8) (As := []) (st := []) (v := none) (M1 := M7) X (m_X12_pass l hq7) (cwV 0 X.2.2.1 gX14_pass_X12_pass rfl rfl rfl (by decide +kernel) ⟨Nat.le_of_ble_eq_true rfl, Nat.le_of_ble_eq_true rfl⟩) rfl rfl ha8 hT9 (by decide) rfl (Nat.le_of_ble_eq_true rfl) dX14_pass_47 ⟨by decide, by decide⟩ ?_
    refine g_iinc (v := (1 : Int32)) (lv' := [(3, vI (x3 + (1 : Int32))), (0, vR (some x0)), (1, vI x1), (2, vI x2)]) X dX14_pass_50 rfl (by decide) (by decide) rfl ?_
    refine g_goto (tgt := 38) X dX14_pass_53 (by decide) ?_
    cases hf
    refine g_sub (lvsub_of _ _ [1, 2, 3, 0] rfl) ?_
    exact hK
set_option maxHeartbeats 4000000 in
set_option maxRecDepth 100000 in
theorem tl_X14_pass_38 (X : gX p s m args meth c D cy B (gSt Z B H0) RX14 cX14_pass wsX14_pass 4) (hr : meth.sig.returnType = (some .int)) {Q : State → Prop} : ∀ (M : gMem) (x0 : Nat) (x1 : Int32) (x2 : Int32) (x3 : Int32) (z : Int32 × gMem), lp_X14_pass_38 M x0 x1 x2 x3 = some z → (fun (r : Int32 × gMem) => Q = gMQ below D cy B H0 args s 0 0 (some (vI r.1)) r.2) z → gGo p l e rX14_pass s m args below meth c D cy B H0 4 0 0 Q 38 [(0, vR (some x0)), (1, vI x1), (2, vI x2), (3, vI x3)] [] M := by
  intro M x0 x1 x2 x3 z hf hK
  refine lp_ind (P := (fun (q : gMem × Int32) (z : Int32 × gMem) => (fun (r : Int32 × gMem) => Q = gMQ below D cy B H0 args s 0 0 (some (vI r.1)) r.2) z → gGo p l e rX14_pass s m args below meth c D cy B H0 4 0 0 Q 38 [(0, vR (some x0)), (1, vI x1), (2, vI x2), (3, vI q.2)] [] q.1)) (fun q z hq => ?_) _ _ hf hK
  intro hK
  obtain ⟨w, hw, hm⟩ := hq
  refine tb_X14_pass_38 X hr _ _ _ _ _ w hw ?_
  cases w with
  | inl a => exact hm hK
  | inr b => cases hm; exact hK
set_option maxHeartbeats 4000000 in
set_option maxRecDepth 100000 in
theorem t_X14_pass_0 (X : gX p s m args meth c D cy B (gSt Z B H0) RX14 cX14_pass wsX14_pass 4) (hr : meth.sig.returnType = (some .int)) {Q : State → Prop} : ∀ (M : gMem) (x0 : Nat) (x1 : Int32) (z : Int32 × gMem), b_X14_pass_0 M x0 x1 = some z → (fun (r : Int32 × gMem) => Q = gMQ below D cy B H0 args s 0 0 (some (vI r.1)) r.2) z → gGo p l e rX14_pass s m args below meth c D cy B H0 4 0 0 Q 0 [(0, vR (some x0)), (1, vI x1)] [] M := by
  intro M x0 x1 z hf hK
  unfold b_X14_pass_0 at hf
  refine g_aload_n X dX14_pass_0 rfl rfl ?_
  refine g_iconst (v := (0 : Int32)) X dX14_pass_1 (by decide) ?_
  obtain ⟨hT10, hf⟩ := ck_e hf
  refine g_putI (ci := 12) 0 X cdX14 i_X14_pass_X14 (by decide) k_X14_pass_f57 rfl dX14_pass_2 rfl hT10 (Or.inl rfl) rfl rfl rfl ?_
  obtain ⟨M11, hM11, hf⟩ := lw_e hf
  rw [← hM11]
  have hT12 : mT M11 x0 = 13 := by rw [hM11]; exact hT10
  refine g_iload_n X dX14_pass_5 rfl rfl ?_
  refine g_iconst (v := (1 : Int32)) X dX14_pass_6 (by decide) ?_
  refine g_bipush (v := (60 : Int32)) X dX14_pass_7 (by decide) ?_
  obtain ⟨r13, M13, hq13, hf⟩ := bd_e hf
  refine g_callS (As := [vI x1, vI (1 : Int32), vI (60 : Int32)]) (st := []) (v := some (vI r13)) (M1 := M13) X (m_X14_isIn l hq13) (va_cwS 3 X.2.2.1 gX14_pass_X14_isIn rfl rfl rfl (by decide +kernel) ⟨Nat.le_of_ble_eq_true rfl, Nat.le_of_ble_eq_true rfl⟩) rfl rfl (Nat.le_of_ble_eq_true rfl) dX14_pass_9 ⟨by decide, by decide⟩ ?_
  refine g_if_ne (tgt := 21) X dX14_pass_12 (by decide) (fun hc => ?_) (fun hc => ?_)
  · have hf := ife_f hc hf
    refine g_aload_n X dX14_pass_21 rfl rfl ?_
    obtain ⟨hT14, hf⟩ := ck_e hf
    refine g_get (ci := 12) (v := vR (mR M13 x0 13)) 13 X cdX14 i_X14_pass_X14 (by decide) k_X14_pass_f47 rfl dX14_pass_22 rfl hT14 rfl ?_
    refine g_aload_n X dX14_pass_25 rfl rfl ?_
    refine g_get (ci := 12) (v := vR (mR M13 x0 13)) 13 X cdX14 i_X14_pass_X14 (by decide) k_X14_pass_f47 rfl dX14_pass_26 rfl hT14 rfl ?_
    obtain ⟨a15, ha15, hf⟩ := dr_e hf
    obtain ⟨hT16, hf⟩ := ck_e hf
    refine g_getN (ci := 10) (w := vR (mR M13 a15 6)) 6 X cdX12 i_X14_pass_X12 (by decide) (gNw X _ kn_X14_290) rfl dX14_pass_29 ha15 hT16 rfl ?_
    obtain ⟨r17, M17, hq17, hf⟩ := bd_e hf
    refine g_callV (ci := 10) (b := a15) (As := [vR (mR M13 a15 6)]) (st := []) (v := some (vI r17)) (M1 := M17) X (m_X12_sum l hq17) (cwV 1 X.2.2.1 gX14_pass_X12_sum rfl rfl rfl (by decide +kernel) ⟨Nat.le_of_ble_eq_true rfl, Nat.le_of_ble_eq_true rfl⟩) rfl rfl ha15 hT16 (by decide) rfl (Nat.le_of_ble_eq_true rfl) dX14_pass_32 ⟨by decide, by decide⟩ ?_
    refine g_istore_n (lv' := [(2, vI r17), (0, vR (some x0)), (1, vI x1)]) X dX14_pass_35 rfl (by decide) rfl ?_
    refine g_iconst (v := (0 : Int32)) X dX14_pass_36 (by decide) ?_
    refine g_istore_n (lv' := [(3, vI (0 : Int32)), (2, vI r17), (0, vR (some x0)), (1, vI x1)]) X dX14_pass_37 rfl (by decide) rfl ?_
    refine g_sub (lvsub_of _ _ [2, 3, 1, 0] rfl) ?_
    exact tl_X14_pass_38 X hr _ _ _ _ _ _ hf hK
  · have hf := ife_t hc hf
    refine g_aload_n X dX14_pass_15 rfl rfl ?_
    refine g_iconst (v := (1 : Int32)) X dX14_pass_16 (by decide) ?_
    obtain ⟨hT19, hf⟩ := ck_e hf
    obtain ⟨r18, M18, hq18, hf⟩ := bd_e hf
    refine g_callV (ci := 12) (b := x0) (As := [vI (1 : Int32)]) (st := []) (v := some (vI r18)) (M1 := M18) X (m_X14_no l hq18) (cwV 1 X.2.2.1 gX14_pass_X14_no rfl rfl rfl (by decide +kernel) ⟨Nat.le_of_ble_eq_true rfl, Nat.le_of_ble_eq_true rfl⟩) rfl rfl rfl hT19 (by decide) rfl (Nat.le_of_ble_eq_true rfl) dX14_pass_17 ⟨by decide, by decide⟩ ?_
    cases hf
    refine g_eqQ hK ?_
    exact g_iret X hr dX14_pass_20
set_option maxHeartbeats 4000000 in
set_option maxRecDepth 100000 in
theorem m_X14_pass (l : Launch) {D : va_G} {cy : Nat → ClassId} {B : Nat} {H0 : Heap} {Z : Nat → Nat} {M M1 : gMem} {x0 : Nat} {x1 : Int32} {r : Int32} (hf : f_X14_pass M x0 x1 = some (r, M1)) : Met l yX14_pass wsX14_pass rX14_pass (va_Pc (Value.ref x0 :: List.map gv [vI x1]) (gPre D cy B H0 (gSt Z B H0) M)) (gQ D cy B H0 (some (vI r)) M1) 0 0 (gA B) := by
  refine Met.ofW (cc := cX14_pass) (maxL := 4) (ret := (some .int)) (by decide) rfl ?_
  intro p e s m args below meth c s₁ Bd hml hv
  obtain ⟨rfl, hW, hKK, hFs⟩ := hv
  have X : gX p s m _ meth c D cy B (gSt Z B H0) RX14 cX14_pass wsX14_pass 4 := ⟨Bd.exec, Bd.bytes, atoms_spec (ws := wsX14_pass) Bd.pre, findClass_of_methodNamed Bd.named, hml, hKK, by rw [hW.1]; exact hW.2.1, Bd.notSynchronized, hFs⟩
  have hr := Bd.returns
  have hl := lv_entry ([.ref x0, .int x1]) (n := 4) (Nat.le_of_ble_eq_true rfl)
  show W p l e rX14_pass s m _ below meth c s.heap [] 0 0 _ (entryFrame m ([.ref x0, .int x1] : List Value).toArray 4)
  rw [lg_entry_eq]
  generalize (lg_sl ([.ref x0, .int x1]) ++ List.replicate (4 - (lg_sl ([.ref x0, .int x1])).length) Slot.unset).toArray = ls at hl ⊢
  have hl : lv_has ls 4 (List.map gq [(0, vR (some x0)), (1, vI x1)]) := hl
  exact t_X14_pass_0 X hr _ _ _ _ hf rfl s.heap [] ls hW va_S.rf (lv_has_sub hl (lvsub_of _ _ [0, 1] rfl))
end
