/-! ### mean: contracts -/
theorem dX11_mean_0 : decode cX11_mean 0 = .ok (.aload_n 0, 1) := by decide +kernel
theorem dX11_mean_1 : decode cX11_mean 1 = .ok (.getfield 19, 3) := by decide +kernel
theorem dX11_mean_4 : decode cX11_mean 4 = .ok (.getfield 71, 3) := by decide +kernel
theorem dX11_mean_7 : decode cX11_mean 7 = .ok (.ifCond .ne 5, 3) := by decide +kernel
theorem dX11_mean_10 : decode cX11_mean 10 = .ok (.dconst 0, 1) := by decide +kernel
theorem dX11_mean_11 : decode cX11_mean 11 = .ok (.dreturn, 1) := by decide +kernel
theorem dX11_mean_12 : decode cX11_mean 12 = .ok (.aload_n 0, 1) := by decide +kernel
theorem dX11_mean_13 : decode cX11_mean 13 = .ok (.getfield 19, 3) := by decide +kernel
theorem dX11_mean_16 : decode cX11_mean 16 = .ok (.invokevirtual 83, 3) := by decide +kernel
theorem dX11_mean_19 : decode cX11_mean 19 = .ok (.i2d, 1) := by decide +kernel
theorem dX11_mean_20 : decode cX11_mean 20 = .ok (.aload_n 0, 1) := by decide +kernel
theorem dX11_mean_21 : decode cX11_mean 21 = .ok (.getfield 19, 3) := by decide +kernel
theorem dX11_mean_24 : decode cX11_mean 24 = .ok (.getfield 71, 3) := by decide +kernel
theorem dX11_mean_27 : decode cX11_mean 27 = .ok (.i2d, 1) := by decide +kernel
theorem dX11_mean_28 : decode cX11_mean 28 = .ok (.ddiv, 1) := by decide +kernel
theorem dX11_mean_29 : decode cX11_mean 29 = .ok (.dreturn, 1) := by decide +kernel
theorem k_X11_mean_f19 : Cond.fieldLink RX11 19 "TideLots" "shore" "LTideLots$Shore;" ∈ wsX11_mean := by decide +kernel
theorem k_X11_mean_f71 : Cond.fieldLink RX11 71 "TideLots$Shore" "fisherCount" "I" ∈ wsX11_mean := by decide +kernel
theorem i_X11_mean_X11 : ∀ w ∈ u_ws RX11 TX11 4, w ∈ wsX11_mean := by decide +kernel
theorem i_X11_mean_X7 : ∀ w ∈ u_ws RX7 TX7 17, w ∈ wsX11_mean := by decide +kernel
set_option maxRecDepth 20000 in
theorem gX11_mean_X7_allStores : GoodIn wsX11_mean (wsV RX11 83 RX7 yX7_allStores wsX7_allStores) := goodIn_of _ (by decide +kernel)
abbrev rX11_mean : Room := { frames := 1, cells := 0, slots := 0, locals := 22 }
set_option maxHeartbeats 4000000 in
set_option maxRecDepth 100000 in
theorem m_X11_mean (l : Launch) {D : va_G} {cy : Nat → ClassId} {B : Nat} {H0 : Heap} {Z : Nat → Nat} {M : gMem} {x0 o : Nat} {F a : Int32} (T1 : mT M x0 = 10) (R1 : mR M x0 1 = some o) (T7 : mT M o = 7) (hF : mI M o 3 = F) (hf : f_X7_allStores M o = some (a, M)) : MetD lw_cs l yX11_mean wsX11_mean rX11_mean (va_Pc (Value.ref x0 :: List.map gv []) (gPre D cy B H0 (gSt Z B H0) M)) (gQd D cy B H0 (mQ F a) M) 0 0 (gA B) := by
  refine MetD.ofW (cc := cX11_mean) (maxL := 1) (ret := (some .double)) (by decide) rfl ?_
  intro p e s m args below meth c s₁ Bd hml hv hd0
  obtain ⟨rfl, hW, hKK, hFs⟩ := hv
  have X0 : gX p s m _ meth c D cy B (gSt Z B H0) RX11 cX11_mean wsX11_mean 1 := ⟨Bd.exec, Bd.bytes, atoms_spec (ws := wsX11_mean) Bd.pre, findClass_of_methodNamed Bd.named, hml, hKK, by rw [hW.1]; exact hW.2.1, Bd.notSynchronized, hFs⟩
  have hr := Bd.returns
  have hl := lv_entry ([.ref x0]) (n := 1) (Nat.le_of_ble_eq_true rfl)
  show W p l e rX11_mean (s.setDrawn s.drawn) m _ below meth c s.heap [] 0 0 _ (entryFrame m ([.ref x0] : List Value).toArray 1)
  rw [lg_entry_eq]
  generalize (lg_sl ([.ref x0]) ++ List.replicate (1 - (lg_sl ([.ref x0])).length) Slot.unset).toArray = ls at hl ⊢
  have hl : lv_has ls 1 (List.map gq [(0, vR (some x0))]) := hl
  have X := gX_dr X0 s.drawn
  have key : gGo p l e rX11_mean (s.setDrawn s.drawn) m ((Value.ref x0 :: List.map gv [])).toArray below meth c D cy B H0 1 0 0 (MQD lw_cs below (gQd D cy B H0 (mQ F a) M) ((Value.ref x0 :: List.map gv [])).toArray s 0 0 (gA B)) 0 [(0, vR (some x0))] [] M := by
    refine g_aload_n X dX11_mean_0 rfl rfl ?_
    refine g_get (ci := 9) (v := vR (mR M x0 1)) 1 X cdX11 i_X11_mean_X11 (by decide) k_X11_mean_f19 rfl dX11_mean_1 rfl T1 rfl ?_
    refine g_get (ci := 6) (v := vI (mI M o 3)) 3 X cdX7 i_X11_mean_X7 (by decide) k_X11_mean_f71 rfl dX11_mean_4 R1 T7 rfl ?_
    rw [hF]
    refine g_if_ne (tgt := 12) X dX11_mean_7 (by decide) (fun h => ?_) (fun h => ?_)
    · refine g_aload_n X dX11_mean_12 rfl rfl ?_
      refine g_get (ci := 9) (v := vR (mR M x0 1)) 1 X cdX11 i_X11_mean_X11 (by decide) k_X11_mean_f19 rfl dX11_mean_13 rfl T1 rfl ?_
      refine g_callV (ci := 6) (b := o) (As := []) (st := []) (v := some (vI a)) (M1 := M) X (m_X7_allStores l hf) (cwV 0 X.2.2.1 gX11_mean_X7_allStores rfl rfl rfl (by decide +kernel) ⟨Nat.le_of_ble_eq_true rfl, Nat.le_of_ble_eq_true rfl⟩) rfl rfl R1 T7 (by decide) rfl (Nat.le_of_ble_eq_true rfl) dX11_mean_16 ⟨by decide, by decide⟩ ?_
      refine g_i2d X dX11_mean_19 ?_
      refine g_aload_n X dX11_mean_20 rfl rfl ?_
      refine g_get (ci := 9) (v := vR (mR M x0 1)) 1 X cdX11 i_X11_mean_X11 (by decide) k_X11_mean_f19 rfl dX11_mean_21 rfl T1 rfl ?_
      refine g_get (ci := 6) (v := vI (mI M o 3)) 3 X cdX7 i_X11_mean_X7 (by decide) k_X11_mean_f71 rfl dX11_mean_24 R1 T7 rfl ?_
      rw [hF]
      refine g_i2d X dX11_mean_27 ?_
      refine g_ddivD hd0 X dX11_mean_28 (fun r d1 ha hd1 => ?_)
      exact g_dretD hd1 (gX_dr X0 d1) hr (show mQ F a r by unfold mQ; rw [if_neg h]; exact ha) dX11_mean_29
    · refine g_dcon0 X dX11_mean_10 ?_
      exact g_dretD hd0 X hr (show mQ F a FP.dconst0 by unfold mQ; rw [if_pos h]) dX11_mean_11
  exact key s.heap [] ls hW va_S.rf hl
theorem dX14_mean_0 : decode cX14_mean 0 = .ok (.aload_n 0, 1) := by decide +kernel
theorem dX14_mean_1 : decode cX14_mean 1 = .ok (.iconst 0, 1) := by decide +kernel
theorem dX14_mean_2 : decode cX14_mean 2 = .ok (.putfield 57, 3) := by decide +kernel
theorem dX14_mean_5 : decode cX14_mean 5 = .ok (.aload_n 0, 1) := by decide +kernel
theorem dX14_mean_6 : decode cX14_mean 6 = .ok (.getfield 35, 3) := by decide +kernel
theorem dX14_mean_9 : decode cX14_mean 9 = .ok (.getfield 67, 3) := by decide +kernel
theorem dX14_mean_12 : decode cX14_mean 12 = .ok (.ifCond .ne 7, 3) := by decide +kernel
theorem dX14_mean_15 : decode cX14_mean 15 = .ok (.dconst 0, 1) := by decide +kernel
theorem dX14_mean_16 : decode cX14_mean 16 = .ok (.goto 27, 3) := by decide +kernel
theorem dX14_mean_19 : decode cX14_mean 19 = .ok (.aload_n 0, 1) := by decide +kernel
theorem dX14_mean_20 : decode cX14_mean 20 = .ok (.getfield 47, 3) := by decide +kernel
theorem dX14_mean_23 : decode cX14_mean 23 = .ok (.aload_n 0, 1) := by decide +kernel
theorem dX14_mean_24 : decode cX14_mean 24 = .ok (.getfield 47, 3) := by decide +kernel
theorem dX14_mean_27 : decode cX14_mean 27 = .ok (.getfield 290, 3) := by decide +kernel
theorem dX14_mean_30 : decode cX14_mean 30 = .ok (.invokevirtual 287, 3) := by decide +kernel
theorem dX14_mean_33 : decode cX14_mean 33 = .ok (.i2d, 1) := by decide +kernel
theorem dX14_mean_34 : decode cX14_mean 34 = .ok (.aload_n 0, 1) := by decide +kernel
theorem dX14_mean_35 : decode cX14_mean 35 = .ok (.getfield 35, 3) := by decide +kernel
theorem dX14_mean_38 : decode cX14_mean 38 = .ok (.getfield 67, 3) := by decide +kernel
theorem dX14_mean_41 : decode cX14_mean 41 = .ok (.i2d, 1) := by decide +kernel
theorem dX14_mean_42 : decode cX14_mean 42 = .ok (.ddiv, 1) := by decide +kernel
theorem dX14_mean_43 : decode cX14_mean 43 = .ok (.dreturn, 1) := by decide +kernel
theorem knm_67 : Cond.fieldLinkNest "TideLotsModel" (67 : Nat) "TideLotsModel$Told" "fishers" "I" "TideLotsModel" ∈ gNs := by decide +kernel
theorem knm_290 : Cond.fieldLinkNest "TideLotsModel" (290 : Nat) "TideLotsModel$State" "store" "[I" "TideLotsModel" ∈ gNs := by decide +kernel
theorem k_X14_mean_f57 : Cond.fieldLink RX14 57 "TideLotsModel" "thrown" "I" ∈ wsX14_mean := by decide +kernel
theorem k_X14_mean_f35 : Cond.fieldLink RX14 35 "TideLotsModel" "told" "LTideLotsModel$Told;" ∈ wsX14_mean := by decide +kernel
theorem k_X14_mean_f47 : Cond.fieldLink RX14 47 "TideLotsModel" "s" "LTideLotsModel$State;" ∈ wsX14_mean := by decide +kernel
theorem i_X14_mean_X14 : ∀ w ∈ u_ws RX14 TX14 15, w ∈ wsX14_mean := by decide +kernel
theorem i_X14_mean_X13 : ∀ w ∈ u_ws RX13 TX13 25, w ∈ wsX14_mean := by decide +kernel
theorem i_X14_mean_X12 : ∀ w ∈ u_ws RX12 TX12 19, w ∈ wsX14_mean := by decide +kernel
set_option maxRecDepth 20000 in
theorem gX14_mean_X12_sum : GoodIn wsX14_mean (wsV RX14 287 RX12 yX12_sum wsX12_sum) := goodIn_of _ (by decide +kernel)
abbrev rX14_mean : Room := { frames := 1, cells := 0, slots := 0, locals := 26 }
set_option maxHeartbeats 4000000 in
set_option maxRecDepth 100000 in
theorem m_X14_mean (l : Launch) {D : va_G} {cy : Nat → ClassId} {B : Nat} {H0 : Heap} {Z : Nat → Nat} {M N : gMem} {x0 t q r : Nat} {F a : Int32} (T0 : mT M x0 = 13) (hN : wI M x0 0 0 = N) (T1 : mT N x0 = 13) (R1 : mR N x0 11 = some t) (T2 : mT N t = 12) (hF : mI N t 4 = F) (R2 : mR N x0 13 = some q) (T3 : mT N q = 11) (R3 : mR N q 6 = some r) (hf : f_X12_sum N q (some r) = some (a, N)) : MetD lw_cs l yX14_mean wsX14_mean rX14_mean (va_Pc (Value.ref x0 :: List.map gv []) (gPre D cy B H0 (gSt Z B H0) M)) (gQd D cy B H0 (mQ F a) N) 0 0 (gA B) := by
  refine MetD.ofW (cc := cX14_mean) (maxL := 1) (ret := (some .double)) (by decide) rfl ?_
  intro p e s m args below meth c s₁ Bd hml hv hd0
  obtain ⟨rfl, hW, hKK, hFs⟩ := hv
  have X0 : gX p s m _ meth c D cy B (gSt Z B H0) RX14 cX14_mean wsX14_mean 1 := ⟨Bd.exec, Bd.bytes, atoms_spec (ws := wsX14_mean) Bd.pre, findClass_of_methodNamed Bd.named, hml, hKK, by rw [hW.1]; exact hW.2.1, Bd.notSynchronized, hFs⟩
  have hr := Bd.returns
  have hl := lv_entry ([.ref x0]) (n := 1) (Nat.le_of_ble_eq_true rfl)
  show W p l e rX14_mean (s.setDrawn s.drawn) m _ below meth c s.heap [] 0 0 _ (entryFrame m ([.ref x0] : List Value).toArray 1)
  rw [lg_entry_eq]
  generalize (lg_sl ([.ref x0]) ++ List.replicate (1 - (lg_sl ([.ref x0])).length) Slot.unset).toArray = ls at hl ⊢
  have hl : lv_has ls 1 (List.map gq [(0, vR (some x0))]) := hl
  have X := gX_dr X0 s.drawn
  have key : gGo p l e rX14_mean (s.setDrawn s.drawn) m ((Value.ref x0 :: List.map gv [])).toArray below meth c D cy B H0 1 0 0 (MQD lw_cs below (gQd D cy B H0 (mQ F a) N) ((Value.ref x0 :: List.map gv [])).toArray s 0 0 (gA B)) 0 [(0, vR (some x0))] [] M := by
    refine g_aload_n X dX14_mean_0 rfl rfl ?_
    refine g_iconst (v := (0 : Int32)) X dX14_mean_1 (by decide) ?_
    refine g_putI (ci := 12) 0 X cdX14 i_X14_mean_X14 (by decide) k_X14_mean_f57 rfl dX14_mean_2 rfl T0 (Or.inl rfl) rfl rfl rfl ?_
    rw [hN]
    refine g_aload_n X dX14_mean_5 rfl rfl ?_
    refine g_get (ci := 12) (v := vR (mR N x0 11)) 11 X cdX14 i_X14_mean_X14 (by decide) k_X14_mean_f35 rfl dX14_mean_6 rfl T1 rfl ?_
    refine g_getN (ci := 11) (w := vI (mI N t 4)) 4 X cdX13 i_X14_mean_X13 (by decide) (gNw X _ knm_67) rfl dX14_mean_9 R1 T2 rfl ?_
    rw [hF]
    refine g_if_ne (tgt := 19) X dX14_mean_12 (by decide) (fun h => ?_) (fun h => ?_)
    · refine g_aload_n X dX14_mean_19 rfl rfl ?_
      refine g_get (ci := 12) (v := vR (mR N x0 13)) 13 X cdX14 i_X14_mean_X14 (by decide) k_X14_mean_f47 rfl dX14_mean_20 rfl T1 rfl ?_
      refine g_aload_n X dX14_mean_23 rfl rfl ?_
      refine g_get (ci := 12) (v := vR (mR N x0 13)) 13 X cdX14 i_X14_mean_X14 (by decide) k_X14_mean_f47 rfl dX14_mean_24 rfl T1 rfl ?_
      refine g_getN (ci := 10) (w := vR (mR N q 6)) 6 X cdX12 i_X14_mean_X12 (by decide) (gNw X _ knm_290) rfl dX14_mean_27 R2 T3 rfl ?_
      rw [R3]
      refine g_callV (ci := 10) (b := q) (As := [vR (some r)]) (st := []) (v := some (vI a)) (M1 := N) X (m_X12_sum l hf) (cwV 1 X.2.2.1 gX14_mean_X12_sum rfl rfl rfl (by decide +kernel) ⟨Nat.le_of_ble_eq_true rfl, Nat.le_of_ble_eq_true rfl⟩) rfl rfl R2 T3 (by decide) rfl (Nat.le_of_ble_eq_true rfl) dX14_mean_30 ⟨by decide, by decide⟩ ?_
      refine g_i2d X dX14_mean_33 ?_
      refine g_aload_n X dX14_mean_34 rfl rfl ?_
      refine g_get (ci := 12) (v := vR (mR N x0 11)) 11 X cdX14 i_X14_mean_X14 (by decide) k_X14_mean_f35 rfl dX14_mean_35 rfl T1 rfl ?_
      refine g_getN (ci := 11) (w := vI (mI N t 4)) 4 X cdX13 i_X14_mean_X13 (by decide) (gNw X _ knm_67) rfl dX14_mean_38 R1 T2 rfl ?_
      rw [hF]
      refine g_i2d X dX14_mean_41 ?_
      refine g_ddivD hd0 X dX14_mean_42 (fun v d1 ha hd1 => ?_)
      exact g_dretD hd1 (gX_dr X0 d1) hr (show mQ F a v by unfold mQ; rw [if_neg h]; exact ha) dX14_mean_43
    · refine g_dcon0 X dX14_mean_15 ?_
      refine g_goto (tgt := 43) X dX14_mean_16 (by decide) ?_
      exact g_dretD hd0 X hr (show mQ F a FP.dconst0 by unfold mQ; rw [if_pos h]) dX14_mean_43
  exact key s.heap [] ls hW va_S.rf hl
