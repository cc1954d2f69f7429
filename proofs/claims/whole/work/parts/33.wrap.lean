theorem dL_ground_0 : decode cL_ground 0 = .ok (.aload_n 3, 1) := by decide +kernel
theorem dL_ground_1 : decode cL_ground 1 = .ok (.iconst 0, 1) := by decide +kernel
theorem dL_ground_2 : decode cL_ground 2 = .ok (.aload_n 0, 1) := by decide +kernel
theorem dL_ground_3 : decode cL_ground 3 = .ok (.iload_n 1, 1) := by decide +kernel
theorem dL_ground_4 : decode cL_ground 4 = .ok (.iload_n 2, 1) := by decide +kernel
theorem dL_ground_5 : decode cL_ground 5 = .ok (.invokevirtual 26, 3) := by decide +kernel
theorem dL_ground_8 : decode cL_ground 8 = .ok (.i2l, 1) := by decide +kernel
theorem dL_ground_9 : decode cL_ground 9 = .ok (.lastore, 1) := by decide +kernel
theorem dL_ground_10 : decode cL_ground 10 = .ok (.goto 7, 3) := by decide +kernel
theorem dL_ground_13 : decode cL_ground 13 = .ok (.astore 4, 2) := by decide +kernel
theorem dL_ground_15 : decode cL_ground 15 = .ok (.iconst 1, 1) := by decide +kernel
theorem dL_ground_16 : decode cL_ground 16 = .ok (.ireturn, 1) := by decide +kernel
theorem dL_ground_17 : decode cL_ground 17 = .ok (.iconst 0, 1) := by decide +kernel
theorem dL_ground_18 : decode cL_ground 18 = .ok (.ireturn, 1) := by decide +kernel
set_option maxRecDepth 20000 in
theorem ggL_ground_X11_ground : GoodIn wsL_ground wsX11_ground := goodIn_ca (goodIn_2 24 (goodIn_r _ [6, 7, 8, 9, 10, 11, 12, 13, 14, 15, 16, 17, 5, 18, 19, 20, 21, 22, 23, 24, 25, 26, 27, 28] (by decide +kernel) (by decide +kernel)) (goodIn_r _ [29, 30, 31, 32, 33, 34, 35, 36, 37, 38, 39, 40, 41, 42, 43, 44, 45, 46, 47, 48, 49, 50] (by decide +kernel) (by decide +kernel))) (goodIn_sub (fun _ h => List.mem_cons_of_mem _ (List.mem_append_right _ h)) (by decide +kernel))
set_option maxRecDepth 20000 in
theorem gL_ground_X11_ground : GoodIn wsL_ground (wsV RL 26 RX11 yX11_ground wsX11_ground) := goodIn_app (goodIn_of _ (by decide +kernel)) ggL_ground_X11_ground
abbrev rL_ground : Room := { frames := 8, cells := 2, slots := 12, locals := 126 }
set_option maxHeartbeats 4000000 in
set_option maxRecDepth 100000 in
theorem mw_ground (l : Launch) (hlx : l.stackTraces = false) {D : va_G} {cy : Nat → ClassId} {B : Nat} {H0 : Heap} {Z : Nat → Nat} {M M1 : gMem} {x out : Nat} {x1 : Int32} {x2 : Int32} (hH0 : H0.size = B) (hTx : mT M x = 10) {v : Int32} (hf : f_X11_ground M x x1 x2 = some (.inr v, M1)) (hTo : mT M1 out = 21) (hLo : inb (0 : Int32) (mL M1 out)) : Met l yL_ground wsL_ground rL_ground (va_Pc (List.map gv [vR (some x), vI x1, vI x2, vR (some out)]) (gPre D cy B H0 (gSt3 Z B H0) M)) (gQ D cy B H0 (some (vI 0)) (wJ M1 out (0 : Int32).toNatClampNeg (Int32.toInt64 v)) ) 2 12 (gA B) := by
  refine vx_met (vx_ofWH (cc := cL_ground) (maxL := 5) (ret := (some .int)) (hh := [(0, 10, 13, 24)]) (by decide) rfl ?_)
  intro p e s m args below meth c s₁ Bd hml hv
  obtain ⟨rfl, hW, hKK, hFs⟩ := hv
  have X3 : gX p s m _ meth c D cy B (gSt3 Z B H0) RL cL_ground wsL_ground 5 := ⟨Bd.exec, Bd.bytes, atoms_spec (ws := wsL_ground) Bd.pre, findClass_of_methodNamed Bd.named, hml, hKK, by rw [hW.1]; exact hW.2.1, Bd.notSynchronized, hFs⟩
  have X := gX_w3 X3
  have hr := Bd.returns
  have hl := lv_entry ([.ref x, .int x1, .int x2, .ref out]) (n := 5) (Nat.le_of_ble_eq_true rfl)
  show W p l e rL_ground s m _ below meth c s.heap [] 0 0 _ (entryFrame m ([.ref x, .int x1, .int x2, .ref out] : List Value).toArray 5)
  rw [lg_entry_eq]
  generalize (lg_sl ([.ref x, .int x1, .int x2, .ref out]) ++ List.replicate (5 - (lg_sl ([.ref x, .int x1, .int x2, .ref out])).length) Slot.unset).toArray = ls at hl ⊢
  have hl : lv_has ls 5 (List.map gq [(0, vR (some x)), (1, vI x1), (2, vI x2), (3, vR (some out))]) := hl
  have key : gGo p l e rL_ground s m ((List.map gv [vR (some x), vI x1, vI x2, vR (some out)])).toArray below meth c D cy B H0 5 0 0 (gMF below (gQ D cy B H0 (some (vI 0)) (wJ M1 out (0 : Int32).toNatClampNeg (Int32.toInt64 v)) ) B ((List.map gv [vR (some x), vI x1, vI x2, vR (some out)])).toArray s 2 12) 0 [(0, vR (some x)), (1, vI x1), (2, vI x2), (3, vR (some out))] [] M := by
    refine g_aload_n X dL_ground_0 rfl rfl ?_
    refine g_iconst (v := (0 : Int32)) X dL_ground_1 (by decide) ?_
    refine g_aload_n X dL_ground_2 rfl rfl ?_
    refine g_iload_n X dL_ground_3 rfl rfl ?_
    refine g_iload_n X dL_ground_4 rfl rfl ?_
    refine g_callXV (ci := 9) (b := x) (As := [vI x1, vI x2]) (st := [vI (0 : Int32), vR (some out)]) (v := some (vI v)) (M1 := M1) X (m_X11_ground l hlx hH0 hf) (cwV 2 X.2.2.1 gL_ground_X11_ground rfl rfl rfl (by decide +kernel) ⟨Nat.le_of_ble_eq_true rfl, Nat.le_of_ble_eq_true rfl⟩) rfl rfl rfl hTx (by decide) rfl (Nat.le_of_ble_eq_true rfl) dL_ground_5 ⟨by decide, by decide⟩ ?_
    refine g_i2l X dL_ground_8 ?_
    refine g_last X dL_ground_9 rfl hTo hLo ?_
    refine g_goto (tgt := 17) X dL_ground_10 (by decide) ?_
    refine g_iconst (v := (0 : Int32)) X dL_ground_17 (by decide) ?_
    exact g_vxF (g_iret X hr dL_ground_18)
  exact key s.heap [] ls hW va_S.rf hl
set_option maxHeartbeats 4000000 in
set_option maxRecDepth 100000 in
theorem mw_ground_t1 (l : Launch) (hlx : l.stackTraces = false) {D : va_G} {cy : Nat → ClassId} {B : Nat} {H0 : Heap} {Z : Nat → Nat} {M M1 : gMem} {x out : Nat} {x1 : Int32} {x2 : Int32} (hH0 : H0.size = B) (hTx : mT M x = 10) (hf : f_X11_ground M x x1 x2 = some (.inl 2, M1)) : Met l yL_ground wsL_ground rL_ground (va_Pc (List.map gv [vR (some x), vI x1, vI x2, vR (some out)]) (gPre D cy B H0 (gSt3 Z B H0) M)) (gQN D cy B H0 (some (vI (1 : Int32))) M1) 2 12 (gA B) := by
  refine vx_met (vx_ofWH (cc := cL_ground) (maxL := 5) (ret := (some .int)) (hh := [(0, 10, 13, 24)]) (by decide) rfl ?_)
  intro p e s m args below meth c s₁ Bd hml hv
  obtain ⟨rfl, hW, hKK, hFs⟩ := hv
  have X3 : gX p s m _ meth c D cy B (gSt3 Z B H0) RL cL_ground wsL_ground 5 := ⟨Bd.exec, Bd.bytes, atoms_spec (ws := wsL_ground) Bd.pre, findClass_of_methodNamed Bd.named, hml, hKK, by rw [hW.1]; exact hW.2.1, Bd.notSynchronized, hFs⟩
  have X := gX_w3 X3
  have hr := Bd.returns
  have hl := lv_entry ([.ref x, .int x1, .int x2, .ref out]) (n := 5) (Nat.le_of_ble_eq_true rfl)
  show W p l e rL_ground s m _ below meth c s.heap [] 0 0 _ (entryFrame m ([.ref x, .int x1, .int x2, .ref out] : List Value).toArray 5)
  rw [lg_entry_eq]
  generalize (lg_sl ([.ref x, .int x1, .int x2, .ref out]) ++ List.replicate (5 - (lg_sl ([.ref x, .int x1, .int x2, .ref out])).length) Slot.unset).toArray = ls at hl ⊢
  have hl : lv_has ls 5 (List.map gq [(0, vR (some x)), (1, vI x1), (2, vI x2), (3, vR (some out))]) := hl
  have key : gGo p l e rL_ground s m ((List.map gv [vR (some x), vI x1, vI x2, vR (some out)])).toArray below meth c D cy B H0 5 0 0 (gMF below (gQN D cy B H0 (some (vI (1 : Int32))) M1) B ((List.map gv [vR (some x), vI x1, vI x2, vR (some out)])).toArray s 2 12) 0 [(0, vR (some x)), (1, vI x1), (2, vI x2), (3, vR (some out))] [] M := by
    have htab : c.exceptionTable.toList = [(⟨0, 10, 13, 24⟩ : ExceptionTableEntry)] := (vx_table (x := yL_ground) Bd (atoms_spec (ws := wsL_ground) Bd.pre _ List.mem_cons_self)).trans rfl
    refine g_aload_n X dL_ground_0 rfl rfl ?_
    refine g_iconst (v := (0 : Int32)) X dL_ground_1 (by decide) ?_
    refine g_aload_n X dL_ground_2 rfl rfl ?_
    refine g_iload_n X dL_ground_3 rfl rfl ?_
    refine g_iload_n X dL_ground_4 rfl rfl ?_
    refine g_runC (x := 2) (st := [vI (0 : Int32), vR (some out)]) (mc := 2) (ms := 12) (name := "java/lang/IndexOutOfBoundsException") X [] ⟨0, 10, 13, 24⟩ [] htab (fun z hz => absurd hz List.not_mem_nil) (by decide) (by decide) (by decide +kernel) (va_Nw.use rfl (gN2w X (Cond.castable "java/lang/IndexOutOfBoundsException" "java/lang/IndexOutOfBoundsException") (by decide +kernel))) (fun H locs ls hW hS hl => g_vxV (ci := 9) (As := [vI x1, vI x2]) X (m_X11_ground l hlx hH0 hf) (cwV 2 X.2.2.1 gL_ground_X11_ground rfl rfl rfl (by decide +kernel) ⟨Nat.le_of_ble_eq_true rfl, Nat.le_of_ble_eq_true rfl⟩) rfl hTx (by decide) rfl (Nat.le_of_ble_eq_true rfl) dL_ground_5 ⟨by decide, by decide⟩ H locs ls hW hl) (fun q N hN => ?_)
    refine g_astore (lv' := [(4, vR (some q)), (0, vR (some x)), (1, vI x1), (2, vI x2), (3, vR (some out))]) X dL_ground_13 (by decide) rfl ?_
    refine g_iconst (v := (1 : Int32)) X dL_ground_15 (by decide) ?_
    exact g_vxFN hN (g_iret X hr dL_ground_16)
  exact key s.heap [] ls hW va_S.rf hl
theorem dL_lot_0 : decode cL_lot 0 = .ok (.aload_n 2, 1) := by decide +kernel
theorem dL_lot_1 : decode cL_lot 1 = .ok (.iconst 0, 1) := by decide +kernel
theorem dL_lot_2 : decode cL_lot 2 = .ok (.aload_n 0, 1) := by decide +kernel
theorem dL_lot_3 : decode cL_lot 3 = .ok (.iload_n 1, 1) := by decide +kernel
theorem dL_lot_4 : decode cL_lot 4 = .ok (.invokevirtual 43, 3) := by decide +kernel
theorem dL_lot_7 : decode cL_lot 7 = .ok (.i2l, 1) := by decide +kernel
theorem dL_lot_8 : decode cL_lot 8 = .ok (.lastore, 1) := by decide +kernel
theorem dL_lot_9 : decode cL_lot 9 = .ok (.goto 6, 3) := by decide +kernel
theorem dL_lot_12 : decode cL_lot 12 = .ok (.astore_n 3, 1) := by decide +kernel
theorem dL_lot_13 : decode cL_lot 13 = .ok (.iconst 1, 1) := by decide +kernel
theorem dL_lot_14 : decode cL_lot 14 = .ok (.ireturn, 1) := by decide +kernel
theorem dL_lot_15 : decode cL_lot 15 = .ok (.iconst 0, 1) := by decide +kernel
theorem dL_lot_16 : decode cL_lot 16 = .ok (.ireturn, 1) := by decide +kernel
set_option maxRecDepth 20000 in
theorem ggL_lot_X11_lot : GoodIn wsL_lot wsX11_lot := goodIn_ca (goodIn_r _ [6, 7, 8, 9, 10, 11, 12, 13, 14, 15, 16, 17, 18, 19, 20, 21, 22, 23, 24, 25, 26, 27, 28, 29, 30, 31, 32, 33, 34, 35, 36, 37, 38, 39, 40, 41, 42] (by decide +kernel) (by decide +kernel)) (goodIn_sub (fun _ h => List.mem_cons_of_mem _ (List.mem_append_right _ h)) (by decide +kernel))
set_option maxRecDepth 20000 in
theorem gL_lot_X11_lot : GoodIn wsL_lot (wsV RL 43 RX11 yX11_lot wsX11_lot) := goodIn_app (goodIn_of _ (by decide +kernel)) ggL_lot_X11_lot
abbrev rL_lot : Room := { frames := 7, cells := 1, slots := 6, locals := 103 }
set_option maxHeartbeats 4000000 in
set_option maxRecDepth 100000 in
theorem mw_lot (l : Launch) (hlx : l.stackTraces = false) {D : va_G} {cy : Nat → ClassId} {B : Nat} {H0 : Heap} {Z : Nat → Nat} {M M1 : gMem} {x out : Nat} {x1 : Int32} (hH0 : H0.size = B) (hTx : mT M x = 10) {v : Int32} (hf : f_X11_lot M x x1 = some (.inr v, M1)) (hTo : mT M1 out = 21) (hLo : inb (0 : Int32) (mL M1 out)) : Met l yL_lot wsL_lot rL_lot (va_Pc (List.map gv [vR (some x), vI x1, vR (some out)]) (gPre D cy B H0 (gSt3 Z B H0) M)) (gQ D cy B H0 (some (vI 0)) (wJ M1 out (0 : Int32).toNatClampNeg (Int32.toInt64 v)) ) 1 6 (gA B) := by
  refine vx_met (vx_ofWH (cc := cL_lot) (maxL := 4) (ret := (some .int)) (hh := [(0, 9, 12, 24)]) (by decide) rfl ?_)
  intro p e s m args below meth c s₁ Bd hml hv
  obtain ⟨rfl, hW, hKK, hFs⟩ := hv
  have X3 : gX p s m _ meth c D cy B (gSt3 Z B H0) RL cL_lot wsL_lot 4 := ⟨Bd.exec, Bd.bytes, atoms_spec (ws := wsL_lot) Bd.pre, findClass_of_methodNamed Bd.named, hml, hKK, by rw [hW.1]; exact hW.2.1, Bd.notSynchronized, hFs⟩
  have X := gX_w3 X3
  have hr := Bd.returns
  have hl := lv_entry ([.ref x, .int x1, .ref out]) (n := 4) (Nat.le_of_ble_eq_true rfl)
  show W p l e rL_lot s m _ below meth c s.heap [] 0 0 _ (entryFrame m ([.ref x, .int x1, .ref out] : List Value).toArray 4)
  rw [lg_entry_eq]
  generalize (lg_sl ([.ref x, .int x1, .ref out]) ++ List.replicate (4 - (lg_sl ([.ref x, .int x1, .ref out])).length) Slot.unset).toArray = ls at hl ⊢
  have hl : lv_has ls 4 (List.map gq [(0, vR (some x)), (1, vI x1), (2, vR (some out))]) := hl
  have key : gGo p l e rL_lot s m ((List.map gv [vR (some x), vI x1, vR (some out)])).toArray below meth c D cy B H0 4 0 0 (gMF below (gQ D cy B H0 (some (vI 0)) (wJ M1 out (0 : Int32).toNatClampNeg (Int32.toInt64 v)) ) B ((List.map gv [vR (some x), vI x1, vR (some out)])).toArray s 1 6) 0 [(0, vR (some x)), (1, vI x1), (2, vR (some out))] [] M := by
    refine g_aload_n X dL_lot_0 rfl rfl ?_
    refine g_iconst (v := (0 : Int32)) X dL_lot_1 (by decide) ?_
    refine g_aload_n X dL_lot_2 rfl rfl ?_
    refine g_iload_n X dL_lot_3 rfl rfl ?_
    refine g_callXV (ci := 9) (b := x) (As := [vI x1]) (st := [vI (0 : Int32), vR (some out)]) (v := some (vI v)) (M1 := M1) X (m_X11_lot l hlx hH0 hf) (cwV 1 X.2.2.1 gL_lot_X11_lot rfl rfl rfl (by decide +kernel) ⟨Nat.le_of_ble_eq_true rfl, Nat.le_of_ble_eq_true rfl⟩) rfl rfl rfl hTx (by decide) rfl (Nat.le_of_ble_eq_true rfl) dL_lot_4 ⟨by decide, by decide⟩ ?_
    refine g_i2l X dL_lot_7 ?_
    refine g_last X dL_lot_8 rfl hTo hLo ?_
    refine g_goto (tgt := 15) X dL_lot_9 (by decide) ?_
    refine g_iconst (v := (0 : Int32)) X dL_lot_15 (by decide) ?_
    exact g_vxF (g_iret X hr dL_lot_16)
  exact key s.heap [] ls hW va_S.rf hl
set_option maxHeartbeats 4000000 in
set_option maxRecDepth 100000 in
theorem mw_lot_t1 (l : Launch) (hlx : l.stackTraces = false) {D : va_G} {cy : Nat → ClassId} {B : Nat} {H0 : Heap} {Z : Nat → Nat} {M M1 : gMem} {x out : Nat} {x1 : Int32} (hH0 : H0.size = B) (hTx : mT M x = 10) (hf : f_X11_lot M x x1 = some (.inl 2, M1)) : Met l yL_lot wsL_lot rL_lot (va_Pc (List.map gv [vR (some x), vI x1, vR (some out)]) (gPre D cy B H0 (gSt3 Z B H0) M)) (gQN D cy B H0 (some (vI (1 : Int32))) M1) 1 6 (gA B) := by
  refine vx_met (vx_ofWH (cc := cL_lot) (maxL := 4) (ret := (some .int)) (hh := [(0, 9, 12, 24)]) (by decide) rfl ?_)
  intro p e s m args below meth c s₁ Bd hml hv
  obtain ⟨rfl, hW, hKK, hFs⟩ := hv
  have X3 : gX p s m _ meth c D cy B (gSt3 Z B H0) RL cL_lot wsL_lot 4 := ⟨Bd.exec, Bd.bytes, atoms_spec (ws := wsL_lot) Bd.pre, findClass_of_methodNamed Bd.named, hml, hKK, by rw [hW.1]; exact hW.2.1, Bd.notSynchronized, hFs⟩
  have X := gX_w3 X3
  have hr := Bd.returns
  have hl := lv_entry ([.ref x, .int x1, .ref out]) (n := 4) (Nat.le_of_ble_eq_true rfl)
  show W p l e rL_lot s m _ below meth c s.heap [] 0 0 _ (entryFrame m ([.ref x, .int x1, .ref out] : List Value).toArray 4)
  rw [lg_entry_eq]
  generalize (lg_sl ([.ref x, .int x1, .ref out]) ++ List.replicate (4 - (lg_sl ([.ref x, .int x1, .ref out])).length) Slot.unset).toArray = ls at hl ⊢
  have hl : lv_has ls 4 (List.map gq [(0, vR (some x)), (1, vI x1), (2, vR (some out))]) := hl
  have key : gGo p l e rL_lot s m ((List.map gv [vR (some x), vI x1, vR (some out)])).toArray below meth c D cy B H0 4 0 0 (gMF below (gQN D cy B H0 (some (vI (1 : Int32))) M1) B ((List.map gv [vR (some x), vI x1, vR (some out)])).toArray s 1 6) 0 [(0, vR (some x)), (1, vI x1), (2, vR (some out))] [] M := by
    have htab : c.exceptionTable.toList = [(⟨0, 9, 12, 24⟩ : ExceptionTableEntry)] := (vx_table (x := yL_lot) Bd (atoms_spec (ws := wsL_lot) Bd.pre _ List.mem_cons_self)).trans rfl
    refine g_aload_n X dL_lot_0 rfl rfl ?_
    refine g_iconst (v := (0 : Int32)) X dL_lot_1 (by decide) ?_
    refine g_aload_n X dL_lot_2 rfl rfl ?_
    refine g_iload_n X dL_lot_3 rfl rfl ?_
    refine g_runC (x := 2) (st := [vI (0 : Int32), vR (some out)]) (mc := 1) (ms := 6) (name := "java/lang/IndexOutOfBoundsException") X [] ⟨0, 9, 12, 24⟩ [] htab (fun z hz => absurd hz List.not_mem_nil) (by decide) (by decide) (by decide +kernel) (va_Nw.use rfl (gN2w X (Cond.castable "java/lang/IndexOutOfBoundsException" "java/lang/IndexOutOfBoundsException") (by decide +kernel))) (fun H locs ls hW hS hl => g_vxV (ci := 9) (As := [vI x1]) X (m_X11_lot l hlx hH0 hf) (cwV 1 X.2.2.1 gL_lot_X11_lot rfl rfl rfl (by decide +kernel) ⟨Nat.le_of_ble_eq_true rfl, Nat.le_of_ble_eq_true rfl⟩) rfl hTx (by decide) rfl (Nat.le_of_ble_eq_true rfl) dL_lot_4 ⟨by decide, by decide⟩ H locs ls hW hl) (fun q N hN => ?_)
    refine g_astore_n (lv' := [(3, vR (some q)), (0, vR (some x)), (1, vI x1), (2, vR (some out))]) X dL_lot_12 rfl (by decide) rfl ?_
    refine g_iconst (v := (1 : Int32)) X dL_lot_13 (by decide) ?_
    exact g_vxFN hN (g_iret X hr dL_lot_14)
  exact key s.heap [] ls hW va_S.rf hl
theorem dL_mend_0 : decode cL_mend 0 = .ok (.aload_n 2, 1) := by decide +kernel
theorem dL_mend_1 : decode cL_mend 1 = .ok (.iconst 0, 1) := by decide +kernel
theorem dL_mend_2 : decode cL_mend 2 = .ok (.aload_n 0, 1) := by decide +kernel
theorem dL_mend_3 : decode cL_mend 3 = .ok (.iload_n 1, 1) := by decide +kernel
theorem dL_mend_4 : decode cL_mend 4 = .ok (.invokevirtual 40, 3) := by decide +kernel
theorem dL_mend_7 : decode cL_mend 7 = .ok (.i2l, 1) := by decide +kernel
theorem dL_mend_8 : decode cL_mend 8 = .ok (.lastore, 1) := by decide +kernel
theorem dL_mend_9 : decode cL_mend 9 = .ok (.goto 9, 3) := by decide +kernel
theorem dL_mend_12 : decode cL_mend 12 = .ok (.astore_n 3, 1) := by decide +kernel
theorem dL_mend_13 : decode cL_mend 13 = .ok (.iconst 1, 1) := by decide +kernel
theorem dL_mend_14 : decode cL_mend 14 = .ok (.ireturn, 1) := by decide +kernel
theorem dL_mend_15 : decode cL_mend 15 = .ok (.astore_n 3, 1) := by decide +kernel
theorem dL_mend_16 : decode cL_mend 16 = .ok (.iconst 2, 1) := by decide +kernel
theorem dL_mend_17 : decode cL_mend 17 = .ok (.ireturn, 1) := by decide +kernel
theorem dL_mend_18 : decode cL_mend 18 = .ok (.iconst 0, 1) := by decide +kernel
theorem dL_mend_19 : decode cL_mend 19 = .ok (.ireturn, 1) := by decide +kernel
def wsL_mend2 : List Cond := .codeWith yL_mend cL_mend 4 (some .int) [(0, 9, 12, 24), (0, 9, 15, 13)] :: (Cond.classLink RL 13 "java/lang/IllegalStateException" :: wsL_mend)
set_option maxRecDepth 20000 in
theorem ggL_mend_X11_mend : GoodIn wsL_mend wsX11_mend := goodIn_ca (goodIn_ca (goodIn_2 24 (goodIn_r _ [6, 7, 8, 9, 10, 11, 12, 13, 14, 15, 16, 5, 17, 18, 19, 20, 21, 22, 23, 24, 25, 26, 27, 28] (by decide +kernel) (by decide +kernel)) (goodIn_r _ [29, 30, 31, 32, 33, 34, 35, 36, 37, 38, 39, 40, 41, 42, 43, 44, 45, 46, 47, 48, 49, 50, 51, 52] (by decide +kernel) (by decide +kernel))) (goodIn_sub (fun _ h => List.mem_cons_of_mem _ (List.mem_append_left _ (List.mem_append_right _ h))) (by decide +kernel))) (goodIn_sub (fun _ h => List.mem_cons_of_mem _ (List.mem_append_right _ h)) (by decide +kernel))
set_option maxRecDepth 20000 in
theorem gL_mend_X11_mend : GoodIn wsL_mend (wsV RL 40 RX11 yX11_mend wsX11_mend) := goodIn_app (goodIn_of _ (by decide +kernel)) ggL_mend_X11_mend
theorem gL_mend_X11_mend2 : GoodIn wsL_mend2 (wsV RL 40 RX11 yX11_mend wsX11_mend) := goodIn_mono (fun _ h => List.mem_cons_of_mem _ (List.mem_cons_of_mem _ (h))) gL_mend_X11_mend
abbrev rL_mend : Room := { frames := 8, cells := 2, slots := 12, locals := 125 }
set_option maxHeartbeats 4000000 in
set_option maxRecDepth 100000 in
theorem mw_mend (l : Launch) (hlx : l.stackTraces = false) {D : va_G} {cy : Nat → ClassId} {B : Nat} {H0 : Heap} {Z : Nat → Nat} {M M1 : gMem} {x out : Nat} {x1 : Int32} (hH0 : H0.size = B) (hTx : mT M x = 10) {v : Int32} (hf : f_X11_mend M x x1 = some (.inr v, M1)) (hTo : mT M1 out = 21) (hLo : inb (0 : Int32) (mL M1 out)) : Met l yL_mend wsL_mend2 rL_mend (va_Pc (List.map gv [vR (some x), vI x1, vR (some out)]) (gPre D cy B H0 (gSt3 Z B H0) M)) (gQ D cy B H0 (some (vI 0)) (wJ M1 out (0 : Int32).toNatClampNeg (Int32.toInt64 v)) ) 2 12 (gA B) := by
  refine vx_met (vx_ofWH (cc := cL_mend) (maxL := 4) (ret := (some .int)) (hh := [(0, 9, 12, 24), (0, 9, 15, 13)]) (by decide) rfl ?_)
  intro p e s m args below meth c s₁ Bd hml hv
  obtain ⟨rfl, hW, hKK, hFs⟩ := hv
  have X3 : gX p s m _ meth c D cy B (gSt3 Z B H0) RL cL_mend wsL_mend2 4 := ⟨Bd.exec, Bd.bytes, atoms_spec (ws := wsL_mend2) Bd.pre, findClass_of_methodNamed Bd.named, hml, hKK, by rw [hW.1]; exact hW.2.1, Bd.notSynchronized, hFs⟩
  have X := gX_w3 X3
  have hr := Bd.returns
  have hl := lv_entry ([.ref x, .int x1, .ref out]) (n := 4) (Nat.le_of_ble_eq_true rfl)
  show W p l e rL_mend s m _ below meth c s.heap [] 0 0 _ (entryFrame m ([.ref x, .int x1, .ref out] : List Value).toArray 4)
  rw [lg_entry_eq]
  generalize (lg_sl ([.ref x, .int x1, .ref out]) ++ List.replicate (4 - (lg_sl ([.ref x, .int x1, .ref out])).length) Slot.unset).toArray = ls at hl ⊢
  have hl : lv_has ls 4 (List.map gq [(0, vR (some x)), (1, vI x1), (2, vR (some out))]) := hl
  have key : gGo p l e rL_mend s m ((List.map gv [vR (some x), vI x1, vR (some out)])).toArray below meth c D cy B H0 4 0 0 (gMF below (gQ D cy B H0 (some (vI 0)) (wJ M1 out (0 : Int32).toNatClampNeg (Int32.toInt64 v)) ) B ((List.map gv [vR (some x), vI x1, vR (some out)])).toArray s 2 12) 0 [(0, vR (some x)), (1, vI x1), (2, vR (some out))] [] M := by
    refine g_aload_n X dL_mend_0 rfl rfl ?_
    refine g_iconst (v := (0 : Int32)) X dL_mend_1 (by decide) ?_
    refine g_aload_n X dL_mend_2 rfl rfl ?_
    refine g_iload_n X dL_mend_3 rfl rfl ?_
    refine g_callXV (ci := 9) (b := x) (As := [vI x1]) (st := [vI (0 : Int32), vR (some out)]) (v := some (vI v)) (M1 := M1) X (m_X11_mend l hlx hH0 hf) (cwV 1 X.2.2.1 gL_mend_X11_mend2 rfl rfl rfl (by decide +kernel) ⟨Nat.le_of_ble_eq_true rfl, Nat.le_of_ble_eq_true rfl⟩) rfl rfl rfl hTx (by decide) rfl (Nat.le_of_ble_eq_true rfl) dL_mend_4 ⟨by decide, by decide⟩ ?_
    refine g_i2l X dL_mend_7 ?_
    refine g_last X dL_mend_8 rfl hTo hLo ?_
    refine g_goto (tgt := 18) X dL_mend_9 (by decide) ?_
    refine g_iconst (v := (0 : Int32)) X dL_mend_18 (by decide) ?_
    exact g_vxF (g_iret X hr dL_mend_19)
  exact key s.heap [] ls hW va_S.rf hl
set_option maxHeartbeats 4000000 in
set_option maxRecDepth 100000 in
theorem mw_mend_t1 (l : Launch) (hlx : l.stackTraces = false) {D : va_G} {cy : Nat → ClassId} {B : Nat} {H0 : Heap} {Z : Nat → Nat} {M M1 : gMem} {x out : Nat} {x1 : Int32} (hH0 : H0.size = B) (hTx : mT M x = 10) (hf : f_X11_mend M x x1 = some (.inl 2, M1)) : Met l yL_mend wsL_mend2 rL_mend (va_Pc (List.map gv [vR (some x), vI x1, vR (some out)]) (gPre D cy B H0 (gSt3 Z B H0) M)) (gQN D cy B H0 (some (vI (1 : Int32))) M1) 2 12 (gA B) := by
  refine vx_met (vx_ofWH (cc := cL_mend) (maxL := 4) (ret := (some .int)) (hh := [(0, 9, 12, 24), (0, 9, 15, 13)]) (by decide) rfl ?_)
  intro p e s m args below meth c s₁ Bd hml hv
  obtain ⟨rfl, hW, hKK, hFs⟩ := hv
  have X3 : gX p s m _ meth c D cy B (gSt3 Z B H0) RL cL_mend wsL_mend2 4 := ⟨Bd.exec, Bd.bytes, atoms_spec (ws := wsL_mend2) Bd.pre, findClass_of_methodNamed Bd.named, hml, hKK, by rw [hW.1]; exact hW.2.1, Bd.notSynchronized, hFs⟩
  have X := gX_w3 X3
  have hr := Bd.returns
  have hl := lv_entry ([.ref x, .int x1, .ref out]) (n := 4) (Nat.le_of_ble_eq_true rfl)
  show W p l e rL_mend s m _ below meth c s.heap [] 0 0 _ (entryFrame m ([.ref x, .int x1, .ref out] : List Value).toArray 4)
  rw [lg_entry_eq]
  generalize (lg_sl ([.ref x, .int x1, .ref out]) ++ List.replicate (4 - (lg_sl ([.ref x, .int x1, .ref out])).length) Slot.unset).toArray = ls at hl ⊢
  have hl : lv_has ls 4 (List.map gq [(0, vR (some x)), (1, vI x1), (2, vR (some out))]) := hl
  have key : gGo p l e rL_mend s m ((List.map gv [vR (some x), vI x1, vR (some out)])).toArray below meth c D cy B H0 4 0 0 (gMF below (gQN D cy B H0 (some (vI (1 : Int32))) M1) B ((List.map gv [vR (some x), vI x1, vR (some out)])).toArray s 2 12) 0 [(0, vR (some x)), (1, vI x1), (2, vR (some out))] [] M := by
    have htab : c.exceptionTable.toList = [(⟨0, 9, 12, 24⟩ : ExceptionTableEntry), (⟨0, 9, 15, 13⟩ : ExceptionTableEntry)] := (vx_table (x := yL_mend) Bd (atoms_spec (ws := wsL_mend2) Bd.pre _ List.mem_cons_self)).trans rfl
    refine g_aload_n X dL_mend_0 rfl rfl ?_
    refine g_iconst (v := (0 : Int32)) X dL_mend_1 (by decide) ?_
    refine g_aload_n X dL_mend_2 rfl rfl ?_
    refine g_iload_n X dL_mend_3 rfl rfl ?_
    refine g_runC (x := 2) (st := [vI (0 : Int32), vR (some out)]) (mc := 2) (ms := 12) (name := "java/lang/IndexOutOfBoundsException") X [] ⟨0, 9, 12, 24⟩ [(⟨0, 9, 15, 13⟩ : ExceptionTableEntry)] htab (fun z hz => absurd hz List.not_mem_nil) (by decide) (by decide) (by decide +kernel) (va_Nw.use rfl (gN2w X (Cond.castable "java/lang/IndexOutOfBoundsException" "java/lang/IndexOutOfBoundsException") (by decide +kernel))) (fun H locs ls hW hS hl => g_vxV (ci := 9) (As := [vI x1]) X (m_X11_mend l hlx hH0 hf) (cwV 1 X.2.2.1 gL_mend_X11_mend2 rfl rfl rfl (by decide +kernel) ⟨Nat.le_of_ble_eq_true rfl, Nat.le_of_ble_eq_true rfl⟩) rfl hTx (by decide) rfl (Nat.le_of_ble_eq_true rfl) dL_mend_4 ⟨by decide, by decide⟩ H locs ls hW hl) (fun q N hN => ?_)
    refine g_astore_n (lv' := [(3, vR (some q)), (0, vR (some x)), (1, vI x1), (2, vR (some out))]) X dL_mend_12 rfl (by decide) rfl ?_
    refine g_iconst (v := (1 : Int32)) X dL_mend_13 (by decide) ?_
    exact g_vxFN hN (g_iret X hr dL_mend_14)
  exact key s.heap [] ls hW va_S.rf hl
set_option maxHeartbeats 4000000 in
set_option maxRecDepth 100000 in
theorem mw_mend_t2 (l : Launch) (hlx : l.stackTraces = false) {D : va_G} {cy : Nat → ClassId} {B : Nat} {H0 : Heap} {Z : Nat → Nat} {M M1 : gMem} {x out : Nat} {x1 : Int32} (hH0 : H0.size = B) (hTx : mT M x = 10) (hf : f_X11_mend M x x1 = some (.inl 0, M1)) : Met l yL_mend wsL_mend2 rL_mend (va_Pc (List.map gv [vR (some x), vI x1, vR (some out)]) (gPre D cy B H0 (gSt3 Z B H0) M)) (gQN D cy B H0 (some (vI (2 : Int32))) M1) 2 12 (gA B) := by
  refine vx_met (vx_ofWH (cc := cL_mend) (maxL := 4) (ret := (some .int)) (hh := [(0, 9, 12, 24), (0, 9, 15, 13)]) (by decide) rfl ?_)
  intro p e s m args below meth c s₁ Bd hml hv
  obtain ⟨rfl, hW, hKK, hFs⟩ := hv
  have X3 : gX p s m _ meth c D cy B (gSt3 Z B H0) RL cL_mend wsL_mend2 4 := ⟨Bd.exec, Bd.bytes, atoms_spec (ws := wsL_mend2) Bd.pre, findClass_of_methodNamed Bd.named, hml, hKK, by rw [hW.1]; exact hW.2.1, Bd.notSynchronized, hFs⟩
  have X := gX_w3 X3
  have hr := Bd.returns
  have hl := lv_entry ([.ref x, .int x1, .ref out]) (n := 4) (Nat.le_of_ble_eq_true rfl)
  show W p l e rL_mend s m _ below meth c s.heap [] 0 0 _ (entryFrame m ([.ref x, .int x1, .ref out] : List Value).toArray 4)
  rw [lg_entry_eq]
  generalize (lg_sl ([.ref x, .int x1, .ref out]) ++ List.replicate (4 - (lg_sl ([.ref x, .int x1, .ref out])).length) Slot.unset).toArray = ls at hl ⊢
  have hl : lv_has ls 4 (List.map gq [(0, vR (some x)), (1, vI x1), (2, vR (some out))]) := hl
  have key : gGo p l e rL_mend s m ((List.map gv [vR (some x), vI x1, vR (some out)])).toArray below meth c D cy B H0 4 0 0 (gMF below (gQN D cy B H0 (some (vI (2 : Int32))) M1) B ((List.map gv [vR (some x), vI x1, vR (some out)])).toArray s 2 12) 0 [(0, vR (some x)), (1, vI x1), (2, vR (some out))] [] M := by
    have htab : c.exceptionTable.toList = [(⟨0, 9, 12, 24⟩ : ExceptionTableEntry), (⟨0, 9, 15, 13⟩ : ExceptionTableEntry)] := (vx_table (x := yL_mend) Bd (atoms_spec (ws := wsL_mend2) Bd.pre _ List.mem_cons_self)).trans rfl
    refine g_aload_n X dL_mend_0 rfl rfl ?_
    refine g_iconst (v := (0 : Int32)) X dL_mend_1 (by decide) ?_
    refine g_aload_n X dL_mend_2 rfl rfl ?_
    refine g_iload_n X dL_mend_3 rfl rfl ?_
    refine g_runC (x := 0) (st := [vI (0 : Int32), vR (some out)]) (mc := 2) (ms := 12) (name := "java/lang/IllegalStateException") X [(⟨0, 9, 12, 24⟩ : ExceptionTableEntry)] ⟨0, 9, 15, 13⟩ [] htab (fun z hz => by rw [List.mem_singleton.mp hz]; exact Or.inr ⟨by decide, "java/lang/IndexOutOfBoundsException", X.2.2.1 _ (by decide +kernel), (gX_st X3).2 ("java/lang/IllegalStateException", "java/lang/IndexOutOfBoundsException") (by decide)⟩) (by decide) (by decide) (by decide +kernel) (va_Nw.use rfl (gN2w X (Cond.castable "java/lang/IllegalStateException" "java/lang/IllegalStateException") (by decide +kernel))) (fun H locs ls hW hS hl => g_vxV (ci := 9) (As := [vI x1]) X (m_X11_mend l hlx hH0 hf) (cwV 1 X.2.2.1 gL_mend_X11_mend2 rfl rfl rfl (by decide +kernel) ⟨Nat.le_of_ble_eq_true rfl, Nat.le_of_ble_eq_true rfl⟩) rfl hTx (by decide) rfl (Nat.le_of_ble_eq_true rfl) dL_mend_4 ⟨by decide, by decide⟩ H locs ls hW hl) (fun q N hN => ?_)
    refine g_astore_n (lv' := [(3, vR (some q)), (0, vR (some x)), (1, vI x1), (2, vR (some out))]) X dL_mend_15 rfl (by decide) rfl ?_
    refine g_iconst (v := (2 : Int32)) X dL_mend_16 (by decide) ?_
    exact g_vxFN hN (g_iret X hr dL_mend_17)
  exact key s.heap [] ls hW va_S.rf hl
theorem dL_pact_0 : decode cL_pact 0 = .ok (.aload_n 3, 1) := by decide +kernel
theorem dL_pact_1 : decode cL_pact 1 = .ok (.iconst 0, 1) := by decide +kernel
theorem dL_pact_2 : decode cL_pact 2 = .ok (.aload_n 0, 1) := by decide +kernel
theorem dL_pact_3 : decode cL_pact 3 = .ok (.iload_n 1, 1) := by decide +kernel
theorem dL_pact_4 : decode cL_pact 4 = .ok (.iload_n 2, 1) := by decide +kernel
theorem dL_pact_5 : decode cL_pact 5 = .ok (.invokevirtual 33, 3) := by decide +kernel
theorem dL_pact_8 : decode cL_pact 8 = .ok (.i2l, 1) := by decide +kernel
theorem dL_pact_9 : decode cL_pact 9 = .ok (.lastore, 1) := by decide +kernel
theorem dL_pact_10 : decode cL_pact 10 = .ok (.goto 7, 3) := by decide +kernel
theorem dL_pact_13 : decode cL_pact 13 = .ok (.astore 4, 2) := by decide +kernel
theorem dL_pact_15 : decode cL_pact 15 = .ok (.iconst 1, 1) := by decide +kernel
theorem dL_pact_16 : decode cL_pact 16 = .ok (.ireturn, 1) := by decide +kernel
theorem dL_pact_17 : decode cL_pact 17 = .ok (.iconst 0, 1) := by decide +kernel
theorem dL_pact_18 : decode cL_pact 18 = .ok (.ireturn, 1) := by decide +kernel
set_option maxRecDepth 20000 in
theorem ggL_pact_X11_pact : GoodIn wsL_pact wsX11_pact := goodIn_ca (goodIn_2 24 (goodIn_r _ [6, 7, 8, 9, 10, 11, 12, 13, 14, 15, 16, 17, 18, 19, 20, 21, 22, 23, 24, 25, 26, 27, 28, 29] (by decide +kernel) (by decide +kernel)) (goodIn_r _ [30, 31, 32, 33, 34, 35, 36, 37, 38, 39, 40, 41, 42, 43, 44, 45, 46, 47, 48, 49, 50, 51, 52] (by decide +kernel) (by decide +kernel))) (goodIn_sub (fun _ h => List.mem_cons_of_mem _ (List.mem_append_right _ h)) (by decide +kernel))
set_option maxRecDepth 20000 in
theorem gL_pact_X11_pact : GoodIn wsL_pact (wsV RL 33 RX11 yX11_pact wsX11_pact) := goodIn_app (goodIn_of _ (by decide +kernel)) ggL_pact_X11_pact
abbrev rL_pact : Room := { frames := 7, cells := 1, slots := 6, locals := 105 }
set_option maxHeartbeats 4000000 in
set_option maxRecDepth 100000 in
theorem mw_pact (l : Launch) (hlx : l.stackTraces = false) {D : va_G} {cy : Nat → ClassId} {B : Nat} {H0 : Heap} {Z : Nat → Nat} {M M1 : gMem} {x out : Nat} {x1 : Int32} {x2 : Int32} (hH0 : H0.size = B) (hTx : mT M x = 10) {v : Int32} (hf : f_X11_pact M x x1 x2 = some (.inr v, M1)) (hTo : mT M1 out = 21) (hLo : inb (0 : Int32) (mL M1 out)) : Met l yL_pact wsL_pact rL_pact (va_Pc (List.map gv [vR (some x), vI x1, vI x2, vR (some out)]) (gPre D cy B H0 (gSt3 Z B H0) M)) (gQ D cy B H0 (some (vI 0)) (wJ M1 out (0 : Int32).toNatClampNeg (Int32.toInt64 v)) ) 1 6 (gA B) := by
  refine vx_met (vx_ofWH (cc := cL_pact) (maxL := 5) (ret := (some .int)) (hh := [(0, 10, 13, 24)]) (by decide) rfl ?_)
  intro p e s m args below meth c s₁ Bd hml hv
  obtain ⟨rfl, hW, hKK, hFs⟩ := hv
  have X3 : gX p s m _ meth c D cy B (gSt3 Z B H0) RL cL_pact wsL_pact 5 := ⟨Bd.exec, Bd.bytes, atoms_spec (ws := wsL_pact) Bd.pre, findClass_of_methodNamed Bd.named, hml, hKK, by rw [hW.1]; exact hW.2.1, Bd.notSynchronized, hFs⟩
  have X := gX_w3 X3
  have hr := Bd.returns
  have hl := lv_entry ([.ref x, .int x1, .int x2, .ref out]) (n := 5) (Nat.le_of_ble_eq_true rfl)
  show W p l e rL_pact s m _ below meth c s.heap [] 0 0 _ (entryFrame m ([.ref x, .int x1, .int x2, .ref out] : List Value).toArray 5)
  rw [lg_entry_eq]
  generalize (lg_sl ([.ref x, .int x1, .int x2, .ref out]) ++ List.replicate (5 - (lg_sl ([.ref x, .int x1, .int x2, .ref out])).length) Slot.unset).toArray = ls at hl ⊢
  have hl : lv_has ls 5 (List.map gq [(0, vR (some x)), (1, vI x1), (2, vI x2), (3, vR (some out))]) := hl
  have key : gGo p l e rL_pact s m ((List.map gv [vR (some x), vI x1, vI x2, vR (some out)])).toArray below meth c D cy B H0 5 0 0 (gMF below (gQ D cy B H0 (some (vI 0)) (wJ M1 out (0 : Int32).toNatClampNeg (Int32.toInt64 v)) ) B ((List.map gv [vR (some x), vI x1, vI x2, vR (some out)])).toArray s 1 6) 0 [(0, vR (some x)), (1, vI x1), (2, vI x2), (3, vR (some out))] [] M := by
    refine g_aload_n X dL_pact_0 rfl rfl ?_
    refine g_iconst (v := (0 : Int32)) X dL_pact_1 (by decide) ?_
    refine g_aload_n X dL_pact_2 rfl rfl ?_
    refine g_iload_n X dL_pact_3 rfl rfl ?_
    refine g_iload_n X dL_pact_4 rfl rfl ?_
    refine g_callXV (ci := 9) (b := x) (As := [vI x1, vI x2]) (st := [vI (0 : Int32), vR (some out)]) (v := some (vI v)) (M1 := M1) X (m_X11_pact l hlx hH0 hf) (cwV 2 X.2.2.1 gL_pact_X11_pact rfl rfl rfl (by decide +kernel) ⟨Nat.le_of_ble_eq_true rfl, Nat.le_of_ble_eq_true rfl⟩) rfl rfl rfl hTx (by decide) rfl (Nat.le_of_ble_eq_true rfl) dL_pact_5 ⟨by decide, by decide⟩ ?_
    refine g_i2l X dL_pact_8 ?_
    refine g_last X dL_pact_9 rfl hTo hLo ?_
    refine g_goto (tgt := 17) X dL_pact_10 (by decide) ?_
    refine g_iconst (v := (0 : Int32)) X dL_pact_17 (by decide) ?_
    exact g_vxF (g_iret X hr dL_pact_18)
  exact key s.heap [] ls hW va_S.rf hl
set_option maxHeartbeats 4000000 in
set_option maxRecDepth 100000 in
theorem mw_pact_t1 (l : Launch) (hlx : l.stackTraces = false) {D : va_G} {cy : Nat → ClassId} {B : Nat} {H0 : Heap} {Z : Nat → Nat} {M M1 : gMem} {x out : Nat} {x1 : Int32} {x2 : Int32} (hH0 : H0.size = B) (hTx : mT M x = 10) (hf : f_X11_pact M x x1 x2 = some (.inl 2, M1)) : Met l yL_pact wsL_pact rL_pact (va_Pc (List.map gv [vR (some x), vI x1, vI x2, vR (some out)]) (gPre D cy B H0 (gSt3 Z B H0) M)) (gQN D cy B H0 (some (vI (1 : Int32))) M1) 1 6 (gA B) := by
  refine vx_met (vx_ofWH (cc := cL_pact) (maxL := 5) (ret := (some .int)) (hh := [(0, 10, 13, 24)]) (by decide) rfl ?_)
  intro p e s m args below meth c s₁ Bd hml hv
  obtain ⟨rfl, hW, hKK, hFs⟩ := hv
  have X3 : gX p s m _ meth c D cy B (gSt3 Z B H0) RL cL_pact wsL_pact 5 := ⟨Bd.exec, Bd.bytes, atoms_spec (ws := wsL_pact) Bd.pre, findClass_of_methodNamed Bd.named, hml, hKK, by rw [hW.1]; exact hW.2.1, Bd.notSynchronized, hFs⟩
  have X := gX_w3 X3
  have hr := Bd.returns
  have hl := lv_entry ([.ref x, .int x1, .int x2, .ref out]) (n := 5) (Nat.le_of_ble_eq_true rfl)
  show W p l e rL_pact s m _ below meth c s.heap [] 0 0 _ (entryFrame m ([.ref x, .int x1, .int x2, .ref out] : List Value).toArray 5)
  rw [lg_entry_eq]
  generalize (lg_sl ([.ref x, .int x1, .int x2, .ref out]) ++ List.replicate (5 - (lg_sl ([.ref x, .int x1, .int x2, .ref out])).length) Slot.unset).toArray = ls at hl ⊢
  have hl : lv_has ls 5 (List.map gq [(0, vR (some x)), (1, vI x1), (2, vI x2), (3, vR (some out))]) := hl
  have key : gGo p l e rL_pact s m ((List.map gv [vR (some x), vI x1, vI x2, vR (some out)])).toArray below meth c D cy B H0 5 0 0 (gMF below (gQN D cy B H0 (some (vI (1 : Int32))) M1) B ((List.map gv [vR (some x), vI x1, vI x2, vR (some out)])).toArray s 1 6) 0 [(0, vR (some x)), (1, vI x1), (2, vI x2), (3, vR (some out))] [] M := by
    have htab : c.exceptionTable.toList = [(⟨0, 10, 13, 24⟩ : ExceptionTableEntry)] := (vx_table (x := yL_pact) Bd (atoms_spec (ws := wsL_pact) Bd.pre _ List.mem_cons_self)).trans rfl
    refine g_aload_n X dL_pact_0 rfl rfl ?_
    refine g_iconst (v := (0 : Int32)) X dL_pact_1 (by decide) ?_
    refine g_aload_n X dL_pact_2 rfl rfl ?_
    refine g_iload_n X dL_pact_3 rfl rfl ?_
    refine g_iload_n X dL_pact_4 rfl rfl ?_
    refine g_runC (x := 2) (st := [vI (0 : Int32), vR (some out)]) (mc := 1) (ms := 6) (name := "java/lang/IndexOutOfBoundsException") X [] ⟨0, 10, 13, 24⟩ [] htab (fun z hz => absurd hz List.not_mem_nil) (by decide) (by decide) (by decide +kernel) (va_Nw.use rfl (gN2w X (Cond.castable "java/lang/IndexOutOfBoundsException" "java/lang/IndexOutOfBoundsException") (by decide +kernel))) (fun H locs ls hW hS hl => g_vxV (ci := 9) (As := [vI x1, vI x2]) X (m_X11_pact l hlx hH0 hf) (cwV 2 X.2.2.1 gL_pact_X11_pact rfl rfl rfl (by decide +kernel) ⟨Nat.le_of_ble_eq_true rfl, Nat.le_of_ble_eq_true rfl⟩) rfl hTx (by decide) rfl (Nat.le_of_ble_eq_true rfl) dL_pact_5 ⟨by decide, by decide⟩ H locs ls hW hl) (fun q N hN => ?_)
    refine g_astore (lv' := [(4, vR (some q)), (0, vR (some x)), (1, vI x1), (2, vI x2), (3, vR (some out))]) X dL_pact_13 (by decide) rfl ?_
    refine g_iconst (v := (1 : Int32)) X dL_pact_15 (by decide) ?_
    exact g_vxFN hN (g_iret X hr dL_pact_16)
  exact key s.heap [] ls hW va_S.rf hl
