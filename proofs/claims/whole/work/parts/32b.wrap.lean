theorem dL_empty_0 : decode cL_empty 0 = .ok (.aload_n 2, 1) := by decide +kernel
theorem dL_empty_1 : decode cL_empty 1 = .ok (.iconst 0, 1) := by decide +kernel
theorem dL_empty_2 : decode cL_empty 2 = .ok (.aload_n 0, 1) := by decide +kernel
theorem dL_empty_3 : decode cL_empty 3 = .ok (.iload_n 1, 1) := by decide +kernel
theorem dL_empty_4 : decode cL_empty 4 = .ok (.invokevirtual 61, 3) := by decide +kernel
theorem dL_empty_7 : decode cL_empty 7 = .ok (.i2l, 1) := by decide +kernel
theorem dL_empty_8 : decode cL_empty 8 = .ok (.lastore, 1) := by decide +kernel
theorem dL_empty_9 : decode cL_empty 9 = .ok (.goto 6, 3) := by decide +kernel
theorem dL_empty_12 : decode cL_empty 12 = .ok (.astore_n 3, 1) := by decide +kernel
theorem dL_empty_13 : decode cL_empty 13 = .ok (.iconst 1, 1) := by decide +kernel
theorem dL_empty_14 : decode cL_empty 14 = .ok (.ireturn, 1) := by decide +kernel
theorem dL_empty_15 : decode cL_empty 15 = .ok (.iconst 0, 1) := by decide +kernel
theorem dL_empty_16 : decode cL_empty 16 = .ok (.ireturn, 1) := by decide +kernel
set_option maxRecDepth 20000 in
theorem ggL_empty_X11_empty_c : GoodIn wsL_empty [.code yX11_empty cX11_empty 4 (some .int)] := goodIn_rr wsB_L_empty_in _ [(1, 5)] (by decide +kernel) (by decide +kernel)
set_option maxRecDepth 20000 in
theorem ggL_empty_X11_empty_wsX11_empty_r1 : GoodIn wsL_empty wsX11_empty_r1 := goodIn_rr wsB_L_empty_in _ [(1, 6), (1, 7), (1, 8), (1, 9), (1, 4), (1, 10), (1, 11), (1, 12), (1, 13), (1, 14), (1, 15), (1, 16), (1, 17), (1, 18), (1, 19), (1, 20), (1, 21), (1, 22), (1, 23), (2, 0), (2, 1), (2, 2), (2, 3), (2, 4)] (by decide +kernel) (by decide +kernel)
set_option maxRecDepth 20000 in
theorem ggL_empty_X11_empty_wsX11_empty_r2 : GoodIn wsL_empty wsX11_empty_r2 := goodIn_rr wsB_L_empty_in _ [(2, 5), (2, 6), (2, 7), (2, 8), (2, 9), (2, 10), (2, 11), (2, 12), (2, 13), (2, 14), (2, 15), (2, 16), (2, 17), (2, 18), (2, 19), (2, 20), (2, 21), (2, 22), (2, 23), (3, 0), (3, 1), (3, 2), (3, 3), (3, 4)] (by decide +kernel) (by decide +kernel)
set_option maxRecDepth 20000 in
theorem ggL_empty_X11_empty_wsX11_empty_r3 : GoodIn wsL_empty wsX11_empty_r3 := goodIn_rr wsB_L_empty_in _ [(3, 5), (3, 6), (3, 7), (3, 8), (3, 9), (3, 10), (3, 11), (3, 12), (3, 13), (3, 14), (3, 15), (3, 16), (3, 17), (3, 18), (3, 19), (3, 20), (3, 21), (3, 22), (3, 23), (4, 0), (4, 1), (4, 2), (4, 3), (4, 4)] (by decide +kernel) (by decide +kernel)
set_option maxRecDepth 20000 in
theorem ggL_empty_X11_empty_wsX11_empty_r4 : GoodIn wsL_empty wsX11_empty_r4 := goodIn_rr wsB_L_empty_in _ [(4, 5), (4, 6), (4, 7), (4, 8), (4, 9), (4, 10), (4, 11), (4, 12), (4, 13), (4, 14), (4, 15), (4, 16), (4, 17), (4, 18), (4, 19), (4, 20), (4, 21), (4, 22), (4, 23), (5, 0), (5, 1), (5, 2), (5, 3), (5, 4)] (by decide +kernel) (by decide +kernel)
set_option maxRecDepth 20000 in
theorem ggL_empty_X11_empty_wsX11_empty_r5 : GoodIn wsL_empty wsX11_empty_r5 := goodIn_rr wsB_L_empty_in _ [(5, 5), (5, 6), (5, 7), (5, 8), (5, 9), (5, 10), (5, 11), (5, 12), (5, 13), (5, 14), (5, 15), (5, 16), (5, 17), (5, 18), (5, 19), (5, 20), (5, 21), (5, 22), (5, 23), (6, 0), (6, 1), (6, 2), (6, 3), (6, 4)] (by decide +kernel) (by decide +kernel)
set_option maxRecDepth 20000 in
theorem ggL_empty_X11_empty_wsX11_empty_r6 : GoodIn wsL_empty wsX11_empty_r6 := goodIn_rr wsB_L_empty_in _ [(6, 5), (6, 6), (6, 7), (6, 8), (6, 9), (6, 10), (6, 11), (6, 12), (6, 13), (6, 14), (6, 15), (6, 16), (6, 17), (6, 18), (6, 19), (6, 20), (6, 21), (6, 22), (6, 23), (7, 0), (7, 1), (7, 2), (7, 3), (7, 4)] (by decide +kernel) (by decide +kernel)
set_option maxRecDepth 20000 in
theorem ggL_empty_X11_empty_wsX11_empty_r7 : GoodIn wsL_empty wsX11_empty_r7 := goodIn_rr wsB_L_empty_in _ [(7, 5), (7, 6), (7, 7), (7, 8), (7, 9), (7, 10), (7, 11), (7, 12), (7, 13), (7, 14), (7, 15), (7, 16), (7, 17), (7, 18), (7, 19), (7, 20), (7, 21), (7, 22), (7, 23), (8, 0), (8, 1), (8, 2), (8, 3), (8, 4)] (by decide +kernel) (by decide +kernel)
set_option maxRecDepth 20000 in
theorem ggL_empty_X11_empty_wsX11_empty_r8 : GoodIn wsL_empty wsX11_empty_r8 := goodIn_rr wsB_L_empty_in _ [(8, 5), (8, 6), (8, 7), (8, 8), (8, 9), (8, 10), (8, 11), (8, 12), (8, 13), (8, 14), (8, 15), (8, 16), (8, 17), (8, 18), (8, 19), (8, 20), (8, 21), (8, 22), (8, 23), (9, 0), (9, 1), (9, 2), (9, 3), (9, 4)] (by decide +kernel) (by decide +kernel)
set_option maxRecDepth 20000 in
theorem ggL_empty_X11_empty_wsX11_empty_r9 : GoodIn wsL_empty wsX11_empty_r9 := goodIn_rr wsB_L_empty_in _ [(9, 5), (9, 6), (9, 7), (9, 8), (9, 9), (9, 10), (9, 11), (9, 12), (9, 13), (9, 14), (9, 15), (9, 16), (9, 17), (9, 18), (9, 19), (9, 20), (9, 21), (9, 22), (9, 23), (10, 0), (10, 1), (10, 2), (10, 3), (10, 4)] (by decide +kernel) (by decide +kernel)
set_option maxRecDepth 20000 in
theorem ggL_empty_X11_empty_wsX70 : GoodIn wsL_empty wsX70 := goodIn_rr wsB_L_empty_in _ [(11, 0), (11, 1), (11, 2), (11, 3), (11, 4), (11, 5), (11, 6), (11, 7), (11, 8), (11, 9), (11, 10), (11, 11), (11, 12), (11, 13), (11, 14), (11, 15), (11, 16)] (by decide +kernel) (by decide +kernel)
set_option maxRecDepth 20000 in
theorem ggL_empty_X11_empty_wsX110 : GoodIn wsL_empty wsX110 := goodIn_rr wsB_L_empty_in _ [(12, 0), (12, 1), (12, 2), (12, 3)] (by decide +kernel) (by decide +kernel)
set_option maxRecDepth 20000 in
theorem ggL_empty_X11_empty_wsX30 : GoodIn wsL_empty wsX30 := goodIn_rr wsB_L_empty_in _ [(13, 0), (13, 1), (13, 2), (13, 3)] (by decide +kernel) (by decide +kernel)
set_option maxRecDepth 20000 in
theorem ggL_empty_X11_empty_wsX10 : GoodIn wsL_empty wsX10 := goodIn_rr wsB_L_empty_in _ [(14, 0), (14, 1), (14, 2), (14, 3), (14, 4), (14, 5), (14, 6), (14, 7), (14, 8), (14, 9), (14, 10)] (by decide +kernel) (by decide +kernel)
set_option maxRecDepth 20000 in
theorem ggL_empty_X11_empty_wsX20 : GoodIn wsL_empty wsX20 := goodIn_rr wsB_L_empty_in _ [(15, 0), (15, 1), (15, 2), (15, 3)] (by decide +kernel) (by decide +kernel)
set_option maxRecDepth 20000 in
theorem ggL_empty_X11_empty_wsX50 : GoodIn wsL_empty wsX50 := goodIn_rr wsB_L_empty_in _ [(16, 0), (16, 1), (16, 2), (16, 3), (16, 4), (16, 5), (16, 6), (16, 7)] (by decide +kernel) (by decide +kernel)
set_option maxRecDepth 20000 in
theorem ggL_empty_X11_empty_wsX90 : GoodIn wsL_empty wsX90 := goodIn_rr wsB_L_empty_in _ [(17, 0), (17, 1), (17, 2), (17, 3)] (by decide +kernel) (by decide +kernel)
set_option maxRecDepth 20000 in
theorem ggL_empty_X11_empty : GoodIn wsL_empty wsX11_empty := goodIn_ca (goodIn_c1 ggL_empty_X11_empty_c (goodIn_app (goodIn_app (goodIn_app (goodIn_app (goodIn_app (goodIn_app (goodIn_app (goodIn_app ggL_empty_X11_empty_wsX11_empty_r1 (goodIn_app ggL_empty_X11_empty_wsX11_empty_r2 (goodIn_app ggL_empty_X11_empty_wsX11_empty_r3 (goodIn_app ggL_empty_X11_empty_wsX11_empty_r4 (goodIn_app ggL_empty_X11_empty_wsX11_empty_r5 (goodIn_app ggL_empty_X11_empty_wsX11_empty_r6 (goodIn_app ggL_empty_X11_empty_wsX11_empty_r7 (goodIn_app ggL_empty_X11_empty_wsX11_empty_r8 ggL_empty_X11_empty_wsX11_empty_r9)))))))) ggL_empty_X11_empty_wsX70) ggL_empty_X11_empty_wsX110) ggL_empty_X11_empty_wsX30) ggL_empty_X11_empty_wsX10) ggL_empty_X11_empty_wsX20) ggL_empty_X11_empty_wsX50) ggL_empty_X11_empty_wsX90)) (goodIn_sub (fun _ h => List.mem_cons_of_mem _ (List.mem_append_right _ h)) (by decide +kernel))
set_option maxRecDepth 20000 in
theorem gL_empty_X11_empty : GoodIn wsL_empty (wsV RL 61 RX11 yX11_empty wsX11_empty) := goodIn_app (goodIn_rr wsB_L_empty_in _ [(1, 1), (1, 2), (1, 3), (1, 4)] (by decide +kernel) (by decide +kernel)) ggL_empty_X11_empty
abbrev rL_empty : Room := { frames := 8, cells := 1, slots := 6, locals := 164 }
set_option maxHeartbeats 4000000 in
set_option maxRecDepth 100000 in
theorem mw_empty (l : Launch) (hlx : l.stackTraces = false) {D : va_G} {cy : Nat → ClassId} {B : Nat} {H0 : Heap} {Z : Nat → Nat} {M M1 : gMem} {x out : Nat} {x1 : Int32} (hH0 : H0.size = B) (hTx : mT M x = 10) {v : Int32} (hf : f_X11_empty Z M x x1 = some (.inr v, M1)) (hTo : mT M1 out = 21) (hLo : inb (0 : Int32) (mL M1 out)) : Met l yL_empty wsL_empty rL_empty (va_Pc (List.map gv [vR (some x), vI x1, vR (some out)]) (gPre D cy B H0 (gSt3 Z B H0) M)) (gQ D cy B H0 (some (vI 0)) (wJ M1 out (0 : Int32).toNatClampNeg (Int32.toInt64 v)) ) 1 6 (gA B) := by
  refine vx_met (vx_ofWH (cc := cL_empty) (maxL := 4) (ret := (some .int)) (hh := [(0, 9, 12, 24)]) (by decide) rfl ?_)
  intro p e s m args below meth c s₁ Bd hml hv
  obtain ⟨rfl, hW, hKK, hFs⟩ := hv
  have X3 : gX p s m _ meth c D cy B (gSt3 Z B H0) RL cL_empty wsL_empty 4 := ⟨Bd.exec, Bd.bytes, atoms_spec (ws := wsL_empty) Bd.pre, findClass_of_methodNamed Bd.named, hml, hKK, by rw [hW.1]; exact hW.2.1, Bd.notSynchronized, hFs⟩
  have X := gX_w3 X3
  have hr := Bd.returns
  have hl := lv_entry ([.ref x, .int x1, .ref out]) (n := 4) (Nat.le_of_ble_eq_true rfl)
  show W p l e rL_empty s m _ below meth c s.heap [] 0 0 _ (entryFrame m ([.ref x, .int x1, .ref out] : List Value).toArray 4)
  rw [lg_entry_eq]
  generalize (lg_sl ([.ref x, .int x1, .ref out]) ++ List.replicate (4 - (lg_sl ([.ref x, .int x1, .ref out])).length) Slot.unset).toArray = ls at hl ⊢
  have hl : lv_has ls 4 (List.map gq [(0, vR (some x)), (1, vI x1), (2, vR (some out))]) := hl
  have key : gGo p l e rL_empty s m ((List.map gv [vR (some x), vI x1, vR (some out)])).toArray below meth c D cy B H0 4 0 0 (gMF below (gQ D cy B H0 (some (vI 0)) (wJ M1 out (0 : Int32).toNatClampNeg (Int32.toInt64 v)) ) B ((List.map gv [vR (some x), vI x1, vR (some out)])).toArray s 1 6) 0 [(0, vR (some x)), (1, vI x1), (2, vR (some out))] [] M := by
    refine g_aload_n X dL_empty_0 rfl rfl ?_
    refine g_iconst (v := (0 : Int32)) X dL_empty_1 (by decide) ?_
    refine g_aload_n X dL_empty_2 rfl rfl ?_
    refine g_iload_n X dL_empty_3 rfl rfl ?_
    refine g_callXV (ci := 9) (b := x) (As := [vI x1]) (st := [vI (0 : Int32), vR (some out)]) (v := some (vI v)) (M1 := M1) X (m_X11_empty l hlx hH0 hf) (cwV 1 X.2.2.1 gL_empty_X11_empty rfl rfl rfl (by decide +kernel) ⟨Nat.le_of_ble_eq_true rfl, Nat.le_of_ble_eq_true rfl⟩) rfl rfl rfl hTx (by decide) rfl (Nat.le_of_ble_eq_true rfl) dL_empty_4 ⟨by decide, by decide⟩ ?_
    refine g_i2l X dL_empty_7 ?_
    refine g_last X dL_empty_8 rfl hTo hLo ?_
    refine g_goto (tgt := 15) X dL_empty_9 (by decide) ?_
    refine g_iconst (v := (0 : Int32)) X dL_empty_15 (by decide) ?_
    exact g_vxF (g_iret X hr dL_empty_16)
  exact key s.heap [] ls hW va_S.rf hl
set_option maxHeartbeats 4000000 in
set_option maxRecDepth 100000 in
theorem mw_empty_t1 (l : Launch) (hlx : l.stackTraces = false) {D : va_G} {cy : Nat → ClassId} {B : Nat} {H0 : Heap} {Z : Nat → Nat} {M M1 : gMem} {x out : Nat} {x1 : Int32} (hH0 : H0.size = B) (hTx : mT M x = 10) (hf : f_X11_empty Z M x x1 = some (.inl 2, M1)) : Met l yL_empty wsL_empty rL_empty (va_Pc (List.map gv [vR (some x), vI x1, vR (some out)]) (gPre D cy B H0 (gSt3 Z B H0) M)) (gQN D cy B H0 (some (vI (1 : Int32))) M1) 1 6 (gA B) := by
  refine vx_met (vx_ofWH (cc := cL_empty) (maxL := 4) (ret := (some .int)) (hh := [(0, 9, 12, 24)]) (by decide) rfl ?_)
  intro p e s m args below meth c s₁ Bd hml hv
  obtain ⟨rfl, hW, hKK, hFs⟩ := hv
  have X3 : gX p s m _ meth c D cy B (gSt3 Z B H0) RL cL_empty wsL_empty 4 := ⟨Bd.exec, Bd.bytes, atoms_spec (ws := wsL_empty) Bd.pre, findClass_of_methodNamed Bd.named, hml, hKK, by rw [hW.1]; exact hW.2.1, Bd.notSynchronized, hFs⟩
  have X := gX_w3 X3
  have hr := Bd.returns
  have hl := lv_entry ([.ref x, .int x1, .ref out]) (n := 4) (Nat.le_of_ble_eq_true rfl)
  show W p l e rL_empty s m _ below meth c s.heap [] 0 0 _ (entryFrame m ([.ref x, .int x1, .ref out] : List Value).toArray 4)
  rw [lg_entry_eq]
  generalize (lg_sl ([.ref x, .int x1, .ref out]) ++ List.replicate (4 - (lg_sl ([.ref x, .int x1, .ref out])).length) Slot.unset).toArray = ls at hl ⊢
  have hl : lv_has ls 4 (List.map gq [(0, vR (some x)), (1, vI x1), (2, vR (some out))]) := hl
  have key : gGo p l e rL_empty s m ((List.map gv [vR (some x), vI x1, vR (some out)])).toArray below meth c D cy B H0 4 0 0 (gMF below (gQN D cy B H0 (some (vI (1 : Int32))) M1) B ((List.map gv [vR (some x), vI x1, vR (some out)])).toArray s 1 6) 0 [(0, vR (some x)), (1, vI x1), (2, vR (some out))] [] M := by
    have htab : c.exceptionTable.toList = [(⟨0, 9, 12, 24⟩ : ExceptionTableEntry)] := (vx_table (x := yL_empty) Bd (atoms_spec (ws := wsL_empty) Bd.pre _ List.mem_cons_self)).trans rfl
    refine g_aload_n X dL_empty_0 rfl rfl ?_
    refine g_iconst (v := (0 : Int32)) X dL_empty_1 (by decide) ?_
    refine g_aload_n X dL_empty_2 rfl rfl ?_
    refine g_iload_n X dL_empty_3 rfl rfl ?_
    refine g_runC (x := 2) (st := [vI (0 : Int32), vR (some out)]) (mc := 1) (ms := 6) (name := "java/lang/IndexOutOfBoundsException") X [] ⟨0, 9, 12, 24⟩ [] htab (fun z hz => absurd hz List.not_mem_nil) (by decide) (by decide) (by decide +kernel) (va_Nw.use rfl (gN2w X (Cond.castable "java/lang/IndexOutOfBoundsException" "java/lang/IndexOutOfBoundsException") (by decide +kernel))) (fun H locs ls hW hS hl => g_vxV (ci := 9) (As := [vI x1]) X (m_X11_empty l hlx hH0 hf) (cwV 1 X.2.2.1 gL_empty_X11_empty rfl rfl rfl (by decide +kernel) ⟨Nat.le_of_ble_eq_true rfl, Nat.le_of_ble_eq_true rfl⟩) rfl hTx (by decide) rfl (Nat.le_of_ble_eq_true rfl) dL_empty_4 ⟨by decide, by decide⟩ H locs ls hW hl) (fun q N hN => ?_)
    refine g_astore_n (lv' := [(3, vR (some q)), (0, vR (some x)), (1, vI x1), (2, vR (some out))]) X dL_empty_12 rfl (by decide) rfl ?_
    refine g_iconst (v := (1 : Int32)) X dL_empty_13 (by decide) ?_
    exact g_vxFN hN (g_iret X hr dL_empty_14)
  exact key s.heap [] ls hW va_S.rf hl
theorem dL_feed_0 : decode cL_feed 0 = .ok (.aload 6, 2) := by decide +kernel
theorem dL_feed_2 : decode cL_feed 2 = .ok (.iconst 0, 1) := by decide +kernel
theorem dL_feed_3 : decode cL_feed 3 = .ok (.aload_n 0, 1) := by decide +kernel
theorem dL_feed_4 : decode cL_feed 4 = .ok (.iload_n 1, 1) := by decide +kernel
theorem dL_feed_5 : decode cL_feed 5 = .ok (.iload_n 2, 1) := by decide +kernel
theorem dL_feed_6 : decode cL_feed 6 = .ok (.iload_n 3, 1) := by decide +kernel
theorem dL_feed_7 : decode cL_feed 7 = .ok (.iload 4, 2) := by decide +kernel
theorem dL_feed_9 : decode cL_feed 9 = .ok (.iload 5, 2) := by decide +kernel
theorem dL_feed_11 : decode cL_feed 11 = .ok (.invokevirtual 7, 3) := by decide +kernel
theorem dL_feed_14 : decode cL_feed 14 = .ok (.i2l, 1) := by decide +kernel
theorem dL_feed_15 : decode cL_feed 15 = .ok (.lastore, 1) := by decide +kernel
theorem dL_feed_16 : decode cL_feed 16 = .ok (.goto 7, 3) := by decide +kernel
theorem dL_feed_19 : decode cL_feed 19 = .ok (.astore 7, 2) := by decide +kernel
theorem dL_feed_21 : decode cL_feed 21 = .ok (.iconst 1, 1) := by decide +kernel
theorem dL_feed_22 : decode cL_feed 22 = .ok (.ireturn, 1) := by decide +kernel
theorem dL_feed_23 : decode cL_feed 23 = .ok (.iconst 0, 1) := by decide +kernel
theorem dL_feed_24 : decode cL_feed 24 = .ok (.ireturn, 1) := by decide +kernel
set_option maxRecDepth 20000 in
theorem ggL_feed_X11_feed : GoodIn wsL_feed wsX11_feed := goodIn_ca (goodIn_r _ [6, 7, 8, 9, 10, 11, 12, 13, 14, 15, 16, 17, 18, 19, 20, 21, 22, 23, 24, 25, 26, 27] (by decide +kernel) (by decide +kernel)) (goodIn_sub (fun _ h => List.mem_cons_of_mem _ (List.mem_append_right _ h)) (by decide +kernel))
set_option maxRecDepth 20000 in
theorem gL_feed_X11_feed : GoodIn wsL_feed (wsV RL 7 RX11 yX11_feed wsX11_feed) := goodIn_app (goodIn_of _ (by decide +kernel)) ggL_feed_X11_feed
abbrev rL_feed : Room := { frames := 7, cells := 1, slots := 6, locals := 107 }
set_option maxHeartbeats 4000000 in
set_option maxRecDepth 100000 in
theorem mw_feed (l : Launch) (hlx : l.stackTraces = false) {D : va_G} {cy : Nat → ClassId} {B : Nat} {H0 : Heap} {Z : Nat → Nat} {M M1 : gMem} {x out : Nat} {x1 : Int32} {x2 : Int32} {x3 : Int32} {x4 : Int32} {x5 : Int32} (hH0 : H0.size = B) (hTx : mT M x = 10) {v : Int32} (hf : f_X11_feed M x x1 x2 x3 x4 x5 = some (.inr v, M1)) (hTo : mT M1 out = 21) (hLo : inb (0 : Int32) (mL M1 out)) : Met l yL_feed wsL_feed rL_feed (va_Pc (List.map gv [vR (some x), vI x1, vI x2, vI x3, vI x4, vI x5, vR (some out)]) (gPre D cy B H0 (gSt3 Z B H0) M)) (gQ D cy B H0 (some (vI 0)) (wJ M1 out (0 : Int32).toNatClampNeg (Int32.toInt64 v)) ) 1 6 (gA B) := by
  refine vx_met (vx_ofWH (cc := cL_feed) (maxL := 8) (ret := (some .int)) (hh := [(0, 16, 19, 13)]) (by decide) rfl ?_)
  intro p e s m args below meth c s₁ Bd hml hv
  obtain ⟨rfl, hW, hKK, hFs⟩ := hv
  have X3 : gX p s m _ meth c D cy B (gSt3 Z B H0) RL cL_feed wsL_feed 8 := ⟨Bd.exec, Bd.bytes, atoms_spec (ws := wsL_feed) Bd.pre, findClass_of_methodNamed Bd.named, hml, hKK, by rw [hW.1]; exact hW.2.1, Bd.notSynchronized, hFs⟩
  have X := gX_w3 X3
  have hr := Bd.returns
  have hl := lv_entry ([.ref x, .int x1, .int x2, .int x3, .int x4, .int x5, .ref out]) (n := 8) (Nat.le_of_ble_eq_true rfl)
  show W p l e rL_feed s m _ below meth c s.heap [] 0 0 _ (entryFrame m ([.ref x, .int x1, .int x2, .int x3, .int x4, .int x5, .ref out] : List Value).toArray 8)
  rw [lg_entry_eq]
  generalize (lg_sl ([.ref x, .int x1, .int x2, .int x3, .int x4, .int x5, .ref out]) ++ List.replicate (8 - (lg_sl ([.ref x, .int x1, .int x2, .int x3, .int x4, .int x5, .ref out])).length) Slot.unset).toArray = ls at hl ⊢
  have hl : lv_has ls 8 (List.map gq [(0, vR (some x)), (1, vI x1), (2, vI x2), (3, vI x3), (4, vI x4), (5, vI x5), (6, vR (some out))]) := hl
  have key : gGo p l e rL_feed s m ((List.map gv [vR (some x), vI x1, vI x2, vI x3, vI x4, vI x5, vR (some out)])).toArray below meth c D cy B H0 8 0 0 (gMF below (gQ D cy B H0 (some (vI 0)) (wJ M1 out (0 : Int32).toNatClampNeg (Int32.toInt64 v)) ) B ((List.map gv [vR (some x), vI x1, vI x2, vI x3, vI x4, vI x5, vR (some out)])).toArray s 1 6) 0 [(0, vR (some x)), (1, vI x1), (2, vI x2), (3, vI x3), (4, vI x4), (5, vI x5), (6, vR (some out))] [] M := by
    refine g_aload X dL_feed_0 rfl ?_
    refine g_iconst (v := (0 : Int32)) X dL_feed_2 (by decide) ?_
    refine g_aload_n X dL_feed_3 rfl rfl ?_
    refine g_iload_n X dL_feed_4 rfl rfl ?_
    refine g_iload_n X dL_feed_5 rfl rfl ?_
    refine g_iload_n X dL_feed_6 rfl rfl ?_
    refine g_iload X dL_feed_7 rfl ?_
    refine g_iload X dL_feed_9 rfl ?_
    refine g_callXV (ci := 9) (b := x) (As := [vI x1, vI x2, vI x3, vI x4, vI x5]) (st := [vI (0 : Int32), vR (some out)]) (v := some (vI v)) (M1 := M1) X (m_X11_feed l hlx hH0 hf) (cwV 5 X.2.2.1 gL_feed_X11_feed rfl rfl rfl (by decide +kernel) ⟨Nat.le_of_ble_eq_true rfl, Nat.le_of_ble_eq_true rfl⟩) rfl rfl rfl hTx (by decide) rfl (Nat.le_of_ble_eq_true rfl) dL_feed_11 ⟨by decide, by decide⟩ ?_
    refine g_i2l X dL_feed_14 ?_
    refine g_last X dL_feed_15 rfl hTo hLo ?_
    refine g_goto (tgt := 23) X dL_feed_16 (by decide) ?_
    refine g_iconst (v := (0 : Int32)) X dL_feed_23 (by decide) ?_
    exact g_vxF (g_iret X hr dL_feed_24)
  exact key s.heap [] ls hW va_S.rf hl
set_option maxHeartbeats 4000000 in
set_option maxRecDepth 100000 in
theorem mw_feed_t1 (l : Launch) (hlx : l.stackTraces = false) {D : va_G} {cy : Nat → ClassId} {B : Nat} {H0 : Heap} {Z : Nat → Nat} {M M1 : gMem} {x out : Nat} {x1 : Int32} {x2 : Int32} {x3 : Int32} {x4 : Int32} {x5 : Int32} (hH0 : H0.size = B) (hTx : mT M x = 10) (hf : f_X11_feed M x x1 x2 x3 x4 x5 = some (.inl 0, M1)) : Met l yL_feed wsL_feed rL_feed (va_Pc (List.map gv [vR (some x), vI x1, vI x2, vI x3, vI x4, vI x5, vR (some out)]) (gPre D cy B H0 (gSt3 Z B H0) M)) (gQN D cy B H0 (some (vI (1 : Int32))) M1) 1 6 (gA B) := by
  refine vx_met (vx_ofWH (cc := cL_feed) (maxL := 8) (ret := (some .int)) (hh := [(0, 16, 19, 13)]) (by decide) rfl ?_)
  intro p e s m args below meth c s₁ Bd hml hv
  obtain ⟨rfl, hW, hKK, hFs⟩ := hv
  have X3 : gX p s m _ meth c D cy B (gSt3 Z B H0) RL cL_feed wsL_feed 8 := ⟨Bd.exec, Bd.bytes, atoms_spec (ws := wsL_feed) Bd.pre, findClass_of_methodNamed Bd.named, hml, hKK, by rw [hW.1]; exact hW.2.1, Bd.notSynchronized, hFs⟩
  have X := gX_w3 X3
  have hr := Bd.returns
  have hl := lv_entry ([.ref x, .int x1, .int x2, .int x3, .int x4, .int x5, .ref out]) (n := 8) (Nat.le_of_ble_eq_true rfl)
  show W p l e rL_feed s m _ below meth c s.heap [] 0 0 _ (entryFrame m ([.ref x, .int x1, .int x2, .int x3, .int x4, .int x5, .ref out] : List Value).toArray 8)
  rw [lg_entry_eq]
  generalize (lg_sl ([.ref x, .int x1, .int x2, .int x3, .int x4, .int x5, .ref out]) ++ List.replicate (8 - (lg_sl ([.ref x, .int x1, .int x2, .int x3, .int x4, .int x5, .ref out])).length) Slot.unset).toArray = ls at hl ⊢
  have hl : lv_has ls 8 (List.map gq [(0, vR (some x)), (1, vI x1), (2, vI x2), (3, vI x3), (4, vI x4), (5, vI x5), (6, vR (some out))]) := hl
  have key : gGo p l e rL_feed s m ((List.map gv [vR (some x), vI x1, vI x2, vI x3, vI x4, vI x5, vR (some out)])).toArray below meth c D cy B H0 8 0 0 (gMF below (gQN D cy B H0 (some (vI (1 : Int32))) M1) B ((List.map gv [vR (some x), vI x1, vI x2, vI x3, vI x4, vI x5, vR (some out)])).toArray s 1 6) 0 [(0, vR (some x)), (1, vI x1), (2, vI x2), (3, vI x3), (4, vI x4), (5, vI x5), (6, vR (some out))] [] M := by
    have htab : c.exceptionTable.toList = [(⟨0, 16, 19, 13⟩ : ExceptionTableEntry)] := (vx_table (x := yL_feed) Bd (atoms_spec (ws := wsL_feed) Bd.pre _ List.mem_cons_self)).trans rfl
    refine g_aload X dL_feed_0 rfl ?_
    refine g_iconst (v := (0 : Int32)) X dL_feed_2 (by decide) ?_
    refine g_aload_n X dL_feed_3 rfl rfl ?_
    refine g_iload_n X dL_feed_4 rfl rfl ?_
    refine g_iload_n X dL_feed_5 rfl rfl ?_
    refine g_iload_n X dL_feed_6 rfl rfl ?_
    refine g_iload X dL_feed_7 rfl ?_
    refine g_iload X dL_feed_9 rfl ?_
    refine g_runC (x := 0) (st := [vI (0 : Int32), vR (some out)]) (mc := 1) (ms := 6) (name := "java/lang/IllegalStateException") X [] ⟨0, 16, 19, 13⟩ [] htab (fun z hz => absurd hz List.not_mem_nil) (by decide) (by decide) (by decide +kernel) (va_Nw.use rfl (gN2w X (Cond.castable "java/lang/IllegalStateException" "java/lang/IllegalStateException") (by decide +kernel))) (fun H locs ls hW hS hl => g_vxV (ci := 9) (As := [vI x1, vI x2, vI x3, vI x4, vI x5]) X (m_X11_feed l hlx hH0 hf) (cwV 5 X.2.2.1 gL_feed_X11_feed rfl rfl rfl (by decide +kernel) ⟨Nat.le_of_ble_eq_true rfl, Nat.le_of_ble_eq_true rfl⟩) rfl hTx (by decide) rfl (Nat.le_of_ble_eq_true rfl) dL_feed_11 ⟨by decide, by decide⟩ H locs ls hW hl) (fun q N hN => ?_)
    refine g_astore (lv' := [(7, vR (some q)), (0, vR (some x)), (1, vI x1), (2, vI x2), (3, vI x3), (4, vI x4), (5, vI x5), (6, vR (some out))]) X dL_feed_19 (by decide) rfl ?_
    refine g_iconst (v := (1 : Int32)) X dL_feed_21 (by decide) ?_
    exact g_vxFN hN (g_iret X hr dL_feed_22)
  exact key s.heap [] ls hW va_S.rf hl
theorem dL_fisher_0 : decode cL_fisher 0 = .ok (.aload_n 3, 1) := by decide +kernel
theorem dL_fisher_1 : decode cL_fisher 1 = .ok (.iconst 0, 1) := by decide +kernel
theorem dL_fisher_2 : decode cL_fisher 2 = .ok (.aload_n 0, 1) := by decide +kernel
theorem dL_fisher_3 : decode cL_fisher 3 = .ok (.iload_n 1, 1) := by decide +kernel
theorem dL_fisher_4 : decode cL_fisher 4 = .ok (.iload_n 2, 1) := by decide +kernel
theorem dL_fisher_5 : decode cL_fisher 5 = .ok (.invokevirtual 30, 3) := by decide +kernel
theorem dL_fisher_8 : decode cL_fisher 8 = .ok (.i2l, 1) := by decide +kernel
theorem dL_fisher_9 : decode cL_fisher 9 = .ok (.lastore, 1) := by decide +kernel
theorem dL_fisher_10 : decode cL_fisher 10 = .ok (.goto 7, 3) := by decide +kernel
theorem dL_fisher_13 : decode cL_fisher 13 = .ok (.astore 4, 2) := by decide +kernel
theorem dL_fisher_15 : decode cL_fisher 15 = .ok (.iconst 1, 1) := by decide +kernel
theorem dL_fisher_16 : decode cL_fisher 16 = .ok (.ireturn, 1) := by decide +kernel
theorem dL_fisher_17 : decode cL_fisher 17 = .ok (.iconst 0, 1) := by decide +kernel
theorem dL_fisher_18 : decode cL_fisher 18 = .ok (.ireturn, 1) := by decide +kernel
set_option maxRecDepth 20000 in
theorem ggL_fisher_X11_fisher : GoodIn wsL_fisher wsX11_fisher := goodIn_ca (goodIn_2 24 (goodIn_r _ [6, 7, 8, 9, 10, 11, 12, 13, 14, 15, 16, 17, 18, 19, 20, 21, 22, 23, 5, 24, 25, 26, 27, 28] (by decide +kernel) (by decide +kernel)) (goodIn_2 24 (goodIn_r _ [29, 30, 31, 32, 33, 34, 35, 36, 37, 38, 39, 40, 41, 42, 43, 44, 45, 46, 47, 48, 49, 50, 51, 52] (by decide +kernel) (by decide +kernel)) (goodIn_r _ [53, 54, 55, 56, 57] (by decide +kernel) (by decide +kernel)))) (goodIn_sub (fun _ h => List.mem_cons_of_mem _ (List.mem_append_right _ h)) (by decide +kernel))
set_option maxRecDepth 20000 in
theorem gL_fisher_X11_fisher : GoodIn wsL_fisher (wsV RL 30 RX11 yX11_fisher wsX11_fisher) := goodIn_app (goodIn_of _ (by decide +kernel)) ggL_fisher_X11_fisher
abbrev rL_fisher : Room := { frames := 8, cells := 2, slots := 12, locals := 126 }
set_option maxHeartbeats 4000000 in
set_option maxRecDepth 100000 in
theorem mw_fisher (l : Launch) (hlx : l.stackTraces = false) {D : va_G} {cy : Nat → ClassId} {B : Nat} {H0 : Heap} {Z : Nat → Nat} {M M1 : gMem} {x out : Nat} {x1 : Int32} {x2 : Int32} (hH0 : H0.size = B) (hTx : mT M x = 10) {v : Int32} (hf : f_X11_fisher M x x1 x2 = some (.inr v, M1)) (hTo : mT M1 out = 21) (hLo : inb (0 : Int32) (mL M1 out)) : Met l yL_fisher wsL_fisher rL_fisher (va_Pc (List.map gv [vR (some x), vI x1, vI x2, vR (some out)]) (gPre D cy B H0 (gSt3 Z B H0) M)) (gQ D cy B H0 (some (vI 0)) (wJ M1 out (0 : Int32).toNatClampNeg (Int32.toInt64 v)) ) 2 12 (gA B) := by
  refine vx_met (vx_ofWH (cc := cL_fisher) (maxL := 5) (ret := (some .int)) (hh := [(0, 10, 13, 24)]) (by decide) rfl ?_)
  intro p e s m args below meth c s₁ Bd hml hv
  obtain ⟨rfl, hW, hKK, hFs⟩ := hv
  have X3 : gX p s m _ meth c D cy B (gSt3 Z B H0) RL cL_fisher wsL_fisher 5 := ⟨Bd.exec, Bd.bytes, atoms_spec (ws := wsL_fisher) Bd.pre, findClass_of_methodNamed Bd.named, hml, hKK, by rw [hW.1]; exact hW.2.1, Bd.notSynchronized, hFs⟩
  have X := gX_w3 X3
  have hr := Bd.returns
  have hl := lv_entry ([.ref x, .int x1, .int x2, .ref out]) (n := 5) (Nat.le_of_ble_eq_true rfl)
  show W p l e rL_fisher s m _ below meth c s.heap [] 0 0 _ (entryFrame m ([.ref x, .int x1, .int x2, .ref out] : List Value).toArray 5)
  rw [lg_entry_eq]
  generalize (lg_sl ([.ref x, .int x1, .int x2, .ref out]) ++ List.replicate (5 - (lg_sl ([.ref x, .int x1, .int x2, .ref out])).length) Slot.unset).toArray = ls at hl ⊢
  have hl : lv_has ls 5 (List.map gq [(0, vR (some x)), (1, vI x1), (2, vI x2), (3, vR (some out))]) := hl
  have key : gGo p l e rL_fisher s m ((List.map gv [vR (some x), vI x1, vI x2, vR (some out)])).toArray below meth c D cy B H0 5 0 0 (gMF below (gQ D cy B H0 (some (vI 0)) (wJ M1 out (0 : Int32).toNatClampNeg (Int32.toInt64 v)) ) B ((List.map gv [vR (some x), vI x1, vI x2, vR (some out)])).toArray s 2 12) 0 [(0, vR (some x)), (1, vI x1), (2, vI x2), (3, vR (some out))] [] M := by
    refine g_aload_n X dL_fisher_0 rfl rfl ?_
    refine g_iconst (v := (0 : Int32)) X dL_fisher_1 (by decide) ?_
    refine g_aload_n X dL_fisher_2 rfl rfl ?_
    refine g_iload_n X dL_fisher_3 rfl rfl ?_
    refine g_iload_n X dL_fisher_4 rfl rfl ?_
    refine g_callXV (ci := 9) (b := x) (As := [vI x1, vI x2]) (st := [vI (0 : Int32), vR (some out)]) (v := some (vI v)) (M1 := M1) X (m_X11_fisher l hlx hH0 hf) (cwV 2 X.2.2.1 gL_fisher_X11_fisher rfl rfl rfl (by decide +kernel) ⟨Nat.le_of_ble_eq_true rfl, Nat.le_of_ble_eq_true rfl⟩) rfl rfl rfl hTx (by decide) rfl (Nat.le_of_ble_eq_true rfl) dL_fisher_5 ⟨by decide, by decide⟩ ?_
    refine g_i2l X dL_fisher_8 ?_
    refine g_last X dL_fisher_9 rfl hTo hLo ?_
    refine g_goto (tgt := 17) X dL_fisher_10 (by decide) ?_
    refine g_iconst (v := (0 : Int32)) X dL_fisher_17 (by decide) ?_
    exact g_vxF (g_iret X hr dL_fisher_18)
  exact key s.heap [] ls hW va_S.rf hl
set_option maxHeartbeats 4000000 in
set_option maxRecDepth 100000 in
theorem mw_fisher_t1 (l : Launch) (hlx : l.stackTraces = false) {D : va_G} {cy : Nat → ClassId} {B : Nat} {H0 : Heap} {Z : Nat → Nat} {M M1 : gMem} {x out : Nat} {x1 : Int32} {x2 : Int32} (hH0 : H0.size = B) (hTx : mT M x = 10) (hf : f_X11_fisher M x x1 x2 = some (.inl 2, M1)) : Met l yL_fisher wsL_fisher rL_fisher (va_Pc (List.map gv [vR (some x), vI x1, vI x2, vR (some out)]) (gPre D cy B H0 (gSt3 Z B H0) M)) (gQN D cy B H0 (some (vI (1 : Int32))) M1) 2 12 (gA B) := by
  refine vx_met (vx_ofWH (cc := cL_fisher) (maxL := 5) (ret := (some .int)) (hh := [(0, 10, 13, 24)]) (by decide) rfl ?_)
  intro p e s m args below meth c s₁ Bd hml hv
  obtain ⟨rfl, hW, hKK, hFs⟩ := hv
  have X3 : gX p s m _ meth c D cy B (gSt3 Z B H0) RL cL_fisher wsL_fisher 5 := ⟨Bd.exec, Bd.bytes, atoms_spec (ws := wsL_fisher) Bd.pre, findClass_of_methodNamed Bd.named, hml, hKK, by rw [hW.1]; exact hW.2.1, Bd.notSynchronized, hFs⟩
  have X := gX_w3 X3
  have hr := Bd.returns
  have hl := lv_entry ([.ref x, .int x1, .int x2, .ref out]) (n := 5) (Nat.le_of_ble_eq_true rfl)
  show W p l e rL_fisher s m _ below meth c s.heap [] 0 0 _ (entryFrame m ([.ref x, .int x1, .int x2, .ref out] : List Value).toArray 5)
  rw [lg_entry_eq]
  generalize (lg_sl ([.ref x, .int x1, .int x2, .ref out]) ++ List.replicate (5 - (lg_sl ([.ref x, .int x1, .int x2, .ref out])).length) Slot.unset).toArray = ls at hl ⊢
  have hl : lv_has ls 5 (List.map gq [(0, vR (some x)), (1, vI x1), (2, vI x2), (3, vR (some out))]) := hl
  have key : gGo p l e rL_fisher s m ((List.map gv [vR (some x), vI x1, vI x2, vR (some out)])).toArray below meth c D cy B H0 5 0 0 (gMF below (gQN D cy B H0 (some (vI (1 : Int32))) M1) B ((List.map gv [vR (some x), vI x1, vI x2, vR (some out)])).toArray s 2 12) 0 [(0, vR (some x)), (1, vI x1), (2, vI x2), (3, vR (some out))] [] M := by
    have htab : c.exceptionTable.toList = [(⟨0, 10, 13, 24⟩ : ExceptionTableEntry)] := (vx_table (x := yL_fisher) Bd (atoms_spec (ws := wsL_fisher) Bd.pre _ List.mem_cons_self)).trans rfl
    refine g_aload_n X dL_fisher_0 rfl rfl ?_
    refine g_iconst (v := (0 : Int32)) X dL_fisher_1 (by decide) ?_
    refine g_aload_n X dL_fisher_2 rfl rfl ?_
    refine g_iload_n X dL_fisher_3 rfl rfl ?_
    refine g_iload_n X dL_fisher_4 rfl rfl ?_
    refine g_runC (x := 2) (st := [vI (0 : Int32), vR (some out)]) (mc := 2) (ms := 12) (name := "java/lang/IndexOutOfBoundsException") X [] ⟨0, 10, 13, 24⟩ [] htab (fun z hz => absurd hz List.not_mem_nil) (by decide) (by decide) (by decide +kernel) (va_Nw.use rfl (gN2w X (Cond.castable "java/lang/IndexOutOfBoundsException" "java/lang/IndexOutOfBoundsException") (by decide +kernel))) (fun H locs ls hW hS hl => g_vxV (ci := 9) (As := [vI x1, vI x2]) X (m_X11_fisher l hlx hH0 hf) (cwV 2 X.2.2.1 gL_fisher_X11_fisher rfl rfl rfl (by decide +kernel) ⟨Nat.le_of_ble_eq_true rfl, Nat.le_of_ble_eq_true rfl⟩) rfl hTx (by decide) rfl (Nat.le_of_ble_eq_true rfl) dL_fisher_5 ⟨by decide, by decide⟩ H locs ls hW hl) (fun q N hN => ?_)
    refine g_astore (lv' := [(4, vR (some q)), (0, vR (some x)), (1, vI x1), (2, vI x2), (3, vR (some out))]) X dL_fisher_13 (by decide) rfl ?_
    refine g_iconst (v := (1 : Int32)) X dL_fisher_15 (by decide) ?_
    exact g_vxFN hN (g_iret X hr dL_fisher_16)
  exact key s.heap [] ls hW va_S.rf hl
theorem dL_foresee_0 : decode cL_foresee 0 = .ok (.aload_n 3, 1) := by decide +kernel
theorem dL_foresee_1 : decode cL_foresee 1 = .ok (.iconst 0, 1) := by decide +kernel
theorem dL_foresee_2 : decode cL_foresee 2 = .ok (.aload_n 0, 1) := by decide +kernel
theorem dL_foresee_3 : decode cL_foresee 3 = .ok (.iload_n 1, 1) := by decide +kernel
theorem dL_foresee_4 : decode cL_foresee 4 = .ok (.iload_n 2, 1) := by decide +kernel
theorem dL_foresee_5 : decode cL_foresee 5 = .ok (.invokevirtual 55, 3) := by decide +kernel
theorem dL_foresee_8 : decode cL_foresee 8 = .ok (.i2l, 1) := by decide +kernel
theorem dL_foresee_9 : decode cL_foresee 9 = .ok (.lastore, 1) := by decide +kernel
theorem dL_foresee_10 : decode cL_foresee 10 = .ok (.goto 11, 3) := by decide +kernel
theorem dL_foresee_13 : decode cL_foresee 13 = .ok (.astore 4, 2) := by decide +kernel
theorem dL_foresee_15 : decode cL_foresee 15 = .ok (.iconst 1, 1) := by decide +kernel
theorem dL_foresee_16 : decode cL_foresee 16 = .ok (.ireturn, 1) := by decide +kernel
theorem dL_foresee_17 : decode cL_foresee 17 = .ok (.astore 4, 2) := by decide +kernel
theorem dL_foresee_19 : decode cL_foresee 19 = .ok (.iconst 2, 1) := by decide +kernel
theorem dL_foresee_20 : decode cL_foresee 20 = .ok (.ireturn, 1) := by decide +kernel
theorem dL_foresee_21 : decode cL_foresee 21 = .ok (.iconst 0, 1) := by decide +kernel
theorem dL_foresee_22 : decode cL_foresee 22 = .ok (.ireturn, 1) := by decide +kernel
def wsL_foresee2 : List Cond := .codeWith yL_foresee cL_foresee 5 (some .int) [(0, 10, 13, 19), (0, 10, 17, 24)] :: (Cond.classLink RL 24 "java/lang/IndexOutOfBoundsException" :: wsL_foresee)
set_option maxRecDepth 20000 in
theorem ggL_foresee_X11_foresee_c : GoodIn wsL_foresee [.code yX11_foresee cX11_foresee 4 (some .int)] := goodIn_rr wsB_L_foresee_in _ [(1, 5)] (by decide +kernel) (by decide +kernel)
set_option maxRecDepth 20000 in
theorem ggL_foresee_X11_foresee_wsX11_foresee_r1 : GoodIn wsL_foresee wsX11_foresee_r1 := goodIn_rr wsB_L_foresee_in _ [(1, 6), (1, 7), (1, 8), (1, 9), (1, 4), (1, 10), (1, 11), (1, 12), (1, 13), (1, 14), (1, 15), (1, 16), (1, 17), (1, 18), (1, 19), (1, 20), (1, 21), (1, 22), (1, 23), (2, 0), (2, 1), (2, 2), (2, 3), (2, 4)] (by decide +kernel) (by decide +kernel)
set_option maxRecDepth 20000 in
theorem ggL_foresee_X11_foresee_wsX11_foresee_r2 : GoodIn wsL_foresee wsX11_foresee_r2 := goodIn_rr wsB_L_foresee_in _ [(2, 5), (2, 6), (2, 7), (2, 8), (2, 9), (2, 10), (2, 11), (2, 12), (2, 13), (2, 14), (2, 15), (2, 16), (2, 17), (2, 18), (2, 19), (2, 20), (2, 21), (2, 22), (2, 23), (3, 0), (3, 1), (3, 2), (3, 3), (3, 4)] (by decide +kernel) (by decide +kernel)
set_option maxRecDepth 20000 in
theorem ggL_foresee_X11_foresee_wsX11_foresee_r3 : GoodIn wsL_foresee wsX11_foresee_r3 := goodIn_rr wsB_L_foresee_in _ [(3, 5), (3, 6), (3, 7), (3, 8), (3, 9), (3, 10), (3, 11), (3, 12), (3, 13), (3, 14), (3, 15), (3, 16), (3, 17), (3, 18), (3, 19), (3, 20), (3, 21), (3, 22), (3, 23), (4, 0), (4, 1), (4, 2), (4, 3), (4, 4)] (by decide +kernel) (by decide +kernel)
set_option maxRecDepth 20000 in
theorem ggL_foresee_X11_foresee_wsX11_foresee_r4 : GoodIn wsL_foresee wsX11_foresee_r4 := goodIn_rr wsB_L_foresee_in _ [(4, 5), (4, 6), (4, 7), (4, 8), (4, 9), (4, 10), (4, 11), (4, 12), (4, 13), (4, 14), (4, 15), (4, 16), (4, 17), (4, 18), (4, 19), (4, 20), (4, 21), (4, 22), (4, 23), (5, 0), (5, 1), (5, 2), (5, 3), (5, 4)] (by decide +kernel) (by decide +kernel)
set_option maxRecDepth 20000 in
theorem ggL_foresee_X11_foresee_wsX11_foresee_r5 : GoodIn wsL_foresee wsX11_foresee_r5 := goodIn_rr wsB_L_foresee_in _ [(5, 5), (5, 6), (5, 7), (5, 8), (5, 9), (5, 10), (5, 11), (5, 12), (5, 13), (5, 14), (5, 15), (5, 16), (5, 17), (5, 18), (5, 19), (5, 20), (5, 21), (5, 22), (5, 23), (6, 0), (6, 1), (6, 2), (6, 3), (6, 4)] (by decide +kernel) (by decide +kernel)
set_option maxRecDepth 20000 in
theorem ggL_foresee_X11_foresee_wsX11_foresee_r6 : GoodIn wsL_foresee wsX11_foresee_r6 := goodIn_rr wsB_L_foresee_in _ [(6, 5), (6, 6), (6, 7), (6, 8), (6, 9), (6, 10), (6, 11), (6, 12), (6, 13), (6, 14), (6, 15), (6, 16), (6, 17), (6, 18), (6, 19), (6, 20), (6, 21), (6, 22), (6, 23), (7, 0), (7, 1), (7, 2), (7, 3), (7, 4)] (by decide +kernel) (by decide +kernel)
set_option maxRecDepth 20000 in
theorem ggL_foresee_X11_foresee_wsX11_foresee_r7 : GoodIn wsL_foresee wsX11_foresee_r7 := goodIn_rr wsB_L_foresee_in _ [(7, 5), (7, 6), (7, 7), (7, 8), (7, 9), (7, 10), (7, 11), (7, 12), (7, 13), (7, 14), (7, 15), (7, 16), (7, 17), (7, 18), (7, 19), (7, 20), (7, 21), (7, 22), (7, 23), (8, 0), (8, 1), (8, 2), (8, 3), (8, 4)] (by decide +kernel) (by decide +kernel)
set_option maxRecDepth 20000 in
theorem ggL_foresee_X11_foresee_wsX11_foresee_r8 : GoodIn wsL_foresee wsX11_foresee_r8 := goodIn_rr wsB_L_foresee_in _ [(8, 5), (8, 6), (8, 7), (8, 8), (8, 9), (8, 10), (8, 11), (8, 12), (8, 13), (8, 14), (8, 15), (8, 16), (8, 17), (8, 18), (8, 19), (8, 20), (8, 21), (8, 22), (8, 23), (9, 0), (9, 1), (9, 2), (9, 3), (9, 4)] (by decide +kernel) (by decide +kernel)
set_option maxRecDepth 20000 in
theorem ggL_foresee_X11_foresee_wsX11_foresee_r9 : GoodIn wsL_foresee wsX11_foresee_r9 := goodIn_rr wsB_L_foresee_in _ [(9, 5), (9, 6), (9, 7), (9, 8), (9, 9), (9, 10), (9, 11), (9, 12), (9, 13), (9, 14), (9, 15), (9, 16), (9, 17), (9, 18), (9, 19), (9, 20), (9, 21), (9, 22), (9, 23), (10, 0), (10, 1), (10, 2), (10, 3), (10, 4)] (by decide +kernel) (by decide +kernel)
set_option maxRecDepth 20000 in
theorem ggL_foresee_X11_foresee_wsX11_foresee_r10 : GoodIn wsL_foresee wsX11_foresee_r10 := goodIn_rr wsB_L_foresee_in _ [(10, 5), (10, 6), (10, 7), (10, 8), (10, 9), (10, 10), (10, 11), (10, 12), (10, 13), (10, 14), (10, 15)] (by decide +kernel) (by decide +kernel)
set_option maxRecDepth 20000 in
theorem ggL_foresee_X11_foresee_wsX110 : GoodIn wsL_foresee wsX110 := goodIn_rr wsB_L_foresee_in _ [(11, 0), (11, 1), (11, 2), (11, 3)] (by decide +kernel) (by decide +kernel)
set_option maxRecDepth 20000 in
theorem ggL_foresee_X11_foresee_wsX70 : GoodIn wsL_foresee wsX70 := goodIn_rr wsB_L_foresee_in _ [(12, 0), (12, 1), (12, 2), (12, 3), (12, 4), (12, 5), (12, 6), (12, 7), (12, 8), (12, 9), (12, 10), (12, 11), (12, 12), (12, 13), (12, 14), (12, 15), (12, 16)] (by decide +kernel) (by decide +kernel)
set_option maxRecDepth 20000 in
theorem ggL_foresee_X11_foresee_wsX30 : GoodIn wsL_foresee wsX30 := goodIn_rr wsB_L_foresee_in _ [(13, 0), (13, 1), (13, 2), (13, 3)] (by decide +kernel) (by decide +kernel)
set_option maxRecDepth 20000 in
theorem ggL_foresee_X11_foresee_wsX10 : GoodIn wsL_foresee wsX10 := goodIn_rr wsB_L_foresee_in _ [(14, 0), (14, 1), (14, 2), (14, 3), (14, 4), (14, 5), (14, 6), (14, 7), (14, 8), (14, 9), (14, 10)] (by decide +kernel) (by decide +kernel)
set_option maxRecDepth 20000 in
theorem ggL_foresee_X11_foresee_wsX20 : GoodIn wsL_foresee wsX20 := goodIn_rr wsB_L_foresee_in _ [(15, 0), (15, 1), (15, 2), (15, 3)] (by decide +kernel) (by decide +kernel)
set_option maxRecDepth 20000 in
theorem ggL_foresee_X11_foresee_wsX50 : GoodIn wsL_foresee wsX50 := goodIn_rr wsB_L_foresee_in _ [(16, 0), (16, 1), (16, 2), (16, 3), (16, 4), (16, 5), (16, 6), (16, 7)] (by decide +kernel) (by decide +kernel)
set_option maxRecDepth 20000 in
theorem ggL_foresee_X11_foresee_wsX90 : GoodIn wsL_foresee wsX90 := goodIn_rr wsB_L_foresee_in _ [(17, 0), (17, 1), (17, 2), (17, 3)] (by decide +kernel) (by decide +kernel)
set_option maxRecDepth 20000 in
theorem ggL_foresee_X11_foresee : GoodIn wsL_foresee wsX11_foresee := goodIn_ca (goodIn_ca (goodIn_c1 ggL_foresee_X11_foresee_c (goodIn_app (goodIn_app (goodIn_app (goodIn_app (goodIn_app (goodIn_app (goodIn_app (goodIn_app ggL_foresee_X11_foresee_wsX11_foresee_r1 (goodIn_app ggL_foresee_X11_foresee_wsX11_foresee_r2 (goodIn_app ggL_foresee_X11_foresee_wsX11_foresee_r3 (goodIn_app ggL_foresee_X11_foresee_wsX11_foresee_r4 (goodIn_app ggL_foresee_X11_foresee_wsX11_foresee_r5 (goodIn_app ggL_foresee_X11_foresee_wsX11_foresee_r6 (goodIn_app ggL_foresee_X11_foresee_wsX11_foresee_r7 (goodIn_app ggL_foresee_X11_foresee_wsX11_foresee_r8 (goodIn_app ggL_foresee_X11_foresee_wsX11_foresee_r9 ggL_foresee_X11_foresee_wsX11_foresee_r10))))))))) ggL_foresee_X11_foresee_wsX110) ggL_foresee_X11_foresee_wsX70) ggL_foresee_X11_foresee_wsX30) ggL_foresee_X11_foresee_wsX10) ggL_foresee_X11_foresee_wsX20) ggL_foresee_X11_foresee_wsX50) ggL_foresee_X11_foresee_wsX90)) (goodIn_sub (fun _ h => List.mem_cons_of_mem _ (List.mem_append_left _ (List.mem_append_right _ h))) (by decide +kernel))) (goodIn_sub (fun _ h => List.mem_cons_of_mem _ (List.mem_append_right _ h)) (by decide +kernel))
set_option maxRecDepth 20000 in
theorem gL_foresee_X11_foresee : GoodIn wsL_foresee (wsV RL 55 RX11 yX11_foresee wsX11_foresee) := goodIn_app (goodIn_rr wsB_L_foresee_in _ [(1, 1), (1, 2), (1, 3), (1, 4)] (by decide +kernel) (by decide +kernel)) ggL_foresee_X11_foresee
theorem gL_foresee_X11_foresee2 : GoodIn wsL_foresee2 (wsV RL 55 RX11 yX11_foresee wsX11_foresee) := goodIn_mono (fun _ h => List.mem_cons_of_mem _ (List.mem_cons_of_mem _ (h))) gL_foresee_X11_foresee
abbrev rL_foresee : Room := { frames := 8, cells := 2, slots := 12, locals := 164 }
set_option maxHeartbeats 4000000 in
set_option maxRecDepth 100000 in
theorem mw_foresee (l : Launch) (hlx : l.stackTraces = false) {D : va_G} {cy : Nat → ClassId} {B : Nat} {H0 : Heap} {Z : Nat → Nat} {M M1 : gMem} {x out : Nat} {x1 : Int32} {x2 : Int32} (hH0 : H0.size = B) (hTx : mT M x = 10) {v : Int32} (hf : f_X11_foresee Z M x x1 x2 = some (.inr v, M1)) (hTo : mT M1 out = 21) (hLo : inb (0 : Int32) (mL M1 out)) : Met l yL_foresee wsL_foresee2 rL_foresee (va_Pc (List.map gv [vR (some x), vI x1, vI x2, vR (some out)]) (gPre D cy B H0 (gSt3 Z B H0) M)) (gQ D cy B H0 (some (vI 0)) (wJ M1 out (0 : Int32).toNatClampNeg (Int32.toInt64 v)) ) 2 12 (gA B) := by
  refine vx_met (vx_ofWH (cc := cL_foresee) (maxL := 5) (ret := (some .int)) (hh := [(0, 10, 13, 19), (0, 10, 17, 24)]) (by decide) rfl ?_)
  intro p e s m args below meth c s₁ Bd hml hv
  obtain ⟨rfl, hW, hKK, hFs⟩ := hv
  have X3 : gX p s m _ meth c D cy B (gSt3 Z B H0) RL cL_foresee wsL_foresee2 5 := ⟨Bd.exec, Bd.bytes, atoms_spec (ws := wsL_foresee2) Bd.pre, findClass_of_methodNamed Bd.named, hml, hKK, by rw [hW.1]; exact hW.2.1, Bd.notSynchronized, hFs⟩
  have X := gX_w3 X3
  have hr := Bd.returns
  have hl := lv_entry ([.ref x, .int x1, .int x2, .ref out]) (n := 5) (Nat.le_of_ble_eq_true rfl)
  show W p l e rL_foresee s m _ below meth c s.heap [] 0 0 _ (entryFrame m ([.ref x, .int x1, .int x2, .ref out] : List Value).toArray 5)
  rw [lg_entry_eq]
  generalize (lg_sl ([.ref x, .int x1, .int x2, .ref out]) ++ List.replicate (5 - (lg_sl ([.ref x, .int x1, .int x2, .ref out])).length) Slot.unset).toArray = ls at hl ⊢
  have hl : lv_has ls 5 (List.map gq [(0, vR (some x)), (1, vI x1), (2, vI x2), (3, vR (some out))]) := hl
  have key : gGo p l e rL_foresee s m ((List.map gv [vR (some x), vI x1, vI x2, vR (some out)])).toArray below meth c D cy B H0 5 0 0 (gMF below (gQ D cy B H0 (some (vI 0)) (wJ M1 out (0 : Int32).toNatClampNeg (Int32.toInt64 v)) ) B ((List.map gv [vR (some x), vI x1, vI x2, vR (some out)])).toArray s 2 12) 0 [(0, vR (some x)), (1, vI x1), (2, vI x2), (3, vR (some out))] [] M := by
    refine g_aload_n X dL_foresee_0 rfl rfl ?_
    refine g_iconst (v := (0 : Int32)) X dL_foresee_1 (by decide) ?_
    refine g_aload_n X dL_foresee_2 rfl rfl ?_
    refine g_iload_n X dL_foresee_3 rfl rfl ?_
    refine g_iload_n X dL_foresee_4 rfl rfl ?_
    refine g_callXV (ci := 9) (b := x) (As := [vI x1, vI x2]) (st := [vI (0 : Int32), vR (some out)]) (v := some (vI v)) (M1 := M1) X (m_X11_foresee l hlx hH0 hf) (cwV 2 X.2.2.1 gL_foresee_X11_foresee2 rfl rfl rfl (by decide +kernel) ⟨Nat.le_of_ble_eq_true rfl, Nat.le_of_ble_eq_true rfl⟩) rfl rfl rfl hTx (by decide) rfl (Nat.le_of_ble_eq_true rfl) dL_foresee_5 ⟨by decide, by decide⟩ ?_
    refine g_i2l X dL_foresee_8 ?_
    refine g_last X dL_foresee_9 rfl hTo hLo ?_
    refine g_goto (tgt := 21) X dL_foresee_10 (by decide) ?_
    refine g_iconst (v := (0 : Int32)) X dL_foresee_21 (by decide) ?_
    exact g_vxF (g_iret X hr dL_foresee_22)
  exact key s.heap [] ls hW va_S.rf hl
set_option maxHeartbeats 4000000 in
set_option maxRecDepth 100000 in
theorem mw_foresee_t1 (l : Launch) (hlx : l.stackTraces = false) {D : va_G} {cy : Nat → ClassId} {B : Nat} {H0 : Heap} {Z : Nat → Nat} {M M1 : gMem} {x out : Nat} {x1 : Int32} {x2 : Int32} (hH0 : H0.size = B) (hTx : mT M x = 10) (hf : f_X11_foresee Z M x x1 x2 = some (.inl 1, M1)) : Met l yL_foresee wsL_foresee2 rL_foresee (va_Pc (List.map gv [vR (some x), vI x1, vI x2, vR (some out)]) (gPre D cy B H0 (gSt3 Z B H0) M)) (gQN D cy B H0 (some (vI (1 : Int32))) M1) 2 12 (gA B) := by
  refine vx_met (vx_ofWH (cc := cL_foresee) (maxL := 5) (ret := (some .int)) (hh := [(0, 10, 13, 19), (0, 10, 17, 24)]) (by decide) rfl ?_)
  intro p e s m args below meth c s₁ Bd hml hv
  obtain ⟨rfl, hW, hKK, hFs⟩ := hv
  have X3 : gX p s m _ meth c D cy B (gSt3 Z B H0) RL cL_foresee wsL_foresee2 5 := ⟨Bd.exec, Bd.bytes, atoms_spec (ws := wsL_foresee2) Bd.pre, findClass_of_methodNamed Bd.named, hml, hKK, by rw [hW.1]; exact hW.2.1, Bd.notSynchronized, hFs⟩
  have X := gX_w3 X3
  have hr := Bd.returns
  have hl := lv_entry ([.ref x, .int x1, .int x2, .ref out]) (n := 5) (Nat.le_of_ble_eq_true rfl)
  show W p l e rL_foresee s m _ below meth c s.heap [] 0 0 _ (entryFrame m ([.ref x, .int x1, .int x2, .ref out] : List Value).toArray 5)
  rw [lg_entry_eq]
  generalize (lg_sl ([.ref x, .int x1, .int x2, .ref out]) ++ List.replicate (5 - (lg_sl ([.ref x, .int x1, .int x2, .ref out])).length) Slot.unset).toArray = ls at hl ⊢
  have hl : lv_has ls 5 (List.map gq [(0, vR (some x)), (1, vI x1), (2, vI x2), (3, vR (some out))]) := hl
  have key : gGo p l e rL_foresee s m ((List.map gv [vR (some x), vI x1, vI x2, vR (some out)])).toArray below meth c D cy B H0 5 0 0 (gMF below (gQN D cy B H0 (some (vI (1 : Int32))) M1) B ((List.map gv [vR (some x), vI x1, vI x2, vR (some out)])).toArray s 2 12) 0 [(0, vR (some x)), (1, vI x1), (2, vI x2), (3, vR (some out))] [] M := by
    have htab : c.exceptionTable.toList = [(⟨0, 10, 13, 19⟩ : ExceptionTableEntry), (⟨0, 10, 17, 24⟩ : ExceptionTableEntry)] := (vx_table (x := yL_foresee) Bd (atoms_spec (ws := wsL_foresee2) Bd.pre _ List.mem_cons_self)).trans rfl
    refine g_aload_n X dL_foresee_0 rfl rfl ?_
    refine g_iconst (v := (0 : Int32)) X dL_foresee_1 (by decide) ?_
    refine g_aload_n X dL_foresee_2 rfl rfl ?_
    refine g_iload_n X dL_foresee_3 rfl rfl ?_
    refine g_iload_n X dL_foresee_4 rfl rfl ?_
    refine g_runC (x := 1) (st := [vI (0 : Int32), vR (some out)]) (mc := 2) (ms := 12) (name := "java/lang/IllegalArgumentException") X [] ⟨0, 10, 13, 19⟩ [(⟨0, 10, 17, 24⟩ : ExceptionTableEntry)] htab (fun z hz => absurd hz List.not_mem_nil) (by decide) (by decide) (by decide +kernel) (va_Nw.use rfl (gN2w X (Cond.castable "java/lang/IllegalArgumentException" "java/lang/IllegalArgumentException") (by decide +kernel))) (fun H locs ls hW hS hl => g_vxV (ci := 9) (As := [vI x1, vI x2]) X (m_X11_foresee l hlx hH0 hf) (cwV 2 X.2.2.1 gL_foresee_X11_foresee2 rfl rfl rfl (by decide +kernel) ⟨Nat.le_of_ble_eq_true rfl, Nat.le_of_ble_eq_true rfl⟩) rfl hTx (by decide) rfl (Nat.le_of_ble_eq_true rfl) dL_foresee_5 ⟨by decide, by decide⟩ H locs ls hW hl) (fun q N hN => ?_)
    refine g_astore (lv' := [(4, vR (some q)), (0, vR (some x)), (1, vI x1), (2, vI x2), (3, vR (some out))]) X dL_foresee_13 (by decide) rfl ?_
    refine g_iconst (v := (1 : Int32)) X dL_foresee_15 (by decide) ?_
    exact g_vxFN hN (g_iret X hr dL_foresee_16)
  exact key s.heap [] ls hW va_S.rf hl
set_option maxHeartbeats 4000000 in
set_option maxRecDepth 100000 in
theorem mw_foresee_t2 (l : Launch) (hlx : l.stackTraces = false) {D : va_G} {cy : Nat → ClassId} {B : Nat} {H0 : Heap} {Z : Nat → Nat} {M M1 : gMem} {x out : Nat} {x1 : Int32} {x2 : Int32} (hH0 : H0.size = B) (hTx : mT M x = 10) (hf : f_X11_foresee Z M x x1 x2 = some (.inl 2, M1)) : Met l yL_foresee wsL_foresee2 rL_foresee (va_Pc (List.map gv [vR (some x), vI x1, vI x2, vR (some out)]) (gPre D cy B H0 (gSt3 Z B H0) M)) (gQN D cy B H0 (some (vI (2 : Int32))) M1) 2 12 (gA B) := by
  refine vx_met (vx_ofWH (cc := cL_foresee) (maxL := 5) (ret := (some .int)) (hh := [(0, 10, 13, 19), (0, 10, 17, 24)]) (by decide) rfl ?_)
  intro p e s m args below meth c s₁ Bd hml hv
  obtain ⟨rfl, hW, hKK, hFs⟩ := hv
  have X3 : gX p s m _ meth c D cy B (gSt3 Z B H0) RL cL_foresee wsL_foresee2 5 := ⟨Bd.exec, Bd.bytes, atoms_spec (ws := wsL_foresee2) Bd.pre, findClass_of_methodNamed Bd.named, hml, hKK, by rw [hW.1]; exact hW.2.1, Bd.notSynchronized, hFs⟩
  have X := gX_w3 X3
  have hr := Bd.returns
  have hl := lv_entry ([.ref x, .int x1, .int x2, .ref out]) (n := 5) (Nat.le_of_ble_eq_true rfl)
  show W p l e rL_foresee s m _ below meth c s.heap [] 0 0 _ (entryFrame m ([.ref x, .int x1, .int x2, .ref out] : List Value).toArray 5)
  rw [lg_entry_eq]
  generalize (lg_sl ([.ref x, .int x1, .int x2, .ref out]) ++ List.replicate (5 - (lg_sl ([.ref x, .int x1, .int x2, .ref out])).length) Slot.unset).toArray = ls at hl ⊢
  have hl : lv_has ls 5 (List.map gq [(0, vR (some x)), (1, vI x1), (2, vI x2), (3, vR (some out))]) := hl
  have key : gGo p l e rL_foresee s m ((List.map gv [vR (some x), vI x1, vI x2, vR (some out)])).toArray below meth c D cy B H0 5 0 0 (gMF below (gQN D cy B H0 (some (vI (2 : Int32))) M1) B ((List.map gv [vR (some x), vI x1, vI x2, vR (some out)])).toArray s 2 12) 0 [(0, vR (some x)), (1, vI x1), (2, vI x2), (3, vR (some out))] [] M := by
    have htab : c.exceptionTable.toList = [(⟨0, 10, 13, 19⟩ : ExceptionTableEntry), (⟨0, 10, 17, 24⟩ : ExceptionTableEntry)] := (vx_table (x := yL_foresee) Bd (atoms_spec (ws := wsL_foresee2) Bd.pre _ List.mem_cons_self)).trans rfl
    refine g_aload_n X dL_foresee_0 rfl rfl ?_
    refine g_iconst (v := (0 : Int32)) X dL_foresee_1 (by decide) ?_
    refine g_aload_n X dL_foresee_2 rfl rfl ?_
    refine g_iload_n X dL_foresee_3 rfl rfl ?_
    refine g_iload_n X dL_foresee_4 rfl rfl ?_
    refine g_runC (x := 2) (st := [vI (0 : Int32), vR (some out)]) (mc := 2) (ms := 12) (name := "java/lang/IndexOutOfBoundsException") X [(⟨0, 10, 13, 19⟩ : ExceptionTableEntry)] ⟨0, 10, 17, 24⟩ [] htab (fun z hz => by rw [List.mem_singleton.mp hz]; exact Or.inr ⟨by decide, "java/lang/IllegalArgumentException", X.2.2.1 _ (by decide +kernel), (gX_st X3).2 ("java/lang/IndexOutOfBoundsException", "java/lang/IllegalArgumentException") (by decide)⟩) (by decide) (by decide) (by decide +kernel) (va_Nw.use rfl (gN2w X (Cond.castable "java/lang/IndexOutOfBoundsException" "java/lang/IndexOutOfBoundsException") (by decide +kernel))) (fun H locs ls hW hS hl => g_vxV (ci := 9) (As := [vI x1, vI x2]) X (m_X11_foresee l hlx hH0 hf) (cwV 2 X.2.2.1 gL_foresee_X11_foresee2 rfl rfl rfl (by decide +kernel) ⟨Nat.le_of_ble_eq_true rfl, Nat.le_of_ble_eq_true rfl⟩) rfl hTx (by decide) rfl (Nat.le_of_ble_eq_true rfl) dL_foresee_5 ⟨by decide, by decide⟩ H locs ls hW hl) (fun q N hN => ?_)
    refine g_astore (lv' := [(4, vR (some q)), (0, vR (some x)), (1, vI x1), (2, vI x2), (3, vR (some out))]) X dL_foresee_17 (by decide) rfl ?_
    refine g_iconst (v := (2 : Int32)) X dL_foresee_19 (by decide) ?_
    exact g_vxFN hN (g_iret X hr dL_foresee_20)
  exact key s.heap [] ls hW va_S.rf hl
