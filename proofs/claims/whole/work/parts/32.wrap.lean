theorem goodIn_mono {big big2 ws : List Cond} (h : ∀ w, w ∈ big → w ∈ big2) (g : GoodIn big ws) : GoodIn big2 ws := fun w hw => ⟨h w (g w hw).1, (g w hw).2⟩
theorem dL_advise_0 : decode cL_advise 0 = .ok (.aload_n 3, 1) := by decide +kernel
theorem dL_advise_1 : decode cL_advise 1 = .ok (.iconst 0, 1) := by decide +kernel
theorem dL_advise_2 : decode cL_advise 2 = .ok (.aload_n 0, 1) := by decide +kernel
theorem dL_advise_3 : decode cL_advise 3 = .ok (.iload_n 1, 1) := by decide +kernel
theorem dL_advise_4 : decode cL_advise 4 = .ok (.iload_n 2, 1) := by decide +kernel
theorem dL_advise_5 : decode cL_advise 5 = .ok (.invokevirtual 64, 3) := by decide +kernel
theorem dL_advise_8 : decode cL_advise 8 = .ok (.i2l, 1) := by decide +kernel
theorem dL_advise_9 : decode cL_advise 9 = .ok (.lastore, 1) := by decide +kernel
theorem dL_advise_10 : decode cL_advise 10 = .ok (.goto 11, 3) := by decide +kernel
theorem dL_advise_13 : decode cL_advise 13 = .ok (.astore 4, 2) := by decide +kernel
theorem dL_advise_15 : decode cL_advise 15 = .ok (.iconst 1, 1) := by decide +kernel
theorem dL_advise_16 : decode cL_advise 16 = .ok (.ireturn, 1) := by decide +kernel
theorem dL_advise_17 : decode cL_advise 17 = .ok (.astore 4, 2) := by decide +kernel
theorem dL_advise_19 : decode cL_advise 19 = .ok (.iconst 2, 1) := by decide +kernel
theorem dL_advise_20 : decode cL_advise 20 = .ok (.ireturn, 1) := by decide +kernel
theorem dL_advise_21 : decode cL_advise 21 = .ok (.iconst 0, 1) := by decide +kernel
theorem dL_advise_22 : decode cL_advise 22 = .ok (.ireturn, 1) := by decide +kernel
def wsL_advise2 : List Cond := .codeWith yL_advise cL_advise 5 (some .int) [(0, 10, 13, 24), (0, 10, 17, 19)] :: (Cond.classLink RL 19 "java/lang/IllegalArgumentException" :: wsL_advise)
set_option maxRecDepth 20000 in
theorem ggL_advise_X11_advise_c : GoodIn wsL_advise [.code yX11_advise cX11_advise 7 (some .int)] := goodIn_rr wsB_L_advise_in _ [(1, 5)] (by decide +kernel) (by decide +kernel)
set_option maxRecDepth 20000 in
theorem ggL_advise_X11_advise_wsX11_advise_r1 : GoodIn wsL_advise wsX11_advise_r1 := goodIn_rr wsB_L_advise_in _ [(1, 6), (1, 7), (1, 8), (1, 9), (1, 10), (1, 11), (1, 4), (1, 12), (1, 13), (1, 14), (1, 15), (1, 16), (1, 17), (1, 18), (1, 19), (1, 20), (1, 21), (1, 22), (1, 23), (2, 0), (2, 1), (2, 2), (2, 3), (2, 4)] (by decide +kernel) (by decide +kernel)
set_option maxRecDepth 20000 in
theorem ggL_advise_X11_advise_wsX11_advise_r2 : GoodIn wsL_advise wsX11_advise_r2 := goodIn_rr wsB_L_advise_in _ [(2, 5), (2, 6), (2, 7), (2, 8), (2, 9), (2, 10), (2, 11), (2, 12), (2, 13), (2, 14), (2, 15), (2, 16), (2, 17), (2, 18), (2, 19), (2, 20), (2, 21), (2, 22), (2, 23), (3, 0), (3, 1), (3, 2), (3, 3), (3, 4)] (by decide +kernel) (by decide +kernel)
set_option maxRecDepth 20000 in
theorem ggL_advise_X11_advise_wsX11_advise_r3 : GoodIn wsL_advise wsX11_advise_r3 := goodIn_rr wsB_L_advise_in _ [(3, 5), (3, 6), (3, 7), (3, 8), (3, 9), (3, 10), (3, 11), (3, 12), (3, 13), (3, 14), (3, 15), (3, 16), (3, 17), (3, 18), (3, 19), (3, 20), (3, 21), (3, 22), (3, 23), (4, 0), (4, 1), (4, 2), (4, 3), (4, 4)] (by decide +kernel) (by decide +kernel)
set_option maxRecDepth 20000 in
theorem ggL_advise_X11_advise_wsX11_advise_r4 : GoodIn wsL_advise wsX11_advise_r4 := goodIn_rr wsB_L_advise_in _ [(4, 5), (4, 6), (4, 7), (4, 8), (4, 9), (4, 10), (4, 11), (4, 12), (4, 13), (4, 14), (4, 15), (4, 16), (4, 17), (4, 18), (4, 19), (4, 20), (4, 21), (4, 22), (4, 23), (5, 0), (5, 1), (5, 2), (5, 3), (5, 4)] (by decide +kernel) (by decide +kernel)
set_option maxRecDepth 20000 in
theorem ggL_advise_X11_advise_wsX11_advise_r5 : GoodIn wsL_advise wsX11_advise_r5 := goodIn_rr wsB_L_advise_in _ [(5, 5), (5, 6), (5, 7), (5, 8), (5, 9), (5, 10), (5, 11), (5, 12), (5, 13), (5, 14), (5, 15), (5, 16), (5, 17), (5, 18), (5, 19), (5, 20), (5, 21), (5, 22), (5, 23), (6, 0), (6, 1), (6, 2), (6, 3), (6, 4)] (by decide +kernel) (by decide +kernel)
set_option maxRecDepth 20000 in
theorem ggL_advise_X11_advise_wsX11_advise_r6 : GoodIn wsL_advise wsX11_advise_r6 := goodIn_rr wsB_L_advise_in _ [(6, 5), (6, 6), (6, 7), (6, 8), (6, 9), (6, 10), (6, 11), (6, 12), (6, 13), (6, 14), (6, 15), (6, 16), (6, 17), (6, 18), (6, 19), (6, 20), (6, 21), (6, 22), (6, 23), (7, 0), (7, 1), (7, 2), (7, 3), (7, 4)] (by decide +kernel) (by decide +kernel)
set_option maxRecDepth 20000 in
theorem ggL_advise_X11_advise_wsX11_advise_r7 : GoodIn wsL_advise wsX11_advise_r7 := goodIn_rr wsB_L_advise_in _ [(7, 5), (7, 6), (7, 7), (7, 8), (7, 9), (7, 10), (7, 11), (7, 12), (7, 13), (7, 14), (7, 15), (7, 16), (7, 17), (7, 18), (7, 19), (7, 20), (7, 21), (7, 22), (7, 23), (8, 0), (8, 1), (8, 2), (8, 3), (8, 4)] (by decide +kernel) (by decide +kernel)
set_option maxRecDepth 20000 in
theorem ggL_advise_X11_advise_wsX11_advise_r8 : GoodIn wsL_advise wsX11_advise_r8 := goodIn_rr wsB_L_advise_in _ [(8, 5), (8, 6), (8, 7), (8, 8), (8, 9), (8, 10), (8, 11), (8, 12), (8, 13), (8, 14), (8, 15), (8, 16), (8, 17), (8, 18), (8, 19), (8, 20), (8, 21), (8, 22), (8, 23), (9, 0), (9, 1), (9, 2), (9, 3), (9, 4)] (by decide +kernel) (by decide +kernel)
set_option maxRecDepth 20000 in
theorem ggL_advise_X11_advise_wsX11_advise_r9 : GoodIn wsL_advise wsX11_advise_r9 := goodIn_rr wsB_L_advise_in _ [(9, 5), (9, 6), (9, 7), (9, 8), (9, 9), (9, 10), (9, 11), (9, 12), (9, 13), (9, 14), (9, 15), (9, 16), (9, 17), (9, 18), (9, 19), (9, 20), (9, 21), (9, 22), (9, 23), (10, 0), (10, 1), (10, 2), (10, 3), (10, 4)] (by decide +kernel) (by decide +kernel)
set_option maxRecDepth 20000 in
theorem ggL_advise_X11_advise_wsX11_advise_r10 : GoodIn wsL_advise wsX11_advise_r10 := goodIn_rr wsB_L_advise_in _ [(10, 5), (10, 6), (10, 7), (10, 8), (10, 9), (10, 10)] (by decide +kernel) (by decide +kernel)
set_option maxRecDepth 20000 in
theorem ggL_advise_X11_advise_wsX70 : GoodIn wsL_advise wsX70 := goodIn_rr wsB_L_advise_in _ [(11, 0), (11, 1), (11, 2), (11, 3), (11, 4), (11, 5), (11, 6), (11, 7), (11, 8), (11, 9), (11, 10), (11, 11), (11, 12), (11, 13), (11, 14), (11, 15), (11, 16)] (by decide +kernel) (by decide +kernel)
set_option maxRecDepth 20000 in
theorem ggL_advise_X11_advise_wsX10 : GoodIn wsL_advise wsX10 := goodIn_rr wsB_L_advise_in _ [(12, 0), (12, 1), (12, 2), (12, 3), (12, 4), (12, 5), (12, 6), (12, 7), (12, 8), (12, 9), (12, 10)] (by decide +kernel) (by decide +kernel)
set_option maxRecDepth 20000 in
theorem ggL_advise_X11_advise_wsX110 : GoodIn wsL_advise wsX110 := goodIn_rr wsB_L_advise_in _ [(13, 0), (13, 1), (13, 2), (13, 3)] (by decide +kernel) (by decide +kernel)
set_option maxRecDepth 20000 in
theorem ggL_advise_X11_advise_wsX30 : GoodIn wsL_advise wsX30 := goodIn_rr wsB_L_advise_in _ [(14, 0), (14, 1), (14, 2), (14, 3)] (by decide +kernel) (by decide +kernel)
set_option maxRecDepth 20000 in
theorem ggL_advise_X11_advise_wsX20 : GoodIn wsL_advise wsX20 := goodIn_rr wsB_L_advise_in _ [(15, 0), (15, 1), (15, 2), (15, 3)] (by decide +kernel) (by decide +kernel)
set_option maxRecDepth 20000 in
theorem ggL_advise_X11_advise_wsX50 : GoodIn wsL_advise wsX50 := goodIn_rr wsB_L_advise_in _ [(16, 0), (16, 1), (16, 2), (16, 3), (16, 4), (16, 5), (16, 6), (16, 7)] (by decide +kernel) (by decide +kernel)
set_option maxRecDepth 20000 in
theorem ggL_advise_X11_advise_wsX90 : GoodIn wsL_advise wsX90 := goodIn_rr wsB_L_advise_in _ [(17, 0), (17, 1), (17, 2), (17, 3)] (by decide +kernel) (by decide +kernel)
set_option maxRecDepth 20000 in
theorem ggL_advise_X11_advise : GoodIn wsL_advise wsX11_advise := goodIn_ca (goodIn_ca (goodIn_c1 ggL_advise_X11_advise_c (goodIn_app (goodIn_app (goodIn_app (goodIn_app (goodIn_app (goodIn_app (goodIn_app (goodIn_app ggL_advise_X11_advise_wsX11_advise_r1 (goodIn_app ggL_advise_X11_advise_wsX11_advise_r2 (goodIn_app ggL_advise_X11_advise_wsX11_advise_r3 (goodIn_app ggL_advise_X11_advise_wsX11_advise_r4 (goodIn_app ggL_advise_X11_advise_wsX11_advise_r5 (goodIn_app ggL_advise_X11_advise_wsX11_advise_r6 (goodIn_app ggL_advise_X11_advise_wsX11_advise_r7 (goodIn_app ggL_advise_X11_advise_wsX11_advise_r8 (goodIn_app ggL_advise_X11_advise_wsX11_advise_r9 ggL_advise_X11_advise_wsX11_advise_r10))))))))) ggL_advise_X11_advise_wsX70) ggL_advise_X11_advise_wsX10) ggL_advise_X11_advise_wsX110) ggL_advise_X11_advise_wsX30) ggL_advise_X11_advise_wsX20) ggL_advise_X11_advise_wsX50) ggL_advise_X11_advise_wsX90)) (goodIn_sub (fun _ h => List.mem_cons_of_mem _ (List.mem_append_left _ (List.mem_append_right _ h))) (by decide +kernel))) (goodIn_sub (fun _ h => List.mem_cons_of_mem _ (List.mem_append_right _ h)) (by decide +kernel))
set_option maxRecDepth 20000 in
theorem gL_advise_X11_advise : GoodIn wsL_advise (wsV RL 64 RX11 yX11_advise wsX11_advise) := goodIn_app (goodIn_rr wsB_L_advise_in _ [(1, 1), (1, 2), (1, 3), (1, 4)] (by decide +kernel) (by decide +kernel)) ggL_advise_X11_advise
theorem gL_advise_X11_advise2 : GoodIn wsL_advise2 (wsV RL 64 RX11 yX11_advise wsX11_advise) := goodIn_mono (fun _ h => List.mem_cons_of_mem _ (List.mem_cons_of_mem _ (h))) gL_advise_X11_advise
abbrev rL_advise : Room := { frames := 8, cells := 2, slots := 12, locals := 167 }
set_option maxHeartbeats 4000000 in
set_option maxRecDepth 100000 in
theorem mw_advise (l : Launch) (hlx : l.stackTraces = false) {D : va_G} {cy : Nat → ClassId} {B : Nat} {H0 : Heap} {Z : Nat → Nat} {M M1 : gMem} {x out : Nat} {x1 : Int32} {x2 : Int32} (hH0 : H0.size = B) (hTx : mT M x = 10) {v : Int32} (hf : f_X11_advise Z M x x1 x2 = some (.inr v, M1)) (hTo : mT M1 out = 21) (hLo : inb (0 : Int32) (mL M1 out)) : Met l yL_advise wsL_advise2 rL_advise (va_Pc (List.map gv [vR (some x), vI x1, vI x2, vR (some out)]) (gPre D cy B H0 (gSt3 Z B H0) M)) (gQ D cy B H0 (some (vI 0)) (wJ M1 out (0 : Int32).toNatClampNeg (Int32.toInt64 v)) ) 2 12 (gA B) := by
  refine vx_met (vx_ofWH (cc := cL_advise) (maxL := 5) (ret := (some .int)) (hh := [(0, 10, 13, 24), (0, 10, 17, 19)]) (by decide) rfl ?_)
  intro p e s m args below meth c s₁ Bd hml hv
  obtain ⟨rfl, hW, hKK, hFs⟩ := hv
  have X3 : gX p s m _ meth c D cy B (gSt3 Z B H0) RL cL_advise wsL_advise2 5 := ⟨Bd.exec, Bd.bytes, atoms_spec (ws := wsL_advise2) Bd.pre, findClass_of_methodNamed Bd.named, hml, hKK, by rw [hW.1]; exact hW.2.1, Bd.notSynchronized, hFs⟩
  have X := gX_w3 X3
  have hr := Bd.returns
  have hl := lv_entry ([.ref x, .int x1, .int x2, .ref out]) (n := 5) (Nat.le_of_ble_eq_true rfl)
  show W p l e rL_advise s m _ below meth c s.heap [] 0 0 _ (entryFrame m ([.ref x, .int x1, .int x2, .ref out] : List Value).toArray 5)
  rw [lg_entry_eq]
  generalize (lg_sl ([.ref x, .int x1, .int x2, .ref out]) ++ List.replicate (5 - (lg_sl ([.ref x, .int x1, .int x2, .ref out])).length) Slot.unset).toArray = ls at hl ⊢
  have hl : lv_has ls 5 (List.map gq [(0, vR (some x)), (1, vI x1), (2, vI x2), (3, vR (some out))]) := hl
  have key : gGo p l e rL_advise s m ((List.map gv [vR (some x), vI x1, vI x2, vR (some out)])).toArray below meth c D cy B H0 5 0 0 (gMF below (gQ D cy B H0 (some (vI 0)) (wJ M1 out (0 : Int32).toNatClampNeg (Int32.toInt64 v)) ) B ((List.map gv [vR (some x), vI x1, vI x2, vR (some out)])).toArray s 2 12) 0 [(0, vR (some x)), (1, vI x1), (2, vI x2), (3, vR (some out))] [] M := by
    refine g_aload_n X dL_advise_0 rfl rfl ?_
    refine g_iconst (v := (0 : Int32)) X dL_advise_1 (by decide) ?_
    refine g_aload_n X dL_advise_2 rfl rfl ?_
    refine g_iload_n X dL_advise_3 rfl rfl ?_
    refine g_iload_n X dL_advise_4 rfl rfl ?_
    refine g_callXV (ci := 9) (b := x) (As := [vI x1, vI x2]) (st := [vI (0 : Int32), vR (some out)]) (v := some (vI v)) (M1 := M1) X (m_X11_advise l hlx hH0 hf) (cwV 2 X.2.2.1 gL_advise_X11_advise2 rfl rfl rfl (by decide +kernel) ⟨Nat.le_of_ble_eq_true rfl, Nat.le_of_ble_eq_true rfl⟩) rfl rfl rfl hTx (by decide) rfl (Nat.le_of_ble_eq_true rfl) dL_advise_5 ⟨by decide, by decide⟩ ?_
    refine g_i2l X dL_advise_8 ?_
    refine g_last X dL_advise_9 rfl hTo hLo ?_
    refine g_goto (tgt := 21) X dL_advise_10 (by decide) ?_
    refine g_iconst (v := (0 : Int32)) X dL_advise_21 (by decide) ?_
    exact g_vxF (g_iret X hr dL_advise_22)
  exact key s.heap [] ls hW va_S.rf hl
set_option maxHeartbeats 4000000 in
set_option maxRecDepth 100000 in
theorem mw_advise_t1 (l : Launch) (hlx : l.stackTraces = false) {D : va_G} {cy : Nat → ClassId} {B : Nat} {H0 : Heap} {Z : Nat → Nat} {M M1 : gMem} {x out : Nat} {x1 : Int32} {x2 : Int32} (hH0 : H0.size = B) (hTx : mT M x = 10) (hf : f_X11_advise Z M x x1 x2 = some (.inl 2, M1)) : Met l yL_advise wsL_advise2 rL_advise (va_Pc (List.map gv [vR (some x), vI x1, vI x2, vR (some out)]) (gPre D cy B H0 (gSt3 Z B H0) M)) (gQN D cy B H0 (some (vI (1 : Int32))) M1) 2 12 (gA B) := by
  refine vx_met (vx_ofWH (cc := cL_advise) (maxL := 5) (ret := (some .int)) (hh := [(0, 10, 13, 24), (0, 10, 17, 19)]) (by decide) rfl ?_)
  intro p e s m args below meth c s₁ Bd hml hv
  obtain ⟨rfl, hW, hKK, hFs⟩ := hv
  have X3 : gX p s m _ meth c D cy B (gSt3 Z B H0) RL cL_advise wsL_advise2 5 := ⟨Bd.exec, Bd.bytes, atoms_spec (ws := wsL_advise2) Bd.pre, findClass_of_methodNamed Bd.named, hml, hKK, by rw [hW.1]; exact hW.2.1, Bd.notSynchronized, hFs⟩
  have X := gX_w3 X3
  have hr := Bd.returns
  have hl := lv_entry ([.ref x, .int x1, .int x2, .ref out]) (n := 5) (Nat.le_of_ble_eq_true rfl)
  show W p l e rL_advise s m _ below meth c s.heap [] 0 0 _ (entryFrame m ([.ref x, .int x1, .int x2, .ref out] : List Value).toArray 5)
  rw [lg_entry_eq]
  generalize (lg_sl ([.ref x, .int x1, .int x2, .ref out]) ++ List.replicate (5 - (lg_sl ([.ref x, .int x1, .int x2, .ref out])).length) Slot.unset).toArray = ls at hl ⊢
  have hl : lv_has ls 5 (List.map gq [(0, vR (some x)), (1, vI x1), (2, vI x2), (3, vR (some out))]) := hl
  have key : gGo p l e rL_advise s m ((List.map gv [vR (some x), vI x1, vI x2, vR (some out)])).toArray below meth c D cy B H0 5 0 0 (gMF below (gQN D cy B H0 (some (vI (1 : Int32))) M1) B ((List.map gv [vR (some x), vI x1, vI x2, vR (some out)])).toArray s 2 12) 0 [(0, vR (some x)), (1, vI x1), (2, vI x2), (3, vR (some out))] [] M := by
    have htab : c.exceptionTable.toList = [(⟨0, 10, 13, 24⟩ : ExceptionTableEntry), (⟨0, 10, 17, 19⟩ : ExceptionTableEntry)] := (vx_table (x := yL_advise) Bd (atoms_spec (ws := wsL_advise2) Bd.pre _ List.mem_cons_self)).trans rfl
    refine g_aload_n X dL_advise_0 rfl rfl ?_
    refine g_iconst (v := (0 : Int32)) X dL_advise_1 (by decide) ?_
    refine g_aload_n X dL_advise_2 rfl rfl ?_
    refine g_iload_n X dL_advise_3 rfl rfl ?_
    refine g_iload_n X dL_advise_4 rfl rfl ?_
    refine g_runC (x := 2) (st := [vI (0 : Int32), vR (some out)]) (mc := 2) (ms := 12) (name := "java/lang/IndexOutOfBoundsException") X [] ⟨0, 10, 13, 24⟩ [(⟨0, 10, 17, 19⟩ : ExceptionTableEntry)] htab (fun z hz => absurd hz List.not_mem_nil) (by decide) (by decide) (by decide +kernel) (va_Nw.use rfl (gN2w X (Cond.castable "java/lang/IndexOutOfBoundsException" "java/lang/IndexOutOfBoundsException") (by decide +kernel))) (fun H locs ls hW hS hl => g_vxV (ci := 9) (As := [vI x1, vI x2]) X (m_X11_advise l hlx hH0 hf) (cwV 2 X.2.2.1 gL_advise_X11_advise2 rfl rfl rfl (by decide +kernel) ⟨Nat.le_of_ble_eq_true rfl, Nat.le_of_ble_eq_true rfl⟩) rfl hTx (by decide) rfl (Nat.le_of_ble_eq_true rfl) dL_advise_5 ⟨by decide, by decide⟩ H locs ls hW hl) (fun q N hN => ?_)
    refine g_astore (lv' := [(4, vR (some q)), (0, vR (some x)), (1, vI x1), (2, vI x2), (3, vR (some out))]) X dL_advise_13 (by decide) rfl ?_
    refine g_iconst (v := (1 : Int32)) X dL_advise_15 (by decide) ?_
    exact g_vxFN hN (g_iret X hr dL_advise_16)
  exact key s.heap [] ls hW va_S.rf hl
set_option maxHeartbeats 4000000 in
set_option maxRecDepth 100000 in
theorem mw_advise_t2 (l : Launch) (hlx : l.stackTraces = false) {D : va_G} {cy : Nat → ClassId} {B : Nat} {H0 : Heap} {Z : Nat → Nat} {M M1 : gMem} {x out : Nat} {x1 : Int32} {x2 : Int32} (hH0 : H0.size = B) (hTx : mT M x = 10) (hf : f_X11_advise Z M x x1 x2 = some (.inl 1, M1)) : Met l yL_advise wsL_advise2 rL_advise (va_Pc (List.map gv [vR (some x), vI x1, vI x2, vR (some out)]) (gPre D cy B H0 (gSt3 Z B H0) M)) (gQN D cy B H0 (some (vI (2 : Int32))) M1) 2 12 (gA B) := by
  refine vx_met (vx_ofWH (cc := cL_advise) (maxL := 5) (ret := (some .int)) (hh := [(0, 10, 13, 24), (0, 10, 17, 19)]) (by decide) rfl ?_)
  intro p e s m args below meth c s₁ Bd hml hv
  obtain ⟨rfl, hW, hKK, hFs⟩ := hv
  have X3 : gX p s m _ meth c D cy B (gSt3 Z B H0) RL cL_advise wsL_advise2 5 := ⟨Bd.exec, Bd.bytes, atoms_spec (ws := wsL_advise2) Bd.pre, findClass_of_methodNamed Bd.named, hml, hKK, by rw [hW.1]; exact hW.2.1, Bd.notSynchronized, hFs⟩
  have X := gX_w3 X3
  have hr := Bd.returns
  have hl := lv_entry ([.ref x, .int x1, .int x2, .ref out]) (n := 5) (Nat.le_of_ble_eq_true rfl)
  show W p l e rL_advise s m _ below meth c s.heap [] 0 0 _ (entryFrame m ([.ref x, .int x1, .int x2, .ref out] : List Value).toArray 5)
  rw [lg_entry_eq]
  generalize (lg_sl ([.ref x, .int x1, .int x2, .ref out]) ++ List.replicate (5 - (lg_sl ([.ref x, .int x1, .int x2, .ref out])).length) Slot.unset).toArray = ls at hl ⊢
  have hl : lv_has ls 5 (List.map gq [(0, vR (some x)), (1, vI x1), (2, vI x2), (3, vR (some out))]) := hl
  have key : gGo p l e rL_advise s m ((List.map gv [vR (some x), vI x1, vI x2, vR (some out)])).toArray below meth c D cy B H0 5 0 0 (gMF below (gQN D cy B H0 (some (vI (2 : Int32))) M1) B ((List.map gv [vR (some x), vI x1, vI x2, vR (some out)])).toArray s 2 12) 0 [(0, vR (some x)), (1, vI x1), (2, vI x2), (3, vR (some out))] [] M := by
    have htab : c.exceptionTable.toList = [(⟨0, 10, 13, 24⟩ : ExceptionTableEntry), (⟨0, 10, 17, 19⟩ : ExceptionTableEntry)] := (vx_table (x := yL_advise) Bd (atoms_spec (ws := wsL_advise2) Bd.pre _ List.mem_cons_self)).trans rfl
    refine g_aload_n X dL_advise_0 rfl rfl ?_
    refine g_iconst (v := (0 : Int32)) X dL_advise_1 (by decide) ?_
    refine g_aload_n X dL_advise_2 rfl rfl ?_
    refine g_iload_n X dL_advise_3 rfl rfl ?_
    refine g_iload_n X dL_advise_4 rfl rfl ?_
    refine g_runC (x := 1) (st := [vI (0 : Int32), vR (some out)]) (mc := 2) (ms := 12) (name := "java/lang/IllegalArgumentException") X [(⟨0, 10, 13, 24⟩ : ExceptionTableEntry)] ⟨0, 10, 17, 19⟩ [] htab (fun z hz => by rw [List.mem_singleton.mp hz]; exact Or.inr ⟨by decide, "java/lang/IndexOutOfBoundsException", X.2.2.1 _ (by decide +kernel), (gX_st X3).2 ("java/lang/IllegalArgumentException", "java/lang/IndexOutOfBoundsException") (by decide)⟩) (by decide) (by decide) (by decide +kernel) (va_Nw.use rfl (gN2w X (Cond.castable "java/lang/IllegalArgumentException" "java/lang/IllegalArgumentException") (by decide +kernel))) (fun H locs ls hW hS hl => g_vxV (ci := 9) (As := [vI x1, vI x2]) X (m_X11_advise l hlx hH0 hf) (cwV 2 X.2.2.1 gL_advise_X11_advise2 rfl rfl rfl (by decide +kernel) ⟨Nat.le_of_ble_eq_true rfl, Nat.le_of_ble_eq_true rfl⟩) rfl hTx (by decide) rfl (Nat.le_of_ble_eq_true rfl) dL_advise_5 ⟨by decide, by decide⟩ H locs ls hW hl) (fun q N hN => ?_)
    refine g_astore (lv' := [(4, vR (some q)), (0, vR (some x)), (1, vI x1), (2, vI x2), (3, vR (some out))]) X dL_advise_17 (by decide) rfl ?_
    refine g_iconst (v := (2 : Int32)) X dL_advise_19 (by decide) ?_
    exact g_vxFN hN (g_iret X hr dL_advise_20)
  exact key s.heap [] ls hW va_S.rf hl
theorem dL_blame_0 : decode cL_blame 0 = .ok (.aload_n 2, 1) := by decide +kernel
theorem dL_blame_1 : decode cL_blame 1 = .ok (.iconst 0, 1) := by decide +kernel
theorem dL_blame_2 : decode cL_blame 2 = .ok (.aload_n 0, 1) := by decide +kernel
theorem dL_blame_3 : decode cL_blame 3 = .ok (.iload_n 1, 1) := by decide +kernel
theorem dL_blame_4 : decode cL_blame 4 = .ok (.invokevirtual 49, 3) := by decide +kernel
theorem dL_blame_7 : decode cL_blame 7 = .ok (.i2l, 1) := by decide +kernel
theorem dL_blame_8 : decode cL_blame 8 = .ok (.lastore, 1) := by decide +kernel
theorem dL_blame_9 : decode cL_blame 9 = .ok (.goto 6, 3) := by decide +kernel
theorem dL_blame_12 : decode cL_blame 12 = .ok (.astore_n 3, 1) := by decide +kernel
theorem dL_blame_13 : decode cL_blame 13 = .ok (.iconst 1, 1) := by decide +kernel
theorem dL_blame_14 : decode cL_blame 14 = .ok (.ireturn, 1) := by decide +kernel
theorem dL_blame_15 : decode cL_blame 15 = .ok (.iconst 0, 1) := by decide +kernel
theorem dL_blame_16 : decode cL_blame 16 = .ok (.ireturn, 1) := by decide +kernel
set_option maxRecDepth 20000 in
theorem ggL_blame_X11_blame : GoodIn wsL_blame wsX11_blame := goodIn_ca (goodIn_2 24 (goodIn_r _ [6, 7, 8, 9, 10, 11, 12, 13, 5, 14, 15, 16, 17, 18, 19, 20, 21, 22, 23, 24, 25, 26, 27, 28] (by decide +kernel) (by decide +kernel)) (goodIn_r _ [29, 30, 31, 32, 33, 34, 35, 36, 37, 38, 39, 40, 41, 42, 43, 44, 45, 46, 47, 48, 49] (by decide +kernel) (by decide +kernel))) (goodIn_sub (fun _ h => List.mem_cons_of_mem _ (List.mem_append_right _ h)) (by decide +kernel))
set_option maxRecDepth 20000 in
theorem gL_blame_X11_blame : GoodIn wsL_blame (wsV RL 49 RX11 yX11_blame wsX11_blame) := goodIn_app (goodIn_of _ (by decide +kernel)) ggL_blame_X11_blame
abbrev rL_blame : Room := { frames := 8, cells := 1, slots := 6, locals := 128 }
set_option maxHeartbeats 4000000 in
set_option maxRecDepth 100000 in
theorem mw_blame (l : Launch) (hlx : l.stackTraces = false) {D : va_G} {cy : Nat → ClassId} {B : Nat} {H0 : Heap} {Z : Nat → Nat} {M M1 : gMem} {x out : Nat} {x1 : Int32} (hH0 : H0.size = B) (hTx : mT M x = 10) {v : Int32} (hf : f_X11_blame M x x1 = some (.inr v, M1)) (hTo : mT M1 out = 21) (hLo : inb (0 : Int32) (mL M1 out)) : Met l yL_blame wsL_blame rL_blame (va_Pc (List.map gv [vR (some x), vI x1, vR (some out)]) (gPre D cy B H0 (gSt3 Z B H0) M)) (gQ D cy B H0 (some (vI 0)) (wJ M1 out (0 : Int32).toNatClampNeg (Int32.toInt64 v)) ) 1 6 (gA B) := by
  refine vx_met (vx_ofWH (cc := cL_blame) (maxL := 4) (ret := (some .int)) (hh := [(0, 9, 12, 24)]) (by decide) rfl ?_)
  intro p e s m args below meth c s₁ Bd hml hv
  obtain ⟨rfl, hW, hKK, hFs⟩ := hv
  have X3 : gX p s m _ meth c D cy B (gSt3 Z B H0) RL cL_blame wsL_blame 4 := ⟨Bd.exec, Bd.bytes, atoms_spec (ws := wsL_blame) Bd.pre, findClass_of_methodNamed Bd.named, hml, hKK, by rw [hW.1]; exact hW.2.1, Bd.notSynchronized, hFs⟩
  have X := gX_w3 X3
  have hr := Bd.returns
  have hl := lv_entry ([.ref x, .int x1, .ref out]) (n := 4) (Nat.le_of_ble_eq_true rfl)
  show W p l e rL_blame s m _ below meth c s.heap [] 0 0 _ (entryFrame m ([.ref x, .int x1, .ref out] : List Value).toArray 4)
  rw [lg_entry_eq]
  generalize (lg_sl ([.ref x, .int x1, .ref out]) ++ List.replicate (4 - (lg_sl ([.ref x, .int x1, .ref out])).length) Slot.unset).toArray = ls at hl ⊢
  have hl : lv_has ls 4 (List.map gq [(0, vR (some x)), (1, vI x1), (2, vR (some out))]) := hl
  have key : gGo p l e rL_blame s m ((List.map gv [vR (some x), vI x1, vR (some out)])).toArray below meth c D cy B H0 4 0 0 (gMF below (gQ D cy B H0 (some (vI 0)) (wJ M1 out (0 : Int32).toNatClampNeg (Int32.toInt64 v)) ) B ((List.map gv [vR (some x), vI x1, vR (some out)])).toArray s 1 6) 0 [(0, vR (some x)), (1, vI x1), (2, vR (some out))] [] M := by
    refine g_aload_n X dL_blame_0 rfl rfl ?_
    refine g_iconst (v := (0 : Int32)) X dL_blame_1 (by decide) ?_
    refine g_aload_n X dL_blame_2 rfl rfl ?_
    refine g_iload_n X dL_blame_3 rfl rfl ?_
    refine g_callXV (ci := 9) (b := x) (As := [vI x1]) (st := [vI (0 : Int32), vR (some out)]) (v := some (vI v)) (M1 := M1) X (m_X11_blame l hlx hH0 hf) (cwV 1 X.2.2.1 gL_blame_X11_blame rfl rfl rfl (by decide +kernel) ⟨Nat.le_of_ble_eq_true rfl, Nat.le_of_ble_eq_true rfl⟩) rfl rfl rfl hTx (by decide) rfl (Nat.le_of_ble_eq_true rfl) dL_blame_4 ⟨by decide, by decide⟩ ?_
    refine g_i2l X dL_blame_7 ?_
    refine g_last X dL_blame_8 rfl hTo hLo ?_
    refine g_goto (tgt := 15) X dL_blame_9 (by decide) ?_
    refine g_iconst (v := (0 : Int32)) X dL_blame_15 (by decide) ?_
    exact g_vxF (g_iret X hr dL_blame_16)
  exact key s.heap [] ls hW va_S.rf hl
set_option maxHeartbeats 4000000 in
set_option maxRecDepth 100000 in
theorem mw_blame_t1 (l : Launch) (hlx : l.stackTraces = false) {D : va_G} {cy : Nat → ClassId} {B : Nat} {H0 : Heap} {Z : Nat → Nat} {M M1 : gMem} {x out : Nat} {x1 : Int32} (hH0 : H0.size = B) (hTx : mT M x = 10) (hf : f_X11_blame M x x1 = some (.inl 2, M1)) : Met l yL_blame wsL_blame rL_blame (va_Pc (List.map gv [vR (some x), vI x1, vR (some out)]) (gPre D cy B H0 (gSt3 Z B H0) M)) (gQN D cy B H0 (some (vI (1 : Int32))) M1) 1 6 (gA B) := by
  refine vx_met (vx_ofWH (cc := cL_blame) (maxL := 4) (ret := (some .int)) (hh := [(0, 9, 12, 24)]) (by decide) rfl ?_)
  intro p e s m args below meth c s₁ Bd hml hv
  obtain ⟨rfl, hW, hKK, hFs⟩ := hv
  have X3 : gX p s m _ meth c D cy B (gSt3 Z B H0) RL cL_blame wsL_blame 4 := ⟨Bd.exec, Bd.bytes, atoms_spec (ws := wsL_blame) Bd.pre, findClass_of_methodNamed Bd.named, hml, hKK, by rw [hW.1]; exact hW.2.1, Bd.notSynchronized, hFs⟩
  have X := gX_w3 X3
  have hr := Bd.returns
  have hl := lv_entry ([.ref x, .int x1, .ref out]) (n := 4) (Nat.le_of_ble_eq_true rfl)
  show W p l e rL_blame s m _ below meth c s.heap [] 0 0 _ (entryFrame m ([.ref x, .int x1, .ref out] : List Value).toArray 4)
  rw [lg_entry_eq]
  generalize (lg_sl ([.ref x, .int x1, .ref out]) ++ List.replicate (4 - (lg_sl ([.ref x, .int x1, .ref out])).length) Slot.unset).toArray = ls at hl ⊢
  have hl : lv_has ls 4 (List.map gq [(0, vR (some x)), (1, vI x1), (2, vR (some out))]) := hl
  have key : gGo p l e rL_blame s m ((List.map gv [vR (some x), vI x1, vR (some out)])).toArray below meth c D cy B H0 4 0 0 (gMF below (gQN D cy B H0 (some (vI (1 : Int32))) M1) B ((List.map gv [vR (some x), vI x1, vR (some out)])).toArray s 1 6) 0 [(0, vR (some x)), (1, vI x1), (2, vR (some out))] [] M := by
    have htab : c.exceptionTable.toList = [(⟨0, 9, 12, 24⟩ : ExceptionTableEntry)] := (vx_table (x := yL_blame) Bd (atoms_spec (ws := wsL_blame) Bd.pre _ List.mem_cons_self)).trans rfl
    refine g_aload_n X dL_blame_0 rfl rfl ?_
    refine g_iconst (v := (0 : Int32)) X dL_blame_1 (by decide) ?_
    refine g_aload_n X dL_blame_2 rfl rfl ?_
    refine g_iload_n X dL_blame_3 rfl rfl ?_
    refine g_runC (x := 2) (st := [vI (0 : Int32), vR (some out)]) (mc := 1) (ms := 6) (name := "java/lang/IndexOutOfBoundsException") X [] ⟨0, 9, 12, 24⟩ [] htab (fun z hz => absurd hz List.not_mem_nil) (by decide) (by decide) (by decide +kernel) (va_Nw.use rfl (gN2w X (Cond.castable "java/lang/IndexOutOfBoundsException" "java/lang/IndexOutOfBoundsException") (by decide +kernel))) (fun H locs ls hW hS hl => g_vxV (ci := 9) (As := [vI x1]) X (m_X11_blame l hlx hH0 hf) (cwV 1 X.2.2.1 gL_blame_X11_blame rfl rfl rfl (by decide +kernel) ⟨Nat.le_of_ble_eq_true rfl, Nat.le_of_ble_eq_true rfl⟩) rfl hTx (by decide) rfl (Nat.le_of_ble_eq_true rfl) dL_blame_4 ⟨by decide, by decide⟩ H locs ls hW hl) (fun q N hN => ?_)
    refine g_astore_n (lv' := [(3, vR (some q)), (0, vR (some x)), (1, vI x1), (2, vR (some out))]) X dL_blame_12 rfl (by decide) rfl ?_
    refine g_iconst (v := (1 : Int32)) X dL_blame_13 (by decide) ?_
    exact g_vxFN hN (g_iret X hr dL_blame_14)
  exact key s.heap [] ls hW va_S.rf hl
theorem dL_cheat_0 : decode cL_cheat 0 = .ok (.aload_n 3, 1) := by decide +kernel
theorem dL_cheat_1 : decode cL_cheat 1 = .ok (.iconst 0, 1) := by decide +kernel
theorem dL_cheat_2 : decode cL_cheat 2 = .ok (.aload_n 0, 1) := by decide +kernel
theorem dL_cheat_3 : decode cL_cheat 3 = .ok (.iload_n 1, 1) := by decide +kernel
theorem dL_cheat_4 : decode cL_cheat 4 = .ok (.iload_n 2, 1) := by decide +kernel
theorem dL_cheat_5 : decode cL_cheat 5 = .ok (.invokevirtual 36, 3) := by decide +kernel
theorem dL_cheat_8 : decode cL_cheat 8 = .ok (.i2l, 1) := by decide +kernel
theorem dL_cheat_9 : decode cL_cheat 9 = .ok (.lastore, 1) := by decide +kernel
theorem dL_cheat_10 : decode cL_cheat 10 = .ok (.goto 7, 3) := by decide +kernel
theorem dL_cheat_13 : decode cL_cheat 13 = .ok (.astore 4, 2) := by decide +kernel
theorem dL_cheat_15 : decode cL_cheat 15 = .ok (.iconst 1, 1) := by decide +kernel
theorem dL_cheat_16 : decode cL_cheat 16 = .ok (.ireturn, 1) := by decide +kernel
theorem dL_cheat_17 : decode cL_cheat 17 = .ok (.iconst 0, 1) := by decide +kernel
theorem dL_cheat_18 : decode cL_cheat 18 = .ok (.ireturn, 1) := by decide +kernel
set_option maxRecDepth 20000 in
theorem ggL_cheat_X11_cheat : GoodIn wsL_cheat wsX11_cheat := goodIn_ca (goodIn_2 24 (goodIn_r _ [6, 7, 8, 9, 10, 11, 12, 5, 13, 14, 15, 16, 17, 18, 19, 20, 21, 22, 23, 24, 25, 26, 27, 28] (by decide +kernel) (by decide +kernel)) (goodIn_2 24 (goodIn_r _ [29, 30, 31, 32, 33, 34, 35, 36, 37, 38, 39, 40, 41, 42, 43, 44, 45, 46, 47, 48, 49, 50, 51, 52] (by decide +kernel) (by decide +kernel)) (goodIn_r _ [53, 54, 55, 56] (by decide +kernel) (by decide +kernel)))) (goodIn_sub (fun _ h => List.mem_cons_of_mem _ (List.mem_append_right _ h)) (by decide +kernel))
set_option maxRecDepth 20000 in
theorem gL_cheat_X11_cheat : GoodIn wsL_cheat (wsV RL 36 RX11 yX11_cheat wsX11_cheat) := goodIn_app (goodIn_of _ (by decide +kernel)) ggL_cheat_X11_cheat
abbrev rL_cheat : Room := { frames := 8, cells := 1, slots := 6, locals := 125 }
set_option maxHeartbeats 4000000 in
set_option maxRecDepth 100000 in
theorem mw_cheat (l : Launch) (hlx : l.stackTraces = false) {D : va_G} {cy : Nat → ClassId} {B : Nat} {H0 : Heap} {Z : Nat → Nat} {M M1 : gMem} {x out : Nat} {x1 : Int32} {x2 : Int32} (hH0 : H0.size = B) (hTx : mT M x = 10) {v : Int32} (hf : f_X11_cheat M x x1 x2 = some (.inr v, M1)) (hTo : mT M1 out = 21) (hLo : inb (0 : Int32) (mL M1 out)) : Met l yL_cheat wsL_cheat rL_cheat (va_Pc (List.map gv [vR (some x), vI x1, vI x2, vR (some out)]) (gPre D cy B H0 (gSt3 Z B H0) M)) (gQ D cy B H0 (some (vI 0)) (wJ M1 out (0 : Int32).toNatClampNeg (Int32.toInt64 v)) ) 1 6 (gA B) := by
  refine vx_met (vx_ofWH (cc := cL_cheat) (maxL := 5) (ret := (some .int)) (hh := [(0, 10, 13, 24)]) (by decide) rfl ?_)
  intro p e s m args below meth c s₁ Bd hml hv
  obtain ⟨rfl, hW, hKK, hFs⟩ := hv
  have X3 : gX p s m _ meth c D cy B (gSt3 Z B H0) RL cL_cheat wsL_cheat 5 := ⟨Bd.exec, Bd.bytes, atoms_spec (ws := wsL_cheat) Bd.pre, findClass_of_methodNamed Bd.named, hml, hKK, by rw [hW.1]; exact hW.2.1, Bd.notSynchronized, hFs⟩
  have X := gX_w3 X3
  have hr := Bd.returns
  have hl := lv_entry ([.ref x, .int x1, .int x2, .ref out]) (n := 5) (Nat.le_of_ble_eq_true rfl)
  show W p l e rL_cheat s m _ below meth c s.heap [] 0 0 _ (entryFrame m ([.ref x, .int x1, .int x2, .ref out] : List Value).toArray 5)
  rw [lg_entry_eq]
  generalize (lg_sl ([.ref x, .int x1, .int x2, .ref out]) ++ List.replicate (5 - (lg_sl ([.ref x, .int x1, .int x2, .ref out])).length) Slot.unset).toArray = ls at hl ⊢
  have hl : lv_has ls 5 (List.map gq [(0, vR (some x)), (1, vI x1), (2, vI x2), (3, vR (some out))]) := hl
  have key : gGo p l e rL_cheat s m ((List.map gv [vR (some x), vI x1, vI x2, vR (some out)])).toArray below meth c D cy B H0 5 0 0 (gMF below (gQ D cy B H0 (some (vI 0)) (wJ M1 out (0 : Int32).toNatClampNeg (Int32.toInt64 v)) ) B ((List.map gv [vR (some x), vI x1, vI x2, vR (some out)])).toArray s 1 6) 0 [(0, vR (some x)), (1, vI x1), (2, vI x2), (3, vR (some out))] [] M := by
    refine g_aload_n X dL_cheat_0 rfl rfl ?_
    refine g_iconst (v := (0 : Int32)) X dL_cheat_1 (by decide) ?_
    refine g_aload_n X dL_cheat_2 rfl rfl ?_
    refine g_iload_n X dL_cheat_3 rfl rfl ?_
    refine g_iload_n X dL_cheat_4 rfl rfl ?_
    refine g_callXV (ci := 9) (b := x) (As := [vI x1, vI x2]) (st := [vI (0 : Int32), vR (some out)]) (v := some (vI v)) (M1 := M1) X (m_X11_cheat l hlx hH0 hf) (cwV 2 X.2.2.1 gL_cheat_X11_cheat rfl rfl rfl (by decide +kernel) ⟨Nat.le_of_ble_eq_true rfl, Nat.le_of_ble_eq_true rfl⟩) rfl rfl rfl hTx (by decide) rfl (Nat.le_of_ble_eq_true rfl) dL_cheat_5 ⟨by decide, by decide⟩ ?_
    refine g_i2l X dL_cheat_8 ?_
    refine g_last X dL_cheat_9 rfl hTo hLo ?_
    refine g_goto (tgt := 17) X dL_cheat_10 (by decide) ?_
    refine g_iconst (v := (0 : Int32)) X dL_cheat_17 (by decide) ?_
    exact g_vxF (g_iret X hr dL_cheat_18)
  exact key s.heap [] ls hW va_S.rf hl
set_option maxHeartbeats 4000000 in
set_option maxRecDepth 100000 in
theorem mw_cheat_t1 (l : Launch) (hlx : l.stackTraces = false) {D : va_G} {cy : Nat → ClassId} {B : Nat} {H0 : Heap} {Z : Nat → Nat} {M M1 : gMem} {x out : Nat} {x1 : Int32} {x2 : Int32} (hH0 : H0.size = B) (hTx : mT M x = 10) (hf : f_X11_cheat M x x1 x2 = some (.inl 2, M1)) : Met l yL_cheat wsL_cheat rL_cheat (va_Pc (List.map gv [vR (some x), vI x1, vI x2, vR (some out)]) (gPre D cy B H0 (gSt3 Z B H0) M)) (gQN D cy B H0 (some (vI (1 : Int32))) M1) 1 6 (gA B) := by
  refine vx_met (vx_ofWH (cc := cL_cheat) (maxL := 5) (ret := (some .int)) (hh := [(0, 10, 13, 24)]) (by decide) rfl ?_)
  intro p e s m args below meth c s₁ Bd hml hv
  obtain ⟨rfl, hW, hKK, hFs⟩ := hv
  have X3 : gX p s m _ meth c D cy B (gSt3 Z B H0) RL cL_cheat wsL_cheat 5 := ⟨Bd.exec, Bd.bytes, atoms_spec (ws := wsL_cheat) Bd.pre, findClass_of_methodNamed Bd.named, hml, hKK, by rw [hW.1]; exact hW.2.1, Bd.notSynchronized, hFs⟩
  have X := gX_w3 X3
  have hr := Bd.returns
  have hl := lv_entry ([.ref x, .int x1, .int x2, .ref out]) (n := 5) (Nat.le_of_ble_eq_true rfl)
  show W p l e rL_cheat s m _ below meth c s.heap [] 0 0 _ (entryFrame m ([.ref x, .int x1, .int x2, .ref out] : List Value).toArray 5)
  rw [lg_entry_eq]
  generalize (lg_sl ([.ref x, .int x1, .int x2, .ref out]) ++ List.replicate (5 - (lg_sl ([.ref x, .int x1, .int x2, .ref out])).length) Slot.unset).toArray = ls at hl ⊢
  have hl : lv_has ls 5 (List.map gq [(0, vR (some x)), (1, vI x1), (2, vI x2), (3, vR (some out))]) := hl
  have key : gGo p l e rL_cheat s m ((List.map gv [vR (some x), vI x1, vI x2, vR (some out)])).toArray below meth c D cy B H0 5 0 0 (gMF below (gQN D cy B H0 (some (vI (1 : Int32))) M1) B ((List.map gv [vR (some x), vI x1, vI x2, vR (some out)])).toArray s 1 6) 0 [(0, vR (some x)), (1, vI x1), (2, vI x2), (3, vR (some out))] [] M := by
    have htab : c.exceptionTable.toList = [(⟨0, 10, 13, 24⟩ : ExceptionTableEntry)] := (vx_table (x := yL_cheat) Bd (atoms_spec (ws := wsL_cheat) Bd.pre _ List.mem_cons_self)).trans rfl
    refine g_aload_n X dL_cheat_0 rfl rfl ?_
    refine g_iconst (v := (0 : Int32)) X dL_cheat_1 (by decide) ?_
    refine g_aload_n X dL_cheat_2 rfl rfl ?_
    refine g_iload_n X dL_cheat_3 rfl rfl ?_
    refine g_iload_n X dL_cheat_4 rfl rfl ?_
    refine g_runC (x := 2) (st := [vI (0 : Int32), vR (some out)]) (mc := 1) (ms := 6) (name := "java/lang/IndexOutOfBoundsException") X [] ⟨0, 10, 13, 24⟩ [] htab (fun z hz => absurd hz List.not_mem_nil) (by decide) (by decide) (by decide +kernel) (va_Nw.use rfl (gN2w X (Cond.castable "java/lang/IndexOutOfBoundsException" "java/lang/IndexOutOfBoundsException") (by decide +kernel))) (fun H locs ls hW hS hl => g_vxV (ci := 9) (As := [vI x1, vI x2]) X (m_X11_cheat l hlx hH0 hf) (cwV 2 X.2.2.1 gL_cheat_X11_cheat rfl rfl rfl (by decide +kernel) ⟨Nat.le_of_ble_eq_true rfl, Nat.le_of_ble_eq_true rfl⟩) rfl hTx (by decide) rfl (Nat.le_of_ble_eq_true rfl) dL_cheat_5 ⟨by decide, by decide⟩ H locs ls hW hl) (fun q N hN => ?_)
    refine g_astore (lv' := [(4, vR (some q)), (0, vR (some x)), (1, vI x1), (2, vI x2), (3, vR (some out))]) X dL_cheat_13 (by decide) rfl ?_
    refine g_iconst (v := (1 : Int32)) X dL_cheat_15 (by decide) ?_
    exact g_vxFN hN (g_iret X hr dL_cheat_16)
  exact key s.heap [] ls hW va_S.rf hl
theorem dL_count_0 : decode cL_count 0 = .ok (.aload_n 2, 1) := by decide +kernel
theorem dL_count_1 : decode cL_count 1 = .ok (.iconst 0, 1) := by decide +kernel
theorem dL_count_2 : decode cL_count 2 = .ok (.aload_n 0, 1) := by decide +kernel
theorem dL_count_3 : decode cL_count 3 = .ok (.iload_n 1, 1) := by decide +kernel
theorem dL_count_4 : decode cL_count 4 = .ok (.invokevirtual 21, 3) := by decide +kernel
theorem dL_count_7 : decode cL_count 7 = .ok (.i2l, 1) := by decide +kernel
theorem dL_count_8 : decode cL_count 8 = .ok (.lastore, 1) := by decide +kernel
theorem dL_count_9 : decode cL_count 9 = .ok (.goto 6, 3) := by decide +kernel
theorem dL_count_12 : decode cL_count 12 = .ok (.astore_n 3, 1) := by decide +kernel
theorem dL_count_13 : decode cL_count 13 = .ok (.iconst 1, 1) := by decide +kernel
theorem dL_count_14 : decode cL_count 14 = .ok (.ireturn, 1) := by decide +kernel
theorem dL_count_15 : decode cL_count 15 = .ok (.iconst 0, 1) := by decide +kernel
theorem dL_count_16 : decode cL_count 16 = .ok (.ireturn, 1) := by decide +kernel
set_option maxRecDepth 20000 in
theorem ggL_count_X11_count : GoodIn wsL_count wsX11_count := goodIn_ca (goodIn_2 24 (goodIn_rr wsB_L_count_in _ [(1, 5), (1, 6), (1, 7), (1, 8), (1, 9), (1, 10), (1, 11), (1, 12), (1, 13), (1, 14), (1, 15), (1, 16), (1, 17), (1, 18), (1, 19), (1, 20), (1, 21), (1, 22), (1, 23), (2, 0), (2, 1), (2, 2), (2, 3), (2, 4)] (by decide +kernel) (by decide +kernel)) (goodIn_2 24 (goodIn_rr wsB_L_count_in _ [(2, 5), (2, 6), (2, 7), (2, 8), (2, 9), (2, 10), (2, 11), (2, 12), (2, 13), (2, 14), (2, 15), (2, 16), (2, 17), (2, 18), (2, 19), (2, 20), (2, 21), (2, 22), (3, 0), (3, 1), (3, 2), (3, 3), (4, 0), (4, 1)] (by decide +kernel) (by decide +kernel)) (goodIn_2 24 (goodIn_rr wsB_L_count_in _ [(4, 2), (4, 3), (4, 4), (4, 5), (4, 6), (4, 7), (4, 8), (4, 9), (4, 10), (4, 11), (4, 12), (4, 13), (4, 14), (4, 15), (4, 16), (5, 0), (5, 1), (5, 2), (5, 3), (5, 4), (5, 5), (6, 0), (6, 1), (6, 2)] (by decide +kernel) (by decide +kernel)) (goodIn_rr wsB_L_count_in _ [(6, 3), (7, 0), (7, 1), (7, 2), (7, 3), (7, 4), (7, 5), (7, 6), (7, 7), (7, 8), (7, 9), (7, 10)] (by decide +kernel) (by decide +kernel))))) (goodIn_sub (fun _ h => List.mem_cons_of_mem _ (List.mem_append_right _ h)) (by decide +kernel))
set_option maxRecDepth 20000 in
theorem gL_count_X11_count : GoodIn wsL_count (wsV RL 21 RX11 yX11_count wsX11_count) := goodIn_app (goodIn_rr wsB_L_count_in _ [(1, 1), (1, 2), (1, 3), (1, 4)] (by decide +kernel) (by decide +kernel)) ggL_count_X11_count
abbrev rL_count : Room := { frames := 7, cells := 1, slots := 6, locals := 103 }
set_option maxHeartbeats 4000000 in
set_option maxRecDepth 100000 in
theorem mw_count (l : Launch) (hlx : l.stackTraces = false) {D : va_G} {cy : Nat → ClassId} {B : Nat} {H0 : Heap} {Z : Nat → Nat} {M M1 : gMem} {x out : Nat} {x1 : Int32} (hH0 : H0.size = B) (hTx : mT M x = 10) {v : Int32} (hf : f_X11_count M x x1 = some (.inr v, M1)) (hTo : mT M1 out = 21) (hLo : inb (0 : Int32) (mL M1 out)) : Met l yL_count wsL_count rL_count (va_Pc (List.map gv [vR (some x), vI x1, vR (some out)]) (gPre D cy B H0 (gSt3 Z B H0) M)) (gQ D cy B H0 (some (vI 0)) (wJ M1 out (0 : Int32).toNatClampNeg (Int32.toInt64 v)) ) 1 6 (gA B) := by
  refine vx_met (vx_ofWH (cc := cL_count) (maxL := 4) (ret := (some .int)) (hh := [(0, 9, 12, 24)]) (by decide) rfl ?_)
  intro p e s m args below meth c s₁ Bd hml hv
  obtain ⟨rfl, hW, hKK, hFs⟩ := hv
  have X3 : gX p s m _ meth c D cy B (gSt3 Z B H0) RL cL_count wsL_count 4 := ⟨Bd.exec, Bd.bytes, atoms_spec (ws := wsL_count) Bd.pre, findClass_of_methodNamed Bd.named, hml, hKK, by rw [hW.1]; exact hW.2.1, Bd.notSynchronized, hFs⟩
  have X := gX_w3 X3
  have hr := Bd.returns
  have hl := lv_entry ([.ref x, .int x1, .ref out]) (n := 4) (Nat.le_of_ble_eq_true rfl)
  show W p l e rL_count s m _ below meth c s.heap [] 0 0 _ (entryFrame m ([.ref x, .int x1, .ref out] : List Value).toArray 4)
  rw [lg_entry_eq]
  generalize (lg_sl ([.ref x, .int x1, .ref out]) ++ List.replicate (4 - (lg_sl ([.ref x, .int x1, .ref out])).length) Slot.unset).toArray = ls at hl ⊢
  have hl : lv_has ls 4 (List.map gq [(0, vR (some x)), (1, vI x1), (2, vR (some out))]) := hl
  have key : gGo p l e rL_count s m ((List.map gv [vR (some x), vI x1, vR (some out)])).toArray below meth c D cy B H0 4 0 0 (gMF below (gQ D cy B H0 (some (vI 0)) (wJ M1 out (0 : Int32).toNatClampNeg (Int32.toInt64 v)) ) B ((List.map gv [vR (some x), vI x1, vR (some out)])).toArray s 1 6) 0 [(0, vR (some x)), (1, vI x1), (2, vR (some out))] [] M := by
    refine g_aload_n X dL_count_0 rfl rfl ?_
    refine g_iconst (v := (0 : Int32)) X dL_count_1 (by decide) ?_
    refine g_aload_n X dL_count_2 rfl rfl ?_
    refine g_iload_n X dL_count_3 rfl rfl ?_
    refine g_callXV (ci := 9) (b := x) (As := [vI x1]) (st := [vI (0 : Int32), vR (some out)]) (v := some (vI v)) (M1 := M1) X (m_X11_count l hlx hH0 hf) (cwV 1 X.2.2.1 gL_count_X11_count rfl rfl rfl (by decide +kernel) ⟨Nat.le_of_ble_eq_true rfl, Nat.le_of_ble_eq_true rfl⟩) rfl rfl rfl hTx (by decide) rfl (Nat.le_of_ble_eq_true rfl) dL_count_4 ⟨by decide, by decide⟩ ?_
    refine g_i2l X dL_count_7 ?_
    refine g_last X dL_count_8 rfl hTo hLo ?_
    refine g_goto (tgt := 15) X dL_count_9 (by decide) ?_
    refine g_iconst (v := (0 : Int32)) X dL_count_15 (by decide) ?_
    exact g_vxF (g_iret X hr dL_count_16)
  exact key s.heap [] ls hW va_S.rf hl
set_option maxHeartbeats 4000000 in
set_option maxRecDepth 100000 in
theorem mw_count_t1 (l : Launch) (hlx : l.stackTraces = false) {D : va_G} {cy : Nat → ClassId} {B : Nat} {H0 : Heap} {Z : Nat → Nat} {M M1 : gMem} {x out : Nat} {x1 : Int32} (hH0 : H0.size = B) (hTx : mT M x = 10) (hf : f_X11_count M x x1 = some (.inl 2, M1)) : Met l yL_count wsL_count rL_count (va_Pc (List.map gv [vR (some x), vI x1, vR (some out)]) (gPre D cy B H0 (gSt3 Z B H0) M)) (gQN D cy B H0 (some (vI (1 : Int32))) M1) 1 6 (gA B) := by
  refine vx_met (vx_ofWH (cc := cL_count) (maxL := 4) (ret := (some .int)) (hh := [(0, 9, 12, 24)]) (by decide) rfl ?_)
  intro p e s m args below meth c s₁ Bd hml hv
  obtain ⟨rfl, hW, hKK, hFs⟩ := hv
  have X3 : gX p s m _ meth c D cy B (gSt3 Z B H0) RL cL_count wsL_count 4 := ⟨Bd.exec, Bd.bytes, atoms_spec (ws := wsL_count) Bd.pre, findClass_of_methodNamed Bd.named, hml, hKK, by rw [hW.1]; exact hW.2.1, Bd.notSynchronized, hFs⟩
  have X := gX_w3 X3
  have hr := Bd.returns
  have hl := lv_entry ([.ref x, .int x1, .ref out]) (n := 4) (Nat.le_of_ble_eq_true rfl)
  show W p l e rL_count s m _ below meth c s.heap [] 0 0 _ (entryFrame m ([.ref x, .int x1, .ref out] : List Value).toArray 4)
  rw [lg_entry_eq]
  generalize (lg_sl ([.ref x, .int x1, .ref out]) ++ List.replicate (4 - (lg_sl ([.ref x, .int x1, .ref out])).length) Slot.unset).toArray = ls at hl ⊢
  have hl : lv_has ls 4 (List.map gq [(0, vR (some x)), (1, vI x1), (2, vR (some out))]) := hl
  have key : gGo p l e rL_count s m ((List.map gv [vR (some x), vI x1, vR (some out)])).toArray below meth c D cy B H0 4 0 0 (gMF below (gQN D cy B H0 (some (vI (1 : Int32))) M1) B ((List.map gv [vR (some x), vI x1, vR (some out)])).toArray s 1 6) 0 [(0, vR (some x)), (1, vI x1), (2, vR (some out))] [] M := by
    have htab : c.exceptionTable.toList = [(⟨0, 9, 12, 24⟩ : ExceptionTableEntry)] := (vx_table (x := yL_count) Bd (atoms_spec (ws := wsL_count) Bd.pre _ List.mem_cons_self)).trans rfl
    refine g_aload_n X dL_count_0 rfl rfl ?_
    refine g_iconst (v := (0 : Int32)) X dL_count_1 (by decide) ?_
    refine g_aload_n X dL_count_2 rfl rfl ?_
    refine g_iload_n X dL_count_3 rfl rfl ?_
    refine g_runC (x := 2) (st := [vI (0 : Int32), vR (some out)]) (mc := 1) (ms := 6) (name := "java/lang/IndexOutOfBoundsException") X [] ⟨0, 9, 12, 24⟩ [] htab (fun z hz => absurd hz List.not_mem_nil) (by decide) (by decide) (by decide +kernel) (va_Nw.use rfl (gN2w X (Cond.castable "java/lang/IndexOutOfBoundsException" "java/lang/IndexOutOfBoundsException") (by decide +kernel))) (fun H locs ls hW hS hl => g_vxV (ci := 9) (As := [vI x1]) X (m_X11_count l hlx hH0 hf) (cwV 1 X.2.2.1 gL_count_X11_count rfl rfl rfl (by decide +kernel) ⟨Nat.le_of_ble_eq_true rfl, Nat.le_of_ble_eq_true rfl⟩) rfl hTx (by decide) rfl (Nat.le_of_ble_eq_true rfl) dL_count_4 ⟨by decide, by decide⟩ H locs ls hW hl) (fun q N hN => ?_)
    refine g_astore_n (lv' := [(3, vR (some q)), (0, vR (some x)), (1, vI x1), (2, vR (some out))]) X dL_count_12 rfl (by decide) rfl ?_
    refine g_iconst (v := (1 : Int32)) X dL_count_13 (by decide) ?_
    exact g_vxFN hN (g_iret X hr dL_count_14)
  exact key s.heap [] ls hW va_S.rf hl
