section
variable {p : Program} {l : Launch} {e : Env} {s : State} {m : MethodId} {args : Array Value} {below : List Frame} {meth : Method} {c : Code} {D : va_G} {cy : Nat → ClassId} {B : Nat} {H0 : Heap} {Z : Nat → Nat}
/-! ## TideLotsModel.teach()I -/
theorem dX14_teach_0 : decode cX14_teach 0 = .ok (.aload_n 0, 1) := by decide +kernel
theorem dX14_teach_1 : decode cX14_teach 1 = .ok (.iconst 0, 1) := by decide +kernel
theorem dX14_teach_2 : decode cX14_teach 2 = .ok (.putfield 57, 3) := by decide +kernel
theorem dX14_teach_5 : decode cX14_teach 5 = .ok (.aload_n 0, 1) := by decide +kernel
theorem dX14_teach_6 : decode cX14_teach 6 = .ok (.iconst (-1), 1) := by decide +kernel
theorem dX14_teach_7 : decode cX14_teach 7 = .ok (.putfield 13, 3) := by decide +kernel
theorem dX14_teach_10 : decode cX14_teach 10 = .ok (.aload_n 0, 1) := by decide +kernel
theorem dX14_teach_11 : decode cX14_teach 11 = .ok (.invokevirtual 279, 3) := by decide +kernel
theorem dX14_teach_14 : decode cX14_teach 14 = .ok (.istore_n 1, 1) := by decide +kernel
theorem dX14_teach_15 : decode cX14_teach 15 = .ok (.aload_n 0, 1) := by decide +kernel
theorem dX14_teach_16 : decode cX14_teach 16 = .ok (.iconst 0, 1) := by decide +kernel
theorem dX14_teach_17 : decode cX14_teach 17 = .ok (.putfield 79, 3) := by decide +kernel
theorem dX14_teach_20 : decode cX14_teach 20 = .ok (.iload_n 1, 1) := by decide +kernel
theorem dX14_teach_21 : decode cX14_teach 21 = .ok (.ifCond .le 5, 3) := by decide +kernel
theorem dX14_teach_24 : decode cX14_teach 24 = .ok (.iload_n 1, 1) := by decide +kernel
theorem dX14_teach_25 : decode cX14_teach 25 = .ok (.ireturn, 1) := by decide +kernel
theorem dX14_teach_26 : decode cX14_teach 26 = .ok (.aload_n 0, 1) := by decide +kernel
theorem dX14_teach_27 : decode cX14_teach 27 = .ok (.aload_n 0, 1) := by decide +kernel
theorem dX14_teach_28 : decode cX14_teach 28 = .ok (.getfield 39, 3) := by decide +kernel
theorem dX14_teach_31 : decode cX14_teach 31 = .ok (.putfield 35, 3) := by decide +kernel
theorem dX14_teach_34 : decode cX14_teach 34 = .ok (.aload_n 0, 1) := by decide +kernel
theorem dX14_teach_35 : decode cX14_teach 35 = .ok (.getfield 47, 3) := by decide +kernel
theorem dX14_teach_38 : decode cX14_teach 38 = .ok (.invokevirtual 54, 3) := by decide +kernel
theorem dX14_teach_41 : decode cX14_teach 41 = .ok (.iconst 0, 1) := by decide +kernel
theorem dX14_teach_42 : decode cX14_teach 42 = .ok (.ireturn, 1) := by decide +kernel
set_option maxRecDepth 20000 in
theorem ggX14_teach_X14_read_c : GoodIn wsX14_teach [.code yX14_read cX14_read 3 (some .int)] := goodIn_rr wsB_X14_teach_in _ [(1, 10)] (by decide +kernel) (by decide +kernel)
set_option maxRecDepth 20000 in
theorem ggX14_teach_X14_read_wsX14_read_r1 : GoodIn wsX14_teach wsX14_read_r1 := goodIn_rr wsB_X14_teach_in _ [(1, 11), (1, 12), (1, 13), (1, 3), (1, 14), (1, 15), (1, 16), (1, 1), (1, 17), (1, 18), (1, 19), (1, 20), (1, 21), (1, 22), (1, 23), (2, 0), (2, 1), (2, 2), (2, 3), (2, 4), (2, 5), (2, 6), (2, 7), (2, 8)] (by decide +kernel) (by decide +kernel)
set_option maxRecDepth 20000 in
theorem ggX14_teach_X14_read_wsX14_read_r2 : GoodIn wsX14_teach wsX14_read_r2 := goodIn_rr wsB_X14_teach_in _ [(2, 9), (2, 10), (2, 11), (2, 12), (2, 13), (2, 14), (2, 15), (2, 16), (2, 17), (2, 18), (1, 9), (2, 19), (2, 20), (2, 21), (2, 22), (2, 23), (3, 0), (3, 1), (3, 2), (1, 2), (3, 3), (3, 4), (3, 5), (3, 6)] (by decide +kernel) (by decide +kernel)
set_option maxRecDepth 20000 in
theorem ggX14_teach_X14_read_wsX14_read_r3 : GoodIn wsX14_teach wsX14_read_r3 := goodIn_rr wsB_X14_teach_in _ [(3, 7), (3, 8), (3, 9), (3, 10), (3, 11), (3, 12), (3, 13), (3, 14), (3, 15), (3, 16), (3, 17), (3, 18), (3, 19), (3, 20), (3, 21), (3, 22), (3, 23), (4, 0), (4, 1), (4, 2), (4, 3), (4, 4), (4, 5), (4, 6)] (by decide +kernel) (by decide +kernel)
set_option maxRecDepth 20000 in
theorem ggX14_teach_X14_read_wsX14_read_r4 : GoodIn wsX14_teach wsX14_read_r4 := goodIn_rr wsB_X14_teach_in _ [(4, 7), (4, 8), (4, 9), (4, 10), (4, 11), (4, 12), (4, 13), (4, 14), (4, 15), (4, 16), (4, 17), (4, 18), (4, 19), (4, 20), (4, 21), (4, 22), (4, 23), (5, 0), (5, 1), (5, 2), (5, 3), (5, 4), (5, 5), (5, 6)] (by decide +kernel) (by decide +kernel)
set_option maxRecDepth 20000 in
theorem ggX14_teach_X14_read_wsX14_read_r5 : GoodIn wsX14_teach wsX14_read_r5 := goodIn_rr wsB_X14_teach_in _ [(5, 7), (5, 8), (5, 9), (5, 10), (5, 11), (5, 12), (5, 13), (5, 14), (5, 15), (5, 16), (5, 17), (5, 18), (5, 19), (5, 20), (5, 21), (5, 22), (5, 23), (6, 0), (6, 1), (6, 2), (6, 3), (6, 4), (6, 5), (6, 6)] (by decide +kernel) (by decide +kernel)
set_option maxRecDepth 20000 in
theorem ggX14_teach_X14_read_wsX14_read_r6 : GoodIn wsX14_teach wsX14_read_r6 := goodIn_rr wsB_X14_teach_in _ [(6, 7), (6, 8), (6, 9), (6, 10), (6, 11), (6, 12), (6, 13), (6, 14), (6, 15), (6, 16), (6, 17), (6, 18), (6, 19), (6, 20), (6, 21), (6, 22), (6, 23), (7, 0), (7, 1), (7, 2), (7, 3), (7, 4), (7, 5), (7, 6)] (by decide +kernel) (by decide +kernel)
set_option maxRecDepth 20000 in
theorem ggX14_teach_X14_read_wsX14_read_r7 : GoodIn wsX14_teach wsX14_read_r7 := goodIn_rr wsB_X14_teach_in _ [(7, 7), (7, 8), (7, 9), (7, 10), (7, 11), (7, 12), (7, 13), (7, 14), (7, 15), (7, 16), (7, 17), (7, 18), (7, 19), (7, 20), (7, 21), (7, 22), (7, 23), (8, 0), (8, 1), (8, 2), (8, 3), (8, 4), (8, 5), (8, 6)] (by decide +kernel) (by decide +kernel)
set_option maxRecDepth 20000 in
theorem ggX14_teach_X14_read_wsX14_read_r8 : GoodIn wsX14_teach wsX14_read_r8 := goodIn_rr wsB_X14_teach_in _ [(8, 7), (8, 8), (8, 9), (8, 10), (8, 11), (8, 12), (8, 13), (8, 14), (8, 15), (8, 16), (8, 17), (8, 18), (8, 19), (8, 20), (8, 21), (8, 22), (8, 23), (9, 0), (9, 1), (9, 2), (9, 3), (9, 4), (9, 5), (9, 6)] (by decide +kernel) (by decide +kernel)
set_option maxRecDepth 20000 in
theorem ggX14_teach_X14_read_wsX14_read_r9 : GoodIn wsX14_teach wsX14_read_r9 := goodIn_rr wsB_X14_teach_in _ [(9, 7), (9, 8), (9, 9), (9, 10), (9, 11), (9, 12), (9, 13), (9, 14), (9, 15), (9, 16), (9, 17), (9, 18), (9, 19), (9, 20), (9, 21), (9, 22), (9, 23), (10, 0), (10, 1), (10, 2), (10, 3), (10, 4), (10, 5), (10, 6)] (by decide +kernel) (by decide +kernel)
set_option maxRecDepth 20000 in
theorem ggX14_teach_X14_read_wsX14_read_r10 : GoodIn wsX14_teach wsX14_read_r10 := goodIn_rr wsB_X14_teach_in _ [(10, 7), (10, 8), (10, 9), (10, 10), (10, 11), (10, 12), (10, 13), (10, 14), (10, 15), (10, 16), (10, 17), (10, 18), (10, 19), (10, 20), (10, 21), (10, 22), (10, 23), (11, 0), (11, 1), (11, 2), (11, 3), (11, 4), (11, 5), (11, 6)] (by decide +kernel) (by decide +kernel)
set_option maxRecDepth 20000 in
theorem ggX14_teach_X14_read_wsX14_read_r11 : GoodIn wsX14_teach wsX14_read_r11 := goodIn_rr wsB_X14_teach_in _ [(11, 7), (11, 8), (11, 9), (11, 10), (11, 11), (11, 12), (11, 13), (11, 14), (11, 15), (11, 16), (11, 17), (11, 18), (11, 19), (11, 20), (11, 21), (11, 22), (11, 23), (12, 0), (12, 1), (12, 2), (12, 3), (12, 4), (12, 5), (12, 6)] (by decide +kernel) (by decide +kernel)
set_option maxRecDepth 20000 in
theorem ggX14_teach_X14_read_wsX14_read_r12 : GoodIn wsX14_teach wsX14_read_r12 := goodIn_rr wsB_X14_teach_in _ [(12, 7), (12, 8), (12, 9), (12, 10), (12, 11), (12, 12), (12, 13), (12, 14), (12, 15), (12, 16), (12, 17), (12, 18), (12, 19), (12, 20)] (by decide +kernel) (by decide +kernel)
set_option maxRecDepth 20000 in
theorem ggX14_teach_X14_read_wsX130 : GoodIn wsX14_teach wsX130 := goodIn_rr wsB_X14_teach_in _ [(15, 0), (15, 1), (15, 2), (15, 3), (15, 4), (15, 5), (15, 6), (15, 7), (15, 8), (15, 9), (15, 10), (15, 11), (15, 12), (15, 13), (15, 14), (15, 15), (15, 16), (15, 17), (15, 18), (15, 19), (15, 20), (15, 21), (15, 22), (15, 23), (15, 24)] (by decide +kernel) (by decide +kernel)
set_option maxRecDepth 20000 in
theorem ggX14_teach_X14_read_wsX140 : GoodIn wsX14_teach wsX140 := goodIn_rr wsB_X14_teach_in _ [(14, 0), (14, 1), (14, 2), (14, 3), (14, 4), (14, 5), (14, 6), (14, 7), (14, 8), (14, 9), (14, 10), (14, 11), (14, 12), (14, 13), (14, 14)] (by decide +kernel) (by decide +kernel)
set_option maxRecDepth 20000 in
theorem ggX14_teach_X14_read : GoodIn wsX14_teach wsX14_read := goodIn_c1 ggX14_teach_X14_read_c (goodIn_app (goodIn_app (goodIn_app ggX14_teach_X14_read_wsX14_read_r1 (goodIn_app ggX14_teach_X14_read_wsX14_read_r2 (goodIn_app ggX14_teach_X14_read_wsX14_read_r3 (goodIn_app ggX14_teach_X14_read_wsX14_read_r4 (goodIn_app ggX14_teach_X14_read_wsX14_read_r5 (goodIn_app ggX14_teach_X14_read_wsX14_read_r6 (goodIn_app ggX14_teach_X14_read_wsX14_read_r7 (goodIn_app ggX14_teach_X14_read_wsX14_read_r8 (goodIn_app ggX14_teach_X14_read_wsX14_read_r9 (goodIn_app ggX14_teach_X14_read_wsX14_read_r10 (goodIn_app ggX14_teach_X14_read_wsX14_read_r11 ggX14_teach_X14_read_wsX14_read_r12))))))))))) ggX14_teach_X14_read_wsX130) ggX14_teach_X14_read_wsX140)
set_option maxRecDepth 20000 in
theorem gX14_teach_X14_read : GoodIn wsX14_teach (wsV RX14 279 RX14 yX14_read wsX14_read) := goodIn_app (goodIn_rr wsB_X14_teach_in _ [(1, 6), (1, 7), (1, 8), (1, 9)] (by decide +kernel) (by decide +kernel)) ggX14_teach_X14_read
set_option maxRecDepth 20000 in
theorem ggX14_teach_X12_begin : GoodIn wsX14_teach wsX12_begin := goodIn_2 24 (goodIn_rr wsB_X14_teach_in _ [(13, 1), (13, 2), (13, 3), (13, 4), (13, 5), (13, 6), (13, 7), (13, 8), (13, 9), (13, 10), (13, 11), (13, 12), (13, 13), (13, 14), (13, 15), (13, 16), (13, 17), (13, 18), (13, 0), (13, 19), (13, 20), (13, 21), (13, 22), (13, 23)] (by decide +kernel) (by decide +kernel)) (goodIn_2 24 (goodIn_rr wsB_X14_teach_in _ [(16, 0), (16, 1), (16, 2), (16, 3), (16, 4), (16, 5), (16, 6), (16, 7), (16, 8), (16, 9), (16, 10), (16, 11), (16, 12), (16, 13), (16, 14), (16, 15), (16, 16), (16, 17), (16, 18), (14, 0), (14, 1), (14, 2), (14, 3), (14, 4)] (by decide +kernel) (by decide +kernel)) (goodIn_2 24 (goodIn_rr wsB_X14_teach_in _ [(14, 5), (14, 6), (14, 7), (14, 8), (14, 9), (14, 10), (14, 11), (14, 12), (14, 13), (14, 14), (15, 0), (15, 1), (15, 2), (15, 3), (15, 4), (15, 5), (15, 6), (15, 7), (15, 8), (15, 9), (15, 10), (15, 11), (15, 12), (15, 13)] (by decide +kernel) (by decide +kernel)) (goodIn_rr wsB_X14_teach_in _ [(15, 14), (15, 15), (15, 16), (15, 17), (15, 18), (15, 19), (15, 20), (15, 21), (15, 22), (15, 23), (15, 24)] (by decide +kernel) (by decide +kernel))))
set_option maxRecDepth 20000 in
theorem gX14_teach_X12_begin : GoodIn wsX14_teach (wsV RX14 54 RX12 yX12_begin wsX12_begin) := goodIn_app (goodIn_rr wsB_X14_teach_in _ [(12, 21), (12, 22), (12, 23), (13, 0)] (by decide +kernel) (by decide +kernel)) ggX14_teach_X12_begin
theorem k_X14_teach_f57 : Cond.fieldLink RX14 57 "TideLotsModel" "thrown" "I" ∈ wsX14_teach := by decide +kernel
theorem i_X14_teach_X14 : ∀ w ∈ u_ws RX14 TX14 15, w ∈ wsX14_teach := by decide +kernel
theorem k_X14_teach_f13 : Cond.fieldLink RX14 13 "TideLotsModel" "errorAt" "I" ∈ wsX14_teach := by decide +kernel
theorem k_X14_teach_f79 : Cond.fieldLink RX14 79 "TideLotsModel" "size" "I" ∈ wsX14_teach := by decide +kernel
theorem k_X14_teach_f39 : Cond.fieldLink RX14 39 "TideLotsModel" "reading" "LTideLotsModel$Told;" ∈ wsX14_teach := by decide +kernel
theorem k_X14_teach_f35 : Cond.fieldLink RX14 35 "TideLotsModel" "told" "LTideLotsModel$Told;" ∈ wsX14_teach := by decide +kernel
theorem k_X14_teach_f47 : Cond.fieldLink RX14 47 "TideLotsModel" "s" "LTideLotsModel$State;" ∈ wsX14_teach := by decide +kernel
abbrev rX14_teach : Room := { frames := 72, cells := 18, slots := 1478, locals := 2730 }
noncomputable def b_X14_teach_0 (Z : Nat → Nat) (M : gMem) (x0 : Nat) : Option (Int32 × gMem) :=
  ck (mT M x0 = 13) <| lw (wI M x0 0 ((0 : Int32))) fun M2 => lw (wI M2 x0 3 ((-1 : Int32))) fun M4 => bd (f_X14_read Z M4 x0) fun r6 M6 => ck (mT M6 x0 = 13) <| lw (wI M6 x0 2 ((0 : Int32))) fun M8 => (if r6 ≤ 0 then lw (wR M8 x0 11 ((mR M8 x0 12))) fun M10 => dr ((mR M10 x0 13)) fun a13 => ck (mT M10 a13 = 11) <| bd (f_X12_begin M10 a13) fun _ M12 => some ((0 : Int32), M12) else some (r6, M8))
noncomputable def f_X14_teach (Z : Nat → Nat) (M : gMem) (x0 : Nat) : Option (Int32 × gMem) :=
  b_X14_teach_0 Z M x0
set_option maxHeartbeats 4000000 in
set_option maxRecDepth 100000 in
theorem t_X14_teach_0 (X2 : gX p s m args meth c D cy B (gSt2 Z B H0) RX14 cX14_teach wsX14_teach 2) (hr : meth.sig.returnType = (some .int)) {Q : State → Prop} : ∀ (M : gMem) (x0 : Nat) (z : Int32 × gMem), b_X14_teach_0 Z M x0 = some z → (fun (r : Int32 × gMem) => Q = gMQ below D cy B H0 args s 18 1478 (some (vI r.1)) r.2) z → gGo p l e rX14_teach s m args below meth c D cy B H0 2 0 0 Q 0 [(0, vR (some x0))] [] M := by
  intro M x0 z hf hK
  unfold b_X14_teach_0 at hf
  have X := gX_w X2
  refine g_aload_n X dX14_teach_0 rfl rfl ?_
  refine g_iconst (v := (0 : Int32)) X dX14_teach_1 (by decide) ?_
  obtain ⟨hT1, hf⟩ := ck_e hf
  refine g_putI (ci := 12) 0 X cdX14 i_X14_teach_X14 (by decide) k_X14_teach_f57 rfl dX14_teach_2 rfl hT1 (Or.inl rfl) rfl rfl rfl ?_
  obtain ⟨M2, hM2, hf⟩ := lw_e hf
  rw [← hM2]
  have hT3 : mT M2 x0 = 13 := by rw [hM2]; exact hT1
  refine g_aload_n X dX14_teach_5 rfl rfl ?_
  refine g_iconst (v := (-1 : Int32)) X dX14_teach_6 (by decide) ?_
  refine g_putI (ci := 12) 3 X cdX14 i_X14_teach_X14 (by decide) k_X14_teach_f13 rfl dX14_teach_7 rfl hT3 (Or.inl rfl) rfl rfl rfl ?_
  obtain ⟨M4, hM4, hf⟩ := lw_e hf
  rw [← hM4]
  have hT5 : mT M4 x0 = 13 := by rw [hM4]; exact hT3
  refine g_aload_n X dX14_teach_10 rfl rfl ?_
  obtain ⟨r6, M6, hq6, hf⟩ := bd_e hf
  refine g_callV (ci := 12) (b := x0) (As := []) (st := []) (v := some (vI r6)) (M1 := M6) X2 (m_X14_read l hq6) (cwV 0 X.2.2.1 gX14_teach_X14_read rfl rfl rfl (by decide +kernel) ⟨Nat.le_of_ble_eq_true rfl, Nat.le_of_ble_eq_true rfl⟩) rfl rfl rfl hT5 (by decide) rfl (Nat.le_of_ble_eq_true rfl) dX14_teach_11 ⟨by decide, by decide⟩ ?_
  refine g_istore_n (lv' := [(1, vI r6), (0, vR (some x0))]) X dX14_teach_14 rfl (by decide) rfl ?_
  refine g_aload_n X dX14_teach_15 rfl rfl ?_
  refine g_iconst (v := (0 : Int32)) X dX14_teach_16 (by decide) ?_
  obtain ⟨hT7, hf⟩ := ck_e hf
  refine g_putI (ci := 12) 2 X cdX14 i_X14_teach_X14 (by decide) k_X14_teach_f79 rfl dX14_teach_17 rfl hT7 (Or.inl rfl) rfl rfl rfl ?_
  obtain ⟨M8, hM8, hf⟩ := lw_e hf
  rw [← hM8]
  have hT9 : mT M8 x0 = 13 := by rw [hM8]; exact hT7
  refine g_iload_n X dX14_teach_20 rfl rfl ?_
  refine g_if_le (tgt := 26) X dX14_teach_21 (by decide) (fun hc => ?_) (fun hc => ?_)
  · have hf := ife_t hc hf
    refine g_aload_n X dX14_teach_26 rfl rfl ?_
    refine g_aload_n X dX14_teach_27 rfl rfl ?_
    refine g_get (ci := 12) (v := vR (mR M8 x0 12)) 12 X cdX14 i_X14_teach_X14 (by decide) k_X14_teach_f39 rfl dX14_teach_28 rfl hT9 rfl ?_
    refine g_putR (ci := 12) 11 X cdX14 i_X14_teach_X14 (by decide) k_X14_teach_f35 rfl dX14_teach_31 rfl hT9 (Or.inl rfl) (gnO _ _) (gfO _ _) rfl ?_
    obtain ⟨M10, hM10, hf⟩ := lw_e hf
    rw [← hM10]
    have hT11 : mT M10 x0 = 13 := by rw [hM10]; exact hT9
    refine g_aload_n X dX14_teach_34 rfl rfl ?_
    refine g_get (ci := 12) (v := vR (mR M10 x0 13)) 13 X cdX14 i_X14_teach_X14 (by decide) k_X14_teach_f47 rfl dX14_teach_35 rfl hT11 rfl ?_
    obtain ⟨a13, ha13, hf⟩ := dr_e hf
    obtain ⟨hT14, hf⟩ := ck_e hf
    obtain ⟨r12, M12, hq12, hf⟩ := bd_e hf
    refine g_callV (ci := 10) (b := a13) (As := []) (st := []) (v := none) (M1 := M12) X2 (m_X12_begin l hq12) (cwV 0 X.2.2.1 gX14_teach_X12_begin rfl rfl rfl (by decide +kernel) ⟨Nat.le_of_ble_eq_true rfl, Nat.le_of_ble_eq_true rfl⟩) rfl rfl ha13 hT14 (by decide) rfl (Nat.le_of_ble_eq_true rfl) dX14_teach_38 ⟨by decide, by decide⟩ ?_
    refine g_iconst (v := (0 : Int32)) X dX14_teach_41 (by decide) ?_
    cases hf
    refine g_eqQ hK ?_
    exact g_iret X hr dX14_teach_42
  · have hf := ife_f hc hf
    refine g_iload_n X dX14_teach_24 rfl rfl ?_
    cases hf
    refine g_eqQ hK ?_
    refine g_wide (k' := 18) (n' := 1478) (by decide) (by decide) ?_
    exact g_iret X hr dX14_teach_25
set_option maxHeartbeats 4000000 in
set_option maxRecDepth 100000 in
theorem m_X14_teach (l : Launch) {D : va_G} {cy : Nat → ClassId} {B : Nat} {H0 : Heap} {Z : Nat → Nat} {M M1 : gMem} {x0 : Nat} {r : Int32} (hf : f_X14_teach Z M x0 = some (r, M1)) : Met l yX14_teach wsX14_teach rX14_teach (va_Pc (Value.ref x0 :: List.map gv []) (gPre D cy B H0 (gSt2 Z B H0) M)) (gQ D cy B H0 (some (vI r)) M1) 18 1478 (gA B) := by
  refine Met.ofW (cc := cX14_teach) (maxL := 2) (ret := (some .int)) (by decide) rfl ?_
  intro p e s m args below meth c s₁ Bd hml hv
  obtain ⟨rfl, hW, hKK, hFs⟩ := hv
  have X2 : gX p s m _ meth c D cy B (gSt2 Z B H0) RX14 cX14_teach wsX14_teach 2 := ⟨Bd.exec, Bd.bytes, atoms_spec (ws := wsX14_teach) Bd.pre, findClass_of_methodNamed Bd.named, hml, hKK, by rw [hW.1]; exact hW.2.1, Bd.notSynchronized, hFs⟩
  have hr := Bd.returns
  have hl := lv_entry ([.ref x0]) (n := 2) (Nat.le_of_ble_eq_true rfl)
  show W p l e rX14_teach s m _ below meth c s.heap [] 0 0 _ (entryFrame m ([.ref x0] : List Value).toArray 2)
  rw [lg_entry_eq]
  generalize (lg_sl ([.ref x0]) ++ List.replicate (2 - (lg_sl ([.ref x0])).length) Slot.unset).toArray = ls at hl ⊢
  have hl : lv_has ls 2 (List.map gq [(0, vR (some x0))]) := hl
  exact t_X14_teach_0 X2 hr _ _ _ hf rfl s.heap [] ls hW va_S.rf (lv_has_sub hl (lvsub_of _ _ [0] rfl))
end
