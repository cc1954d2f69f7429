section
variable {p : Program} {l : Launch} {e : Env} {s : State} {m : MethodId} {args : Array Value} {below : List Frame} {meth : Method} {c : Code} {D : va_G} {cy : Nat → ClassId} {B : Nat} {H0 : Heap} {Z : Nat → Nat}
/-! ## TideLotsModel.isProduct()Z -/
theorem dX14_isProduct_0 : decode cX14_isProduct 0 = .ok (.aload_n 0, 1) := by decide +kernel
theorem dX14_isProduct_1 : decode cX14_isProduct 1 = .ok (.invokevirtual 208, 3) := by decide +kernel
theorem dX14_isProduct_4 : decode cX14_isProduct 4 = .ok (.ifCond .ne 5, 3) := by decide +kernel
theorem dX14_isProduct_7 : decode cX14_isProduct 7 = .ok (.iconst 0, 1) := by decide +kernel
theorem dX14_isProduct_8 : decode cX14_isProduct 8 = .ok (.ireturn, 1) := by decide +kernel
theorem dX14_isProduct_9 : decode cX14_isProduct 9 = .ok (.aload_n 0, 1) := by decide +kernel
theorem dX14_isProduct_10 : decode cX14_isProduct 10 = .ok (.bipush 42, 2) := by decide +kernel
theorem dX14_isProduct_12 : decode cX14_isProduct 12 = .ok (.invokevirtual 199, 3) := by decide +kernel
theorem dX14_isProduct_15 : decode cX14_isProduct 15 = .ok (.ifCond .ne 12, 3) := by decide +kernel
theorem dX14_isProduct_18 : decode cX14_isProduct 18 = .ok (.aload_n 0, 1) := by decide +kernel
theorem dX14_isProduct_19 : decode cX14_isProduct 19 = .ok (.bipush 47, 2) := by decide +kernel
theorem dX14_isProduct_21 : decode cX14_isProduct 21 = .ok (.invokevirtual 199, 3) := by decide +kernel
theorem dX14_isProduct_24 : decode cX14_isProduct 24 = .ok (.ifCond .eq 47, 3) := by decide +kernel
theorem dX14_isProduct_27 : decode cX14_isProduct 27 = .ok (.aload_n 0, 1) := by decide +kernel
theorem dX14_isProduct_28 : decode cX14_isProduct 28 = .ok (.bipush 42, 2) := by decide +kernel
theorem dX14_isProduct_30 : decode cX14_isProduct 30 = .ok (.invokevirtual 199, 3) := by decide +kernel
theorem dX14_isProduct_33 : decode cX14_isProduct 33 = .ok (.ifCond .eq 8, 3) := by decide +kernel
theorem dX14_isProduct_36 : decode cX14_isProduct 36 = .ok (.bipush 34, 2) := by decide +kernel
theorem dX14_isProduct_38 : decode cX14_isProduct 38 = .ok (.goto 5, 3) := by decide +kernel
theorem dX14_isProduct_41 : decode cX14_isProduct 41 = .ok (.bipush 35, 2) := by decide +kernel
theorem dX14_isProduct_43 : decode cX14_isProduct 43 = .ok (.istore_n 1, 1) := by decide +kernel
theorem dX14_isProduct_44 : decode cX14_isProduct 44 = .ok (.aload_n 0, 1) := by decide +kernel
theorem dX14_isProduct_45 : decode cX14_isProduct 45 = .ok (.dup, 1) := by decide +kernel
theorem dX14_isProduct_46 : decode cX14_isProduct 46 = .ok (.getfield 118, 3) := by decide +kernel
theorem dX14_isProduct_49 : decode cX14_isProduct 49 = .ok (.iconst 1, 1) := by decide +kernel
theorem dX14_isProduct_50 : decode cX14_isProduct 50 = .ok (.iadd, 1) := by decide +kernel
theorem dX14_isProduct_51 : decode cX14_isProduct 51 = .ok (.putfield 118, 3) := by decide +kernel
theorem dX14_isProduct_54 : decode cX14_isProduct 54 = .ok (.aload_n 0, 1) := by decide +kernel
theorem dX14_isProduct_55 : decode cX14_isProduct 55 = .ok (.invokevirtual 208, 3) := by decide +kernel
theorem dX14_isProduct_58 : decode cX14_isProduct 58 = .ok (.ifCond .ne 5, 3) := by decide +kernel
theorem dX14_isProduct_61 : decode cX14_isProduct 61 = .ok (.iconst 0, 1) := by decide +kernel
theorem dX14_isProduct_62 : decode cX14_isProduct 62 = .ok (.ireturn, 1) := by decide +kernel
theorem dX14_isProduct_63 : decode cX14_isProduct 63 = .ok (.aload_n 0, 1) := by decide +kernel
theorem dX14_isProduct_64 : decode cX14_isProduct 64 = .ok (.iload_n 1, 1) := by decide +kernel
theorem dX14_isProduct_65 : decode cX14_isProduct 65 = .ok (.invokevirtual 180, 3) := by decide +kernel
theorem dX14_isProduct_68 : decode cX14_isProduct 68 = .ok (.goto (-59), 3) := by decide +kernel
theorem dX14_isProduct_71 : decode cX14_isProduct 71 = .ok (.iconst 1, 1) := by decide +kernel
theorem dX14_isProduct_72 : decode cX14_isProduct 72 = .ok (.ireturn, 1) := by decide +kernel
set_option maxRecDepth 20000 in
theorem ggX14_isProduct_X14_isValue : GoodIn wsX14_isProduct wsX14_isValue := goodIn_2 24 (goodIn_rr wsB_X14_isProduct_in _ [(1, 19), (1, 0), (1, 20), (1, 9), (1, 21), (1, 22), (1, 23), (1, 4), (2, 0), (1, 10), (1, 11), (1, 12), (1, 13), (1, 14), (2, 1), (2, 2), (2, 3), (2, 4), (2, 5), (2, 6), (2, 7), (2, 8), (2, 9), (2, 10)] (by decide +kernel) (by decide +kernel)) (goodIn_2 24 (goodIn_rr wsB_X14_isProduct_in _ [(2, 11), (2, 12), (2, 13), (2, 14), (2, 15), (2, 16), (2, 17), (2, 18), (2, 19), (2, 20), (1, 5), (1, 6), (1, 7), (1, 8), (2, 21), (2, 22), (2, 23), (3, 0), (1, 1), (1, 2), (1, 3), (3, 1), (3, 2), (3, 3)] (by decide +kernel) (by decide +kernel)) (goodIn_2 24 (goodIn_rr wsB_X14_isProduct_in _ [(3, 4), (3, 5), (3, 6), (3, 7), (0, 0), (1, 15), (1, 16), (1, 17), (1, 18), (4, 0), (4, 1), (4, 2), (4, 3), (4, 4), (4, 5), (4, 6), (4, 7), (4, 8), (4, 9), (4, 10), (4, 11), (4, 12), (4, 13), (4, 14)] (by decide +kernel) (by decide +kernel)) (goodIn_2 24 (goodIn_rr wsB_X14_isProduct_in _ [(5, 0), (5, 1), (5, 2), (5, 3), (5, 4), (5, 5), (5, 6), (5, 7), (5, 8), (5, 9), (5, 10), (5, 11), (5, 12), (5, 13), (5, 14), (5, 15), (5, 16), (5, 17), (5, 18), (5, 19), (5, 20), (5, 21), (5, 22), (5, 23)] (by decide +kernel) (by decide +kernel)) (goodIn_rr wsB_X14_isProduct_in _ [(5, 24)] (by decide +kernel) (by decide +kernel)))))
set_option maxRecDepth 20000 in
theorem gX14_isProduct_X14_isValue : GoodIn wsX14_isProduct (wsV RX14 208 RX14 yX14_isValue wsX14_isValue) := goodIn_app (goodIn_rr wsB_X14_isProduct_in _ [(1, 1), (1, 2), (1, 3), (1, 4)] (by decide +kernel) (by decide +kernel)) ggX14_isProduct_X14_isValue
set_option maxRecDepth 20000 in
theorem ggX14_isProduct_X14_put : GoodIn wsX14_isProduct wsX14_put := goodIn_2 24 (goodIn_rr wsB_X14_isProduct_in _ [(1, 13), (1, 14), (4, 0), (4, 1), (4, 2), (4, 3), (4, 4), (4, 5), (4, 6), (4, 7), (4, 8), (4, 9), (4, 10), (4, 11), (4, 12), (4, 13), (4, 14), (5, 0), (5, 1), (5, 2), (5, 3), (5, 4), (5, 5), (5, 6)] (by decide +kernel) (by decide +kernel)) (goodIn_rr wsB_X14_isProduct_in _ [(5, 7), (5, 8), (5, 9), (5, 10), (5, 11), (5, 12), (5, 13), (5, 14), (5, 15), (5, 16), (5, 17), (5, 18), (5, 19), (5, 20), (5, 21), (5, 22), (5, 23), (5, 24)] (by decide +kernel) (by decide +kernel))
set_option maxRecDepth 20000 in
theorem gX14_isProduct_X14_put : GoodIn wsX14_isProduct (wsV RX14 180 RX14 yX14_put wsX14_put) := goodIn_app (goodIn_rr wsB_X14_isProduct_in _ [(1, 10), (1, 11), (1, 12), (1, 4)] (by decide +kernel) (by decide +kernel)) ggX14_isProduct_X14_put
set_option maxRecDepth 20000 in
theorem ggX14_isProduct_X14_isSign : GoodIn wsX14_isProduct wsX14_isSign := goodIn_rr wsB_X14_isProduct_in _ [(1, 8), (1, 9), (1, 0), (4, 0), (4, 1), (4, 2), (4, 3), (4, 4), (4, 5), (4, 6), (4, 7), (4, 8), (4, 9), (4, 10), (4, 11), (4, 12), (4, 13), (4, 14)] (by decide +kernel) (by decide +kernel)
set_option maxRecDepth 20000 in
theorem gX14_isProduct_X14_isSign : GoodIn wsX14_isProduct (wsV RX14 199 RX14 yX14_isSign wsX14_isSign) := goodIn_app (goodIn_rr wsB_X14_isProduct_in _ [(1, 5), (1, 6), (1, 7), (1, 4)] (by decide +kernel) (by decide +kernel)) ggX14_isProduct_X14_isSign
theorem k_X14_isProduct_f118 : Cond.fieldLink RX14 118 "TideLotsModel" "token" "I" ∈ wsX14_isProduct := by decide +kernel
theorem i_X14_isProduct_X14 : ∀ w ∈ u_ws RX14 TX14 15, w ∈ wsX14_isProduct := by decide +kernel
noncomputable def b_X14_isProduct_43 (F : Nat → gMem → Nat → Option (Int32 × gMem)) (M : gMem) (x0 : Nat) (s0 : Int32) : Option ((gMem) ⊕ (Int32 × gMem)) :=
  ck (mT M x0 = 13) <| lw (wI M x0 9 (((mI M x0 9) + (1 : Int32)))) fun M2 => bd (F 5 M2 x0) fun r4 M4 => (if r4 = 0 then oI (some ((0 : Int32), M4)) else ck (mT M4 x0 = 13) <| bd (f_X14_put M4 x0 s0) fun _ M5 => some (.inl M5))
noncomputable def b_X14_isProduct_27 (F : Nat → gMem → Nat → Option (Int32 × gMem)) (M : gMem) (x0 : Nat) : Option ((gMem) ⊕ (Int32 × gMem)) :=
  ck (mT M x0 = 13) <| bd (f_X14_isSign M x0 ((42 : Int32))) fun r8 M8 => (if r8 = 0 then b_X14_isProduct_43 F M8 x0 ((35 : Int32)) else b_X14_isProduct_43 F M8 x0 ((34 : Int32)))
noncomputable def bb_X14_isProduct_9 (F : Nat → gMem → Nat → Option (Int32 × gMem)) (M : gMem) (x0 : Nat) : Option ((gMem) ⊕ (Int32 × gMem)) :=
  ck (mT M x0 = 13) <| bd (f_X14_isSign M x0 ((42 : Int32))) fun r10 M10 => (if r10 = 0 then ck (mT M10 x0 = 13) <| bd (f_X14_isSign M10 x0 ((47 : Int32))) fun r12 M12 => (if r12 = 0 then oI (some ((1 : Int32), M12)) else b_X14_isProduct_27 F M12 x0) else b_X14_isProduct_27 F M10 x0)
noncomputable def lp_X14_isProduct_9 (F : Nat → gMem → Nat → Option (Int32 × gMem)) (M : gMem) (x0 : Nat) : Option (Int32 × gMem) :=
  lp (fun (q : gMem) => bb_X14_isProduct_9 F q x0) M
noncomputable def b_X14_isProduct_0 (F : Nat → gMem → Nat → Option (Int32 × gMem)) (M : gMem) (x0 : Nat) : Option (Int32 × gMem) :=
  ck (mT M x0 = 13) <| bd (F 5 M x0) fun r15 M15 => (if r15 = 0 then some ((0 : Int32), M15) else lp_X14_isProduct_9 F M15 x0)
noncomputable def fr_X14_isProduct (F : Nat → gMem → Nat → Option (Int32 × gMem)) (M : gMem) (x0 : Nat) : Option (Int32 × gMem) :=
  b_X14_isProduct_0 F M x0
set_option maxHeartbeats 4000000 in
set_option maxRecDepth 100000 in
theorem t_X14_isProduct_43 (X : gX p s m args meth c D cy B (gSt Z B H0) RX14 cX14_isProduct wsX14_isProduct 2) (hr : meth.sig.returnType = (some .boolean)) {n0 : Nat} {F : Nat → gMem → Nat → Option (Int32 × gMem)} (hF : hX14R l D cy B H0 Z n0 F) {Q : State → Prop} : ∀ (M : gMem) (x0 : Nat) (s0 : Int32) (z : (gMem) ⊕ (Int32 × gMem)), b_X14_isProduct_43 F M x0 s0 = some z → (Sum.elim (fun (q : gMem) => gGo p l e (rX14R (n0 + 1)) s m args below meth c D cy B H0 2 0 0 Q 9 [(0, vR (some x0))] [] q) (fun (r : Int32 × gMem) => Q = gMQ below D cy B H0 args s 0 0 (some (vI r.1)) r.2)) z → gGo p l e (rX14R (n0 + 1)) s m args below meth c D cy B H0 2 0 0 Q 43 [(0, vR (some x0))] [vI s0] M := by
  intro M x0 s0 z hf hK
  unfold b_X14_isProduct_43 at hf
  refine g_istore_n (lv' := [(1, vI s0), (0, vR (some x0))]) X dX14_isProduct_43 rfl (by decide) rfl ?_
  refine g_aload_n X dX14_isProduct_44 rfl rfl ?_
  refine g_dup X dX14_isProduct_45 rfl ?_
  obtain ⟨hT1, hf⟩ := ck_e hf
  refine g_get (ci := 12) (v := vI (mI M x0 9)) 9 X cdX14 i_X14_isProduct_X14 (by decide) k_X14_isProduct_f118 rfl dX14_isProduct_46 rfl hT1 rfl ?_
  refine g_iconst (v := (1 : Int32)) X dX14_isProduct_49 (by decide) ?_
  refine g_iadd X dX14_isProduct_50 ?_
  refine g_putI (ci := 12) 9 X cdX14 i_X14_isProduct_X14 (by decide) k_X14_isProduct_f118 rfl dX14_isProduct_51 rfl hT1 (Or.inl rfl) rfl rfl rfl ?_
  obtain ⟨M2, hM2, hf⟩ := lw_e hf
  rw [← hM2]
  have hT3 : mT M2 x0 = 13 := by rw [hM2]; exact hT1
  refine g_aload_n X dX14_isProduct_54 rfl rfl ?_
  obtain ⟨r4, M4, hq4, hf⟩ := bd_e hf
  refine g_callV (ci := 12) (b := x0) (As := []) (st := []) (v := some (vI r4)) (M1 := M4) X (hF.2.2.2.2.2 _ _ _ _ hq4) (cwV 0 X.2.2.1 gX14_isProduct_X14_isValue rfl rfl rfl (by decide +kernel) ⟨rX14R_rf, rX14R_rl (Nat.le_of_ble_eq_true rfl)⟩) rfl rfl rfl hT3 (by decide) rfl (Nat.le_of_ble_eq_true rfl) dX14_isProduct_55 ⟨Nat.zero_le _, Nat.zero_le _⟩ ?_
  refine g_if_ne (tgt := 63) X dX14_isProduct_58 (by decide) (fun hc => ?_) (fun hc => ?_)
  · have hf := ife_f hc hf
    refine g_aload_n X dX14_isProduct_63 rfl rfl ?_
    refine g_iload_n X dX14_isProduct_64 rfl rfl ?_
    obtain ⟨hT6, hf⟩ := ck_e hf
    obtain ⟨r5, M5, hq5, hf⟩ := bd_e hf
    refine g_callV (ci := 12) (b := x0) (As := [vI s0]) (st := []) (v := none) (M1 := M5) X (m_X14_put l hq5) (cwV 1 X.2.2.1 gX14_isProduct_X14_put rfl rfl rfl (by decide +kernel) ⟨rX14R_f (Nat.le_of_ble_eq_true rfl), rX14R_l (Nat.le_of_ble_eq_true rfl)⟩) rfl rfl rfl hT6 (by decide) rfl (Nat.le_of_ble_eq_true rfl) dX14_isProduct_65 ⟨Nat.zero_le _, Nat.zero_le _⟩ ?_
    refine g_goto (tgt := 9) X dX14_isProduct_68 (by decide) ?_
    cases hf
    refine g_sub (lvsub_of _ _ [1] rfl) ?_
    exact hK
  · have hf := ife_t hc hf
    refine g_iconst (v := (0 : Int32)) X dX14_isProduct_61 (by decide) ?_
    obtain ⟨w7, hw7, hz7⟩ := oI_e hf
    subst hz7
    have hf := hw7
    cases hf
    refine g_eqQ hK ?_
    exact g_zret X hr (gnb (Or.inl rfl)) dX14_isProduct_62
set_option maxHeartbeats 4000000 in
set_option maxRecDepth 100000 in
theorem t_X14_isProduct_27 (X : gX p s m args meth c D cy B (gSt Z B H0) RX14 cX14_isProduct wsX14_isProduct 2) (hr : meth.sig.returnType = (some .boolean)) {n0 : Nat} {F : Nat → gMem → Nat → Option (Int32 × gMem)} (hF : hX14R l D cy B H0 Z n0 F) {Q : State → Prop} : ∀ (M : gMem) (x0 : Nat) (z : (gMem) ⊕ (Int32 × gMem)), b_X14_isProduct_27 F M x0 = some z → (Sum.elim (fun (q : gMem) => gGo p l e (rX14R (n0 + 1)) s m args below meth c D cy B H0 2 0 0 Q 9 [(0, vR (some x0))] [] q) (fun (r : Int32 × gMem) => Q = gMQ below D cy B H0 args s 0 0 (some (vI r.1)) r.2)) z → gGo p l e (rX14R (n0 + 1)) s m args below meth c D cy B H0 2 0 0 Q 27 [(0, vR (some x0))] [] M := by
  intro M x0 z hf hK
  unfold b_X14_isProduct_27 at hf
  refine g_aload_n X dX14_isProduct_27 rfl rfl ?_
  refine g_bipush (v := (42 : Int32)) X dX14_isProduct_28 (by decide) ?_
  obtain ⟨hT9, hf⟩ := ck_e hf
  obtain ⟨r8, M8, hq8, hf⟩ := bd_e hf
  refine g_callV (ci := 12) (b := x0) (As := [vI (42 : Int32)]) (st := []) (v := some (vI r8)) (M1 := M8) X (m_X14_isSign l hq8) (cwV 1 X.2.2.1 gX14_isProduct_X14_isSign rfl rfl rfl (by decide +kernel) ⟨rX14R_f (Nat.le_of_ble_eq_true rfl), rX14R_l (Nat.le_of_ble_eq_true rfl)⟩) rfl rfl rfl hT9 (by decide) rfl (Nat.le_of_ble_eq_true rfl) dX14_isProduct_30 ⟨Nat.zero_le _, Nat.zero_le _⟩ ?_
  refine g_if_eq (tgt := 41) X dX14_isProduct_33 (by decide) (fun hc => ?_) (fun hc => ?_)
  · have hf := ife_t hc hf
    refine g_bipush (v := (35 : Int32)) X dX14_isProduct_41 (by decide) ?_
    refine g_sub (lvsub_of _ _ [0] rfl) ?_
    exact t_X14_isProduct_43 X hr hF _ _ _ _ hf hK
  · have hf := ife_f hc hf
    refine g_bipush (v := (34 : Int32)) X dX14_isProduct_36 (by decide) ?_
    refine g_goto (tgt := 43) X dX14_isProduct_38 (by decide) ?_
    refine g_sub (lvsub_of _ _ [0] rfl) ?_
    exact t_X14_isProduct_43 X hr hF _ _ _ _ hf hK
set_option maxHeartbeats 4000000 in
set_option maxRecDepth 100000 in
theorem tb_X14_isProduct_9 (X : gX p s m args meth c D cy B (gSt Z B H0) RX14 cX14_isProduct wsX14_isProduct 2) (hr : meth.sig.returnType = (some .boolean)) {n0 : Nat} {F : Nat → gMem → Nat → Option (Int32 × gMem)} (hF : hX14R l D cy B H0 Z n0 F) {Q : State → Prop} : ∀ (M : gMem) (x0 : Nat) (z : (gMem) ⊕ (Int32 × gMem)), bb_X14_isProduct_9 F M x0 = some z → (Sum.elim (fun (q : gMem) => gGo p l e (rX14R (n0 + 1)) s m args below meth c D cy B H0 2 0 0 Q 9 [(0, vR (some x0))] [] q) (fun (r : Int32 × gMem) => Q = gMQ below D cy B H0 args s 0 0 (some (vI r.1)) r.2)) z → gGo p l e (rX14R (n0 + 1)) s m args below meth c D cy B H0 2 0 0 Q 9 [(0, vR (some x0))] [] M := by
  intro M x0 z hf hK
  unfold bb_X14_isProduct_9 at hf
  refine g_aload_n X dX14_isProduct_9 rfl rfl ?_
  refine g_bipush (v := (42 : Int32)) X dX14_isProduct_10 (by decide) ?_
  obtain ⟨hT11, hf⟩ := ck_e hf
  obtain ⟨r10, M10, hq10, hf⟩ := bd_e hf
  refine g_callV (ci := 12) (b := x0) (As := [vI (42 : Int32)]) (st := []) (v := some (vI r10)) (M1 := M10) X (m_X14_isSign l hq10) (cwV 1 X.2.2.1 gX14_isProduct_X14_isSign rfl rfl rfl (by decide +kernel) ⟨rX14R_f (Nat.le_of_ble_eq_true rfl), rX14R_l (Nat.le_of_ble_eq_true rfl)⟩) rfl rfl rfl hT11 (by decide) rfl (Nat.le_of_ble_eq_true rfl) dX14_isProduct_12 ⟨Nat.zero_le _, Nat.zero_le _⟩ ?_
  refine g_if_ne (tgt := 27) X dX14_isProduct_15 (by decide) (fun hc => ?_) (fun hc => ?_)
  · have hf := ife_f hc hf
    refine g_sub (lvsub_of _ _ [0] rfl) ?_
    exact t_X14_isProduct_27 X hr hF _ _ _ hf hK
  · have hf := ife_t hc hf
    refine g_aload_n X dX14_isProduct_18 rfl rfl ?_
    refine g_bipush (v := (47 : Int32)) X dX14_isProduct_19 (by decide) ?_
    obtain ⟨hT13, hf⟩ := ck_e hf
    obtain ⟨r12, M12, hq12, hf⟩ := bd_e hf
    refine g_callV (ci := 12) (b := x0) (As := [vI (47 : Int32)]) (st := []) (v := some (vI r12)) (M1 := M12) X (m_X14_isSign l hq12) (cwV 1 X.2.2.1 gX14_isProduct_X14_isSign rfl rfl rfl (by decide +kernel) ⟨rX14R_f (Nat.le_of_ble_eq_true rfl), rX14R_l (Nat.le_of_ble_eq_true rfl)⟩) rfl rfl rfl hT13 (by decide) rfl (Nat.le_of_ble_eq_true rfl) dX14_isProduct_21 ⟨Nat.zero_le _, Nat.zero_le _⟩ ?_
    refine g_if_eq (tgt := 71) X dX14_isProduct_24 (by decide) (fun hc => ?_) (fun hc => ?_)
    · have hf := ife_t hc hf
      refine g_iconst (v := (1 : Int32)) X dX14_isProduct_71 (by decide) ?_
      obtain ⟨w14, hw14, hz14⟩ := oI_e hf
      subst hz14
      have hf := hw14
      cases hf
      refine g_eqQ hK ?_
      exact g_zret X hr (gnb (Or.inr rfl)) dX14_isProduct_72
    · have hf := ife_f hc hf
      refine g_sub (lvsub_of _ _ [0] rfl) ?_
      exact t_X14_isProduct_27 X hr hF _ _ _ hf hK
set_option maxHeartbeats 4000000 in
set_option maxRecDepth 100000 in
theorem tl_X14_isProduct_9 (X : gX p s m args meth c D cy B (gSt Z B H0) RX14 cX14_isProduct wsX14_isProduct 2) (hr : meth.sig.returnType = (some .boolean)) {n0 : Nat} {F : Nat → gMem → Nat → Option (Int32 × gMem)} (hF : hX14R l D cy B H0 Z n0 F) {Q : State → Prop} : ∀ (M : gMem) (x0 : Nat) (z : Int32 × gMem), lp_X14_isProduct_9 F M x0 = some z → (fun (r : Int32 × gMem) => Q = gMQ below D cy B H0 args s 0 0 (some (vI r.1)) r.2) z → gGo p l e (rX14R (n0 + 1)) s m args below meth c D cy B H0 2 0 0 Q 9 [(0, vR (some x0))] [] M := by
  intro M x0 z hf hK
  refine lp_ind (P := (fun (q : gMem) (z : Int32 × gMem) => (fun (r : Int32 × gMem) => Q = gMQ below D cy B H0 args s 0 0 (some (vI r.1)) r.2) z → gGo p l e (rX14R (n0 + 1)) s m args below meth c D cy B H0 2 0 0 Q 9 [(0, vR (some x0))] [] q)) (fun q z hq => ?_) _ _ hf hK
  intro hK
  obtain ⟨w, hw, hm⟩ := hq
  refine tb_X14_isProduct_9 X hr hF _ _ w hw ?_
  cases w with
  | inl a => exact hm hK
  | inr b => cases hm; exact hK
set_option maxHeartbeats 4000000 in
set_option maxRecDepth 100000 in
theorem t_X14_isProduct_0 (X : gX p s m args meth c D cy B (gSt Z B H0) RX14 cX14_isProduct wsX14_isProduct 2) (hr : meth.sig.returnType = (some .boolean)) {n0 : Nat} {F : Nat → gMem → Nat → Option (Int32 × gMem)} (hF : hX14R l D cy B H0 Z n0 F) {Q : State → Prop} : ∀ (M : gMem) (x0 : Nat) (z : Int32 × gMem), b_X14_isProduct_0 F M x0 = some z → (fun (r : Int32 × gMem) => Q = gMQ below D cy B H0 args s 0 0 (some (vI r.1)) r.2) z → gGo p l e (rX14R (n0 + 1)) s m args below meth c D cy B H0 2 0 0 Q 0 [(0, vR (some x0))] [] M := by
  intro M x0 z hf hK
  unfold b_X14_isProduct_0 at hf
  refine g_aload_n X dX14_isProduct_0 rfl rfl ?_
  obtain ⟨hT16, hf⟩ := ck_e hf
  obtain ⟨r15, M15, hq15, hf⟩ := bd_e hf
  refine g_callV (ci := 12) (b := x0) (As := []) (st := []) (v := some (vI r15)) (M1 := M15) X (hF.2.2.2.2.2 _ _ _ _ hq15) (cwV 0 X.2.2.1 gX14_isProduct_X14_isValue rfl rfl rfl (by decide +kernel) ⟨rX14R_rf, rX14R_rl (Nat.le_of_ble_eq_true rfl)⟩) rfl rfl rfl hT16 (by decide) rfl (Nat.le_of_ble_eq_true rfl) dX14_isProduct_1 ⟨Nat.zero_le _, Nat.zero_le _⟩ ?_
  refine g_if_ne (tgt := 9) X dX14_isProduct_4 (by decide) (fun hc => ?_) (fun hc => ?_)
  · have hf := ife_f hc hf
    refine g_sub (lvsub_of _ _ [0] rfl) ?_
    exact tl_X14_isProduct_9 X hr hF _ _ _ hf hK
  · have hf := ife_t hc hf
    refine g_iconst (v := (0 : Int32)) X dX14_isProduct_7 (by decide) ?_
    cases hf
    refine g_eqQ hK ?_
    exact g_zret X hr (gnb (Or.inl rfl)) dX14_isProduct_8
set_option maxHeartbeats 4000000 in
set_option maxRecDepth 100000 in
theorem mr_X14_isProduct (l : Launch) {D : va_G} {cy : Nat → ClassId} {B : Nat} {H0 : Heap} {Z : Nat → Nat} {M M1 : gMem} {n0 : Nat} {F : Nat → gMem → Nat → Option (Int32 × gMem)} (hF : hX14R l D cy B H0 Z n0 F) {x0 : Nat} {r : Int32} (hf : fr_X14_isProduct F M x0 = some (r, M1)) : Met l yX14_isProduct wsX14_isProduct (rX14R (n0 + 1)) (va_Pc (Value.ref x0 :: List.map gv []) (gPre D cy B H0 (gSt Z B H0) M)) (gQ D cy B H0 (some (vI r)) M1) 0 0 (gA B) := by
  refine Met.ofW (cc := cX14_isProduct) (maxL := 2) (ret := (some .boolean)) (by decide) rfl ?_
  intro p e s m args below meth c s₁ Bd hml hv
  obtain ⟨rfl, hW, hKK, hFs⟩ := hv
  have X : gX p s m _ meth c D cy B (gSt Z B H0) RX14 cX14_isProduct wsX14_isProduct 2 := ⟨Bd.exec, Bd.bytes, atoms_spec (ws := wsX14_isProduct) Bd.pre, findClass_of_methodNamed Bd.named, hml, hKK, by rw [hW.1]; exact hW.2.1, Bd.notSynchronized, hFs⟩
  have hr := Bd.returns
  have hl := lv_entry ([.ref x0]) (n := 2) (Nat.le_of_ble_eq_true rfl)
  show W p l e (rX14R (n0 + 1)) s m _ below meth c s.heap [] 0 0 _ (entryFrame m ([.ref x0] : List Value).toArray 2)
  rw [lg_entry_eq]
  generalize (lg_sl ([.ref x0]) ++ List.replicate (2 - (lg_sl ([.ref x0])).length) Slot.unset).toArray = ls at hl ⊢
  have hl : lv_has ls 2 (List.map gq [(0, vR (some x0))]) := hl
  exact t_X14_isProduct_0 X hr hF _ _ _ hf rfl s.heap [] ls hW va_S.rf (lv_has_sub hl (lvsub_of _ _ [0] rfl))
/-! ## TideLotsModel.isValue()Z -/
theorem dX14_isValue_0 : decode cX14_isValue 0 = .ok (.aload_n 0, 1) := by decide +kernel
theorem dX14_isValue_1 : decode cX14_isValue 1 = .ok (.bipush 41, 2) := by decide +kernel
theorem dX14_isValue_3 : decode cX14_isValue 3 = .ok (.invokevirtual 121, 3) := by decide +kernel
theorem dX14_isValue_6 : decode cX14_isValue 6 = .ok (.ifCond .eq 33, 3) := by decide +kernel
theorem dX14_isValue_9 : decode cX14_isValue 9 = .ok (.aload_n 0, 1) := by decide +kernel
theorem dX14_isValue_10 : decode cX14_isValue 10 = .ok (.bipush 30, 2) := by decide +kernel
theorem dX14_isValue_12 : decode cX14_isValue 12 = .ok (.invokevirtual 180, 3) := by decide +kernel
theorem dX14_isValue_15 : decode cX14_isValue 15 = .ok (.aload_n 0, 1) := by decide +kernel
theorem dX14_isValue_16 : decode cX14_isValue 16 = .ok (.aload_n 0, 1) := by decide +kernel
theorem dX14_isValue_17 : decode cX14_isValue 17 = .ok (.aload_n 0, 1) := by decide +kernel
theorem dX14_isValue_18 : decode cX14_isValue 18 = .ok (.getfield 118, 3) := by decide +kernel
theorem dX14_isValue_21 : decode cX14_isValue 21 = .ok (.invokevirtual 211, 3) := by decide +kernel
theorem dX14_isValue_24 : decode cX14_isValue 24 = .ok (.invokevirtual 180, 3) := by decide +kernel
theorem dX14_isValue_27 : decode cX14_isValue 27 = .ok (.aload_n 0, 1) := by decide +kernel
theorem dX14_isValue_28 : decode cX14_isValue 28 = .ok (.dup, 1) := by decide +kernel
theorem dX14_isValue_29 : decode cX14_isValue 29 = .ok (.getfield 118, 3) := by decide +kernel
theorem dX14_isValue_32 : decode cX14_isValue 32 = .ok (.iconst 1, 1) := by decide +kernel
theorem dX14_isValue_33 : decode cX14_isValue 33 = .ok (.iadd, 1) := by decide +kernel
theorem dX14_isValue_34 : decode cX14_isValue 34 = .ok (.putfield 118, 3) := by decide +kernel
theorem dX14_isValue_37 : decode cX14_isValue 37 = .ok (.iconst 1, 1) := by decide +kernel
theorem dX14_isValue_38 : decode cX14_isValue 38 = .ok (.ireturn, 1) := by decide +kernel
theorem dX14_isValue_39 : decode cX14_isValue 39 = .ok (.aload_n 0, 1) := by decide +kernel
theorem dX14_isValue_40 : decode cX14_isValue 40 = .ok (.bipush 15, 2) := by decide +kernel
theorem dX14_isValue_42 : decode cX14_isValue 42 = .ok (.invokevirtual 121, 3) := by decide +kernel
theorem dX14_isValue_45 : decode cX14_isValue 45 = .ok (.ifCond .eq 21, 3) := by decide +kernel
theorem dX14_isValue_48 : decode cX14_isValue 48 = .ok (.aload_n 0, 1) := by decide +kernel
theorem dX14_isValue_49 : decode cX14_isValue 49 = .ok (.bipush 15, 2) := by decide +kernel
theorem dX14_isValue_51 : decode cX14_isValue 51 = .ok (.invokevirtual 180, 3) := by decide +kernel
theorem dX14_isValue_54 : decode cX14_isValue 54 = .ok (.aload_n 0, 1) := by decide +kernel
theorem dX14_isValue_55 : decode cX14_isValue 55 = .ok (.dup, 1) := by decide +kernel
theorem dX14_isValue_56 : decode cX14_isValue 56 = .ok (.getfield 118, 3) := by decide +kernel
theorem dX14_isValue_59 : decode cX14_isValue 59 = .ok (.iconst 1, 1) := by decide +kernel
theorem dX14_isValue_60 : decode cX14_isValue 60 = .ok (.iadd, 1) := by decide +kernel
theorem dX14_isValue_61 : decode cX14_isValue 61 = .ok (.putfield 118, 3) := by decide +kernel
theorem dX14_isValue_64 : decode cX14_isValue 64 = .ok (.iconst 1, 1) := by decide +kernel
theorem dX14_isValue_65 : decode cX14_isValue 65 = .ok (.ireturn, 1) := by decide +kernel
theorem dX14_isValue_66 : decode cX14_isValue 66 = .ok (.aload_n 0, 1) := by decide +kernel
theorem dX14_isValue_67 : decode cX14_isValue 67 = .ok (.bipush 16, 2) := by decide +kernel
theorem dX14_isValue_69 : decode cX14_isValue 69 = .ok (.invokevirtual 121, 3) := by decide +kernel
theorem dX14_isValue_72 : decode cX14_isValue 72 = .ok (.ifCond .ne 20, 3) := by decide +kernel
theorem dX14_isValue_75 : decode cX14_isValue 75 = .ok (.aload_n 0, 1) := by decide +kernel
theorem dX14_isValue_76 : decode cX14_isValue 76 = .ok (.bipush 17, 2) := by decide +kernel
theorem dX14_isValue_78 : decode cX14_isValue 78 = .ok (.invokevirtual 121, 3) := by decide +kernel
theorem dX14_isValue_81 : decode cX14_isValue 81 = .ok (.ifCond .ne 11, 3) := by decide +kernel
theorem dX14_isValue_84 : decode cX14_isValue 84 = .ok (.aload_n 0, 1) := by decide +kernel
theorem dX14_isValue_85 : decode cX14_isValue 85 = .ok (.iconst 4, 1) := by decide +kernel
theorem dX14_isValue_86 : decode cX14_isValue 86 = .ok (.invokevirtual 121, 3) := by decide +kernel
theorem dX14_isValue_89 : decode cX14_isValue 89 = .ok (.ifCond .eq 10, 3) := by decide +kernel
theorem dX14_isValue_92 : decode cX14_isValue 92 = .ok (.aload_n 0, 1) := by decide +kernel
theorem dX14_isValue_93 : decode cX14_isValue 93 = .ok (.bipush 14, 2) := by decide +kernel
theorem dX14_isValue_95 : decode cX14_isValue 95 = .ok (.invokevirtual 202, 3) := by decide +kernel
theorem dX14_isValue_98 : decode cX14_isValue 98 = .ok (.ireturn, 1) := by decide +kernel
theorem dX14_isValue_99 : decode cX14_isValue 99 = .ok (.aload_n 0, 1) := by decide +kernel
theorem dX14_isValue_100 : decode cX14_isValue 100 = .ok (.iconst 2, 1) := by decide +kernel
theorem dX14_isValue_101 : decode cX14_isValue 101 = .ok (.invokevirtual 121, 3) := by decide +kernel
theorem dX14_isValue_104 : decode cX14_isValue 104 = .ok (.ifCond .ne 12, 3) := by decide +kernel
theorem dX14_isValue_107 : decode cX14_isValue 107 = .ok (.aload_n 0, 1) := by decide +kernel
theorem dX14_isValue_108 : decode cX14_isValue 108 = .ok (.bipush 18, 2) := by decide +kernel
theorem dX14_isValue_110 : decode cX14_isValue 110 = .ok (.invokevirtual 121, 3) := by decide +kernel
theorem dX14_isValue_113 : decode cX14_isValue 113 = .ok (.ifCond .eq 10, 3) := by decide +kernel
theorem dX14_isValue_116 : decode cX14_isValue 116 = .ok (.aload_n 0, 1) := by decide +kernel
theorem dX14_isValue_117 : decode cX14_isValue 117 = .ok (.bipush 15, 2) := by decide +kernel
theorem dX14_isValue_119 : decode cX14_isValue 119 = .ok (.invokevirtual 202, 3) := by decide +kernel
theorem dX14_isValue_122 : decode cX14_isValue 122 = .ok (.ireturn, 1) := by decide +kernel
theorem dX14_isValue_123 : decode cX14_isValue 123 = .ok (.aload_n 0, 1) := by decide +kernel
theorem dX14_isValue_124 : decode cX14_isValue 124 = .ok (.bipush 45, 2) := by decide +kernel
theorem dX14_isValue_126 : decode cX14_isValue 126 = .ok (.invokevirtual 199, 3) := by decide +kernel
theorem dX14_isValue_129 : decode cX14_isValue 129 = .ok (.ifCond .eq 37, 3) := by decide +kernel
theorem dX14_isValue_132 : decode cX14_isValue 132 = .ok (.aload_n 0, 1) := by decide +kernel
theorem dX14_isValue_133 : decode cX14_isValue 133 = .ok (.invokevirtual 196, 3) := by decide +kernel
theorem dX14_isValue_136 : decode cX14_isValue 136 = .ok (.ifCond .eq 10, 3) := by decide +kernel
theorem dX14_isValue_139 : decode cX14_isValue 139 = .ok (.aload_n 0, 1) := by decide +kernel
theorem dX14_isValue_140 : decode cX14_isValue 140 = .ok (.invokevirtual 208, 3) := by decide +kernel
theorem dX14_isValue_143 : decode cX14_isValue 143 = .ok (.ifCond .ne 5, 3) := by decide +kernel
theorem dX14_isValue_146 : decode cX14_isValue 146 = .ok (.iconst 0, 1) := by decide +kernel
theorem dX14_isValue_147 : decode cX14_isValue 147 = .ok (.ireturn, 1) := by decide +kernel
theorem dX14_isValue_148 : decode cX14_isValue 148 = .ok (.aload_n 0, 1) := by decide +kernel
theorem dX14_isValue_149 : decode cX14_isValue 149 = .ok (.dup, 1) := by decide +kernel
theorem dX14_isValue_150 : decode cX14_isValue 150 = .ok (.getfield 187, 3) := by decide +kernel
theorem dX14_isValue_153 : decode cX14_isValue 153 = .ok (.iconst 1, 1) := by decide +kernel
theorem dX14_isValue_154 : decode cX14_isValue 154 = .ok (.isub, 1) := by decide +kernel
theorem dX14_isValue_155 : decode cX14_isValue 155 = .ok (.putfield 187, 3) := by decide +kernel
theorem dX14_isValue_158 : decode cX14_isValue 158 = .ok (.aload_n 0, 1) := by decide +kernel
theorem dX14_isValue_159 : decode cX14_isValue 159 = .ok (.bipush 31, 2) := by decide +kernel
theorem dX14_isValue_161 : decode cX14_isValue 161 = .ok (.invokevirtual 180, 3) := by decide +kernel
theorem dX14_isValue_164 : decode cX14_isValue 164 = .ok (.iconst 1, 1) := by decide +kernel
theorem dX14_isValue_165 : decode cX14_isValue 165 = .ok (.ireturn, 1) := by decide +kernel
theorem dX14_isValue_166 : decode cX14_isValue 166 = .ok (.aload_n 0, 1) := by decide +kernel
theorem dX14_isValue_167 : decode cX14_isValue 167 = .ok (.getfield 17, 3) := by decide +kernel
theorem dX14_isValue_170 : decode cX14_isValue 170 = .ok (.aload_n 0, 1) := by decide +kernel
theorem dX14_isValue_171 : decode cX14_isValue 171 = .ok (.getfield 118, 3) := by decide +kernel
theorem dX14_isValue_174 : decode cX14_isValue 174 = .ok (.iaload, 1) := by decide +kernel
theorem dX14_isValue_175 : decode cX14_isValue 175 = .ok (.istore_n 1, 1) := by decide +kernel
theorem dX14_isValue_176 : decode cX14_isValue 176 = .ok (.aload_n 0, 1) := by decide +kernel
theorem dX14_isValue_177 : decode cX14_isValue 177 = .ok (.bipush 23, 2) := by decide +kernel
theorem dX14_isValue_179 : decode cX14_isValue 179 = .ok (.invokevirtual 124, 3) := by decide +kernel
theorem dX14_isValue_182 : decode cX14_isValue 182 = .ok (.ifCond .ne 12, 3) := by decide +kernel
theorem dX14_isValue_185 : decode cX14_isValue 185 = .ok (.aload_n 0, 1) := by decide +kernel
theorem dX14_isValue_186 : decode cX14_isValue 186 = .ok (.bipush 24, 2) := by decide +kernel
theorem dX14_isValue_188 : decode cX14_isValue 188 = .ok (.invokevirtual 124, 3) := by decide +kernel
theorem dX14_isValue_191 : decode cX14_isValue 191 = .ok (.ifCond .eq 7, 3) := by decide +kernel
theorem dX14_isValue_194 : decode cX14_isValue 194 = .ok (.iconst 1, 1) := by decide +kernel
theorem dX14_isValue_195 : decode cX14_isValue 195 = .ok (.goto 4, 3) := by decide +kernel
theorem dX14_isValue_198 : decode cX14_isValue 198 = .ok (.iconst 0, 1) := by decide +kernel
theorem dX14_isValue_199 : decode cX14_isValue 199 = .ok (.istore_n 2, 1) := by decide +kernel
theorem dX14_isValue_200 : decode cX14_isValue 200 = .ok (.aload_n 0, 1) := by decide +kernel
theorem dX14_isValue_201 : decode cX14_isValue 201 = .ok (.bipush 40, 2) := by decide +kernel
theorem dX14_isValue_203 : decode cX14_isValue 203 = .ok (.invokevirtual 199, 3) := by decide +kernel
theorem dX14_isValue_206 : decode cX14_isValue 206 = .ok (.ifCond .eq 37, 3) := by decide +kernel
theorem dX14_isValue_209 : decode cX14_isValue 209 = .ok (.aload_n 0, 1) := by decide +kernel
theorem dX14_isValue_210 : decode cX14_isValue 210 = .ok (.invokevirtual 196, 3) := by decide +kernel
theorem dX14_isValue_213 : decode cX14_isValue 213 = .ok (.ifCond .eq 30, 3) := by decide +kernel
theorem dX14_isValue_216 : decode cX14_isValue 216 = .ok (.aload_n 0, 1) := by decide +kernel
theorem dX14_isValue_217 : decode cX14_isValue 217 = .ok (.invokevirtual 171, 3) := by decide +kernel
theorem dX14_isValue_220 : decode cX14_isValue 220 = .ok (.ifCond .eq 23, 3) := by decide +kernel
theorem dX14_isValue_223 : decode cX14_isValue 223 = .ok (.iload_n 2, 1) := by decide +kernel
theorem dX14_isValue_224 : decode cX14_isValue 224 = .ok (.ifCond .eq 21, 3) := by decide +kernel
theorem dX14_isValue_227 : decode cX14_isValue 227 = .ok (.aload_n 0, 1) := by decide +kernel
theorem dX14_isValue_228 : decode cX14_isValue 228 = .ok (.bipush 44, 2) := by decide +kernel
theorem dX14_isValue_230 : decode cX14_isValue 230 = .ok (.invokevirtual 145, 3) := by decide +kernel
theorem dX14_isValue_233 : decode cX14_isValue 233 = .ok (.ifCond .eq 10, 3) := by decide +kernel
theorem dX14_isValue_236 : decode cX14_isValue 236 = .ok (.aload_n 0, 1) := by decide +kernel
theorem dX14_isValue_237 : decode cX14_isValue 237 = .ok (.invokevirtual 171, 3) := by decide +kernel
theorem dX14_isValue_240 : decode cX14_isValue 240 = .ok (.ifCond .ne 5, 3) := by decide +kernel
theorem dX14_isValue_243 : decode cX14_isValue 243 = .ok (.iconst 0, 1) := by decide +kernel
theorem dX14_isValue_244 : decode cX14_isValue 244 = .ok (.ireturn, 1) := by decide +kernel
theorem dX14_isValue_245 : decode cX14_isValue 245 = .ok (.aload_n 0, 1) := by decide +kernel
theorem dX14_isValue_246 : decode cX14_isValue 246 = .ok (.dup, 1) := by decide +kernel
theorem dX14_isValue_247 : decode cX14_isValue 247 = .ok (.getfield 187, 3) := by decide +kernel
theorem dX14_isValue_250 : decode cX14_isValue 250 = .ok (.iconst 1, 1) := by decide +kernel
theorem dX14_isValue_251 : decode cX14_isValue 251 = .ok (.isub, 1) := by decide +kernel
theorem dX14_isValue_252 : decode cX14_isValue 252 = .ok (.putfield 187, 3) := by decide +kernel
theorem dX14_isValue_255 : decode cX14_isValue 255 = .ok (.iload_n 2, 1) := by decide +kernel
theorem dX14_isValue_256 : decode cX14_isValue 256 = .ok (.ifCond .eq 8, 3) := by decide +kernel
theorem dX14_isValue_259 : decode cX14_isValue 259 = .ok (.aload_n 0, 1) := by decide +kernel
theorem dX14_isValue_260 : decode cX14_isValue 260 = .ok (.iload_n 1, 1) := by decide +kernel
theorem dX14_isValue_261 : decode cX14_isValue 261 = .ok (.invokevirtual 180, 3) := by decide +kernel
theorem dX14_isValue_264 : decode cX14_isValue 264 = .ok (.aload_n 0, 1) := by decide +kernel
theorem dX14_isValue_265 : decode cX14_isValue 265 = .ok (.bipush 41, 2) := by decide +kernel
theorem dX14_isValue_267 : decode cX14_isValue 267 = .ok (.invokevirtual 145, 3) := by decide +kernel
theorem dX14_isValue_270 : decode cX14_isValue 270 = .ok (.ireturn, 1) := by decide +kernel
set_option maxRecDepth 20000 in
theorem ggX14_isValue_X14_eatSign : GoodIn wsX14_isValue wsX14_eatSign := goodIn_rr wsB_X14_isValue_in _ [(3, 2), (2, 5), (2, 6), (2, 7), (1, 6), (2, 8), (1, 0), (1, 3), (1, 4), (1, 5), (1, 7), (1, 2), (4, 0), (4, 1), (4, 2), (4, 3), (4, 4), (4, 5), (4, 6), (4, 7), (4, 8), (4, 9), (4, 10), (4, 11), (4, 12), (4, 13), (4, 14)] (by decide +kernel) (by decide +kernel)
set_option maxRecDepth 20000 in
theorem gX14_isValue_X14_eatSign : GoodIn wsX14_isValue (wsV RX14 145 RX14 yX14_eatSign wsX14_eatSign) := goodIn_app (goodIn_rr wsB_X14_isValue_in _ [(2, 23), (3, 0), (3, 1), (1, 6)] (by decide +kernel) (by decide +kernel)) ggX14_isValue_X14_eatSign
set_option maxRecDepth 20000 in
theorem ggX14_isValue_X14_put : GoodIn wsX14_isValue wsX14_put := goodIn_2 24 (goodIn_rr wsB_X14_isValue_in _ [(1, 11), (1, 12), (4, 0), (4, 1), (4, 2), (4, 3), (4, 4), (4, 5), (4, 6), (4, 7), (4, 8), (4, 9), (4, 10), (4, 11), (4, 12), (4, 13), (4, 14), (5, 0), (5, 1), (5, 2), (5, 3), (5, 4), (5, 5), (5, 6)] (by decide +kernel) (by decide +kernel)) (goodIn_rr wsB_X14_isValue_in _ [(5, 7), (5, 8), (5, 9), (5, 10), (5, 11), (5, 12), (5, 13), (5, 14), (5, 15), (5, 16), (5, 17), (5, 18), (5, 19), (5, 20), (5, 21), (5, 22), (5, 23), (5, 24)] (by decide +kernel) (by decide +kernel))
set_option maxRecDepth 20000 in
theorem gX14_isValue_X14_put : GoodIn wsX14_isValue (wsV RX14 180 RX14 yX14_put wsX14_put) := goodIn_app (goodIn_rr wsB_X14_isValue_in _ [(1, 8), (1, 9), (1, 10), (1, 6)] (by decide +kernel) (by decide +kernel)) ggX14_isValue_X14_put
set_option maxRecDepth 20000 in
theorem ggX14_isValue_X14_isSign : GoodIn wsX14_isValue wsX14_isSign := goodIn_rr wsB_X14_isValue_in _ [(2, 12), (1, 2), (1, 0), (4, 0), (4, 1), (4, 2), (4, 3), (4, 4), (4, 5), (4, 6), (4, 7), (4, 8), (4, 9), (4, 10), (4, 11), (4, 12), (4, 13), (4, 14)] (by decide +kernel) (by decide +kernel)
set_option maxRecDepth 20000 in
theorem gX14_isValue_X14_isSign : GoodIn wsX14_isValue (wsV RX14 199 RX14 yX14_isSign wsX14_isSign) := goodIn_app (goodIn_rr wsB_X14_isValue_in _ [(2, 9), (2, 10), (2, 11), (1, 6)] (by decide +kernel) (by decide +kernel)) ggX14_isValue_X14_isSign
set_option maxRecDepth 20000 in
theorem ggX14_isValue_X14_isDeeper : GoodIn wsX14_isValue wsX14_isDeeper := goodIn_rr wsB_X14_isValue_in _ [(2, 16), (1, 1), (1, 0), (4, 0), (4, 1), (4, 2), (4, 3), (4, 4), (4, 5), (4, 6), (4, 7), (4, 8), (4, 9), (4, 10), (4, 11), (4, 12), (4, 13), (4, 14)] (by decide +kernel) (by decide +kernel)
set_option maxRecDepth 20000 in
theorem gX14_isValue_X14_isDeeper : GoodIn wsX14_isValue (wsV RX14 196 RX14 yX14_isDeeper wsX14_isDeeper) := goodIn_app (goodIn_rr wsB_X14_isValue_in _ [(2, 13), (2, 14), (2, 15), (1, 6)] (by decide +kernel) (by decide +kernel)) ggX14_isValue_X14_isDeeper
set_option maxRecDepth 20000 in
theorem ggX14_isValue_X14_isSum : GoodIn wsX14_isValue wsX14_isSum := goodIn_2 24 (goodIn_rr wsB_X14_isValue_in _ [(3, 4), (1, 0), (3, 5), (3, 6), (3, 7), (1, 6), (2, 9), (2, 10), (2, 11), (2, 12), (1, 2), (1, 8), (1, 9), (1, 10), (1, 11), (1, 12), (3, 3), (2, 17), (2, 18), (2, 19), (0, 0), (1, 1), (1, 3), (1, 4)] (by decide +kernel) (by decide +kernel)) (goodIn_2 24 (goodIn_rr wsB_X14_isValue_in _ [(1, 5), (1, 7), (1, 13), (1, 14), (1, 15), (1, 16), (1, 17), (1, 18), (1, 19), (1, 20), (1, 21), (1, 22), (1, 23), (2, 0), (2, 1), (2, 2), (2, 3), (2, 4), (2, 5), (2, 6), (2, 7), (2, 8), (2, 13), (2, 14)] (by decide +kernel) (by decide +kernel)) (goodIn_2 24 (goodIn_rr wsB_X14_isValue_in _ [(2, 15), (2, 16), (2, 20), (2, 21), (2, 22), (2, 23), (3, 0), (3, 1), (3, 2), (4, 0), (4, 1), (4, 2), (4, 3), (4, 4), (4, 5), (4, 6), (4, 7), (4, 8), (4, 9), (4, 10), (4, 11), (4, 12), (4, 13), (4, 14)] (by decide +kernel) (by decide +kernel)) (goodIn_2 24 (goodIn_rr wsB_X14_isValue_in _ [(5, 0), (5, 1), (5, 2), (5, 3), (5, 4), (5, 5), (5, 6), (5, 7), (5, 8), (5, 9), (5, 10), (5, 11), (5, 12), (5, 13), (5, 14), (5, 15), (5, 16), (5, 17), (5, 18), (5, 19), (5, 20), (5, 21), (5, 22), (5, 23)] (by decide +kernel) (by decide +kernel)) (goodIn_rr wsB_X14_isValue_in _ [(5, 24)] (by decide +kernel) (by decide +kernel)))))
set_option maxRecDepth 20000 in
theorem gX14_isValue_X14_isSum : GoodIn wsX14_isValue (wsV RX14 171 RX14 yX14_isSum wsX14_isSum) := goodIn_app (goodIn_rr wsB_X14_isValue_in _ [(2, 20), (2, 21), (2, 22), (1, 6)] (by decide +kernel) (by decide +kernel)) ggX14_isValue_X14_isSum
set_option maxRecDepth 20000 in
theorem ggX14_isValue_X14_isNamed : GoodIn wsX14_isValue wsX14_isNamed := goodIn_2 24 (goodIn_rr wsB_X14_isValue_in _ [(1, 23), (1, 2), (1, 0), (1, 12), (1, 8), (1, 9), (1, 10), (1, 6), (1, 11), (2, 0), (2, 1), (2, 2), (2, 3), (2, 4), (2, 5), (2, 6), (2, 7), (2, 8), (1, 3), (1, 4), (1, 5), (1, 7), (4, 0), (4, 1)] (by decide +kernel) (by decide +kernel)) (goodIn_2 24 (goodIn_rr wsB_X14_isValue_in _ [(4, 2), (4, 3), (4, 4), (4, 5), (4, 6), (4, 7), (4, 8), (4, 9), (4, 10), (4, 11), (4, 12), (4, 13), (4, 14), (5, 0), (5, 1), (5, 2), (5, 3), (5, 4), (5, 5), (5, 6), (5, 7), (5, 8), (5, 9), (5, 10)] (by decide +kernel) (by decide +kernel)) (goodIn_rr wsB_X14_isValue_in _ [(5, 11), (5, 12), (5, 13), (5, 14), (5, 15), (5, 16), (5, 17), (5, 18), (5, 19), (5, 20), (5, 21), (5, 22), (5, 23), (5, 24)] (by decide +kernel) (by decide +kernel)))
set_option maxRecDepth 20000 in
theorem gX14_isValue_X14_isNamed : GoodIn wsX14_isValue (wsV RX14 202 RX14 yX14_isNamed wsX14_isNamed) := goodIn_app (goodIn_rr wsB_X14_isValue_in _ [(1, 20), (1, 21), (1, 22), (1, 6)] (by decide +kernel) (by decide +kernel)) ggX14_isValue_X14_isNamed
set_option maxRecDepth 20000 in
theorem ggX14_isValue_X14_is : GoodIn wsX14_isValue wsX14_is := goodIn_rr wsB_X14_isValue_in _ [(1, 7), (1, 2), (1, 0), (4, 0), (4, 1), (4, 2), (4, 3), (4, 4), (4, 5), (4, 6), (4, 7), (4, 8), (4, 9), (4, 10), (4, 11), (4, 12), (4, 13), (4, 14)] (by decide +kernel) (by decide +kernel)
set_option maxRecDepth 20000 in
theorem gX14_isValue_X14_is : GoodIn wsX14_isValue (wsV RX14 121 RX14 yX14_is wsX14_is) := goodIn_app (goodIn_rr wsB_X14_isValue_in _ [(1, 3), (1, 4), (1, 5), (1, 6)] (by decide +kernel) (by decide +kernel)) ggX14_isValue_X14_is
set_option maxRecDepth 20000 in
theorem ggX14_isValue_X14_eat : GoodIn wsX14_isValue wsX14_eat := goodIn_rr wsB_X14_isValue_in _ [(2, 8), (1, 0), (1, 3), (1, 4), (1, 5), (1, 6), (1, 7), (1, 2), (4, 0), (4, 1), (4, 2), (4, 3), (4, 4), (4, 5), (4, 6), (4, 7), (4, 8), (4, 9), (4, 10), (4, 11), (4, 12), (4, 13), (4, 14)] (by decide +kernel) (by decide +kernel)
set_option maxRecDepth 20000 in
theorem gX14_isValue_X14_eat : GoodIn wsX14_isValue (wsV RX14 124 RX14 yX14_eat wsX14_eat) := goodIn_app (goodIn_rr wsB_X14_isValue_in _ [(2, 5), (2, 6), (2, 7), (1, 6)] (by decide +kernel) (by decide +kernel)) ggX14_isValue_X14_eat
set_option maxRecDepth 20000 in
theorem ggX14_isValue_X14_isValue : GoodIn wsX14_isValue wsX14_isValue := goodIn_2 24 (goodIn_rr wsB_X14_isValue_in _ [(0, 0), (1, 0), (1, 1), (1, 2), (1, 3), (1, 4), (1, 5), (1, 6), (1, 7), (1, 8), (1, 9), (1, 10), (1, 11), (1, 12), (1, 13), (1, 14), (1, 15), (1, 16), (1, 17), (1, 18), (1, 19), (1, 20), (1, 21), (1, 22)] (by decide +kernel) (by decide +kernel)) (goodIn_2 24 (goodIn_rr wsB_X14_isValue_in _ [(1, 23), (2, 0), (2, 1), (2, 2), (2, 3), (2, 4), (2, 5), (2, 6), (2, 7), (2, 8), (2, 9), (2, 10), (2, 11), (2, 12), (2, 13), (2, 14), (2, 15), (2, 16), (2, 17), (2, 18), (2, 19), (2, 20), (2, 21), (2, 22)] (by decide +kernel) (by decide +kernel)) (goodIn_2 24 (goodIn_rr wsB_X14_isValue_in _ [(2, 23), (3, 0), (3, 1), (3, 2), (3, 3), (3, 4), (3, 5), (3, 6), (3, 7), (4, 0), (4, 1), (4, 2), (4, 3), (4, 4), (4, 5), (4, 6), (4, 7), (4, 8), (4, 9), (4, 10), (4, 11), (4, 12), (4, 13), (4, 14)] (by decide +kernel) (by decide +kernel)) (goodIn_2 24 (goodIn_rr wsB_X14_isValue_in _ [(5, 0), (5, 1), (5, 2), (5, 3), (5, 4), (5, 5), (5, 6), (5, 7), (5, 8), (5, 9), (5, 10), (5, 11), (5, 12), (5, 13), (5, 14), (5, 15), (5, 16), (5, 17), (5, 18), (5, 19), (5, 20), (5, 21), (5, 22), (5, 23)] (by decide +kernel) (by decide +kernel)) (goodIn_rr wsB_X14_isValue_in _ [(5, 24)] (by decide +kernel) (by decide +kernel)))))
set_option maxRecDepth 20000 in
theorem gX14_isValue_X14_isValue : GoodIn wsX14_isValue (wsV RX14 208 RX14 yX14_isValue wsX14_isValue) := goodIn_app (goodIn_rr wsB_X14_isValue_in _ [(2, 17), (2, 18), (2, 19), (1, 6)] (by decide +kernel) (by decide +kernel)) ggX14_isValue_X14_isValue
set_option maxRecDepth 20000 in
theorem ggX14_isValue_X14_numberAt : GoodIn wsX14_isValue wsX14_numberAt := goodIn_rr wsB_X14_isValue_in _ [(1, 16), (1, 17), (1, 18), (1, 19), (4, 0), (4, 1), (4, 2), (4, 3), (4, 4), (4, 5), (4, 6), (4, 7), (4, 8), (4, 9), (4, 10), (4, 11), (4, 12), (4, 13), (4, 14)] (by decide +kernel) (by decide +kernel)
set_option maxRecDepth 20000 in
theorem gX14_isValue_X14_numberAt : GoodIn wsX14_isValue (wsV RX14 211 RX14 yX14_numberAt wsX14_numberAt) := goodIn_app (goodIn_rr wsB_X14_isValue_in _ [(1, 13), (1, 14), (1, 15), (1, 6)] (by decide +kernel) (by decide +kernel)) ggX14_isValue_X14_numberAt
theorem k_X14_isValue_f187 : Cond.fieldLink RX14 187 "TideLotsModel" "depth" "I" ∈ wsX14_isValue := by decide +kernel
theorem i_X14_isValue_X14 : ∀ w ∈ u_ws RX14 TX14 15, w ∈ wsX14_isValue := by decide +kernel
theorem k_X14_isValue_f17 : Cond.fieldLink RX14 17 "TideLotsModel" "kind" "[I" ∈ wsX14_isValue := by decide +kernel
theorem k_X14_isValue_f118 : Cond.fieldLink RX14 118 "TideLotsModel" "token" "I" ∈ wsX14_isValue := by decide +kernel
noncomputable def b_X14_isValue_264 (F : Nat → gMem → Nat → Option (Int32 × gMem)) (M : gMem) (x0 : Nat) : Option (Int32 × gMem) :=
  ck (mT M x0 = 13) <| bd (f_X14_eatSign M x0 ((41 : Int32))) fun r1 M1 => ck (r1 = 0 ∨ r1 = 1) <| some (r1, M1)
noncomputable def b_X14_isValue_245 (F : Nat → gMem → Nat → Option (Int32 × gMem)) (M : gMem) (x0 : Nat) (x1 : Int32) (x2 : Int32) : Option (Int32 × gMem) :=
  ck (mT M x0 = 13) <| lw (wI M x0 10 (((mI M x0 10) - (1 : Int32)))) fun M5 => (if x2 = 0 then b_X14_isValue_264 F M5 x0 else bd (f_X14_put M5 x0 x1) fun _ M7 => b_X14_isValue_264 F M7 x0)
noncomputable def b_X14_isValue_243 (F : Nat → gMem → Nat → Option (Int32 × gMem)) (M : gMem)  : Option (Int32 × gMem) :=
  some ((0 : Int32), M)
noncomputable def b_X14_isValue_199 (F : Nat → gMem → Nat → Option (Int32 × gMem)) (M : gMem) (x0 : Nat) (x1 : Int32) (s0 : Int32) : Option (Int32 × gMem) :=
  ck (mT M x0 = 13) <| bd (f_X14_isSign M x0 ((40 : Int32))) fun r8 M8 => (if r8 = 0 then b_X14_isValue_243 F M8  else ck (mT M8 x0 = 13) <| bd (f_X14_isDeeper M8 x0) fun r10 M10 => (if r10 = 0 then b_X14_isValue_243 F M10  else ck (mT M10 x0 = 13) <| bd (F 3 M10 x0) fun r12 M12 => (if r12 = 0 then b_X14_isValue_243 F M12  else (if s0 = 0 then b_X14_isValue_245 F M12 x0 x1 s0 else ck (mT M12 x0 = 13) <| bd (f_X14_eatSign M12 x0 ((44 : Int32))) fun r14 M14 => (if r14 = 0 then b_X14_isValue_243 F M14  else ck (mT M14 x0 = 13) <| bd (F 3 M14 x0) fun r16 M16 => (if r16 = 0 then b_X14_isValue_243 F M16  else b_X14_isValue_245 F M16 x0 x1 s0))))))
noncomputable def b_X14_isValue_194 (F : Nat → gMem → Nat → Option (Int32 × gMem)) (M : gMem) (x0 : Nat) (x1 : Int32) : Option (Int32 × gMem) :=
  b_X14_isValue_199 F M x0 x1 ((1 : Int32))
noncomputable def b_X14_isValue_146 (F : Nat → gMem → Nat → Option (Int32 × gMem)) (M : gMem)  : Option (Int32 × gMem) :=
  some ((0 : Int32), M)
noncomputable def b_X14_isValue_116 (F : Nat → gMem → Nat → Option (Int32 × gMem)) (M : gMem) (x0 : Nat) : Option (Int32 × gMem) :=
  ck (mT M x0 = 13) <| bd (f_X14_isNamed M x0 ((15 : Int32))) fun r18 M18 => ck (r18 = 0 ∨ r18 = 1) <| some (r18, M18)
noncomputable def b_X14_isValue_92 (F : Nat → gMem → Nat → Option (Int32 × gMem)) (M : gMem) (x0 : Nat) : Option (Int32 × gMem) :=
  ck (mT M x0 = 13) <| bd (f_X14_isNamed M x0 ((14 : Int32))) fun r21 M21 => ck (r21 = 0 ∨ r21 = 1) <| some (r21, M21)
noncomputable def b_X14_isValue_0 (F : Nat → gMem → Nat → Option (Int32 × gMem)) (M : gMem) (x0 : Nat) : Option (Int32 × gMem) :=
  ck (mT M x0 = 13) <| bd (f_X14_is M x0 ((41 : Int32))) fun r24 M24 => (if r24 = 0 then ck (mT M24 x0 = 13) <| bd (f_X14_is M24 x0 ((15 : Int32))) fun r26 M26 => (if r26 = 0 then ck (mT M26 x0 = 13) <| bd (f_X14_is M26 x0 ((16 : Int32))) fun r28 M28 => (if r28 = 0 then ck (mT M28 x0 = 13) <| bd (f_X14_is M28 x0 ((17 : Int32))) fun r30 M30 => (if r30 = 0 then ck (mT M30 x0 = 13) <| bd (f_X14_is M30 x0 ((4 : Int32))) fun r32 M32 => (if r32 = 0 then ck (mT M32 x0 = 13) <| bd (f_X14_is M32 x0 ((2 : Int32))) fun r34 M34 => (if r34 = 0 then ck (mT M34 x0 = 13) <| bd (f_X14_is M34 x0 ((18 : Int32))) fun r36 M36 => (if r36 = 0 then ck (mT M36 x0 = 13) <| bd (f_X14_isSign M36 x0 ((45 : Int32))) fun r38 M38 => (if r38 = 0 then ck (mT M38 x0 = 13) <| dr ((mR M38 x0 4)) fun a41 => ck (mT M38 a41 = 20) <| ck (inb (mI M38 x0 9) (mL M38 a41)) <| bd (f_X14_eat M38 x0 ((23 : Int32))) fun r44 M44 => (if r44 = 0 then ck (mT M44 x0 = 13) <| bd (f_X14_eat M44 x0 ((24 : Int32))) fun r45 M45 => (if r45 = 0 then b_X14_isValue_199 F M45 x0 ((mI M38 a41 ((mI M38 x0 9)).toNatClampNeg)) ((0 : Int32)) else b_X14_isValue_194 F M45 x0 ((mI M38 a41 ((mI M38 x0 9)).toNatClampNeg))) else b_X14_isValue_194 F M44 x0 ((mI M38 a41 ((mI M38 x0 9)).toNatClampNeg))) else ck (mT M38 x0 = 13) <| bd (f_X14_isDeeper M38 x0) fun r47 M47 => (if r47 = 0 then b_X14_isValue_146 F M47  else ck (mT M47 x0 = 13) <| bd (F 5 M47 x0) fun r49 M49 => (if r49 = 0 then b_X14_isValue_146 F M49  else ck (mT M49 x0 = 13) <| lw (wI M49 x0 10 (((mI M49 x0 10) - (1 : Int32)))) fun M52 => bd (f_X14_put M52 x0 ((31 : Int32))) fun _ M54 => some ((1 : Int32), M54)))) else b_X14_isValue_116 F M36 x0) else b_X14_isValue_116 F M34 x0) else b_X14_isValue_92 F M32 x0) else b_X14_isValue_92 F M30 x0) else b_X14_isValue_92 F M28 x0) else ck (mT M26 x0 = 13) <| bd (f_X14_put M26 x0 ((15 : Int32))) fun _ M55 => ck (mT M55 x0 = 13) <| lw (wI M55 x0 9 (((mI M55 x0 9) + (1 : Int32)))) fun M58 => some ((1 : Int32), M58)) else ck (mT M24 x0 = 13) <| bd (f_X14_put M24 x0 ((30 : Int32))) fun _ M60 => ck (mT M60 x0 = 13) <| bd (f_X14_numberAt M60 x0 ((mI M60 x0 9))) fun r63 M63 => ck (mT M63 x0 = 13) <| bd (f_X14_put M63 x0 r63) fun _ M64 => ck (mT M64 x0 = 13) <| lw (wI M64 x0 9 (((mI M64 x0 9) + (1 : Int32)))) fun M67 => some ((1 : Int32), M67))
noncomputable def fr_X14_isValue (F : Nat → gMem → Nat → Option (Int32 × gMem)) (M : gMem) (x0 : Nat) : Option (Int32 × gMem) :=
  b_X14_isValue_0 F M x0
set_option maxHeartbeats 4000000 in
set_option maxRecDepth 100000 in
theorem t_X14_isValue_264 (X : gX p s m args meth c D cy B (gSt Z B H0) RX14 cX14_isValue wsX14_isValue 3) (hr : meth.sig.returnType = (some .boolean)) {n0 : Nat} {F : Nat → gMem → Nat → Option (Int32 × gMem)} (hF : hX14R l D cy B H0 Z n0 F) {Q : State → Prop} : ∀ (M : gMem) (x0 : Nat) (z : Int32 × gMem), b_X14_isValue_264 F M x0 = some z → (fun (r : Int32 × gMem) => Q = gMQ below D cy B H0 args s 0 0 (some (vI r.1)) r.2) z → gGo p l e (rX14R (n0 + 1)) s m args below meth c D cy B H0 3 0 0 Q 264 [(0, vR (some x0))] [] M := by
  intro M x0 z hf hK
  unfold b_X14_isValue_264 at hf
  refine g_aload_n X dX14_isValue_264 rfl rfl ?_
  refine g_bipush (v := (41 : Int32)) X dX14_isValue_265 (by decide) ?_
  obtain ⟨hT2, hf⟩ := ck_e hf
  obtain ⟨r1, M1, hq1, hf⟩ := bd_e hf
  refine g_callV (ci := 12) (b := x0) (As := [vI (41 : Int32)]) (st := []) (v := some (vI r1)) (M1 := M1) X (m_X14_eatSign l hq1) (cwV 1 X.2.2.1 gX14_isValue_X14_eatSign rfl rfl rfl (by decide +kernel) ⟨rX14R_f (Nat.le_of_ble_eq_true rfl), rX14R_l (Nat.le_of_ble_eq_true rfl)⟩) rfl rfl rfl hT2 (by decide) rfl (Nat.le_of_ble_eq_true rfl) dX14_isValue_267 ⟨Nat.zero_le _, Nat.zero_le _⟩ ?_
  obtain ⟨hg3, hf⟩ := ck_e hf
  cases hf
  refine g_eqQ hK ?_
  exact g_zret X hr (gnb hg3) dX14_isValue_270
set_option maxHeartbeats 4000000 in
set_option maxRecDepth 100000 in
theorem t_X14_isValue_245 (X : gX p s m args meth c D cy B (gSt Z B H0) RX14 cX14_isValue wsX14_isValue 3) (hr : meth.sig.returnType = (some .boolean)) {n0 : Nat} {F : Nat → gMem → Nat → Option (Int32 × gMem)} (hF : hX14R l D cy B H0 Z n0 F) {Q : State → Prop} : ∀ (M : gMem) (x0 : Nat) (x1 : Int32) (x2 : Int32) (z : Int32 × gMem), b_X14_isValue_245 F M x0 x1 x2 = some z → (fun (r : Int32 × gMem) => Q = gMQ below D cy B H0 args s 0 0 (some (vI r.1)) r.2) z → gGo p l e (rX14R (n0 + 1)) s m args below meth c D cy B H0 3 0 0 Q 245 [(0, vR (some x0)), (1, vI x1), (2, vI x2)] [] M := by
  intro M x0 x1 x2 z hf hK
  unfold b_X14_isValue_245 at hf
  refine g_aload_n X dX14_isValue_245 rfl rfl ?_
  refine g_dup X dX14_isValue_246 rfl ?_
  obtain ⟨hT4, hf⟩ := ck_e hf
  refine g_get (ci := 12) (v := vI (mI M x0 10)) 10 X cdX14 i_X14_isValue_X14 (by decide) k_X14_isValue_f187 rfl dX14_isValue_247 rfl hT4 rfl ?_
  refine g_iconst (v := (1 : Int32)) X dX14_isValue_250 (by decide) ?_
  refine g_isub X dX14_isValue_251 ?_
  refine g_putI (ci := 12) 10 X cdX14 i_X14_isValue_X14 (by decide) k_X14_isValue_f187 rfl dX14_isValue_252 rfl hT4 (Or.inl rfl) rfl rfl rfl ?_
  obtain ⟨M5, hM5, hf⟩ := lw_e hf
  rw [← hM5]
  have hT6 : mT M5 x0 = 13 := by rw [hM5]; exact hT4
  refine g_iload_n X dX14_isValue_255 rfl rfl ?_
  refine g_if_eq (tgt := 264) X dX14_isValue_256 (by decide) (fun hc => ?_) (fun hc => ?_)
  · have hf := ife_t hc hf
    refine g_sub (lvsub_of _ _ [0] rfl) ?_
    exact t_X14_isValue_264 X hr hF _ _ _ hf hK
  · have hf := ife_f hc hf
    refine g_aload_n X dX14_isValue_259 rfl rfl ?_
    refine g_iload_n X dX14_isValue_260 rfl rfl ?_
    obtain ⟨r7, M7, hq7, hf⟩ := bd_e hf
    refine g_callV (ci := 12) (b := x0) (As := [vI x1]) (st := []) (v := none) (M1 := M7) X (m_X14_put l hq7) (cwV 1 X.2.2.1 gX14_isValue_X14_put rfl rfl rfl (by decide +kernel) ⟨rX14R_f (Nat.le_of_ble_eq_true rfl), rX14R_l (Nat.le_of_ble_eq_true rfl)⟩) rfl rfl rfl hT6 (by decide) rfl (Nat.le_of_ble_eq_true rfl) dX14_isValue_261 ⟨Nat.zero_le _, Nat.zero_le _⟩ ?_
    refine g_sub (lvsub_of _ _ [0] rfl) ?_
    exact t_X14_isValue_264 X hr hF _ _ _ hf hK
set_option maxHeartbeats 4000000 in
set_option maxRecDepth 100000 in
theorem t_X14_isValue_243 (X : gX p s m args meth c D cy B (gSt Z B H0) RX14 cX14_isValue wsX14_isValue 3) (hr : meth.sig.returnType = (some .boolean)) {n0 : Nat} {F : Nat → gMem → Nat → Option (Int32 × gMem)} (hF : hX14R l D cy B H0 Z n0 F) {Q : State → Prop} : ∀ (M : gMem)  (z : Int32 × gMem), b_X14_isValue_243 F M  = some z → (fun (r : Int32 × gMem) => Q = gMQ below D cy B H0 args s 0 0 (some (vI r.1)) r.2) z → gGo p l e (rX14R (n0 + 1)) s m args below meth c D cy B H0 3 0 0 Q 243 [] [] M := by
  intro M  z hf hK
  unfold b_X14_isValue_243 at hf
  refine g_iconst (v := (0 : Int32)) X dX14_isValue_243 (by decide) ?_
  cases hf
  refine g_eqQ hK ?_
  exact g_zret X hr (gnb (Or.inl rfl)) dX14_isValue_244
set_option maxHeartbeats 4000000 in
set_option maxRecDepth 100000 in
theorem t_X14_isValue_199 (X : gX p s m args meth c D cy B (gSt Z B H0) RX14 cX14_isValue wsX14_isValue 3) (hr : meth.sig.returnType = (some .boolean)) {n0 : Nat} {F : Nat → gMem → Nat → Option (Int32 × gMem)} (hF : hX14R l D cy B H0 Z n0 F) {Q : State → Prop} : ∀ (M : gMem) (x0 : Nat) (x1 : Int32) (s0 : Int32) (z : Int32 × gMem), b_X14_isValue_199 F M x0 x1 s0 = some z → (fun (r : Int32 × gMem) => Q = gMQ below D cy B H0 args s 0 0 (some (vI r.1)) r.2) z → gGo p l e (rX14R (n0 + 1)) s m args below meth c D cy B H0 3 0 0 Q 199 [(0, vR (some x0)), (1, vI x1)] [vI s0] M := by
  intro M x0 x1 s0 z hf hK
  unfold b_X14_isValue_199 at hf
  refine g_istore_n (lv' := [(2, vI s0), (0, vR (some x0)), (1, vI x1)]) X dX14_isValue_199 rfl (by decide) rfl ?_
  refine g_aload_n X dX14_isValue_200 rfl rfl ?_
  refine g_bipush (v := (40 : Int32)) X dX14_isValue_201 (by decide) ?_
  obtain ⟨hT9, hf⟩ := ck_e hf
  obtain ⟨r8, M8, hq8, hf⟩ := bd_e hf
  refine g_callV (ci := 12) (b := x0) (As := [vI (40 : Int32)]) (st := []) (v := some (vI r8)) (M1 := M8) X (m_X14_isSign l hq8) (cwV 1 X.2.2.1 gX14_isValue_X14_isSign rfl rfl rfl (by decide +kernel) ⟨rX14R_f (Nat.le_of_ble_eq_true rfl), rX14R_l (Nat.le_of_ble_eq_true rfl)⟩) rfl rfl rfl hT9 (by decide) rfl (Nat.le_of_ble_eq_true rfl) dX14_isValue_203 ⟨Nat.zero_le _, Nat.zero_le _⟩ ?_
  refine g_if_eq (tgt := 243) X dX14_isValue_206 (by decide) (fun hc => ?_) (fun hc => ?_)
  · have hf := ife_t hc hf
    refine g_sub (lvsub_of _ _ [] rfl) ?_
    exact t_X14_isValue_243 X hr hF _  _ hf hK
  · have hf := ife_f hc hf
    refine g_aload_n X dX14_isValue_209 rfl rfl ?_
    obtain ⟨hT11, hf⟩ := ck_e hf
    obtain ⟨r10, M10, hq10, hf⟩ := bd_e hf
    refine g_callV (ci := 12) (b := x0) (As := []) (st := []) (v := some (vI r10)) (M1 := M10) X (m_X14_isDeeper l hq10) (cwV 0 X.2.2.1 gX14_isValue_X14_isDeeper rfl rfl rfl (by decide +kernel) ⟨rX14R_f (Nat.le_of_ble_eq_true rfl), rX14R_l (Nat.le_of_ble_eq_true rfl)⟩) rfl rfl rfl hT11 (by decide) rfl (Nat.le_of_ble_eq_true rfl) dX14_isValue_210 ⟨Nat.zero_le _, Nat.zero_le _⟩ ?_
    refine g_if_eq (tgt := 243) X dX14_isValue_213 (by decide) (fun hc => ?_) (fun hc => ?_)
    · have hf := ife_t hc hf
      refine g_sub (lvsub_of _ _ [] rfl) ?_
      exact t_X14_isValue_243 X hr hF _  _ hf hK
    · have hf := ife_f hc hf
      refine g_aload_n X dX14_isValue_216 rfl rfl ?_
      obtain ⟨hT13, hf⟩ := ck_e hf
      obtain ⟨r12, M12, hq12, hf⟩ := bd_e hf
      refine g_callV (ci := 12) (b := x0) (As := []) (st := []) (v := some (vI r12)) (M1 := M12) X (hF.2.2.2.1 _ _ _ _ hq12) (cwV 0 X.2.2.1 gX14_isValue_X14_isSum rfl rfl rfl (by decide +kernel) ⟨rX14R_rf, rX14R_rl (Nat.le_of_ble_eq_true rfl)⟩) rfl rfl rfl hT13 (by decide) rfl (Nat.le_of_ble_eq_true rfl) dX14_isValue_217 ⟨Nat.zero_le _, Nat.zero_le _⟩ ?_
      refine g_if_eq (tgt := 243) X dX14_isValue_220 (by decide) (fun hc => ?_) (fun hc => ?_)
      · have hf := ife_t hc hf
        refine g_sub (lvsub_of _ _ [] rfl) ?_
        exact t_X14_isValue_243 X hr hF _  _ hf hK
      · have hf := ife_f hc hf
        refine g_iload_n X dX14_isValue_223 rfl rfl ?_
        refine g_if_eq (tgt := 245) X dX14_isValue_224 (by decide) (fun hc => ?_) (fun hc => ?_)
        · have hf := ife_t hc hf
          refine g_sub (lvsub_of _ _ [1, 2, 0] rfl) ?_
          exact t_X14_isValue_245 X hr hF _ _ _ _ _ hf hK
        · have hf := ife_f hc hf
          refine g_aload_n X dX14_isValue_227 rfl rfl ?_
          refine g_bipush (v := (44 : Int32)) X dX14_isValue_228 (by decide) ?_
          obtain ⟨hT15, hf⟩ := ck_e hf
          obtain ⟨r14, M14, hq14, hf⟩ := bd_e hf
          refine g_callV (ci := 12) (b := x0) (As := [vI (44 : Int32)]) (st := []) (v := some (vI r14)) (M1 := M14) X (m_X14_eatSign l hq14) (cwV 1 X.2.2.1 gX14_isValue_X14_eatSign rfl rfl rfl (by decide +kernel) ⟨rX14R_f (Nat.le_of_ble_eq_true rfl), rX14R_l (Nat.le_of_ble_eq_true rfl)⟩) rfl rfl rfl hT15 (by decide) rfl (Nat.le_of_ble_eq_true rfl) dX14_isValue_230 ⟨Nat.zero_le _, Nat.zero_le _⟩ ?_
          refine g_if_eq (tgt := 243) X dX14_isValue_233 (by decide) (fun hc => ?_) (fun hc => ?_)
          · have hf := ife_t hc hf
            refine g_sub (lvsub_of _ _ [] rfl) ?_
            exact t_X14_isValue_243 X hr hF _  _ hf hK
          · have hf := ife_f hc hf
            refine g_aload_n X dX14_isValue_236 rfl rfl ?_
            obtain ⟨hT17, hf⟩ := ck_e hf
            obtain ⟨r16, M16, hq16, hf⟩ := bd_e hf
            refine g_callV (ci := 12) (b := x0) (As := []) (st := []) (v := some (vI r16)) (M1 := M16) X (hF.2.2.2.1 _ _ _ _ hq16) (cwV 0 X.2.2.1 gX14_isValue_X14_isSum rfl rfl rfl (by decide +kernel) ⟨rX14R_rf, rX14R_rl (Nat.le_of_ble_eq_true rfl)⟩) rfl rfl rfl hT17 (by decide) rfl (Nat.le_of_ble_eq_true rfl) dX14_isValue_237 ⟨Nat.zero_le _, Nat.zero_le _⟩ ?_
            refine g_if_ne (tgt := 245) X dX14_isValue_240 (by decide) (fun hc => ?_) (fun hc => ?_)
            · have hf := ife_f hc hf
              refine g_sub (lvsub_of _ _ [1, 2, 0] rfl) ?_
              exact t_X14_isValue_245 X hr hF _ _ _ _ _ hf hK
            · have hf := ife_t hc hf
              refine g_sub (lvsub_of _ _ [] rfl) ?_
              exact t_X14_isValue_243 X hr hF _  _ hf hK
set_option maxHeartbeats 4000000 in
set_option maxRecDepth 100000 in
theorem t_X14_isValue_194 (X : gX p s m args meth c D cy B (gSt Z B H0) RX14 cX14_isValue wsX14_isValue 3) (hr : meth.sig.returnType = (some .boolean)) {n0 : Nat} {F : Nat → gMem → Nat → Option (Int32 × gMem)} (hF : hX14R l D cy B H0 Z n0 F) {Q : State → Prop} : ∀ (M : gMem) (x0 : Nat) (x1 : Int32) (z : Int32 × gMem), b_X14_isValue_194 F M x0 x1 = some z → (fun (r : Int32 × gMem) => Q = gMQ below D cy B H0 args s 0 0 (some (vI r.1)) r.2) z → gGo p l e (rX14R (n0 + 1)) s m args below meth c D cy B H0 3 0 0 Q 194 [(0, vR (some x0)), (1, vI x1)] [] M := by
  intro M x0 x1 z hf hK
  unfold b_X14_isValue_194 at hf
  refine g_iconst (v := (1 : Int32)) X dX14_isValue_194 (by decide) ?_
  refine g_goto (tgt := 199) X dX14_isValue_195 (by decide) ?_
  refine g_sub (lvsub_of _ _ [0, 1] rfl) ?_
  exact t_X14_isValue_199 X hr hF _ _ _ _ _ hf hK
set_option maxHeartbeats 4000000 in
set_option maxRecDepth 100000 in
theorem t_X14_isValue_146 (X : gX p s m args meth c D cy B (gSt Z B H0) RX14 cX14_isValue wsX14_isValue 3) (hr : meth.sig.returnType = (some .boolean)) {n0 : Nat} {F : Nat → gMem → Nat → Option (Int32 × gMem)} (hF : hX14R l D cy B H0 Z n0 F) {Q : State → Prop} : ∀ (M : gMem)  (z : Int32 × gMem), b_X14_isValue_146 F M  = some z → (fun (r : Int32 × gMem) => Q = gMQ below D cy B H0 args s 0 0 (some (vI r.1)) r.2) z → gGo p l e (rX14R (n0 + 1)) s m args below meth c D cy B H0 3 0 0 Q 146 [] [] M := by
  intro M  z hf hK
  unfold b_X14_isValue_146 at hf
  refine g_iconst (v := (0 : Int32)) X dX14_isValue_146 (by decide) ?_
  cases hf
  refine g_eqQ hK ?_
  exact g_zret X hr (gnb (Or.inl rfl)) dX14_isValue_147
set_option maxHeartbeats 4000000 in
set_option maxRecDepth 100000 in
theorem t_X14_isValue_116 (X : gX p s m args meth c D cy B (gSt Z B H0) RX14 cX14_isValue wsX14_isValue 3) (hr : meth.sig.returnType = (some .boolean)) {n0 : Nat} {F : Nat → gMem → Nat → Option (Int32 × gMem)} (hF : hX14R l D cy B H0 Z n0 F) {Q : State → Prop} : ∀ (M : gMem) (x0 : Nat) (z : Int32 × gMem), b_X14_isValue_116 F M x0 = some z → (fun (r : Int32 × gMem) => Q = gMQ below D cy B H0 args s 0 0 (some (vI r.1)) r.2) z → gGo p l e (rX14R (n0 + 1)) s m args below meth c D cy B H0 3 0 0 Q 116 [(0, vR (some x0))] [] M := by
  intro M x0 z hf hK
  unfold b_X14_isValue_116 at hf
  refine g_aload_n X dX14_isValue_116 rfl rfl ?_
  refine g_bipush (v := (15 : Int32)) X dX14_isValue_117 (by decide) ?_
  obtain ⟨hT19, hf⟩ := ck_e hf
  obtain ⟨r18, M18, hq18, hf⟩ := bd_e hf
  refine g_callV (ci := 12) (b := x0) (As := [vI (15 : Int32)]) (st := []) (v := some (vI r18)) (M1 := M18) X (m_X14_isNamed l hq18) (cwV 1 X.2.2.1 gX14_isValue_X14_isNamed rfl rfl rfl (by decide +kernel) ⟨rX14R_f (Nat.le_of_ble_eq_true rfl), rX14R_l (Nat.le_of_ble_eq_true rfl)⟩) rfl rfl rfl hT19 (by decide) rfl (Nat.le_of_ble_eq_true rfl) dX14_isValue_119 ⟨Nat.zero_le _, Nat.zero_le _⟩ ?_
  obtain ⟨hg20, hf⟩ := ck_e hf
  cases hf
  refine g_eqQ hK ?_
  exact g_zret X hr (gnb hg20) dX14_isValue_122
set_option maxHeartbeats 4000000 in
set_option maxRecDepth 100000 in
theorem t_X14_isValue_92 (X : gX p s m args meth c D cy B (gSt Z B H0) RX14 cX14_isValue wsX14_isValue 3) (hr : meth.sig.returnType = (some .boolean)) {n0 : Nat} {F : Nat → gMem → Nat → Option (Int32 × gMem)} (hF : hX14R l D cy B H0 Z n0 F) {Q : State → Prop} : ∀ (M : gMem) (x0 : Nat) (z : Int32 × gMem), b_X14_isValue_92 F M x0 = some z → (fun (r : Int32 × gMem) => Q = gMQ below D cy B H0 args s 0 0 (some (vI r.1)) r.2) z → gGo p l e (rX14R (n0 + 1)) s m args below meth c D cy B H0 3 0 0 Q 92 [(0, vR (some x0))] [] M := by
  intro M x0 z hf hK
  unfold b_X14_isValue_92 at hf
  refine g_aload_n X dX14_isValue_92 rfl rfl ?_
  refine g_bipush (v := (14 : Int32)) X dX14_isValue_93 (by decide) ?_
  obtain ⟨hT22, hf⟩ := ck_e hf
  obtain ⟨r21, M21, hq21, hf⟩ := bd_e hf
  refine g_callV (ci := 12) (b := x0) (As := [vI (14 : Int32)]) (st := []) (v := some (vI r21)) (M1 := M21) X (m_X14_isNamed l hq21) (cwV 1 X.2.2.1 gX14_isValue_X14_isNamed rfl rfl rfl (by decide +kernel) ⟨rX14R_f (Nat.le_of_ble_eq_true rfl), rX14R_l (Nat.le_of_ble_eq_true rfl)⟩) rfl rfl rfl hT22 (by decide) rfl (Nat.le_of_ble_eq_true rfl) dX14_isValue_95 ⟨Nat.zero_le _, Nat.zero_le _⟩ ?_
  obtain ⟨hg23, hf⟩ := ck_e hf
  cases hf
  refine g_eqQ hK ?_
  exact g_zret X hr (gnb hg23) dX14_isValue_98
set_option maxHeartbeats 4000000 in
set_option maxRecDepth 100000 in
theorem t_X14_isValue_0 (X : gX p s m args meth c D cy B (gSt Z B H0) RX14 cX14_isValue wsX14_isValue 3) (hr : meth.sig.returnType = (some .boolean)) {n0 : Nat} {F : Nat → gMem → Nat → Option (Int32 × gMem)} (hF : hX14R l D cy B H0 Z n0 F) {Q : State → Prop} : ∀ (M : gMem) (x0 : Nat) (z : Int32 × gMem), b_X14_isValue_0 F M x0 = some z → (fun (r : Int32 × gMem) => Q = gMQ below D cy B H0 args s 0 0 (some (vI r.1)) r.2) z → gGo p l e (rX14R (n0 + 1)) s m args below meth c D cy B H0 3 0 0 Q 0 [(0, vR (some x0))] [] M := by
  intro M x0 z hf hK
  unfold b_X14_isValue_0 at hf
  refine g_aload_n X dX14_isValue_0 rfl rfl ?_
  refine g_bipush (v := (41 : Int32)) X dX14_isValue_1 (by decide) ?_
  obtain ⟨hT25, hf⟩ := ck_e hf
  obtain ⟨r24, M24, hq24, hf⟩ := bd_e hf
  refine g_callV (ci := 12) (b := x0) (As := [vI (41 : Int32)]) (st := []) (v := some (vI r24)) (M1 := M24) X (m_X14_is l hq24) (cwV 1 X.2.2.1 gX14_isValue_X14_is rfl rfl rfl (by decide +kernel) ⟨rX14R_f (Nat.le_of_ble_eq_true rfl), rX14R_l (Nat.le_of_ble_eq_true rfl)⟩) rfl rfl rfl hT25 (by decide) rfl (Nat.le_of_ble_eq_true rfl) dX14_isValue_3 ⟨Nat.zero_le _, Nat.zero_le _⟩ ?_
  refine g_if_eq (tgt := 39) X dX14_isValue_6 (by decide) (fun hc => ?_) (fun hc => ?_)
  · have hf := ife_t hc hf
    refine g_aload_n X dX14_isValue_39 rfl rfl ?_
    refine g_bipush (v := (15 : Int32)) X dX14_isValue_40 (by decide) ?_
    obtain ⟨hT27, hf⟩ := ck_e hf
    obtain ⟨r26, M26, hq26, hf⟩ := bd_e hf
    refine g_callV (ci := 12) (b := x0) (As := [vI (15 : Int32)]) (st := []) (v := some (vI r26)) (M1 := M26) X (m_X14_is l hq26) (cwV 1 X.2.2.1 gX14_isValue_X14_is rfl rfl rfl (by decide +kernel) ⟨rX14R_f (Nat.le_of_ble_eq_true rfl), rX14R_l (Nat.le_of_ble_eq_true rfl)⟩) rfl rfl rfl hT27 (by decide) rfl (Nat.le_of_ble_eq_true rfl) dX14_isValue_42 ⟨Nat.zero_le _, Nat.zero_le _⟩ ?_
    refine g_if_eq (tgt := 66) X dX14_isValue_45 (by decide) (fun hc => ?_) (fun hc => ?_)
    · have hf := ife_t hc hf
      refine g_aload_n X dX14_isValue_66 rfl rfl ?_
      refine g_bipush (v := (16 : Int32)) X dX14_isValue_67 (by decide) ?_
      obtain ⟨hT29, hf⟩ := ck_e hf
      obtain ⟨r28, M28, hq28, hf⟩ := bd_e hf
      refine g_callV (ci := 12) (b := x0) (As := [vI (16 : Int32)]) (st := []) (v := some (vI r28)) (M1 := M28) X (m_X14_is l hq28) (cwV 1 X.2.2.1 gX14_isValue_X14_is rfl rfl rfl (by decide +kernel) ⟨rX14R_f (Nat.le_of_ble_eq_true rfl), rX14R_l (Nat.le_of_ble_eq_true rfl)⟩) rfl rfl rfl hT29 (by decide) rfl (Nat.le_of_ble_eq_true rfl) dX14_isValue_69 ⟨Nat.zero_le _, Nat.zero_le _⟩ ?_
      refine g_if_ne (tgt := 92) X dX14_isValue_72 (by decide) (fun hc => ?_) (fun hc => ?_)
      · have hf := ife_f hc hf
        refine g_sub (lvsub_of _ _ [0] rfl) ?_
        exact t_X14_isValue_92 X hr hF _ _ _ hf hK
      · have hf := ife_t hc hf
        refine g_aload_n X dX14_isValue_75 rfl rfl ?_
        refine g_bipush (v := (17 : Int32)) X dX14_isValue_76 (by decide) ?_
        obtain ⟨hT31, hf⟩ := ck_e hf
        obtain ⟨r30, M30, hq30, hf⟩ := bd_e hf
        refine g_callV (ci := 12) (b := x0) (As := [vI (17 : Int32)]) (st := []) (v := some (vI r30)) (M1 := M30) X (m_X14_is l hq30) (cwV 1 X.2.2.1 gX14_isValue_X14_is rfl rfl rfl (by decide +kernel) ⟨rX14R_f (Nat.le_of_ble_eq_true rfl), rX14R_l (Nat.le_of_ble_eq_true rfl)⟩) rfl rfl rfl hT31 (by decide) rfl (Nat.le_of_ble_eq_true rfl) dX14_isValue_78 ⟨Nat.zero_le _, Nat.zero_le _⟩ ?_
        refine g_if_ne (tgt := 92) X dX14_isValue_81 (by decide) (fun hc => ?_) (fun hc => ?_)
        · have hf := ife_f hc hf
          refine g_sub (lvsub_of _ _ [0] rfl) ?_
          exact t_X14_isValue_92 X hr hF _ _ _ hf hK
        · have hf := ife_t hc hf
          refine g_aload_n X dX14_isValue_84 rfl rfl ?_
          refine g_iconst (v := (4 : Int32)) X dX14_isValue_85 (by decide) ?_
          obtain ⟨hT33, hf⟩ := ck_e hf
          obtain ⟨r32, M32, hq32, hf⟩ := bd_e hf
          refine g_callV (ci := 12) (b := x0) (As := [vI (4 : Int32)]) (st := []) (v := some (vI r32)) (M1 := M32) X (m_X14_is l hq32) (cwV 1 X.2.2.1 gX14_isValue_X14_is rfl rfl rfl (by decide +kernel) ⟨rX14R_f (Nat.le_of_ble_eq_true rfl), rX14R_l (Nat.le_of_ble_eq_true rfl)⟩) rfl rfl rfl hT33 (by decide) rfl (Nat.le_of_ble_eq_true rfl) dX14_isValue_86 ⟨Nat.zero_le _, Nat.zero_le _⟩ ?_
          refine g_if_eq (tgt := 99) X dX14_isValue_89 (by decide) (fun hc => ?_) (fun hc => ?_)
          · have hf := ife_t hc hf
            refine g_aload_n X dX14_isValue_99 rfl rfl ?_
            refine g_iconst (v := (2 : Int32)) X dX14_isValue_100 (by decide) ?_
            obtain ⟨hT35, hf⟩ := ck_e hf
            obtain ⟨r34, M34, hq34, hf⟩ := bd_e hf
            refine g_callV (ci := 12) (b := x0) (As := [vI (2 : Int32)]) (st := []) (v := some (vI r34)) (M1 := M34) X (m_X14_is l hq34) (cwV 1 X.2.2.1 gX14_isValue_X14_is rfl rfl rfl (by decide +kernel) ⟨rX14R_f (Nat.le_of_ble_eq_true rfl), rX14R_l (Nat.le_of_ble_eq_true rfl)⟩) rfl rfl rfl hT35 (by decide) rfl (Nat.le_of_ble_eq_true rfl) dX14_isValue_101 ⟨Nat.zero_le _, Nat.zero_le _⟩ ?_
            refine g_if_ne (tgt := 116) X dX14_isValue_104 (by decide) (fun hc => ?_) (fun hc => ?_)
            · have hf := ife_f hc hf
              refine g_sub (lvsub_of _ _ [0] rfl) ?_
              exact t_X14_isValue_116 X hr hF _ _ _ hf hK
            · have hf := ife_t hc hf
              refine g_aload_n X dX14_isValue_107 rfl rfl ?_
              refine g_bipush (v := (18 : Int32)) X dX14_isValue_108 (by decide) ?_
              obtain ⟨hT37, hf⟩ := ck_e hf
              obtain ⟨r36, M36, hq36, hf⟩ := bd_e hf
              refine g_callV (ci := 12) (b := x0) (As := [vI (18 : Int32)]) (st := []) (v := some (vI r36)) (M1 := M36) X (m_X14_is l hq36) (cwV 1 X.2.2.1 gX14_isValue_X14_is rfl rfl rfl (by decide +kernel) ⟨rX14R_f (Nat.le_of_ble_eq_true rfl), rX14R_l (Nat.le_of_ble_eq_true rfl)⟩) rfl rfl rfl hT37 (by decide) rfl (Nat.le_of_ble_eq_true rfl) dX14_isValue_110 ⟨Nat.zero_le _, Nat.zero_le _⟩ ?_
              refine g_if_eq (tgt := 123) X dX14_isValue_113 (by decide) (fun hc => ?_) (fun hc => ?_)
              · have hf := ife_t hc hf
                refine g_aload_n X dX14_isValue_123 rfl rfl ?_
                refine g_bipush (v := (45 : Int32)) X dX14_isValue_124 (by decide) ?_
                obtain ⟨hT39, hf⟩ := ck_e hf
                obtain ⟨r38, M38, hq38, hf⟩ := bd_e hf
                refine g_callV (ci := 12) (b := x0) (As := [vI (45 : Int32)]) (st := []) (v := some (vI r38)) (M1 := M38) X (m_X14_isSign l hq38) (cwV 1 X.2.2.1 gX14_isValue_X14_isSign rfl rfl rfl (by decide +kernel) ⟨rX14R_f (Nat.le_of_ble_eq_true rfl), rX14R_l (Nat.le_of_ble_eq_true rfl)⟩) rfl rfl rfl hT39 (by decide) rfl (Nat.le_of_ble_eq_true rfl) dX14_isValue_126 ⟨Nat.zero_le _, Nat.zero_le _⟩ ?_
                refine g_if_eq (tgt := 166) X dX14_isValue_129 (by decide) (fun hc => ?_) (fun hc => ?_)
                · have hf := ife_t hc hf
                  refine g_aload_n X dX14_isValue_166 rfl rfl ?_
                  obtain ⟨hT40, hf⟩ := ck_e hf
                  refine g_get (ci := 12) (v := vR (mR M38 x0 4)) 4 X cdX14 i_X14_isValue_X14 (by decide) k_X14_isValue_f17 rfl dX14_isValue_167 rfl hT40 rfl ?_
                  refine g_aload_n X dX14_isValue_170 rfl rfl ?_
                  refine g_get (ci := 12) (v := vI (mI M38 x0 9)) 9 X cdX14 i_X14_isValue_X14 (by decide) k_X14_isValue_f118 rfl dX14_isValue_171 rfl hT40 rfl ?_
                  obtain ⟨a41, ha41, hf⟩ := dr_e hf
                  obtain ⟨hT42, hf⟩ := ck_e hf
                  obtain ⟨hg43, hf⟩ := ck_e hf
                  refine g_iald X dX14_isValue_174 ha41 hT42 hg43 ?_
                  refine g_istore_n (lv' := [(1, vI (mI M38 a41 ((mI M38 x0 9)).toNatClampNeg)), (0, vR (some x0))]) X dX14_isValue_175 rfl (by decide) rfl ?_
                  refine g_aload_n X dX14_isValue_176 rfl rfl ?_
                  refine g_bipush (v := (23 : Int32)) X dX14_isValue_177 (by decide) ?_
                  obtain ⟨r44, M44, hq44, hf⟩ := bd_e hf
                  refine g_callV (ci := 12) (b := x0) (As := [vI (23 : Int32)]) (st := []) (v := some (vI r44)) (M1 := M44) X (m_X14_eat l hq44) (cwV 1 X.2.2.1 gX14_isValue_X14_eat rfl rfl rfl (by decide +kernel) ⟨rX14R_f (Nat.le_of_ble_eq_true rfl), rX14R_l (Nat.le_of_ble_eq_true rfl)⟩) rfl rfl rfl hT40 (by decide) rfl (Nat.le_of_ble_eq_true rfl) dX14_isValue_179 ⟨Nat.zero_le _, Nat.zero_le _⟩ ?_
                  refine g_if_ne (tgt := 194) X dX14_isValue_182 (by decide) (fun hc => ?_) (fun hc => ?_)
                  · have hf := ife_f hc hf
                    refine g_sub (lvsub_of _ _ [1, 0] rfl) ?_
                    exact t_X14_isValue_194 X hr hF _ _ _ _ hf hK
                  · have hf := ife_t hc hf
                    refine g_aload_n X dX14_isValue_185 rfl rfl ?_
                    refine g_bipush (v := (24 : Int32)) X dX14_isValue_186 (by decide) ?_
                    obtain ⟨hT46, hf⟩ := ck_e hf
                    obtain ⟨r45, M45, hq45, hf⟩ := bd_e hf
                    refine g_callV (ci := 12) (b := x0) (As := [vI (24 : Int32)]) (st := []) (v := some (vI r45)) (M1 := M45) X (m_X14_eat l hq45) (cwV 1 X.2.2.1 gX14_isValue_X14_eat rfl rfl rfl (by decide +kernel) ⟨rX14R_f (Nat.le_of_ble_eq_true rfl), rX14R_l (Nat.le_of_ble_eq_true rfl)⟩) rfl rfl rfl hT46 (by decide) rfl (Nat.le_of_ble_eq_true rfl) dX14_isValue_188 ⟨Nat.zero_le _, Nat.zero_le _⟩ ?_
                    refine g_if_eq (tgt := 198) X dX14_isValue_191 (by decide) (fun hc => ?_) (fun hc => ?_)
                    · have hf := ife_t hc hf
                      refine g_iconst (v := (0 : Int32)) X dX14_isValue_198 (by decide) ?_
                      refine g_sub (lvsub_of _ _ [1, 0] rfl) ?_
                      exact t_X14_isValue_199 X hr hF _ _ _ _ _ hf hK
                    · have hf := ife_f hc hf
                      refine g_sub (lvsub_of _ _ [1, 0] rfl) ?_
                      exact t_X14_isValue_194 X hr hF _ _ _ _ hf hK
                · have hf := ife_f hc hf
                  refine g_aload_n X dX14_isValue_132 rfl rfl ?_
                  obtain ⟨hT48, hf⟩ := ck_e hf
                  obtain ⟨r47, M47, hq47, hf⟩ := bd_e hf
                  refine g_callV (ci := 12) (b := x0) (As := []) (st := []) (v := some (vI r47)) (M1 := M47) X (m_X14_isDeeper l hq47) (cwV 0 X.2.2.1 gX14_isValue_X14_isDeeper rfl rfl rfl (by decide +kernel) ⟨rX14R_f (Nat.le_of_ble_eq_true rfl), rX14R_l (Nat.le_of_ble_eq_true rfl)⟩) rfl rfl rfl hT48 (by decide) rfl (Nat.le_of_ble_eq_true rfl) dX14_isValue_133 ⟨Nat.zero_le _, Nat.zero_le _⟩ ?_
                  refine g_if_eq (tgt := 146) X dX14_isValue_136 (by decide) (fun hc => ?_) (fun hc => ?_)
                  · have hf := ife_t hc hf
                    refine g_sub (lvsub_of _ _ [] rfl) ?_
                    exact t_X14_isValue_146 X hr hF _  _ hf hK
                  · have hf := ife_f hc hf
                    refine g_aload_n X dX14_isValue_139 rfl rfl ?_
                    obtain ⟨hT50, hf⟩ := ck_e hf
                    obtain ⟨r49, M49, hq49, hf⟩ := bd_e hf
                    refine g_callV (ci := 12) (b := x0) (As := []) (st := []) (v := some (vI r49)) (M1 := M49) X (hF.2.2.2.2.2 _ _ _ _ hq49) (cwV 0 X.2.2.1 gX14_isValue_X14_isValue rfl rfl rfl (by decide +kernel) ⟨rX14R_rf, rX14R_rl (Nat.le_of_ble_eq_true rfl)⟩) rfl rfl rfl hT50 (by decide) rfl (Nat.le_of_ble_eq_true rfl) dX14_isValue_140 ⟨Nat.zero_le _, Nat.zero_le _⟩ ?_
                    refine g_if_ne (tgt := 148) X dX14_isValue_143 (by decide) (fun hc => ?_) (fun hc => ?_)
                    · have hf := ife_f hc hf
                      refine g_aload_n X dX14_isValue_148 rfl rfl ?_
                      refine g_dup X dX14_isValue_149 rfl ?_
                      obtain ⟨hT51, hf⟩ := ck_e hf
                      refine g_get (ci := 12) (v := vI (mI M49 x0 10)) 10 X cdX14 i_X14_isValue_X14 (by decide) k_X14_isValue_f187 rfl dX14_isValue_150 rfl hT51 rfl ?_
                      refine g_iconst (v := (1 : Int32)) X dX14_isValue_153 (by decide) ?_
                      refine g_isub X dX14_isValue_154 ?_
                      refine g_putI (ci := 12) 10 X cdX14 i_X14_isValue_X14 (by decide) k_X14_isValue_f187 rfl dX14_isValue_155 rfl hT51 (Or.inl rfl) rfl rfl rfl ?_
                      obtain ⟨M52, hM52, hf⟩ := lw_e hf
                      rw [← hM52]
                      have hT53 : mT M52 x0 = 13 := by rw [hM52]; exact hT51
                      refine g_aload_n X dX14_isValue_158 rfl rfl ?_
                      refine g_bipush (v := (31 : Int32)) X dX14_isValue_159 (by decide) ?_
                      obtain ⟨r54, M54, hq54, hf⟩ := bd_e hf
                      refine g_callV (ci := 12) (b := x0) (As := [vI (31 : Int32)]) (st := []) (v := none) (M1 := M54) X (m_X14_put l hq54) (cwV 1 X.2.2.1 gX14_isValue_X14_put rfl rfl rfl (by decide +kernel) ⟨rX14R_f (Nat.le_of_ble_eq_true rfl), rX14R_l (Nat.le_of_ble_eq_true rfl)⟩) rfl rfl rfl hT53 (by decide) rfl (Nat.le_of_ble_eq_true rfl) dX14_isValue_161 ⟨Nat.zero_le _, Nat.zero_le _⟩ ?_
                      refine g_iconst (v := (1 : Int32)) X dX14_isValue_164 (by decide) ?_
                      cases hf
                      refine g_eqQ hK ?_
                      exact g_zret X hr (gnb (Or.inr rfl)) dX14_isValue_165
                    · have hf := ife_t hc hf
                      refine g_sub (lvsub_of _ _ [] rfl) ?_
                      exact t_X14_isValue_146 X hr hF _  _ hf hK
              · have hf := ife_f hc hf
                refine g_sub (lvsub_of _ _ [0] rfl) ?_
                exact t_X14_isValue_116 X hr hF _ _ _ hf hK
          · have hf := ife_f hc hf
            refine g_sub (lvsub_of _ _ [0] rfl) ?_
            exact t_X14_isValue_92 X hr hF _ _ _ hf hK
    · have hf := ife_f hc hf
      refine g_aload_n X dX14_isValue_48 rfl rfl ?_
      refine g_bipush (v := (15 : Int32)) X dX14_isValue_49 (by decide) ?_
      obtain ⟨hT56, hf⟩ := ck_e hf
      obtain ⟨r55, M55, hq55, hf⟩ := bd_e hf
      refine g_callV (ci := 12) (b := x0) (As := [vI (15 : Int32)]) (st := []) (v := none) (M1 := M55) X (m_X14_put l hq55) (cwV 1 X.2.2.1 gX14_isValue_X14_put rfl rfl rfl (by decide +kernel) ⟨rX14R_f (Nat.le_of_ble_eq_true rfl), rX14R_l (Nat.le_of_ble_eq_true rfl)⟩) rfl rfl rfl hT56 (by decide) rfl (Nat.le_of_ble_eq_true rfl) dX14_isValue_51 ⟨Nat.zero_le _, Nat.zero_le _⟩ ?_
      refine g_aload_n X dX14_isValue_54 rfl rfl ?_
      refine g_dup X dX14_isValue_55 rfl ?_
      obtain ⟨hT57, hf⟩ := ck_e hf
      refine g_get (ci := 12) (v := vI (mI M55 x0 9)) 9 X cdX14 i_X14_isValue_X14 (by decide) k_X14_isValue_f118 rfl dX14_isValue_56 rfl hT57 rfl ?_
      refine g_iconst (v := (1 : Int32)) X dX14_isValue_59 (by decide) ?_
      refine g_iadd X dX14_isValue_60 ?_
      refine g_putI (ci := 12) 9 X cdX14 i_X14_isValue_X14 (by decide) k_X14_isValue_f118 rfl dX14_isValue_61 rfl hT57 (Or.inl rfl) rfl rfl rfl ?_
      obtain ⟨M58, hM58, hf⟩ := lw_e hf
      rw [← hM58]
      have hT59 : mT M58 x0 = 13 := by rw [hM58]; exact hT57
      refine g_iconst (v := (1 : Int32)) X dX14_isValue_64 (by decide) ?_
      cases hf
      refine g_eqQ hK ?_
      exact g_zret X hr (gnb (Or.inr rfl)) dX14_isValue_65
  · have hf := ife_f hc hf
    refine g_aload_n X dX14_isValue_9 rfl rfl ?_
    refine g_bipush (v := (30 : Int32)) X dX14_isValue_10 (by decide) ?_
    obtain ⟨hT61, hf⟩ := ck_e hf
    obtain ⟨r60, M60, hq60, hf⟩ := bd_e hf
    refine g_callV (ci := 12) (b := x0) (As := [vI (30 : Int32)]) (st := []) (v := none) (M1 := M60) X (m_X14_put l hq60) (cwV 1 X.2.2.1 gX14_isValue_X14_put rfl rfl rfl (by decide +kernel) ⟨rX14R_f (Nat.le_of_ble_eq_true rfl), rX14R_l (Nat.le_of_ble_eq_true rfl)⟩) rfl rfl rfl hT61 (by decide) rfl (Nat.le_of_ble_eq_true rfl) dX14_isValue_12 ⟨Nat.zero_le _, Nat.zero_le _⟩ ?_
    refine g_aload_n X dX14_isValue_15 rfl rfl ?_
    refine g_aload_n X dX14_isValue_16 rfl rfl ?_
    refine g_aload_n X dX14_isValue_17 rfl rfl ?_
    obtain ⟨hT62, hf⟩ := ck_e hf
    refine g_get (ci := 12) (v := vI (mI M60 x0 9)) 9 X cdX14 i_X14_isValue_X14 (by decide) k_X14_isValue_f118 rfl dX14_isValue_18 rfl hT62 rfl ?_
    obtain ⟨r63, M63, hq63, hf⟩ := bd_e hf
    refine g_callV (ci := 12) (b := x0) (As := [vI (mI M60 x0 9)]) (st := [vR (some x0)]) (v := some (vI r63)) (M1 := M63) X (m_X14_numberAt l hq63) (cwV 1 X.2.2.1 gX14_isValue_X14_numberAt rfl rfl rfl (by decide +kernel) ⟨rX14R_f (Nat.le_of_ble_eq_true rfl), rX14R_l (Nat.le_of_ble_eq_true rfl)⟩) rfl rfl rfl hT62 (by decide) rfl (Nat.le_of_ble_eq_true rfl) dX14_isValue_21 ⟨Nat.zero_le _, Nat.zero_le _⟩ ?_
    obtain ⟨hT65, hf⟩ := ck_e hf
    obtain ⟨r64, M64, hq64, hf⟩ := bd_e hf
    refine g_callV (ci := 12) (b := x0) (As := [vI r63]) (st := []) (v := none) (M1 := M64) X (m_X14_put l hq64) (cwV 1 X.2.2.1 gX14_isValue_X14_put rfl rfl rfl (by decide +kernel) ⟨rX14R_f (Nat.le_of_ble_eq_true rfl), rX14R_l (Nat.le_of_ble_eq_true rfl)⟩) rfl rfl rfl hT65 (by decide) rfl (Nat.le_of_ble_eq_true rfl) dX14_isValue_24 ⟨Nat.zero_le _, Nat.zero_le _⟩ ?_
    refine g_aload_n X dX14_isValue_27 rfl rfl ?_
    refine g_dup X dX14_isValue_28 rfl ?_
    obtain ⟨hT66, hf⟩ := ck_e hf
    refine g_get (ci := 12) (v := vI (mI M64 x0 9)) 9 X cdX14 i_X14_isValue_X14 (by decide) k_X14_isValue_f118 rfl dX14_isValue_29 rfl hT66 rfl ?_
    refine g_iconst (v := (1 : Int32)) X dX14_isValue_32 (by decide) ?_
    refine g_iadd X dX14_isValue_33 ?_
    refine g_putI (ci := 12) 9 X cdX14 i_X14_isValue_X14 (by decide) k_X14_isValue_f118 rfl dX14_isValue_34 rfl hT66 (Or.inl rfl) rfl rfl rfl ?_
    obtain ⟨M67, hM67, hf⟩ := lw_e hf
    rw [← hM67]
    have hT68 : mT M67 x0 = 13 := by rw [hM67]; exact hT66
    refine g_iconst (v := (1 : Int32)) X dX14_isValue_37 (by decide) ?_
    cases hf
    refine g_eqQ hK ?_
    exact g_zret X hr (gnb (Or.inr rfl)) dX14_isValue_38
set_option maxHeartbeats 4000000 in
set_option maxRecDepth 100000 in
theorem mr_X14_isValue (l : Launch) {D : va_G} {cy : Nat → ClassId} {B : Nat} {H0 : Heap} {Z : Nat → Nat} {M M1 : gMem} {n0 : Nat} {F : Nat → gMem → Nat → Option (Int32 × gMem)} (hF : hX14R l D cy B H0 Z n0 F) {x0 : Nat} {r : Int32} (hf : fr_X14_isValue F M x0 = some (r, M1)) : Met l yX14_isValue wsX14_isValue (rX14R (n0 + 1)) (va_Pc (Value.ref x0 :: List.map gv []) (gPre D cy B H0 (gSt Z B H0) M)) (gQ D cy B H0 (some (vI r)) M1) 0 0 (gA B) := by
  refine Met.ofW (cc := cX14_isValue) (maxL := 3) (ret := (some .boolean)) (by decide) rfl ?_
  intro p e s m args below meth c s₁ Bd hml hv
  obtain ⟨rfl, hW, hKK, hFs⟩ := hv
  have X : gX p s m _ meth c D cy B (gSt Z B H0) RX14 cX14_isValue wsX14_isValue 3 := ⟨Bd.exec, Bd.bytes, atoms_spec (ws := wsX14_isValue) Bd.pre, findClass_of_methodNamed Bd.named, hml, hKK, by rw [hW.1]; exact hW.2.1, Bd.notSynchronized, hFs⟩
  have hr := Bd.returns
  have hl := lv_entry ([.ref x0]) (n := 3) (Nat.le_of_ble_eq_true rfl)
  show W p l e (rX14R (n0 + 1)) s m _ below meth c s.heap [] 0 0 _ (entryFrame m ([.ref x0] : List Value).toArray 3)
  rw [lg_entry_eq]
  generalize (lg_sl ([.ref x0]) ++ List.replicate (3 - (lg_sl ([.ref x0])).length) Slot.unset).toArray = ls at hl ⊢
  have hl : lv_has ls 3 (List.map gq [(0, vR (some x0))]) := hl
  exact t_X14_isValue_0 X hr hF _ _ _ hf rfl s.heap [] ls hW va_S.rf (lv_has_sub hl (lvsub_of _ _ [0] rfl))
noncomputable def fX14R : Nat → Nat → gMem → Nat → Option (Int32 × gMem)
  | 0 => fun _ _ _ => none
  | n + 1 => fun j M x0 => if j = 0 then fr_X14_isTest (fX14R n) M x0 else if j = 1 then fr_X14_isBoth (fX14R n) M x0 else if j = 2 then fr_X14_isSingle (fX14R n) M x0 else if j = 3 then fr_X14_isSum (fX14R n) M x0 else if j = 4 then fr_X14_isProduct (fX14R n) M x0 else if j = 5 then fr_X14_isValue (fX14R n) M x0 else none
theorem mX14R (l : Launch) {D : va_G} {cy : Nat → ClassId} {B : Nat} {H0 : Heap} {Z : Nat → Nat} : ∀ n : Nat, hX14R l D cy B H0 Z n (fX14R n)
  | 0 => ⟨fun M M1 r x0 h => by simp [fX14R] at h, fun M M1 r x0 h => by simp [fX14R] at h, fun M M1 r x0 h => by simp [fX14R] at h, fun M M1 r x0 h => by simp [fX14R] at h, fun M M1 r x0 h => by simp [fX14R] at h, fun M M1 r x0 h => by simp [fX14R] at h⟩
  | n + 1 => ⟨fun M M1 r x0 h => mr_X14_isTest l (mX14R l n) (by simpa [fX14R] using h), fun M M1 r x0 h => mr_X14_isBoth l (mX14R l n) (by simpa [fX14R] using h), fun M M1 r x0 h => mr_X14_isSingle l (mX14R l n) (by simpa [fX14R] using h), fun M M1 r x0 h => mr_X14_isSum l (mX14R l n) (by simpa [fX14R] using h), fun M M1 r x0 h => mr_X14_isProduct l (mX14R l n) (by simpa [fX14R] using h), fun M M1 r x0 h => mr_X14_isValue l (mX14R l n) (by simpa [fX14R] using h)⟩
noncomputable def f_X14_isTest (M : gMem) (x0 : Nat) : Option (Int32 × gMem) := fX14R 64 0 M x0
abbrev rX14_isTest : Room := { frames := 68, cells := 0, slots := 0, locals := 2645 }
theorem m_X14_isTest (l : Launch) {D : va_G} {cy : Nat → ClassId} {B : Nat} {H0 : Heap} {Z : Nat → Nat} {M M1 : gMem} {x0 : Nat} {r : Int32} (hf : f_X14_isTest M x0 = some (r, M1)) : Met l yX14_isTest wsX14_isTest rX14_isTest (va_Pc (Value.ref x0 :: List.map gv []) (gPre D cy B H0 (gSt Z B H0) M)) (gQ D cy B H0 (some (vI r)) M1) 0 0 (gA B) := (mX14R l 64).1 _ _ _ _ hf
noncomputable def f_X14_isBoth (M : gMem) (x0 : Nat) : Option (Int32 × gMem) := fX14R 64 1 M x0
abbrev rX14_isBoth : Room := { frames := 68, cells := 0, slots := 0, locals := 2645 }
theorem m_X14_isBoth (l : Launch) {D : va_G} {cy : Nat → ClassId} {B : Nat} {H0 : Heap} {Z : Nat → Nat} {M M1 : gMem} {x0 : Nat} {r : Int32} (hf : f_X14_isBoth M x0 = some (r, M1)) : Met l yX14_isBoth wsX14_isBoth rX14_isBoth (va_Pc (Value.ref x0 :: List.map gv []) (gPre D cy B H0 (gSt Z B H0) M)) (gQ D cy B H0 (some (vI r)) M1) 0 0 (gA B) := (mX14R l 64).2.1 _ _ _ _ hf
noncomputable def f_X14_isSingle (M : gMem) (x0 : Nat) : Option (Int32 × gMem) := fX14R 64 2 M x0
abbrev rX14_isSingle : Room := { frames := 68, cells := 0, slots := 0, locals := 2645 }
theorem m_X14_isSingle (l : Launch) {D : va_G} {cy : Nat → ClassId} {B : Nat} {H0 : Heap} {Z : Nat → Nat} {M M1 : gMem} {x0 : Nat} {r : Int32} (hf : f_X14_isSingle M x0 = some (r, M1)) : Met l yX14_isSingle wsX14_isSingle rX14_isSingle (va_Pc (Value.ref x0 :: List.map gv []) (gPre D cy B H0 (gSt Z B H0) M)) (gQ D cy B H0 (some (vI r)) M1) 0 0 (gA B) := (mX14R l 64).2.2.1 _ _ _ _ hf
noncomputable def f_X14_isSum (M : gMem) (x0 : Nat) : Option (Int32 × gMem) := fX14R 64 3 M x0
abbrev rX14_isSum : Room := { frames := 68, cells := 0, slots := 0, locals := 2645 }
theorem m_X14_isSum (l : Launch) {D : va_G} {cy : Nat → ClassId} {B : Nat} {H0 : Heap} {Z : Nat → Nat} {M M1 : gMem} {x0 : Nat} {r : Int32} (hf : f_X14_isSum M x0 = some (r, M1)) : Met l yX14_isSum wsX14_isSum rX14_isSum (va_Pc (Value.ref x0 :: List.map gv []) (gPre D cy B H0 (gSt Z B H0) M)) (gQ D cy B H0 (some (vI r)) M1) 0 0 (gA B) := (mX14R l 64).2.2.2.1 _ _ _ _ hf
noncomputable def f_X14_isProduct (M : gMem) (x0 : Nat) : Option (Int32 × gMem) := fX14R 64 4 M x0
abbrev rX14_isProduct : Room := { frames := 68, cells := 0, slots := 0, locals := 2645 }
theorem m_X14_isProduct (l : Launch) {D : va_G} {cy : Nat → ClassId} {B : Nat} {H0 : Heap} {Z : Nat → Nat} {M M1 : gMem} {x0 : Nat} {r : Int32} (hf : f_X14_isProduct M x0 = some (r, M1)) : Met l yX14_isProduct wsX14_isProduct rX14_isProduct (va_Pc (Value.ref x0 :: List.map gv []) (gPre D cy B H0 (gSt Z B H0) M)) (gQ D cy B H0 (some (vI r)) M1) 0 0 (gA B) := (mX14R l 64).2.2.2.2.1 _ _ _ _ hf
noncomputable def f_X14_isValue (M : gMem) (x0 : Nat) : Option (Int32 × gMem) := fX14R 64 5 M x0
abbrev rX14_isValue : Room := { frames := 68, cells := 0, slots := 0, locals := 2645 }
theorem m_X14_isValue (l : Launch) {D : va_G} {cy : Nat → ClassId} {B : Nat} {H0 : Heap} {Z : Nat → Nat} {M M1 : gMem} {x0 : Nat} {r : Int32} (hf : f_X14_isValue M x0 = some (r, M1)) : Met l yX14_isValue wsX14_isValue rX14_isValue (va_Pc (Value.ref x0 :: List.map gv []) (gPre D cy B H0 (gSt Z B H0) M)) (gQ D cy B H0 (some (vI r)) M1) 0 0 (gA B) := (mX14R l 64).2.2.2.2.2 _ _ _ _ hf
end
