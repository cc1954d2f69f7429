section
variable {p : Program} {l : Launch} {e : Env} {s : State} {m : MethodId} {args : Array Value} {below : List Frame} {meth : Method} {c : Code} {D : va_G} {cy : Nat → ClassId} {B : Nat} {H0 : Heap} {Z : Nat → Nat}
abbrev rX14R (n : Nat) : Room := { frames := n + 4, cells := 0, slots := 0, locals := n * 40 + 85 }
theorem rX14R_f {n a : Nat} (h : a ≤ 4) : a ≤ (rX14R (n + 1)).frames := by show a ≤ n + 1 + 4; omega
theorem rX14R_l {n a : Nat} (h : a ≤ 85) : a ≤ (rX14R (n + 1)).locals := by show a ≤ (n + 1) * 40 + 85; omega
theorem rX14R_rf {n : Nat} : (rX14R n).frames + 1 ≤ (rX14R (n + 1)).frames := by show n + 4 + 1 ≤ n + 1 + 4; omega
theorem rX14R_rl {n a : Nat} (h : a ≤ 21) : 8 + (a + 11) + (rX14R n).locals ≤ (rX14R (n + 1)).locals := by show 8 + (a + 11) + (n * 40 + 85) ≤ (n + 1) * 40 + 85; omega
def hX14R (l : Launch) (D : va_G) (cy : Nat → ClassId) (B : Nat) (H0 : Heap) (Z : Nat → Nat) (n0 : Nat) (F : Nat → gMem → Nat → Option (Int32 × gMem)) : Prop :=
  (∀ (M M1 : gMem) (r : Int32) (x0 : Nat), F 0 M x0 = some (r, M1) → Met l yX14_isTest wsX14_isTest (rX14R n0) (va_Pc (Value.ref x0 :: List.map gv []) (gPre D cy B H0 (gSt Z B H0) M)) (gQ D cy B H0 (some (vI r)) M1) 0 0 (gA B)) ∧
  (∀ (M M1 : gMem) (r : Int32) (x0 : Nat), F 1 M x0 = some (r, M1) → Met l yX14_isBoth wsX14_isBoth (rX14R n0) (va_Pc (Value.ref x0 :: List.map gv []) (gPre D cy B H0 (gSt Z B H0) M)) (gQ D cy B H0 (some (vI r)) M1) 0 0 (gA B)) ∧
  (∀ (M M1 : gMem) (r : Int32) (x0 : Nat), F 2 M x0 = some (r, M1) → Met l yX14_isSingle wsX14_isSingle (rX14R n0) (va_Pc (Value.ref x0 :: List.map gv []) (gPre D cy B H0 (gSt Z B H0) M)) (gQ D cy B H0 (some (vI r)) M1) 0 0 (gA B)) ∧
  (∀ (M M1 : gMem) (r : Int32) (x0 : Nat), F 3 M x0 = some (r, M1) → Met l yX14_isSum wsX14_isSum (rX14R n0) (va_Pc (Value.ref x0 :: List.map gv []) (gPre D cy B H0 (gSt Z B H0) M)) (gQ D cy B H0 (some (vI r)) M1) 0 0 (gA B)) ∧
  (∀ (M M1 : gMem) (r : Int32) (x0 : Nat), F 4 M x0 = some (r, M1) → Met l yX14_isProduct wsX14_isProduct (rX14R n0) (va_Pc (Value.ref x0 :: List.map gv []) (gPre D cy B H0 (gSt Z B H0) M)) (gQ D cy B H0 (some (vI r)) M1) 0 0 (gA B)) ∧
  (∀ (M M1 : gMem) (r : Int32) (x0 : Nat), F 5 M x0 = some (r, M1) → Met l yX14_isValue wsX14_isValue (rX14R n0) (va_Pc (Value.ref x0 :: List.map gv []) (gPre D cy B H0 (gSt Z B H0) M)) (gQ D cy B H0 (some (vI r)) M1) 0 0 (gA B))
/-! ## TideLotsModel.isTest()Z -/
theorem dX14_isTest_0 : decode cX14_isTest 0 = .ok (.aload_n 0, 1) := by decide +kernel
theorem dX14_isTest_1 : decode cX14_isTest 1 = .ok (.invokevirtual 177, 3) := by decide +kernel
theorem dX14_isTest_4 : decode cX14_isTest 4 = .ok (.ifCond .ne 5, 3) := by decide +kernel
theorem dX14_isTest_7 : decode cX14_isTest 7 = .ok (.iconst 0, 1) := by decide +kernel
theorem dX14_isTest_8 : decode cX14_isTest 8 = .ok (.ireturn, 1) := by decide +kernel
theorem dX14_isTest_9 : decode cX14_isTest 9 = .ok (.aload_n 0, 1) := by decide +kernel
theorem dX14_isTest_10 : decode cX14_isTest 10 = .ok (.bipush 22, 2) := by decide +kernel
theorem dX14_isTest_12 : decode cX14_isTest 12 = .ok (.invokevirtual 124, 3) := by decide +kernel
theorem dX14_isTest_15 : decode cX14_isTest 15 = .ok (.ifCond .eq 21, 3) := by decide +kernel
theorem dX14_isTest_18 : decode cX14_isTest 18 = .ok (.aload_n 0, 1) := by decide +kernel
theorem dX14_isTest_19 : decode cX14_isTest 19 = .ok (.invokevirtual 177, 3) := by decide +kernel
theorem dX14_isTest_22 : decode cX14_isTest 22 = .ok (.ifCond .ne 5, 3) := by decide +kernel
theorem dX14_isTest_25 : decode cX14_isTest 25 = .ok (.iconst 0, 1) := by decide +kernel
theorem dX14_isTest_26 : decode cX14_isTest 26 = .ok (.ireturn, 1) := by decide +kernel
theorem dX14_isTest_27 : decode cX14_isTest 27 = .ok (.aload_n 0, 1) := by decide +kernel
theorem dX14_isTest_28 : decode cX14_isTest 28 = .ok (.bipush 22, 2) := by decide +kernel
theorem dX14_isTest_30 : decode cX14_isTest 30 = .ok (.invokevirtual 180, 3) := by decide +kernel
theorem dX14_isTest_33 : decode cX14_isTest 33 = .ok (.goto (-24), 3) := by decide +kernel
theorem dX14_isTest_36 : decode cX14_isTest 36 = .ok (.iconst 1, 1) := by decide +kernel
theorem dX14_isTest_37 : decode cX14_isTest 37 = .ok (.ireturn, 1) := by decide +kernel
set_option maxRecDepth 20000 in
theorem ggX14_isTest_X14_eat : GoodIn wsX14_isTest wsX14_eat := goodIn_rr wsB_X14_isTest_in _ [(1, 7), (1, 8), (1, 9), (1, 10), (1, 11), (1, 3), (1, 12), (1, 13), (4, 0), (4, 1), (4, 2), (4, 3), (4, 4), (4, 5), (4, 6), (4, 7), (4, 8), (4, 9), (4, 10), (4, 11), (4, 12), (4, 13), (4, 14)] (by decide +kernel) (by decide +kernel)
set_option maxRecDepth 20000 in
theorem gX14_isTest_X14_eat : GoodIn wsX14_isTest (wsV RX14 124 RX14 yX14_eat wsX14_eat) := goodIn_app (goodIn_rr wsB_X14_isTest_in _ [(1, 4), (1, 5), (1, 6), (1, 3)] (by decide +kernel) (by decide +kernel)) ggX14_isTest_X14_eat
set_option maxRecDepth 20000 in
theorem ggX14_isTest_X14_isBoth : GoodIn wsX14_isTest wsX14_isBoth := goodIn_2 24 (goodIn_rr wsB_X14_isTest_in _ [(1, 19), (1, 20), (1, 21), (1, 22), (1, 3), (1, 4), (1, 5), (1, 6), (1, 7), (1, 8), (1, 9), (1, 10), (1, 11), (1, 12), (1, 13), (1, 14), (1, 15), (1, 16), (1, 17), (1, 18), (1, 23), (2, 0), (2, 1), (2, 2)] (by decide +kernel) (by decide +kernel)) (goodIn_2 24 (goodIn_rr wsB_X14_isTest_in _ [(2, 3), (2, 4), (2, 5), (2, 6), (2, 7), (2, 8), (2, 9), (2, 10), (2, 11), (2, 12), (2, 13), (2, 14), (2, 15), (2, 16), (2, 17), (2, 18), (2, 19), (2, 20), (2, 21), (2, 22), (2, 23), (3, 0), (3, 1), (3, 2)] (by decide +kernel) (by decide +kernel)) (goodIn_2 24 (goodIn_rr wsB_X14_isTest_in _ [(3, 3), (3, 4), (3, 5), (3, 6), (3, 7), (3, 8), (3, 9), (3, 10), (3, 11), (3, 12), (3, 13), (3, 14), (3, 15), (3, 16), (3, 17), (3, 18), (3, 19), (0, 0), (1, 0), (1, 1), (1, 2), (4, 0), (4, 1), (4, 2)] (by decide +kernel) (by decide +kernel)) (goodIn_2 24 (goodIn_rr wsB_X14_isTest_in _ [(4, 3), (4, 4), (4, 5), (4, 6), (4, 7), (4, 8), (4, 9), (4, 10), (4, 11), (4, 12), (4, 13), (4, 14), (5, 0), (5, 1), (5, 2), (5, 3), (5, 4), (5, 5), (5, 6), (5, 7), (5, 8), (5, 9), (5, 10), (5, 11)] (by decide +kernel) (by decide +kernel)) (goodIn_rr wsB_X14_isTest_in _ [(5, 12), (5, 13), (5, 14), (5, 15), (5, 16), (5, 17), (5, 18), (5, 19), (5, 20), (5, 21), (5, 22), (5, 23), (5, 24)] (by decide +kernel) (by decide +kernel)))))
set_option maxRecDepth 20000 in
theorem gX14_isTest_X14_isBoth : GoodIn wsX14_isTest (wsV RX14 177 RX14 yX14_isBoth wsX14_isBoth) := goodIn_app (goodIn_rr wsB_X14_isTest_in _ [(1, 0), (1, 1), (1, 2), (1, 3)] (by decide +kernel) (by decide +kernel)) ggX14_isTest_X14_isBoth
set_option maxRecDepth 20000 in
theorem ggX14_isTest_X14_put : GoodIn wsX14_isTest wsX14_put := goodIn_2 24 (goodIn_rr wsB_X14_isTest_in _ [(1, 17), (1, 18), (4, 0), (4, 1), (4, 2), (4, 3), (4, 4), (4, 5), (4, 6), (4, 7), (4, 8), (4, 9), (4, 10), (4, 11), (4, 12), (4, 13), (4, 14), (5, 0), (5, 1), (5, 2), (5, 3), (5, 4), (5, 5), (5, 6)] (by decide +kernel) (by decide +kernel)) (goodIn_rr wsB_X14_isTest_in _ [(5, 7), (5, 8), (5, 9), (5, 10), (5, 11), (5, 12), (5, 13), (5, 14), (5, 15), (5, 16), (5, 17), (5, 18), (5, 19), (5, 20), (5, 21), (5, 22), (5, 23), (5, 24)] (by decide +kernel) (by decide +kernel))
set_option maxRecDepth 20000 in
theorem gX14_isTest_X14_put : GoodIn wsX14_isTest (wsV RX14 180 RX14 yX14_put wsX14_put) := goodIn_app (goodIn_rr wsB_X14_isTest_in _ [(1, 14), (1, 15), (1, 16), (1, 3)] (by decide +kernel) (by decide +kernel)) ggX14_isTest_X14_put
noncomputable def bb_X14_isTest_9 (F : Nat → gMem → Nat → Option (Int32 × gMem)) (M : gMem) (x0 : Nat) : Option ((gMem) ⊕ (Int32 × gMem)) :=
  ck (mT M x0 = 13) <| bd (f_X14_eat M x0 ((22 : Int32))) fun r1 M1 => (if r1 = 0 then oI (some ((1 : Int32), M1)) else ck (mT M1 x0 = 13) <| bd (F 1 M1 x0) fun r4 M4 => (if r4 = 0 then oI (some ((0 : Int32), M4)) else ck (mT M4 x0 = 13) <| bd (f_X14_put M4 x0 ((22 : Int32))) fun _ M6 => some (.inl M6)))
noncomputable def lp_X14_isTest_9 (F : Nat → gMem → Nat → Option (Int32 × gMem)) (M : gMem) (x0 : Nat) : Option (Int32 × gMem) :=
  lp (fun (q : gMem) => bb_X14_isTest_9 F q x0) M
noncomputable def b_X14_isTest_0 (F : Nat → gMem → Nat → Option (Int32 × gMem)) (M : gMem) (x0 : Nat) : Option (Int32 × gMem) :=
  ck (mT M x0 = 13) <| bd (F 1 M x0) fun r9 M9 => (if r9 = 0 then some ((0 : Int32), M9) else lp_X14_isTest_9 F M9 x0)
noncomputable def fr_X14_isTest (F : Nat → gMem → Nat → Option (Int32 × gMem)) (M : gMem) (x0 : Nat) : Option (Int32 × gMem) :=
  b_X14_isTest_0 F M x0
set_option maxHeartbeats 4000000 in
set_option maxRecDepth 100000 in
theorem tb_X14_isTest_9 (X : gX p s m args meth c D cy B (gSt Z B H0) RX14 cX14_isTest wsX14_isTest 1) (hr : meth.sig.returnType = (some .boolean)) {n0 : Nat} {F : Nat → gMem → Nat → Option (Int32 × gMem)} (hF : hX14R l D cy B H0 Z n0 F) {Q : State → Prop} : ∀ (M : gMem) (x0 : Nat) (z : (gMem) ⊕ (Int32 × gMem)), bb_X14_isTest_9 F M x0 = some z → (Sum.elim (fun (q : gMem) => gGo p l e (rX14R (n0 + 1)) s m args below meth c D cy B H0 1 0 0 Q 9 [(0, vR (some x0))] [] q) (fun (r : Int32 × gMem) => Q = gMQ below D cy B H0 args s 0 0 (some (vI r.1)) r.2)) z → gGo p l e (rX14R (n0 + 1)) s m args below meth c D cy B H0 1 0 0 Q 9 [(0, vR (some x0))] [] M := by
  intro M x0 z hf hK
  unfold bb_X14_isTest_9 at hf
  refine g_aload_n X dX14_isTest_9 rfl rfl ?_
  refine g_bipush (v := (22 : Int32)) X dX14_isTest_10 (by decide) ?_
  obtain ⟨hT2, hf⟩ := ck_e hf
  obtain ⟨r1, M1, hq1, hf⟩ := bd_e hf
  refine g_callV (ci := 12) (b := x0) (As := [vI (22 : Int32)]) (st := []) (v := some (vI r1)) (M1 := M1) X (m_X14_eat l hq1) (cwV 1 X.2.2.1 gX14_isTest_X14_eat rfl rfl rfl (by decide +kernel) ⟨rX14R_f (Nat.le_of_ble_eq_true rfl), rX14R_l (Nat.le_of_ble_eq_true rfl)⟩) rfl rfl rfl hT2 (by decide) rfl (Nat.le_of_ble_eq_true rfl) dX14_isTest_12 ⟨Nat.zero_le _, Nat.zero_le _⟩ ?_
  refine g_if_eq (tgt := 36) X dX14_isTest_15 (by decide) (fun hc => ?_) (fun hc => ?_)
  · have hf := ife_t hc hf
    refine g_iconst (v := (1 : Int32)) X dX14_isTest_36 (by decide) ?_
    obtain ⟨w3, hw3, hz3⟩ := oI_e hf
    subst hz3
    have hf := hw3
    cases hf
    refine g_eqQ hK ?_
    exact g_zret X hr (gnb (Or.inr rfl)) dX14_isTest_37
  · have hf := ife_f hc hf
    refine g_aload_n X dX14_isTest_18 rfl rfl ?_
    obtain ⟨hT5, hf⟩ := ck_e hf
    obtain ⟨r4, M4, hq4, hf⟩ := bd_e hf
    refine g_callV (ci := 12) (b := x0) (As := []) (st := []) (v := some (vI r4)) (M1 := M4) X (hF.2.1 _ _ _ _ hq4) (cwV 0 X.2.2.1 gX14_isTest_X14_isBoth rfl rfl rfl (by decide +kernel) ⟨rX14R_rf, rX14R_rl (Nat.le_of_ble_eq_true rfl)⟩) rfl rfl rfl hT5 (by decide) rfl (Nat.le_of_ble_eq_true rfl) dX14_isTest_19 ⟨Nat.zero_le _, Nat.zero_le _⟩ ?_
    refine g_if_ne (tgt := 27) X dX14_isTest_22 (by decide) (fun hc => ?_) (fun hc => ?_)
    · have hf := ife_f hc hf
      refine g_aload_n X dX14_isTest_27 rfl rfl ?_
      refine g_bipush (v := (22 : Int32)) X dX14_isTest_28 (by decide) ?_
      obtain ⟨hT7, hf⟩ := ck_e hf
      obtain ⟨r6, M6, hq6, hf⟩ := bd_e hf
      refine g_callV (ci := 12) (b := x0) (As := [vI (22 : Int32)]) (st := []) (v := none) (M1 := M6) X (m_X14_put l hq6) (cwV 1 X.2.2.1 gX14_isTest_X14_put rfl rfl rfl (by decide +kernel) ⟨rX14R_f (Nat.le_of_ble_eq_true rfl), rX14R_l (Nat.le_of_ble_eq_true rfl)⟩) rfl rfl rfl hT7 (by decide) rfl (Nat.le_of_ble_eq_true rfl) dX14_isTest_30 ⟨Nat.zero_le _, Nat.zero_le _⟩ ?_
      refine g_goto (tgt := 9) X dX14_isTest_33 (by decide) ?_
      cases hf
      refine g_sub (lvsub_of _ _ [0] rfl) ?_
      exact hK
    · have hf := ife_t hc hf
      refine g_iconst (v := (0 : Int32)) X dX14_isTest_25 (by decide) ?_
      obtain ⟨w8, hw8, hz8⟩ := oI_e hf
      subst hz8
      have hf := hw8
      cases hf
      refine g_eqQ hK ?_
      exact g_zret X hr (gnb (Or.inl rfl)) dX14_isTest_26
set_option maxHeartbeats 4000000 in
set_option maxRecDepth 100000 in
theorem tl_X14_isTest_9 (X : gX p s m args meth c D cy B (gSt Z B H0) RX14 cX14_isTest wsX14_isTest 1) (hr : meth.sig.returnType = (some .boolean)) {n0 : Nat} {F : Nat → gMem → Nat → Option (Int32 × gMem)} (hF : hX14R l D cy B H0 Z n0 F) {Q : State → Prop} : ∀ (M : gMem) (x0 : Nat) (z : Int32 × gMem), lp_X14_isTest_9 F M x0 = some z → (fun (r : Int32 × gMem) => Q = gMQ below D cy B H0 args s 0 0 (some (vI r.1)) r.2) z → gGo p l e (rX14R (n0 + 1)) s m args below meth c D cy B H0 1 0 0 Q 9 [(0, vR (some x0))] [] M := by
  intro M x0 z hf hK
  refine lp_ind (P := (fun (q : gMem) (z : Int32 × gMem) => (fun (r : Int32 × gMem) => Q = gMQ below D cy B H0 args s 0 0 (some (vI r.1)) r.2) z → gGo p l e (rX14R (n0 + 1)) s m args below meth c D cy B H0 1 0 0 Q 9 [(0, vR (some x0))] [] q)) (fun q z hq => ?_) _ _ hf hK
  intro hK
  obtain ⟨w, hw, hm⟩ := hq
  refine tb_X14_isTest_9 X hr hF _ _ w hw ?_
  cases w with
  | inl a => exact hm hK
  | inr b => cases hm; exact hK
set_option maxHeartbeats 4000000 in
set_option maxRecDepth 100000 in
theorem t_X14_isTest_0 (X : gX p s m args meth c D cy B (gSt Z B H0) RX14 cX14_isTest wsX14_isTest 1) (hr : meth.sig.returnType = (some .boolean)) {n0 : Nat} {F : Nat → gMem → Nat → Option (Int32 × gMem)} (hF : hX14R l D cy B H0 Z n0 F) {Q : State → Prop} : ∀ (M : gMem) (x0 : Nat) (z : Int32 × gMem), b_X14_isTest_0 F M x0 = some z → (fun (r : Int32 × gMem) => Q = gMQ below D cy B H0 args s 0 0 (some (vI r.1)) r.2) z → gGo p l e (rX14R (n0 + 1)) s m args below meth c D cy B H0 1 0 0 Q 0 [(0, vR (some x0))] [] M := by
  intro M x0 z hf hK
  unfold b_X14_isTest_0 at hf
  refine g_aload_n X dX14_isTest_0 rfl rfl ?_
  obtain ⟨hT10, hf⟩ := ck_e hf
  obtain ⟨r9, M9, hq9, hf⟩ := bd_e hf
  refine g_callV (ci := 12) (b := x0) (As := []) (st := []) (v := some (vI r9)) (M1 := M9) X (hF.2.1 _ _ _ _ hq9) (cwV 0 X.2.2.1 gX14_isTest_X14_isBoth rfl rfl rfl (by decide +kernel) ⟨rX14R_rf, rX14R_rl (Nat.le_of_ble_eq_true rfl)⟩) rfl rfl rfl hT10 (by decide) rfl (Nat.le_of_ble_eq_true rfl) dX14_isTest_1 ⟨Nat.zero_le _, Nat.zero_le _⟩ ?_
  refine g_if_ne (tgt := 9) X dX14_isTest_4 (by decide) (fun hc => ?_) (fun hc => ?_)
  · have hf := ife_f hc hf
    refine g_sub (lvsub_of _ _ [0] rfl) ?_
    exact tl_X14_isTest_9 X hr hF _ _ _ hf hK
  · have hf := ife_t hc hf
    refine g_iconst (v := (0 : Int32)) X dX14_isTest_7 (by decide) ?_
    cases hf
    refine g_eqQ hK ?_
    exact g_zret X hr (gnb (Or.inl rfl)) dX14_isTest_8
set_option maxHeartbeats 4000000 in
set_option maxRecDepth 100000 in
theorem mr_X14_isTest (l : Launch) {D : va_G} {cy : Nat → ClassId} {B : Nat} {H0 : Heap} {Z : Nat → Nat} {M M1 : gMem} {n0 : Nat} {F : Nat → gMem → Nat → Option (Int32 × gMem)} (hF : hX14R l D cy B H0 Z n0 F) {x0 : Nat} {r : Int32} (hf : fr_X14_isTest F M x0 = some (r, M1)) : Met l yX14_isTest wsX14_isTest (rX14R (n0 + 1)) (va_Pc (Value.ref x0 :: List.map gv []) (gPre D cy B H0 (gSt Z B H0) M)) (gQ D cy B H0 (some (vI r)) M1) 0 0 (gA B) := by
  refine Met.ofW (cc := cX14_isTest) (maxL := 1) (ret := (some .boolean)) (by decide) rfl ?_
  intro p e s m args below meth c s₁ Bd hml hv
  obtain ⟨rfl, hW, hKK, hFs⟩ := hv
  have X : gX p s m _ meth c D cy B (gSt Z B H0) RX14 cX14_isTest wsX14_isTest 1 := ⟨Bd.exec, Bd.bytes, atoms_spec (ws := wsX14_isTest) Bd.pre, findClass_of_methodNamed Bd.named, hml, hKK, by rw [hW.1]; exact hW.2.1, Bd.notSynchronized, hFs⟩
  have hr := Bd.returns
  have hl := lv_entry ([.ref x0]) (n := 1) (Nat.le_of_ble_eq_true rfl)
  show W p l e (rX14R (n0 + 1)) s m _ below meth c s.heap [] 0 0 _ (entryFrame m ([.ref x0] : List Value).toArray 1)
  rw [lg_entry_eq]
  generalize (lg_sl ([.ref x0]) ++ List.replicate (1 - (lg_sl ([.ref x0])).length) Slot.unset).toArray = ls at hl ⊢
  have hl : lv_has ls 1 (List.map gq [(0, vR (some x0))]) := hl
  exact t_X14_isTest_0 X hr hF _ _ _ hf rfl s.heap [] ls hW va_S.rf (lv_has_sub hl (lvsub_of _ _ [0] rfl))
/-! ## TideLotsModel.isBoth()Z -/
theorem dX14_isBoth_0 : decode cX14_isBoth 0 = .ok (.aload_n 0, 1) := by decide +kernel
theorem dX14_isBoth_1 : decode cX14_isBoth 1 = .ok (.invokevirtual 184, 3) := by decide +kernel
theorem dX14_isBoth_4 : decode cX14_isBoth 4 = .ok (.ifCond .ne 5, 3) := by decide +kernel
theorem dX14_isBoth_7 : decode cX14_isBoth 7 = .ok (.iconst 0, 1) := by decide +kernel
theorem dX14_isBoth_8 : decode cX14_isBoth 8 = .ok (.ireturn, 1) := by decide +kernel
theorem dX14_isBoth_9 : decode cX14_isBoth 9 = .ok (.aload_n 0, 1) := by decide +kernel
theorem dX14_isBoth_10 : decode cX14_isBoth 10 = .ok (.bipush 21, 2) := by decide +kernel
theorem dX14_isBoth_12 : decode cX14_isBoth 12 = .ok (.invokevirtual 124, 3) := by decide +kernel
theorem dX14_isBoth_15 : decode cX14_isBoth 15 = .ok (.ifCond .eq 21, 3) := by decide +kernel
theorem dX14_isBoth_18 : decode cX14_isBoth 18 = .ok (.aload_n 0, 1) := by decide +kernel
theorem dX14_isBoth_19 : decode cX14_isBoth 19 = .ok (.invokevirtual 184, 3) := by decide +kernel
theorem dX14_isBoth_22 : decode cX14_isBoth 22 = .ok (.ifCond .ne 5, 3) := by decide +kernel
theorem dX14_isBoth_25 : decode cX14_isBoth 25 = .ok (.iconst 0, 1) := by decide +kernel
theorem dX14_isBoth_26 : decode cX14_isBoth 26 = .ok (.ireturn, 1) := by decide +kernel
theorem dX14_isBoth_27 : decode cX14_isBoth 27 = .ok (.aload_n 0, 1) := by decide +kernel
theorem dX14_isBoth_28 : decode cX14_isBoth 28 = .ok (.bipush 21, 2) := by decide +kernel
theorem dX14_isBoth_30 : decode cX14_isBoth 30 = .ok (.invokevirtual 180, 3) := by decide +kernel
theorem dX14_isBoth_33 : decode cX14_isBoth 33 = .ok (.goto (-24), 3) := by decide +kernel
theorem dX14_isBoth_36 : decode cX14_isBoth 36 = .ok (.iconst 1, 1) := by decide +kernel
theorem dX14_isBoth_37 : decode cX14_isBoth 37 = .ok (.ireturn, 1) := by decide +kernel
set_option maxRecDepth 20000 in
theorem ggX14_isBoth_X14_eat : GoodIn wsX14_isBoth wsX14_eat := goodIn_rr wsB_X14_isBoth_in _ [(1, 7), (1, 8), (1, 9), (1, 10), (1, 11), (1, 3), (1, 12), (1, 13), (4, 0), (4, 1), (4, 2), (4, 3), (4, 4), (4, 5), (4, 6), (4, 7), (4, 8), (4, 9), (4, 10), (4, 11), (4, 12), (4, 13), (4, 14)] (by decide +kernel) (by decide +kernel)
set_option maxRecDepth 20000 in
theorem gX14_isBoth_X14_eat : GoodIn wsX14_isBoth (wsV RX14 124 RX14 yX14_eat wsX14_eat) := goodIn_app (goodIn_rr wsB_X14_isBoth_in _ [(1, 4), (1, 5), (1, 6), (1, 3)] (by decide +kernel) (by decide +kernel)) ggX14_isBoth_X14_eat
set_option maxRecDepth 20000 in
theorem ggX14_isBoth_X14_isSingle : GoodIn wsX14_isBoth wsX14_isSingle := goodIn_2 24 (goodIn_rr wsB_X14_isBoth_in _ [(1, 19), (1, 20), (1, 8), (1, 9), (1, 10), (1, 11), (1, 3), (1, 12), (1, 13), (1, 21), (1, 22), (1, 23), (2, 0), (1, 0), (1, 1), (1, 2), (1, 14), (1, 15), (1, 16), (1, 17), (1, 18), (2, 1), (2, 2), (2, 3)] (by decide +kernel) (by decide +kernel)) (goodIn_2 24 (goodIn_rr wsB_X14_isBoth_in _ [(2, 4), (2, 5), (2, 6), (2, 7), (2, 8), (2, 9), (2, 10), (2, 11), (1, 4), (1, 5), (1, 6), (1, 7), (2, 12), (2, 13), (2, 14), (2, 15), (2, 16), (2, 17), (2, 18), (2, 19), (2, 20), (2, 21), (2, 22), (2, 23)] (by decide +kernel) (by decide +kernel)) (goodIn_2 24 (goodIn_rr wsB_X14_isBoth_in _ [(3, 0), (3, 1), (3, 2), (3, 3), (3, 4), (3, 5), (3, 6), (3, 7), (3, 8), (3, 9), (3, 10), (3, 11), (3, 12), (3, 13), (3, 14), (3, 15), (0, 0), (3, 16), (3, 17), (3, 18), (3, 19), (4, 0), (4, 1), (4, 2)] (by decide +kernel) (by decide +kernel)) (goodIn_2 24 (goodIn_rr wsB_X14_isBoth_in _ [(4, 3), (4, 4), (4, 5), (4, 6), (4, 7), (4, 8), (4, 9), (4, 10), (4, 11), (4, 12), (4, 13), (4, 14), (5, 0), (5, 1), (5, 2), (5, 3), (5, 4), (5, 5), (5, 6), (5, 7), (5, 8), (5, 9), (5, 10), (5, 11)] (by decide +kernel) (by decide +kernel)) (goodIn_rr wsB_X14_isBoth_in _ [(5, 12), (5, 13), (5, 14), (5, 15), (5, 16), (5, 17), (5, 18), (5, 19), (5, 20), (5, 21), (5, 22), (5, 23), (5, 24)] (by decide +kernel) (by decide +kernel)))))
set_option maxRecDepth 20000 in
theorem gX14_isBoth_X14_isSingle : GoodIn wsX14_isBoth (wsV RX14 184 RX14 yX14_isSingle wsX14_isSingle) := goodIn_app (goodIn_rr wsB_X14_isBoth_in _ [(1, 0), (1, 1), (1, 2), (1, 3)] (by decide +kernel) (by decide +kernel)) ggX14_isBoth_X14_isSingle
set_option maxRecDepth 20000 in
theorem ggX14_isBoth_X14_put : GoodIn wsX14_isBoth wsX14_put := goodIn_2 24 (goodIn_rr wsB_X14_isBoth_in _ [(1, 17), (1, 18), (4, 0), (4, 1), (4, 2), (4, 3), (4, 4), (4, 5), (4, 6), (4, 7), (4, 8), (4, 9), (4, 10), (4, 11), (4, 12), (4, 13), (4, 14), (5, 0), (5, 1), (5, 2), (5, 3), (5, 4), (5, 5), (5, 6)] (by decide +kernel) (by decide +kernel)) (goodIn_rr wsB_X14_isBoth_in _ [(5, 7), (5, 8), (5, 9), (5, 10), (5, 11), (5, 12), (5, 13), (5, 14), (5, 15), (5, 16), (5, 17), (5, 18), (5, 19), (5, 20), (5, 21), (5, 22), (5, 23), (5, 24)] (by decide +kernel) (by decide +kernel))
set_option maxRecDepth 20000 in
theorem gX14_isBoth_X14_put : GoodIn wsX14_isBoth (wsV RX14 180 RX14 yX14_put wsX14_put) := goodIn_app (goodIn_rr wsB_X14_isBoth_in _ [(1, 14), (1, 15), (1, 16), (1, 3)] (by decide +kernel) (by decide +kernel)) ggX14_isBoth_X14_put
noncomputable def bb_X14_isBoth_9 (F : Nat → gMem → Nat → Option (Int32 × gMem)) (M : gMem) (x0 : Nat) : Option ((gMem) ⊕ (Int32 × gMem)) :=
  ck (mT M x0 = 13) <| bd (f_X14_eat M x0 ((21 : Int32))) fun r1 M1 => (if r1 = 0 then oI (some ((1 : Int32), M1)) else ck (mT M1 x0 = 13) <| bd (F 2 M1 x0) fun r4 M4 => (if r4 = 0 then oI (some ((0 : Int32), M4)) else ck (mT M4 x0 = 13) <| bd (f_X14_put M4 x0 ((21 : Int32))) fun _ M6 => some (.inl M6)))
noncomputable def lp_X14_isBoth_9 (F : Nat → gMem → Nat → Option (Int32 × gMem)) (M : gMem) (x0 : Nat) : Option (Int32 × gMem) :=
  lp (fun (q : gMem) => bb_X14_isBoth_9 F q x0) M
noncomputable def b_X14_isBoth_0 (F : Nat → gMem → Nat → Option (Int32 × gMem)) (M : gMem) (x0 : Nat) : Option (Int32 × gMem) :=
  ck (mT M x0 = 13) <| bd (F 2 M x0) fun r9 M9 => (if r9 = 0 then some ((0 : Int32), M9) else lp_X14_isBoth_9 F M9 x0)
noncomputable def fr_X14_isBoth (F : Nat → gMem → Nat → Option (Int32 × gMem)) (M : gMem) (x0 : Nat) : Option (Int32 × gMem) :=
  b_X14_isBoth_0 F M x0
set_option maxHeartbeats 4000000 in
set_option maxRecDepth 100000 in
theorem tb_X14_isBoth_9 (X : gX p s m args meth c D cy B (gSt Z B H0) RX14 cX14_isBoth wsX14_isBoth 1) (hr : meth.sig.returnType = (some .boolean)) {n0 : Nat} {F : Nat → gMem → Nat → Option (Int32 × gMem)} (hF : hX14R l D cy B H0 Z n0 F) {Q : State → Prop} : ∀ (M : gMem) (x0 : Nat) (z : (gMem) ⊕ (Int32 × gMem)), bb_X14_isBoth_9 F M x0 = some z → (Sum.elim (fun (q : gMem) => gGo p l e (rX14R (n0 + 1)) s m args below meth c D cy B H0 1 0 0 Q 9 [(0, vR (some x0))] [] q) (fun (r : Int32 × gMem) => Q = gMQ below D cy B H0 args s 0 0 (some (vI r.1)) r.2)) z → gGo p l e (rX14R (n0 + 1)) s m args below meth c D cy B H0 1 0 0 Q 9 [(0, vR (some x0))] [] M := by
  intro M x0 z hf hK
  unfold bb_X14_isBoth_9 at hf
  refine g_aload_n X dX14_isBoth_9 rfl rfl ?_
  refine g_bipush (v := (21 : Int32)) X dX14_isBoth_10 (by decide) ?_
  obtain ⟨hT2, hf⟩ := ck_e hf
  obtain ⟨r1, M1, hq1, hf⟩ := bd_e hf
  refine g_callV (ci := 12) (b := x0) (As := [vI (21 : Int32)]) (st := []) (v := some (vI r1)) (M1 := M1) X (m_X14_eat l hq1) (cwV 1 X.2.2.1 gX14_isBoth_X14_eat rfl rfl rfl (by decide +kernel) ⟨rX14R_f (Nat.le_of_ble_eq_true rfl), rX14R_l (Nat.le_of_ble_eq_true rfl)⟩) rfl rfl rfl hT2 (by decide) rfl (Nat.le_of_ble_eq_true rfl) dX14_isBoth_12 ⟨Nat.zero_le _, Nat.zero_le _⟩ ?_
  refine g_if_eq (tgt := 36) X dX14_isBoth_15 (by decide) (fun hc => ?_) (fun hc => ?_)
  · have hf := ife_t hc hf
    refine g_iconst (v := (1 : Int32)) X dX14_isBoth_36 (by decide) ?_
    obtain ⟨w3, hw3, hz3⟩ := oI_e hf
    subst hz3
    have hf := hw3
    cases hf
    refine g_eqQ hK ?_
    exact g_zret X hr (gnb (Or.inr rfl)) dX14_isBoth_37
  · have hf := ife_f hc hf
    refine g_aload_n X dX14_isBoth_18 rfl rfl ?_
    obtain ⟨hT5, hf⟩ := ck_e hf
    obtain ⟨r4, M4, hq4, hf⟩ := bd_e hf
    refine g_callV (ci := 12) (b := x0) (As := []) (st := []) (v := some (vI r4)) (M1 := M4) X (hF.2.2.1 _ _ _ _ hq4) (cwV 0 X.2.2.1 gX14_isBoth_X14_isSingle rfl rfl rfl (by decide +kernel) ⟨rX14R_rf, rX14R_rl (Nat.le_of_ble_eq_true rfl)⟩) rfl rfl rfl hT5 (by decide) rfl (Nat.le_of_ble_eq_true rfl) dX14_isBoth_19 ⟨Nat.zero_le _, Nat.zero_le _⟩ ?_
    refine g_if_ne (tgt := 27) X dX14_isBoth_22 (by decide) (fun hc => ?_) (fun hc => ?_)
    · have hf := ife_f hc hf
      refine g_aload_n X dX14_isBoth_27 rfl rfl ?_
      refine g_bipush (v := (21 : Int32)) X dX14_isBoth_28 (by decide) ?_
      obtain ⟨hT7, hf⟩ := ck_e hf
      obtain ⟨r6, M6, hq6, hf⟩ := bd_e hf
      refine g_callV (ci := 12) (b := x0) (As := [vI (21 : Int32)]) (st := []) (v := none) (M1 := M6) X (m_X14_put l hq6) (cwV 1 X.2.2.1 gX14_isBoth_X14_put rfl rfl rfl (by decide +kernel) ⟨rX14R_f (Nat.le_of_ble_eq_true rfl), rX14R_l (Nat.le_of_ble_eq_true rfl)⟩) rfl rfl rfl hT7 (by decide) rfl (Nat.le_of_ble_eq_true rfl) dX14_isBoth_30 ⟨Nat.zero_le _, Nat.zero_le _⟩ ?_
      refine g_goto (tgt := 9) X dX14_isBoth_33 (by decide) ?_
      cases hf
      refine g_sub (lvsub_of _ _ [0] rfl) ?_
      exact hK
    · have hf := ife_t hc hf
      refine g_iconst (v := (0 : Int32)) X dX14_isBoth_25 (by decide) ?_
      obtain ⟨w8, hw8, hz8⟩ := oI_e hf
      subst hz8
      have hf := hw8
      cases hf
      refine g_eqQ hK ?_
      exact g_zret X hr (gnb (Or.inl rfl)) dX14_isBoth_26
set_option maxHeartbeats 4000000 in
set_option maxRecDepth 100000 in
theorem tl_X14_isBoth_9 (X : gX p s m args meth c D cy B (gSt Z B H0) RX14 cX14_isBoth wsX14_isBoth 1) (hr : meth.sig.returnType = (some .boolean)) {n0 : Nat} {F : Nat → gMem → Nat → Option (Int32 × gMem)} (hF : hX14R l D cy B H0 Z n0 F) {Q : State → Prop} : ∀ (M : gMem) (x0 : Nat) (z : Int32 × gMem), lp_X14_isBoth_9 F M x0 = some z → (fun (r : Int32 × gMem) => Q = gMQ below D cy B H0 args s 0 0 (some (vI r.1)) r.2) z → gGo p l e (rX14R (n0 + 1)) s m args below meth c D cy B H0 1 0 0 Q 9 [(0, vR (some x0))] [] M := by
  intro M x0 z hf hK
  refine lp_ind (P := (fun (q : gMem) (z : Int32 × gMem) => (fun (r : Int32 × gMem) => Q = gMQ below D cy B H0 args s 0 0 (some (vI r.1)) r.2) z → gGo p l e (rX14R (n0 + 1)) s m args below meth c D cy B H0 1 0 0 Q 9 [(0, vR (some x0))] [] q)) (fun q z hq => ?_) _ _ hf hK
  intro hK
  obtain ⟨w, hw, hm⟩ := hq
  refine tb_X14_isBoth_9 X hr hF _ _ w hw ?_
  cases w with
  | inl a => exact hm hK
  | inr b => cases hm; exact hK
set_option maxHeartbeats 4000000 in
set_option maxRecDepth 100000 in
theorem t_X14_isBoth_0 (X : gX p s m args meth c D cy B (gSt Z B H0) RX14 cX14_isBoth wsX14_isBoth 1) (hr : meth.sig.returnType = (some .boolean)) {n0 : Nat} {F : Nat → gMem → Nat → Option (Int32 × gMem)} (hF : hX14R l D cy B H0 Z n0 F) {Q : State → Prop} : ∀ (M : gMem) (x0 : Nat) (z : Int32 × gMem), b_X14_isBoth_0 F M x0 = some z → (fun (r : Int32 × gMem) => Q = gMQ below D cy B H0 args s 0 0 (some (vI r.1)) r.2) z → gGo p l e (rX14R (n0 + 1)) s m args below meth c D cy B H0 1 0 0 Q 0 [(0, vR (some x0))] [] M := by
  intro M x0 z hf hK
  unfold b_X14_isBoth_0 at hf
  refine g_aload_n X dX14_isBoth_0 rfl rfl ?_
  obtain ⟨hT10, hf⟩ := ck_e hf
  obtain ⟨r9, M9, hq9, hf⟩ := bd_e hf
  refine g_callV (ci := 12) (b := x0) (As := []) (st := []) (v := some (vI r9)) (M1 := M9) X (hF.2.2.1 _ _ _ _ hq9) (cwV 0 X.2.2.1 gX14_isBoth_X14_isSingle rfl rfl rfl (by decide +kernel) ⟨rX14R_rf, rX14R_rl (Nat.le_of_ble_eq_true rfl)⟩) rfl rfl rfl hT10 (by decide) rfl (Nat.le_of_ble_eq_true rfl) dX14_isBoth_1 ⟨Nat.zero_le _, Nat.zero_le _⟩ ?_
  refine g_if_ne (tgt := 9) X dX14_isBoth_4 (by decide) (fun hc => ?_) (fun hc => ?_)
  · have hf := ife_f hc hf
    refine g_sub (lvsub_of _ _ [0] rfl) ?_
    exact tl_X14_isBoth_9 X hr hF _ _ _ hf hK
  · have hf := ife_t hc hf
    refine g_iconst (v := (0 : Int32)) X dX14_isBoth_7 (by decide) ?_
    cases hf
    refine g_eqQ hK ?_
    exact g_zret X hr (gnb (Or.inl rfl)) dX14_isBoth_8
set_option maxHeartbeats 4000000 in
set_option maxRecDepth 100000 in
theorem mr_X14_isBoth (l : Launch) {D : va_G} {cy : Nat → ClassId} {B : Nat} {H0 : Heap} {Z : Nat → Nat} {M M1 : gMem} {n0 : Nat} {F : Nat → gMem → Nat → Option (Int32 × gMem)} (hF : hX14R l D cy B H0 Z n0 F) {x0 : Nat} {r : Int32} (hf : fr_X14_isBoth F M x0 = some (r, M1)) : Met l yX14_isBoth wsX14_isBoth (rX14R (n0 + 1)) (va_Pc (Value.ref x0 :: List.map gv []) (gPre D cy B H0 (gSt Z B H0) M)) (gQ D cy B H0 (some (vI r)) M1) 0 0 (gA B) := by
  refine Met.ofW (cc := cX14_isBoth) (maxL := 1) (ret := (some .boolean)) (by decide) rfl ?_
  intro p e s m args below meth c s₁ Bd hml hv
  obtain ⟨rfl, hW, hKK, hFs⟩ := hv
  have X : gX p s m _ meth c D cy B (gSt Z B H0) RX14 cX14_isBoth wsX14_isBoth 1 := ⟨Bd.exec, Bd.bytes, atoms_spec (ws := wsX14_isBoth) Bd.pre, findClass_of_methodNamed Bd.named, hml, hKK, by rw [hW.1]; exact hW.2.1, Bd.notSynchronized, hFs⟩
  have hr := Bd.returns
  have hl := lv_entry ([.ref x0]) (n := 1) (Nat.le_of_ble_eq_true rfl)
  show W p l e (rX14R (n0 + 1)) s m _ below meth c s.heap [] 0 0 _ (entryFrame m ([.ref x0] : List Value).toArray 1)
  rw [lg_entry_eq]
  generalize (lg_sl ([.ref x0]) ++ List.replicate (1 - (lg_sl ([.ref x0])).length) Slot.unset).toArray = ls at hl ⊢
  have hl : lv_has ls 1 (List.map gq [(0, vR (some x0))]) := hl
  exact t_X14_isBoth_0 X hr hF _ _ _ hf rfl s.heap [] ls hW va_S.rf (lv_has_sub hl (lvsub_of _ _ [0] rfl))
/-! ## TideLotsModel.isSingle()Z -/
theorem dX14_isSingle_0 : decode cX14_isSingle 0 = .ok (.aload_n 0, 1) := by decide +kernel
theorem dX14_isSingle_1 : decode cX14_isSingle 1 = .ok (.bipush 20, 2) := by decide +kernel
theorem dX14_isSingle_3 : decode cX14_isSingle 3 = .ok (.invokevirtual 121, 3) := by decide +kernel
theorem dX14_isSingle_6 : decode cX14_isSingle 6 = .ok (.ifCond .eq 37, 3) := by decide +kernel
theorem dX14_isSingle_9 : decode cX14_isSingle 9 = .ok (.aload_n 0, 1) := by decide +kernel
theorem dX14_isSingle_10 : decode cX14_isSingle 10 = .ok (.invokevirtual 196, 3) := by decide +kernel
theorem dX14_isSingle_13 : decode cX14_isSingle 13 = .ok (.ifCond .eq 10, 3) := by decide +kernel
theorem dX14_isSingle_16 : decode cX14_isSingle 16 = .ok (.aload_n 0, 1) := by decide +kernel
theorem dX14_isSingle_17 : decode cX14_isSingle 17 = .ok (.invokevirtual 184, 3) := by decide +kernel
theorem dX14_isSingle_20 : decode cX14_isSingle 20 = .ok (.ifCond .ne 5, 3) := by decide +kernel
theorem dX14_isSingle_23 : decode cX14_isSingle 23 = .ok (.iconst 0, 1) := by decide +kernel
theorem dX14_isSingle_24 : decode cX14_isSingle 24 = .ok (.ireturn, 1) := by decide +kernel
theorem dX14_isSingle_25 : decode cX14_isSingle 25 = .ok (.aload_n 0, 1) := by decide +kernel
theorem dX14_isSingle_26 : decode cX14_isSingle 26 = .ok (.dup, 1) := by decide +kernel
theorem dX14_isSingle_27 : decode cX14_isSingle 27 = .ok (.getfield 187, 3) := by decide +kernel
theorem dX14_isSingle_30 : decode cX14_isSingle 30 = .ok (.iconst 1, 1) := by decide +kernel
theorem dX14_isSingle_31 : decode cX14_isSingle 31 = .ok (.isub, 1) := by decide +kernel
theorem dX14_isSingle_32 : decode cX14_isSingle 32 = .ok (.putfield 187, 3) := by decide +kernel
theorem dX14_isSingle_35 : decode cX14_isSingle 35 = .ok (.aload_n 0, 1) := by decide +kernel
theorem dX14_isSingle_36 : decode cX14_isSingle 36 = .ok (.bipush 20, 2) := by decide +kernel
theorem dX14_isSingle_38 : decode cX14_isSingle 38 = .ok (.invokevirtual 180, 3) := by decide +kernel
theorem dX14_isSingle_41 : decode cX14_isSingle 41 = .ok (.iconst 1, 1) := by decide +kernel
theorem dX14_isSingle_42 : decode cX14_isSingle 42 = .ok (.ireturn, 1) := by decide +kernel
theorem dX14_isSingle_43 : decode cX14_isSingle 43 = .ok (.aload_n 0, 1) := by decide +kernel
theorem dX14_isSingle_44 : decode cX14_isSingle 44 = .ok (.bipush 91, 2) := by decide +kernel
theorem dX14_isSingle_46 : decode cX14_isSingle 46 = .ok (.invokevirtual 199, 3) := by decide +kernel
theorem dX14_isSingle_49 : decode cX14_isSingle 49 = .ok (.ifCond .eq 36, 3) := by decide +kernel
theorem dX14_isSingle_52 : decode cX14_isSingle 52 = .ok (.aload_n 0, 1) := by decide +kernel
theorem dX14_isSingle_53 : decode cX14_isSingle 53 = .ok (.invokevirtual 196, 3) := by decide +kernel
theorem dX14_isSingle_56 : decode cX14_isSingle 56 = .ok (.ifCond .eq 10, 3) := by decide +kernel
theorem dX14_isSingle_59 : decode cX14_isSingle 59 = .ok (.aload_n 0, 1) := by decide +kernel
theorem dX14_isSingle_60 : decode cX14_isSingle 60 = .ok (.invokevirtual 159, 3) := by decide +kernel
theorem dX14_isSingle_63 : decode cX14_isSingle 63 = .ok (.ifCond .ne 5, 3) := by decide +kernel
theorem dX14_isSingle_66 : decode cX14_isSingle 66 = .ok (.iconst 0, 1) := by decide +kernel
theorem dX14_isSingle_67 : decode cX14_isSingle 67 = .ok (.ireturn, 1) := by decide +kernel
theorem dX14_isSingle_68 : decode cX14_isSingle 68 = .ok (.aload_n 0, 1) := by decide +kernel
theorem dX14_isSingle_69 : decode cX14_isSingle 69 = .ok (.dup, 1) := by decide +kernel
theorem dX14_isSingle_70 : decode cX14_isSingle 70 = .ok (.getfield 187, 3) := by decide +kernel
theorem dX14_isSingle_73 : decode cX14_isSingle 73 = .ok (.iconst 1, 1) := by decide +kernel
theorem dX14_isSingle_74 : decode cX14_isSingle 74 = .ok (.isub, 1) := by decide +kernel
theorem dX14_isSingle_75 : decode cX14_isSingle 75 = .ok (.putfield 187, 3) := by decide +kernel
theorem dX14_isSingle_78 : decode cX14_isSingle 78 = .ok (.aload_n 0, 1) := by decide +kernel
theorem dX14_isSingle_79 : decode cX14_isSingle 79 = .ok (.bipush 93, 2) := by decide +kernel
theorem dX14_isSingle_81 : decode cX14_isSingle 81 = .ok (.invokevirtual 145, 3) := by decide +kernel
theorem dX14_isSingle_84 : decode cX14_isSingle 84 = .ok (.ireturn, 1) := by decide +kernel
theorem dX14_isSingle_85 : decode cX14_isSingle 85 = .ok (.aload_n 0, 1) := by decide +kernel
theorem dX14_isSingle_86 : decode cX14_isSingle 86 = .ok (.bipush 19, 2) := by decide +kernel
theorem dX14_isSingle_88 : decode cX14_isSingle 88 = .ok (.invokevirtual 121, 3) := by decide +kernel
theorem dX14_isSingle_91 : decode cX14_isSingle 91 = .ok (.ifCond .eq 10, 3) := by decide +kernel
theorem dX14_isSingle_94 : decode cX14_isSingle 94 = .ok (.aload_n 0, 1) := by decide +kernel
theorem dX14_isSingle_95 : decode cX14_isSingle 95 = .ok (.bipush 14, 2) := by decide +kernel
theorem dX14_isSingle_97 : decode cX14_isSingle 97 = .ok (.invokevirtual 202, 3) := by decide +kernel
theorem dX14_isSingle_100 : decode cX14_isSingle 100 = .ok (.ireturn, 1) := by decide +kernel
theorem dX14_isSingle_101 : decode cX14_isSingle 101 = .ok (.aload_n 0, 1) := by decide +kernel
theorem dX14_isSingle_102 : decode cX14_isSingle 102 = .ok (.invokevirtual 171, 3) := by decide +kernel
theorem dX14_isSingle_105 : decode cX14_isSingle 105 = .ok (.ifCond .ne 5, 3) := by decide +kernel
theorem dX14_isSingle_108 : decode cX14_isSingle 108 = .ok (.iconst 0, 1) := by decide +kernel
theorem dX14_isSingle_109 : decode cX14_isSingle 109 = .ok (.ireturn, 1) := by decide +kernel
theorem dX14_isSingle_110 : decode cX14_isSingle 110 = .ok (.aload_n 0, 1) := by decide +kernel
theorem dX14_isSingle_111 : decode cX14_isSingle 111 = .ok (.bipush 60, 2) := by decide +kernel
theorem dX14_isSingle_113 : decode cX14_isSingle 113 = .ok (.invokevirtual 199, 3) := by decide +kernel
theorem dX14_isSingle_116 : decode cX14_isSingle 116 = .ok (.ifCond .eq 8, 3) := by decide +kernel
theorem dX14_isSingle_119 : decode cX14_isSingle 119 = .ok (.bipush 36, 2) := by decide +kernel
theorem dX14_isSingle_121 : decode cX14_isSingle 121 = .ok (.goto 62, 3) := by decide +kernel
theorem dX14_isSingle_124 : decode cX14_isSingle 124 = .ok (.aload_n 0, 1) := by decide +kernel
theorem dX14_isSingle_125 : decode cX14_isSingle 125 = .ok (.bipush 62, 2) := by decide +kernel
theorem dX14_isSingle_127 : decode cX14_isSingle 127 = .ok (.invokevirtual 199, 3) := by decide +kernel
theorem dX14_isSingle_130 : decode cX14_isSingle 130 = .ok (.ifCond .eq 8, 3) := by decide +kernel
theorem dX14_isSingle_133 : decode cX14_isSingle 133 = .ok (.bipush 37, 2) := by decide +kernel
theorem dX14_isSingle_135 : decode cX14_isSingle 135 = .ok (.goto 48, 3) := by decide +kernel
theorem dX14_isSingle_138 : decode cX14_isSingle 138 = .ok (.aload_n 0, 1) := by decide +kernel
theorem dX14_isSingle_139 : decode cX14_isSingle 139 = .ok (.bipush 61, 2) := by decide +kernel
theorem dX14_isSingle_141 : decode cX14_isSingle 141 = .ok (.invokevirtual 199, 3) := by decide +kernel
theorem dX14_isSingle_144 : decode cX14_isSingle 144 = .ok (.ifCond .eq 8, 3) := by decide +kernel
theorem dX14_isSingle_147 : decode cX14_isSingle 147 = .ok (.bipush 38, 2) := by decide +kernel
theorem dX14_isSingle_149 : decode cX14_isSingle 149 = .ok (.goto 34, 3) := by decide +kernel
theorem dX14_isSingle_152 : decode cX14_isSingle 152 = .ok (.aload_n 0, 1) := by decide +kernel
theorem dX14_isSingle_153 : decode cX14_isSingle 153 = .ok (.sipush 300, 3) := by decide +kernel
theorem dX14_isSingle_156 : decode cX14_isSingle 156 = .ok (.invokevirtual 121, 3) := by decide +kernel
theorem dX14_isSingle_159 : decode cX14_isSingle 159 = .ok (.ifCond .eq 8, 3) := by decide +kernel
theorem dX14_isSingle_162 : decode cX14_isSingle 162 = .ok (.bipush 39, 2) := by decide +kernel
theorem dX14_isSingle_164 : decode cX14_isSingle 164 = .ok (.goto 19, 3) := by decide +kernel
theorem dX14_isSingle_167 : decode cX14_isSingle 167 = .ok (.aload_n 0, 1) := by decide +kernel
theorem dX14_isSingle_168 : decode cX14_isSingle 168 = .ok (.sipush 301, 3) := by decide +kernel
theorem dX14_isSingle_171 : decode cX14_isSingle 171 = .ok (.invokevirtual 121, 3) := by decide +kernel
theorem dX14_isSingle_174 : decode cX14_isSingle 174 = .ok (.ifCond .eq 8, 3) := by decide +kernel
theorem dX14_isSingle_177 : decode cX14_isSingle 177 = .ok (.bipush 40, 2) := by decide +kernel
theorem dX14_isSingle_179 : decode cX14_isSingle 179 = .ok (.goto 4, 3) := by decide +kernel
theorem dX14_isSingle_182 : decode cX14_isSingle 182 = .ok (.iconst (-1), 1) := by decide +kernel
theorem dX14_isSingle_183 : decode cX14_isSingle 183 = .ok (.istore_n 1, 1) := by decide +kernel
theorem dX14_isSingle_184 : decode cX14_isSingle 184 = .ok (.iload_n 1, 1) := by decide +kernel
theorem dX14_isSingle_185 : decode cX14_isSingle 185 = .ok (.iconst (-1), 1) := by decide +kernel
theorem dX14_isSingle_186 : decode cX14_isSingle 186 = .ok (.if_icmp .ne 5, 3) := by decide +kernel
theorem dX14_isSingle_189 : decode cX14_isSingle 189 = .ok (.iconst 0, 1) := by decide +kernel
theorem dX14_isSingle_190 : decode cX14_isSingle 190 = .ok (.ireturn, 1) := by decide +kernel
theorem dX14_isSingle_191 : decode cX14_isSingle 191 = .ok (.aload_n 0, 1) := by decide +kernel
theorem dX14_isSingle_192 : decode cX14_isSingle 192 = .ok (.dup, 1) := by decide +kernel
theorem dX14_isSingle_193 : decode cX14_isSingle 193 = .ok (.getfield 118, 3) := by decide +kernel
theorem dX14_isSingle_196 : decode cX14_isSingle 196 = .ok (.iconst 1, 1) := by decide +kernel
theorem dX14_isSingle_197 : decode cX14_isSingle 197 = .ok (.iadd, 1) := by decide +kernel
theorem dX14_isSingle_198 : decode cX14_isSingle 198 = .ok (.putfield 118, 3) := by decide +kernel
theorem dX14_isSingle_201 : decode cX14_isSingle 201 = .ok (.aload_n 0, 1) := by decide +kernel
theorem dX14_isSingle_202 : decode cX14_isSingle 202 = .ok (.invokevirtual 171, 3) := by decide +kernel
theorem dX14_isSingle_205 : decode cX14_isSingle 205 = .ok (.ifCond .ne 5, 3) := by decide +kernel
theorem dX14_isSingle_208 : decode cX14_isSingle 208 = .ok (.iconst 0, 1) := by decide +kernel
theorem dX14_isSingle_209 : decode cX14_isSingle 209 = .ok (.ireturn, 1) := by decide +kernel
theorem dX14_isSingle_210 : decode cX14_isSingle 210 = .ok (.aload_n 0, 1) := by decide +kernel
theorem dX14_isSingle_211 : decode cX14_isSingle 211 = .ok (.iload_n 1, 1) := by decide +kernel
theorem dX14_isSingle_212 : decode cX14_isSingle 212 = .ok (.invokevirtual 180, 3) := by decide +kernel
theorem dX14_isSingle_215 : decode cX14_isSingle 215 = .ok (.iconst 1, 1) := by decide +kernel
theorem dX14_isSingle_216 : decode cX14_isSingle 216 = .ok (.ireturn, 1) := by decide +kernel
set_option maxRecDepth 20000 in
theorem ggX14_isSingle_X14_isSum : GoodIn wsX14_isSingle wsX14_isSum := goodIn_2 24 (goodIn_rr wsB_X14_isSingle_in _ [(2, 23), (1, 1), (3, 0), (3, 1), (3, 2), (1, 5), (1, 20), (1, 21), (1, 22), (1, 23), (1, 7), (1, 15), (1, 16), (1, 17), (1, 18), (1, 19), (3, 3), (3, 4), (3, 5), (3, 6), (3, 7), (1, 0), (1, 2), (1, 3)] (by decide +kernel) (by decide +kernel)) (goodIn_2 24 (goodIn_rr wsB_X14_isSingle_in _ [(1, 4), (1, 6), (3, 8), (3, 9), (3, 10), (3, 11), (3, 12), (3, 13), (3, 14), (2, 11), (2, 12), (2, 13), (2, 14), (2, 15), (2, 16), (2, 17), (2, 18), (2, 19), (2, 7), (2, 8), (2, 9), (2, 10), (1, 8), (1, 9)] (by decide +kernel) (by decide +kernel)) (goodIn_2 24 (goodIn_rr wsB_X14_isSingle_in _ [(1, 10), (1, 11), (2, 20), (2, 21), (2, 22), (2, 3), (2, 4), (2, 5), (2, 6), (4, 0), (4, 1), (4, 2), (4, 3), (4, 4), (4, 5), (4, 6), (4, 7), (4, 8), (4, 9), (4, 10), (4, 11), (4, 12), (4, 13), (4, 14)] (by decide +kernel) (by decide +kernel)) (goodIn_2 24 (goodIn_rr wsB_X14_isSingle_in _ [(5, 0), (5, 1), (5, 2), (5, 3), (5, 4), (5, 5), (5, 6), (5, 7), (5, 8), (5, 9), (5, 10), (5, 11), (5, 12), (5, 13), (5, 14), (5, 15), (5, 16), (5, 17), (5, 18), (5, 19), (5, 20), (5, 21), (5, 22), (5, 23)] (by decide +kernel) (by decide +kernel)) (goodIn_rr wsB_X14_isSingle_in _ [(5, 24)] (by decide +kernel) (by decide +kernel)))))
set_option maxRecDepth 20000 in
theorem gX14_isSingle_X14_isSum : GoodIn wsX14_isSingle (wsV RX14 171 RX14 yX14_isSum wsX14_isSum) := goodIn_app (goodIn_rr wsB_X14_isSingle_in _ [(2, 20), (2, 21), (2, 22), (1, 5)] (by decide +kernel) (by decide +kernel)) ggX14_isSingle_X14_isSum
set_option maxRecDepth 20000 in
theorem ggX14_isSingle_X14_put : GoodIn wsX14_isSingle wsX14_put := goodIn_2 24 (goodIn_rr wsB_X14_isSingle_in _ [(1, 18), (1, 19), (4, 0), (4, 1), (4, 2), (4, 3), (4, 4), (4, 5), (4, 6), (4, 7), (4, 8), (4, 9), (4, 10), (4, 11), (4, 12), (4, 13), (4, 14), (5, 0), (5, 1), (5, 2), (5, 3), (5, 4), (5, 5), (5, 6)] (by decide +kernel) (by decide +kernel)) (goodIn_rr wsB_X14_isSingle_in _ [(5, 7), (5, 8), (5, 9), (5, 10), (5, 11), (5, 12), (5, 13), (5, 14), (5, 15), (5, 16), (5, 17), (5, 18), (5, 19), (5, 20), (5, 21), (5, 22), (5, 23), (5, 24)] (by decide +kernel) (by decide +kernel))
set_option maxRecDepth 20000 in
theorem gX14_isSingle_X14_put : GoodIn wsX14_isSingle (wsV RX14 180 RX14 yX14_put wsX14_put) := goodIn_app (goodIn_rr wsB_X14_isSingle_in _ [(1, 15), (1, 16), (1, 17), (1, 5)] (by decide +kernel) (by decide +kernel)) ggX14_isSingle_X14_put
set_option maxRecDepth 20000 in
theorem ggX14_isSingle_X14_is : GoodIn wsX14_isSingle wsX14_is := goodIn_rr wsB_X14_isSingle_in _ [(1, 6), (1, 7), (1, 1), (4, 0), (4, 1), (4, 2), (4, 3), (4, 4), (4, 5), (4, 6), (4, 7), (4, 8), (4, 9), (4, 10), (4, 11), (4, 12), (4, 13), (4, 14)] (by decide +kernel) (by decide +kernel)
set_option maxRecDepth 20000 in
theorem gX14_isSingle_X14_is : GoodIn wsX14_isSingle (wsV RX14 121 RX14 yX14_is wsX14_is) := goodIn_app (goodIn_rr wsB_X14_isSingle_in _ [(1, 2), (1, 3), (1, 4), (1, 5)] (by decide +kernel) (by decide +kernel)) ggX14_isSingle_X14_is
set_option maxRecDepth 20000 in
theorem ggX14_isSingle_X14_isSign : GoodIn wsX14_isSingle wsX14_isSign := goodIn_rr wsB_X14_isSingle_in _ [(1, 23), (1, 7), (1, 1), (4, 0), (4, 1), (4, 2), (4, 3), (4, 4), (4, 5), (4, 6), (4, 7), (4, 8), (4, 9), (4, 10), (4, 11), (4, 12), (4, 13), (4, 14)] (by decide +kernel) (by decide +kernel)
set_option maxRecDepth 20000 in
theorem gX14_isSingle_X14_isSign : GoodIn wsX14_isSingle (wsV RX14 199 RX14 yX14_isSign wsX14_isSign) := goodIn_app (goodIn_rr wsB_X14_isSingle_in _ [(1, 20), (1, 21), (1, 22), (1, 5)] (by decide +kernel) (by decide +kernel)) ggX14_isSingle_X14_isSign
set_option maxRecDepth 20000 in
theorem ggX14_isSingle_X14_isNamed : GoodIn wsX14_isSingle wsX14_isNamed := goodIn_2 24 (goodIn_rr wsB_X14_isSingle_in _ [(2, 14), (1, 7), (1, 1), (1, 19), (1, 15), (1, 16), (1, 17), (1, 5), (1, 18), (2, 15), (2, 16), (2, 17), (2, 18), (2, 19), (2, 7), (2, 8), (2, 9), (2, 10), (1, 2), (1, 3), (1, 4), (1, 6), (4, 0), (4, 1)] (by decide +kernel) (by decide +kernel)) (goodIn_2 24 (goodIn_rr wsB_X14_isSingle_in _ [(4, 2), (4, 3), (4, 4), (4, 5), (4, 6), (4, 7), (4, 8), (4, 9), (4, 10), (4, 11), (4, 12), (4, 13), (4, 14), (5, 0), (5, 1), (5, 2), (5, 3), (5, 4), (5, 5), (5, 6), (5, 7), (5, 8), (5, 9), (5, 10)] (by decide +kernel) (by decide +kernel)) (goodIn_rr wsB_X14_isSingle_in _ [(5, 11), (5, 12), (5, 13), (5, 14), (5, 15), (5, 16), (5, 17), (5, 18), (5, 19), (5, 20), (5, 21), (5, 22), (5, 23), (5, 24)] (by decide +kernel) (by decide +kernel)))
set_option maxRecDepth 20000 in
theorem gX14_isSingle_X14_isNamed : GoodIn wsX14_isSingle (wsV RX14 202 RX14 yX14_isNamed wsX14_isNamed) := goodIn_app (goodIn_rr wsB_X14_isSingle_in _ [(2, 11), (2, 12), (2, 13), (1, 5)] (by decide +kernel) (by decide +kernel)) ggX14_isSingle_X14_isNamed
set_option maxRecDepth 20000 in
theorem ggX14_isSingle_X14_isDeeper : GoodIn wsX14_isSingle wsX14_isDeeper := goodIn_rr wsB_X14_isSingle_in _ [(1, 11), (1, 0), (1, 1), (4, 0), (4, 1), (4, 2), (4, 3), (4, 4), (4, 5), (4, 6), (4, 7), (4, 8), (4, 9), (4, 10), (4, 11), (4, 12), (4, 13), (4, 14)] (by decide +kernel) (by decide +kernel)
set_option maxRecDepth 20000 in
theorem gX14_isSingle_X14_isDeeper : GoodIn wsX14_isSingle (wsV RX14 196 RX14 yX14_isDeeper wsX14_isDeeper) := goodIn_app (goodIn_rr wsB_X14_isSingle_in _ [(1, 8), (1, 9), (1, 10), (1, 5)] (by decide +kernel) (by decide +kernel)) ggX14_isSingle_X14_isDeeper
set_option maxRecDepth 20000 in
theorem ggX14_isSingle_X14_isTest : GoodIn wsX14_isSingle wsX14_isTest := goodIn_2 24 (goodIn_rr wsB_X14_isSingle_in _ [(3, 16), (3, 17), (3, 18), (3, 19), (1, 5), (2, 7), (2, 8), (2, 9), (2, 10), (1, 1), (1, 2), (1, 3), (1, 4), (1, 6), (1, 7), (1, 15), (1, 16), (1, 17), (1, 18), (1, 19), (3, 15), (1, 12), (1, 13), (1, 14)] (by decide +kernel) (by decide +kernel)) (goodIn_2 24 (goodIn_rr wsB_X14_isSingle_in _ [(0, 0), (1, 0), (1, 8), (1, 9), (1, 10), (1, 11), (1, 20), (1, 21), (1, 22), (1, 23), (2, 0), (2, 1), (2, 2), (2, 3), (2, 4), (2, 5), (2, 6), (2, 11), (2, 12), (2, 13), (2, 14), (2, 15), (2, 16), (2, 17)] (by decide +kernel) (by decide +kernel)) (goodIn_2 24 (goodIn_rr wsB_X14_isSingle_in _ [(2, 18), (2, 19), (2, 20), (2, 21), (2, 22), (2, 23), (3, 0), (3, 1), (3, 2), (3, 3), (3, 4), (3, 5), (3, 6), (3, 7), (3, 8), (3, 9), (3, 10), (3, 11), (3, 12), (3, 13), (3, 14), (4, 0), (4, 1), (4, 2)] (by decide +kernel) (by decide +kernel)) (goodIn_2 24 (goodIn_rr wsB_X14_isSingle_in _ [(4, 3), (4, 4), (4, 5), (4, 6), (4, 7), (4, 8), (4, 9), (4, 10), (4, 11), (4, 12), (4, 13), (4, 14), (5, 0), (5, 1), (5, 2), (5, 3), (5, 4), (5, 5), (5, 6), (5, 7), (5, 8), (5, 9), (5, 10), (5, 11)] (by decide +kernel) (by decide +kernel)) (goodIn_rr wsB_X14_isSingle_in _ [(5, 12), (5, 13), (5, 14), (5, 15), (5, 16), (5, 17), (5, 18), (5, 19), (5, 20), (5, 21), (5, 22), (5, 23), (5, 24)] (by decide +kernel) (by decide +kernel)))))
set_option maxRecDepth 20000 in
theorem gX14_isSingle_X14_isTest : GoodIn wsX14_isSingle (wsV RX14 159 RX14 yX14_isTest wsX14_isTest) := goodIn_app (goodIn_rr wsB_X14_isSingle_in _ [(2, 0), (2, 1), (2, 2), (1, 5)] (by decide +kernel) (by decide +kernel)) ggX14_isSingle_X14_isTest
set_option maxRecDepth 20000 in
theorem ggX14_isSingle_X14_eatSign : GoodIn wsX14_isSingle wsX14_eatSign := goodIn_rr wsB_X14_isSingle_in _ [(2, 6), (2, 7), (2, 8), (2, 9), (1, 5), (2, 10), (1, 1), (1, 2), (1, 3), (1, 4), (1, 6), (1, 7), (4, 0), (4, 1), (4, 2), (4, 3), (4, 4), (4, 5), (4, 6), (4, 7), (4, 8), (4, 9), (4, 10), (4, 11), (4, 12), (4, 13), (4, 14)] (by decide +kernel) (by decide +kernel)
set_option maxRecDepth 20000 in
theorem gX14_isSingle_X14_eatSign : GoodIn wsX14_isSingle (wsV RX14 145 RX14 yX14_eatSign wsX14_eatSign) := goodIn_app (goodIn_rr wsB_X14_isSingle_in _ [(2, 3), (2, 4), (2, 5), (1, 5)] (by decide +kernel) (by decide +kernel)) ggX14_isSingle_X14_eatSign
set_option maxRecDepth 20000 in
theorem ggX14_isSingle_X14_isSingle : GoodIn wsX14_isSingle wsX14_isSingle := goodIn_2 24 (goodIn_rr wsB_X14_isSingle_in _ [(0, 0), (1, 0), (1, 1), (1, 2), (1, 3), (1, 4), (1, 5), (1, 6), (1, 7), (1, 8), (1, 9), (1, 10), (1, 11), (1, 12), (1, 13), (1, 14), (1, 15), (1, 16), (1, 17), (1, 18), (1, 19), (1, 20), (1, 21), (1, 22)] (by decide +kernel) (by decide +kernel)) (goodIn_2 24 (goodIn_rr wsB_X14_isSingle_in _ [(1, 23), (2, 0), (2, 1), (2, 2), (2, 3), (2, 4), (2, 5), (2, 6), (2, 7), (2, 8), (2, 9), (2, 10), (2, 11), (2, 12), (2, 13), (2, 14), (2, 15), (2, 16), (2, 17), (2, 18), (2, 19), (2, 20), (2, 21), (2, 22)] (by decide +kernel) (by decide +kernel)) (goodIn_2 24 (goodIn_rr wsB_X14_isSingle_in _ [(2, 23), (3, 0), (3, 1), (3, 2), (3, 3), (3, 4), (3, 5), (3, 6), (3, 7), (3, 8), (3, 9), (3, 10), (3, 11), (3, 12), (3, 13), (3, 14), (3, 15), (3, 16), (3, 17), (3, 18), (3, 19), (4, 0), (4, 1), (4, 2)] (by decide +kernel) (by decide +kernel)) (goodIn_2 24 (goodIn_rr wsB_X14_isSingle_in _ [(4, 3), (4, 4), (4, 5), (4, 6), (4, 7), (4, 8), (4, 9), (4, 10), (4, 11), (4, 12), (4, 13), (4, 14), (5, 0), (5, 1), (5, 2), (5, 3), (5, 4), (5, 5), (5, 6), (5, 7), (5, 8), (5, 9), (5, 10), (5, 11)] (by decide +kernel) (by decide +kernel)) (goodIn_rr wsB_X14_isSingle_in _ [(5, 12), (5, 13), (5, 14), (5, 15), (5, 16), (5, 17), (5, 18), (5, 19), (5, 20), (5, 21), (5, 22), (5, 23), (5, 24)] (by decide +kernel) (by decide +kernel)))))
set_option maxRecDepth 20000 in
theorem gX14_isSingle_X14_isSingle : GoodIn wsX14_isSingle (wsV RX14 184 RX14 yX14_isSingle wsX14_isSingle) := goodIn_app (goodIn_rr wsB_X14_isSingle_in _ [(1, 12), (1, 13), (1, 14), (1, 5)] (by decide +kernel) (by decide +kernel)) ggX14_isSingle_X14_isSingle
theorem k_X14_isSingle_f118 : Cond.fieldLink RX14 118 "TideLotsModel" "token" "I" ∈ wsX14_isSingle := by decide +kernel
theorem i_X14_isSingle_X14 : ∀ w ∈ u_ws RX14 TX14 15, w ∈ wsX14_isSingle := by decide +kernel
theorem k_X14_isSingle_f187 : Cond.fieldLink RX14 187 "TideLotsModel" "depth" "I" ∈ wsX14_isSingle := by decide +kernel
noncomputable def b_X14_isSingle_183 (F : Nat → gMem → Nat → Option (Int32 × gMem)) (M : gMem) (x0 : Nat) (s0 : Int32) : Option (Int32 × gMem) :=
  (if s0 = (-1 : Int32) then some ((0 : Int32), M) else ck (mT M x0 = 13) <| lw (wI M x0 9 (((mI M x0 9) + (1 : Int32)))) fun M2 => bd (F 3 M2 x0) fun r4 M4 => (if r4 = 0 then some ((0 : Int32), M4) else ck (mT M4 x0 = 13) <| bd (f_X14_put M4 x0 s0) fun _ M5 => some ((1 : Int32), M5)))
noncomputable def b_X14_isSingle_66 (F : Nat → gMem → Nat → Option (Int32 × gMem)) (M : gMem)  : Option (Int32 × gMem) :=
  some ((0 : Int32), M)
noncomputable def b_X14_isSingle_23 (F : Nat → gMem → Nat → Option (Int32 × gMem)) (M : gMem)  : Option (Int32 × gMem) :=
  some ((0 : Int32), M)
noncomputable def b_X14_isSingle_0 (F : Nat → gMem → Nat → Option (Int32 × gMem)) (M : gMem) (x0 : Nat) : Option (Int32 × gMem) :=
  ck (mT M x0 = 13) <| bd (f_X14_is M x0 ((20 : Int32))) fun r7 M7 => (if r7 = 0 then ck (mT M7 x0 = 13) <| bd (f_X14_isSign M7 x0 ((91 : Int32))) fun r9 M9 => (if r9 = 0 then ck (mT M9 x0 = 13) <| bd (f_X14_is M9 x0 ((19 : Int32))) fun r11 M11 => (if r11 = 0 then ck (mT M11 x0 = 13) <| bd (F 3 M11 x0) fun r13 M13 => (if r13 = 0 then some ((0 : Int32), M13) else ck (mT M13 x0 = 13) <| bd (f_X14_isSign M13 x0 ((60 : Int32))) fun r15 M15 => (if r15 = 0 then ck (mT M15 x0 = 13) <| bd (f_X14_isSign M15 x0 ((62 : Int32))) fun r17 M17 => (if r17 = 0 then ck (mT M17 x0 = 13) <| bd (f_X14_isSign M17 x0 ((61 : Int32))) fun r19 M19 => (if r19 = 0 then ck (mT M19 x0 = 13) <| bd (f_X14_is M19 x0 ((300 : Int32))) fun r21 M21 => (if r21 = 0 then ck (mT M21 x0 = 13) <| bd (f_X14_is M21 x0 ((301 : Int32))) fun r23 M23 => (if r23 = 0 then b_X14_isSingle_183 F M23 x0 ((-1 : Int32)) else b_X14_isSingle_183 F M23 x0 ((40 : Int32))) else b_X14_isSingle_183 F M21 x0 ((39 : Int32))) else b_X14_isSingle_183 F M19 x0 ((38 : Int32))) else b_X14_isSingle_183 F M17 x0 ((37 : Int32))) else b_X14_isSingle_183 F M15 x0 ((36 : Int32)))) else ck (mT M11 x0 = 13) <| bd (f_X14_isNamed M11 x0 ((14 : Int32))) fun r25 M25 => ck (r25 = 0 ∨ r25 = 1) <| some (r25, M25)) else ck (mT M9 x0 = 13) <| bd (f_X14_isDeeper M9 x0) fun r28 M28 => (if r28 = 0 then b_X14_isSingle_66 F M28  else ck (mT M28 x0 = 13) <| bd (F 0 M28 x0) fun r30 M30 => (if r30 = 0 then b_X14_isSingle_66 F M30  else ck (mT M30 x0 = 13) <| lw (wI M30 x0 10 (((mI M30 x0 10) - (1 : Int32)))) fun M33 => bd (f_X14_eatSign M33 x0 ((93 : Int32))) fun r35 M35 => ck (r35 = 0 ∨ r35 = 1) <| some (r35, M35)))) else ck (mT M7 x0 = 13) <| bd (f_X14_isDeeper M7 x0) fun r37 M37 => (if r37 = 0 then b_X14_isSingle_23 F M37  else ck (mT M37 x0 = 13) <| bd (F 2 M37 x0) fun r39 M39 => (if r39 = 0 then b_X14_isSingle_23 F M39  else ck (mT M39 x0 = 13) <| lw (wI M39 x0 10 (((mI M39 x0 10) - (1 : Int32)))) fun M42 => bd (f_X14_put M42 x0 ((20 : Int32))) fun _ M44 => some ((1 : Int32), M44))))
noncomputable def fr_X14_isSingle (F : Nat → gMem → Nat → Option (Int32 × gMem)) (M : gMem) (x0 : Nat) : Option (Int32 × gMem) :=
  b_X14_isSingle_0 F M x0
set_option maxHeartbeats 4000000 in
set_option maxRecDepth 100000 in
theorem t_X14_isSingle_183 (X : gX p s m args meth c D cy B (gSt Z B H0) RX14 cX14_isSingle wsX14_isSingle 2) (hr : meth.sig.returnType = (some .boolean)) {n0 : Nat} {F : Nat → gMem → Nat → Option (Int32 × gMem)} (hF : hX14R l D cy B H0 Z n0 F) {Q : State → Prop} : ∀ (M : gMem) (x0 : Nat) (s0 : Int32) (z : Int32 × gMem), b_X14_isSingle_183 F M x0 s0 = some z → (fun (r : Int32 × gMem) => Q = gMQ below D cy B H0 args s 0 0 (some (vI r.1)) r.2) z → gGo p l e (rX14R (n0 + 1)) s m args below meth c D cy B H0 2 0 0 Q 183 [(0, vR (some x0))] [vI s0] M := by
  intro M x0 s0 z hf hK
  unfold b_X14_isSingle_183 at hf
  refine g_istore_n (lv' := [(1, vI s0), (0, vR (some x0))]) X dX14_isSingle_183 rfl (by decide) rfl ?_
  refine g_iload_n X dX14_isSingle_184 rfl rfl ?_
  refine g_iconst (v := (-1 : Int32)) X dX14_isSingle_185 (by decide) ?_
  refine g_icmp_ne (tgt := 191) X dX14_isSingle_186 (by decide) (fun hc => ?_) (fun hc => ?_)
  · have hf := ife_f hc hf
    refine g_aload_n X dX14_isSingle_191 rfl rfl ?_
    refine g_dup X dX14_isSingle_192 rfl ?_
    obtain ⟨hT1, hf⟩ := ck_e hf
    refine g_get (ci := 12) (v := vI (mI M x0 9)) 9 X cdX14 i_X14_isSingle_X14 (by decide) k_X14_isSingle_f118 rfl dX14_isSingle_193 rfl hT1 rfl ?_
    refine g_iconst (v := (1 : Int32)) X dX14_isSingle_196 (by decide) ?_
    refine g_iadd X dX14_isSingle_197 ?_
    refine g_putI (ci := 12) 9 X cdX14 i_X14_isSingle_X14 (by decide) k_X14_isSingle_f118 rfl dX14_isSingle_198 rfl hT1 (Or.inl rfl) rfl rfl rfl ?_
    obtain ⟨M2, hM2, hf⟩ := lw_e hf
    rw [← hM2]
    have hT3 : mT M2 x0 = 13 := by rw [hM2]; exact hT1
    refine g_aload_n X dX14_isSingle_201 rfl rfl ?_
    obtain ⟨r4, M4, hq4, hf⟩ := bd_e hf
    refine g_callV (ci := 12) (b := x0) (As := []) (st := []) (v := some (vI r4)) (M1 := M4) X (hF.2.2.2.1 _ _ _ _ hq4) (cwV 0 X.2.2.1 gX14_isSingle_X14_isSum rfl rfl rfl (by decide +kernel) ⟨rX14R_rf, rX14R_rl (Nat.le_of_ble_eq_true rfl)⟩) rfl rfl rfl hT3 (by decide) rfl (Nat.le_of_ble_eq_true rfl) dX14_isSingle_202 ⟨Nat.zero_le _, Nat.zero_le _⟩ ?_
    refine g_if_ne (tgt := 210) X dX14_isSingle_205 (by decide) (fun hc => ?_) (fun hc => ?_)
    · have hf := ife_f hc hf
      refine g_aload_n X dX14_isSingle_210 rfl rfl ?_
      refine g_iload_n X dX14_isSingle_211 rfl rfl ?_
      obtain ⟨hT6, hf⟩ := ck_e hf
      obtain ⟨r5, M5, hq5, hf⟩ := bd_e hf
      refine g_callV (ci := 12) (b := x0) (As := [vI s0]) (st := []) (v := none) (M1 := M5) X (m_X14_put l hq5) (cwV 1 X.2.2.1 gX14_isSingle_X14_put rfl rfl rfl (by decide +kernel) ⟨rX14R_f (Nat.le_of_ble_eq_true rfl), rX14R_l (Nat.le_of_ble_eq_true rfl)⟩) rfl rfl rfl hT6 (by decide) rfl (Nat.le_of_ble_eq_true rfl) dX14_isSingle_212 ⟨Nat.zero_le _, Nat.zero_le _⟩ ?_
      refine g_iconst (v := (1 : Int32)) X dX14_isSingle_215 (by decide) ?_
      cases hf
      refine g_eqQ hK ?_
      exact g_zret X hr (gnb (Or.inr rfl)) dX14_isSingle_216
    · have hf := ife_t hc hf
      refine g_iconst (v := (0 : Int32)) X dX14_isSingle_208 (by decide) ?_
      cases hf
      refine g_eqQ hK ?_
      exact g_zret X hr (gnb (Or.inl rfl)) dX14_isSingle_209
  · have hf := ife_t hc hf
    refine g_iconst (v := (0 : Int32)) X dX14_isSingle_189 (by decide) ?_
    cases hf
    refine g_eqQ hK ?_
    exact g_zret X hr (gnb (Or.inl rfl)) dX14_isSingle_190
set_option maxHeartbeats 4000000 in
set_option maxRecDepth 100000 in
theorem t_X14_isSingle_66 (X : gX p s m args meth c D cy B (gSt Z B H0) RX14 cX14_isSingle wsX14_isSingle 2) (hr : meth.sig.returnType = (some .boolean)) {n0 : Nat} {F : Nat → gMem → Nat → Option (Int32 × gMem)} (hF : hX14R l D cy B H0 Z n0 F) {Q : State → Prop} : ∀ (M : gMem)  (z : Int32 × gMem), b_X14_isSingle_66 F M  = some z → (fun (r : Int32 × gMem) => Q = gMQ below D cy B H0 args s 0 0 (some (vI r.1)) r.2) z → gGo p l e (rX14R (n0 + 1)) s m args below meth c D cy B H0 2 0 0 Q 66 [] [] M := by
  intro M  z hf hK
  unfold b_X14_isSingle_66 at hf
  refine g_iconst (v := (0 : Int32)) X dX14_isSingle_66 (by decide) ?_
  cases hf
  refine g_eqQ hK ?_
  exact g_zret X hr (gnb (Or.inl rfl)) dX14_isSingle_67
set_option maxHeartbeats 4000000 in
set_option maxRecDepth 100000 in
theorem t_X14_isSingle_23 (X : gX p s m args meth c D cy B (gSt Z B H0) RX14 cX14_isSingle wsX14_isSingle 2) (hr : meth.sig.returnType = (some .boolean)) {n0 : Nat} {F : Nat → gMem → Nat → Option (Int32 × gMem)} (hF : hX14R l D cy B H0 Z n0 F) {Q : State → Prop} : ∀ (M : gMem)  (z : Int32 × gMem), b_X14_isSingle_23 F M  = some z → (fun (r : Int32 × gMem) => Q = gMQ below D cy B H0 args s 0 0 (some (vI r.1)) r.2) z → gGo p l e (rX14R (n0 + 1)) s m args below meth c D cy B H0 2 0 0 Q 23 [] [] M := by
  intro M  z hf hK
  unfold b_X14_isSingle_23 at hf
  refine g_iconst (v := (0 : Int32)) X dX14_isSingle_23 (by decide) ?_
  cases hf
  refine g_eqQ hK ?_
  exact g_zret X hr (gnb (Or.inl rfl)) dX14_isSingle_24
set_option maxHeartbeats 4000000 in
set_option maxRecDepth 100000 in
theorem t_X14_isSingle_0 (X : gX p s m args meth c D cy B (gSt Z B H0) RX14 cX14_isSingle wsX14_isSingle 2) (hr : meth.sig.returnType = (some .boolean)) {n0 : Nat} {F : Nat → gMem → Nat → Option (Int32 × gMem)} (hF : hX14R l D cy B H0 Z n0 F) {Q : State → Prop} : ∀ (M : gMem) (x0 : Nat) (z : Int32 × gMem), b_X14_isSingle_0 F M x0 = some z → (fun (r : Int32 × gMem) => Q = gMQ below D cy B H0 args s 0 0 (some (vI r.1)) r.2) z → gGo p l e (rX14R (n0 + 1)) s m args below meth c D cy B H0 2 0 0 Q 0 [(0, vR (some x0))] [] M := by
  intro M x0 z hf hK
  unfold b_X14_isSingle_0 at hf
  refine g_aload_n X dX14_isSingle_0 rfl rfl ?_
  refine g_bipush (v := (20 : Int32)) X dX14_isSingle_1 (by decide) ?_
  obtain ⟨hT8, hf⟩ := ck_e hf
  obtain ⟨r7, M7, hq7, hf⟩ := bd_e hf
  refine g_callV (ci := 12) (b := x0) (As := [vI (20 : Int32)]) (st := []) (v := some (vI r7)) (M1 := M7) X (m_X14_is l hq7) (cwV 1 X.2.2.1 gX14_isSingle_X14_is rfl rfl rfl (by decide +kernel) ⟨rX14R_f (Nat.le_of_ble_eq_true rfl), rX14R_l (Nat.le_of_ble_eq_true rfl)⟩) rfl rfl rfl hT8 (by decide) rfl (Nat.le_of_ble_eq_true rfl) dX14_isSingle_3 ⟨Nat.zero_le _, Nat.zero_le _⟩ ?_
  refine g_if_eq (tgt := 43) X dX14_isSingle_6 (by decide) (fun hc => ?_) (fun hc => ?_)
  · have hf := ife_t hc hf
    refine g_aload_n X dX14_isSingle_43 rfl rfl ?_
    refine g_bipush (v := (91 : Int32)) X dX14_isSingle_44 (by decide) ?_
    obtain ⟨hT10, hf⟩ := ck_e hf
    obtain ⟨r9, M9, hq9, hf⟩ := bd_e hf
    refine g_callV (ci := 12) (b := x0) (As := [vI (91 : Int32)]) (st := []) (v := some (vI r9)) (M1 := M9) X (m_X14_isSign l hq9) (cwV 1 X.2.2.1 gX14_isSingle_X14_isSign rfl rfl rfl (by decide +kernel) ⟨rX14R_f (Nat.le_of_ble_eq_true rfl), rX14R_l (Nat.le_of_ble_eq_true rfl)⟩) rfl rfl rfl hT10 (by decide) rfl (Nat.le_of_ble_eq_true rfl) dX14_isSingle_46 ⟨Nat.zero_le _, Nat.zero_le _⟩ ?_
    refine g_if_eq (tgt := 85) X dX14_isSingle_49 (by decide) (fun hc => ?_) (fun hc => ?_)
    · have hf := ife_t hc hf
      refine g_aload_n X dX14_isSingle_85 rfl rfl ?_
      refine g_bipush (v := (19 : Int32)) X dX14_isSingle_86 (by decide) ?_
      obtain ⟨hT12, hf⟩ := ck_e hf
      obtain ⟨r11, M11, hq11, hf⟩ := bd_e hf
      refine g_callV (ci := 12) (b := x0) (As := [vI (19 : Int32)]) (st := []) (v := some (vI r11)) (M1 := M11) X (m_X14_is l hq11) (cwV 1 X.2.2.1 gX14_isSingle_X14_is rfl rfl rfl (by decide +kernel) ⟨rX14R_f (Nat.le_of_ble_eq_true rfl), rX14R_l (Nat.le_of_ble_eq_true rfl)⟩) rfl rfl rfl hT12 (by decide) rfl (Nat.le_of_ble_eq_true rfl) dX14_isSingle_88 ⟨Nat.zero_le _, Nat.zero_le _⟩ ?_
      refine g_if_eq (tgt := 101) X dX14_isSingle_91 (by decide) (fun hc => ?_) (fun hc => ?_)
      · have hf := ife_t hc hf
        refine g_aload_n X dX14_isSingle_101 rfl rfl ?_
        obtain ⟨hT14, hf⟩ := ck_e hf
        obtain ⟨r13, M13, hq13, hf⟩ := bd_e hf
        refine g_callV (ci := 12) (b := x0) (As := []) (st := []) (v := some (vI r13)) (M1 := M13) X (hF.2.2.2.1 _ _ _ _ hq13) (cwV 0 X.2.2.1 gX14_isSingle_X14_isSum rfl rfl rfl (by decide +kernel) ⟨rX14R_rf, rX14R_rl (Nat.le_of_ble_eq_true rfl)⟩) rfl rfl rfl hT14 (by decide) rfl (Nat.le_of_ble_eq_true rfl) dX14_isSingle_102 ⟨Nat.zero_le _, Nat.zero_le _⟩ ?_
        refine g_if_ne (tgt := 110) X dX14_isSingle_105 (by decide) (fun hc => ?_) (fun hc => ?_)
        · have hf := ife_f hc hf
          refine g_aload_n X dX14_isSingle_110 rfl rfl ?_
          refine g_bipush (v := (60 : Int32)) X dX14_isSingle_111 (by decide) ?_
          obtain ⟨hT16, hf⟩ := ck_e hf
          obtain ⟨r15, M15, hq15, hf⟩ := bd_e hf
          refine g_callV (ci := 12) (b := x0) (As := [vI (60 : Int32)]) (st := []) (v := some (vI r15)) (M1 := M15) X (m_X14_isSign l hq15) (cwV 1 X.2.2.1 gX14_isSingle_X14_isSign rfl rfl rfl (by decide +kernel) ⟨rX14R_f (Nat.le_of_ble_eq_true rfl), rX14R_l (Nat.le_of_ble_eq_true rfl)⟩) rfl rfl rfl hT16 (by decide) rfl (Nat.le_of_ble_eq_true rfl) dX14_isSingle_113 ⟨Nat.zero_le _, Nat.zero_le _⟩ ?_
          refine g_if_eq (tgt := 124) X dX14_isSingle_116 (by decide) (fun hc => ?_) (fun hc => ?_)
          · have hf := ife_t hc hf
            refine g_aload_n X dX14_isSingle_124 rfl rfl ?_
            refine g_bipush (v := (62 : Int32)) X dX14_isSingle_125 (by decide) ?_
            obtain ⟨hT18, hf⟩ := ck_e hf
            obtain ⟨r17, M17, hq17, hf⟩ := bd_e hf
            refine g_callV (ci := 12) (b := x0) (As := [vI (62 : Int32)]) (st := []) (v := some (vI r17)) (M1 := M17) X (m_X14_isSign l hq17) (cwV 1 X.2.2.1 gX14_isSingle_X14_isSign rfl rfl rfl (by decide +kernel) ⟨rX14R_f (Nat.le_of_ble_eq_true rfl), rX14R_l (Nat.le_of_ble_eq_true rfl)⟩) rfl rfl rfl hT18 (by decide) rfl (Nat.le_of_ble_eq_true rfl) dX14_isSingle_127 ⟨Nat.zero_le _, Nat.zero_le _⟩ ?_
            refine g_if_eq (tgt := 138) X dX14_isSingle_130 (by decide) (fun hc => ?_) (fun hc => ?_)
            · have hf := ife_t hc hf
              refine g_aload_n X dX14_isSingle_138 rfl rfl ?_
              refine g_bipush (v := (61 : Int32)) X dX14_isSingle_139 (by decide) ?_
              obtain ⟨hT20, hf⟩ := ck_e hf
              obtain ⟨r19, M19, hq19, hf⟩ := bd_e hf
              refine g_callV (ci := 12) (b := x0) (As := [vI (61 : Int32)]) (st := []) (v := some (vI r19)) (M1 := M19) X (m_X14_isSign l hq19) (cwV 1 X.2.2.1 gX14_isSingle_X14_isSign rfl rfl rfl (by decide +kernel) ⟨rX14R_f (Nat.le_of_ble_eq_true rfl), rX14R_l (Nat.le_of_ble_eq_true rfl)⟩) rfl rfl rfl hT20 (by decide) rfl (Nat.le_of_ble_eq_true rfl) dX14_isSingle_141 ⟨Nat.zero_le _, Nat.zero_le _⟩ ?_
              refine g_if_eq (tgt := 152) X dX14_isSingle_144 (by decide) (fun hc => ?_) (fun hc => ?_)
              · have hf := ife_t hc hf
                refine g_aload_n X dX14_isSingle_152 rfl rfl ?_
                refine g_sipush (v := (300 : Int32)) X dX14_isSingle_153 (by decide) ?_
                obtain ⟨hT22, hf⟩ := ck_e hf
                obtain ⟨r21, M21, hq21, hf⟩ := bd_e hf
                refine g_callV (ci := 12) (b := x0) (As := [vI (300 : Int32)]) (st := []) (v := some (vI r21)) (M1 := M21) X (m_X14_is l hq21) (cwV 1 X.2.2.1 gX14_isSingle_X14_is rfl rfl rfl (by decide +kernel) ⟨rX14R_f (Nat.le_of_ble_eq_true rfl), rX14R_l (Nat.le_of_ble_eq_true rfl)⟩) rfl rfl rfl hT22 (by decide) rfl (Nat.le_of_ble_eq_true rfl) dX14_isSingle_156 ⟨Nat.zero_le _, Nat.zero_le _⟩ ?_
                refine g_if_eq (tgt := 167) X dX14_isSingle_159 (by decide) (fun hc => ?_) (fun hc => ?_)
                · have hf := ife_t hc hf
                  refine g_aload_n X dX14_isSingle_167 rfl rfl ?_
                  refine g_sipush (v := (301 : Int32)) X dX14_isSingle_168 (by decide) ?_
                  obtain ⟨hT24, hf⟩ := ck_e hf
                  obtain ⟨r23, M23, hq23, hf⟩ := bd_e hf
                  refine g_callV (ci := 12) (b := x0) (As := [vI (301 : Int32)]) (st := []) (v := some (vI r23)) (M1 := M23) X (m_X14_is l hq23) (cwV 1 X.2.2.1 gX14_isSingle_X14_is rfl rfl rfl (by decide +kernel) ⟨rX14R_f (Nat.le_of_ble_eq_true rfl), rX14R_l (Nat.le_of_ble_eq_true rfl)⟩) rfl rfl rfl hT24 (by decide) rfl (Nat.le_of_ble_eq_true rfl) dX14_isSingle_171 ⟨Nat.zero_le _, Nat.zero_le _⟩ ?_
                  refine g_if_eq (tgt := 182) X dX14_isSingle_174 (by decide) (fun hc => ?_) (fun hc => ?_)
                  · have hf := ife_t hc hf
                    refine g_iconst (v := (-1 : Int32)) X dX14_isSingle_182 (by decide) ?_
                    refine g_sub (lvsub_of _ _ [0] rfl) ?_
                    exact t_X14_isSingle_183 X hr hF _ _ _ _ hf hK
                  · have hf := ife_f hc hf
                    refine g_bipush (v := (40 : Int32)) X dX14_isSingle_177 (by decide) ?_
                    refine g_goto (tgt := 183) X dX14_isSingle_179 (by decide) ?_
                    refine g_sub (lvsub_of _ _ [0] rfl) ?_
                    exact t_X14_isSingle_183 X hr hF _ _ _ _ hf hK
                · have hf := ife_f hc hf
                  refine g_bipush (v := (39 : Int32)) X dX14_isSingle_162 (by decide) ?_
                  refine g_goto (tgt := 183) X dX14_isSingle_164 (by decide) ?_
                  refine g_sub (lvsub_of _ _ [0] rfl) ?_
                  exact t_X14_isSingle_183 X hr hF _ _ _ _ hf hK
              · have hf := ife_f hc hf
                refine g_bipush (v := (38 : Int32)) X dX14_isSingle_147 (by decide) ?_
                refine g_goto (tgt := 183) X dX14_isSingle_149 (by decide) ?_
                refine g_sub (lvsub_of _ _ [0] rfl) ?_
                exact t_X14_isSingle_183 X hr hF _ _ _ _ hf hK
            · have hf := ife_f hc hf
              refine g_bipush (v := (37 : Int32)) X dX14_isSingle_133 (by decide) ?_
              refine g_goto (tgt := 183) X dX14_isSingle_135 (by decide) ?_
              refine g_sub (lvsub_of _ _ [0] rfl) ?_
              exact t_X14_isSingle_183 X hr hF _ _ _ _ hf hK
          · have hf := ife_f hc hf
            refine g_bipush (v := (36 : Int32)) X dX14_isSingle_119 (by decide) ?_
            refine g_goto (tgt := 183) X dX14_isSingle_121 (by decide) ?_
            refine g_sub (lvsub_of _ _ [0] rfl) ?_
            exact t_X14_isSingle_183 X hr hF _ _ _ _ hf hK
        · have hf := ife_t hc hf
          refine g_iconst (v := (0 : Int32)) X dX14_isSingle_108 (by decide) ?_
          cases hf
          refine g_eqQ hK ?_
          exact g_zret X hr (gnb (Or.inl rfl)) dX14_isSingle_109
      · have hf := ife_f hc hf
        refine g_aload_n X dX14_isSingle_94 rfl rfl ?_
        refine g_bipush (v := (14 : Int32)) X dX14_isSingle_95 (by decide) ?_
        obtain ⟨hT26, hf⟩ := ck_e hf
        obtain ⟨r25, M25, hq25, hf⟩ := bd_e hf
        refine g_callV (ci := 12) (b := x0) (As := [vI (14 : Int32)]) (st := []) (v := some (vI r25)) (M1 := M25) X (m_X14_isNamed l hq25) (cwV 1 X.2.2.1 gX14_isSingle_X14_isNamed rfl rfl rfl (by decide +kernel) ⟨rX14R_f (Nat.le_of_ble_eq_true rfl), rX14R_l (Nat.le_of_ble_eq_true rfl)⟩) rfl rfl rfl hT26 (by decide) rfl (Nat.le_of_ble_eq_true rfl) dX14_isSingle_97 ⟨Nat.zero_le _, Nat.zero_le _⟩ ?_
        obtain ⟨hg27, hf⟩ := ck_e hf
        cases hf
        refine g_eqQ hK ?_
        exact g_zret X hr (gnb hg27) dX14_isSingle_100
    · have hf := ife_f hc hf
      refine g_aload_n X dX14_isSingle_52 rfl rfl ?_
      obtain ⟨hT29, hf⟩ := ck_e hf
      obtain ⟨r28, M28, hq28, hf⟩ := bd_e hf
      refine g_callV (ci := 12) (b := x0) (As := []) (st := []) (v := some (vI r28)) (M1 := M28) X (m_X14_isDeeper l hq28) (cwV 0 X.2.2.1 gX14_isSingle_X14_isDeeper rfl rfl rfl (by decide +kernel) ⟨rX14R_f (Nat.le_of_ble_eq_true rfl), rX14R_l (Nat.le_of_ble_eq_true rfl)⟩) rfl rfl rfl hT29 (by decide) rfl (Nat.le_of_ble_eq_true rfl) dX14_isSingle_53 ⟨Nat.zero_le _, Nat.zero_le _⟩ ?_
      refine g_if_eq (tgt := 66) X dX14_isSingle_56 (by decide) (fun hc => ?_) (fun hc => ?_)
      · have hf := ife_t hc hf
        refine g_sub (lvsub_of _ _ [] rfl) ?_
        exact t_X14_isSingle_66 X hr hF _  _ hf hK
      · have hf := ife_f hc hf
        refine g_aload_n X dX14_isSingle_59 rfl rfl ?_
        obtain ⟨hT31, hf⟩ := ck_e hf
        obtain ⟨r30, M30, hq30, hf⟩ := bd_e hf
        refine g_callV (ci := 12) (b := x0) (As := []) (st := []) (v := some (vI r30)) (M1 := M30) X (hF.1 _ _ _ _ hq30) (cwV 0 X.2.2.1 gX14_isSingle_X14_isTest rfl rfl rfl (by decide +kernel) ⟨rX14R_rf, rX14R_rl (Nat.le_of_ble_eq_true rfl)⟩) rfl rfl rfl hT31 (by decide) rfl (Nat.le_of_ble_eq_true rfl) dX14_isSingle_60 ⟨Nat.zero_le _, Nat.zero_le _⟩ ?_
        refine g_if_ne (tgt := 68) X dX14_isSingle_63 (by decide) (fun hc => ?_) (fun hc => ?_)
        · have hf := ife_f hc hf
          refine g_aload_n X dX14_isSingle_68 rfl rfl ?_
          refine g_dup X dX14_isSingle_69 rfl ?_
          obtain ⟨hT32, hf⟩ := ck_e hf
          refine g_get (ci := 12) (v := vI (mI M30 x0 10)) 10 X cdX14 i_X14_isSingle_X14 (by decide) k_X14_isSingle_f187 rfl dX14_isSingle_70 rfl hT32 rfl ?_
          refine g_iconst (v := (1 : Int32)) X dX14_isSingle_73 (by decide) ?_
          refine g_isub X dX14_isSingle_74 ?_
          refine g_putI (ci := 12) 10 X cdX14 i_X14_isSingle_X14 (by decide) k_X14_isSingle_f187 rfl dX14_isSingle_75 rfl hT32 (Or.inl rfl) rfl rfl rfl ?_
          obtain ⟨M33, hM33, hf⟩ := lw_e hf
          rw [← hM33]
          have hT34 : mT M33 x0 = 13 := by rw [hM33]; exact hT32
          refine g_aload_n X dX14_isSingle_78 rfl rfl ?_
          refine g_bipush (v := (93 : Int32)) X dX14_isSingle_79 (by decide) ?_
          obtain ⟨r35, M35, hq35, hf⟩ := bd_e hf
          refine g_callV (ci := 12) (b := x0) (As := [vI (93 : Int32)]) (st := []) (v := some (vI r35)) (M1 := M35) X (m_X14_eatSign l hq35) (cwV 1 X.2.2.1 gX14_isSingle_X14_eatSign rfl rfl rfl (by decide +kernel) ⟨rX14R_f (Nat.le_of_ble_eq_true rfl), rX14R_l (Nat.le_of_ble_eq_true rfl)⟩) rfl rfl rfl hT34 (by decide) rfl (Nat.le_of_ble_eq_true rfl) dX14_isSingle_81 ⟨Nat.zero_le _, Nat.zero_le _⟩ ?_
          obtain ⟨hg36, hf⟩ := ck_e hf
          cases hf
          refine g_eqQ hK ?_
          exact g_zret X hr (gnb hg36) dX14_isSingle_84
        · have hf := ife_t hc hf
          refine g_sub (lvsub_of _ _ [] rfl) ?_
          exact t_X14_isSingle_66 X hr hF _  _ hf hK
  · have hf := ife_f hc hf
    refine g_aload_n X dX14_isSingle_9 rfl rfl ?_
    obtain ⟨hT38, hf⟩ := ck_e hf
    obtain ⟨r37, M37, hq37, hf⟩ := bd_e hf
    refine g_callV (ci := 12) (b := x0) (As := []) (st := []) (v := some (vI r37)) (M1 := M37) X (m_X14_isDeeper l hq37) (cwV 0 X.2.2.1 gX14_isSingle_X14_isDeeper rfl rfl rfl (by decide +kernel) ⟨rX14R_f (Nat.le_of_ble_eq_true rfl), rX14R_l (Nat.le_of_ble_eq_true rfl)⟩) rfl rfl rfl hT38 (by decide) rfl (Nat.le_of_ble_eq_true rfl) dX14_isSingle_10 ⟨Nat.zero_le _, Nat.zero_le _⟩ ?_
    refine g_if_eq (tgt := 23) X dX14_isSingle_13 (by decide) (fun hc => ?_) (fun hc => ?_)
    · have hf := ife_t hc hf
      refine g_sub (lvsub_of _ _ [] rfl) ?_
      exact t_X14_isSingle_23 X hr hF _  _ hf hK
    · have hf := ife_f hc hf
      refine g_aload_n X dX14_isSingle_16 rfl rfl ?_
      obtain ⟨hT40, hf⟩ := ck_e hf
      obtain ⟨r39, M39, hq39, hf⟩ := bd_e hf
      refine g_callV (ci := 12) (b := x0) (As := []) (st := []) (v := some (vI r39)) (M1 := M39) X (hF.2.2.1 _ _ _ _ hq39) (cwV 0 X.2.2.1 gX14_isSingle_X14_isSingle rfl rfl rfl (by decide +kernel) ⟨rX14R_rf, rX14R_rl (Nat.le_of_ble_eq_true rfl)⟩) rfl rfl rfl hT40 (by decide) rfl (Nat.le_of_ble_eq_true rfl) dX14_isSingle_17 ⟨Nat.zero_le _, Nat.zero_le _⟩ ?_
      refine g_if_ne (tgt := 25) X dX14_isSingle_20 (by decide) (fun hc => ?_) (fun hc => ?_)
      · have hf := ife_f hc hf
        refine g_aload_n X dX14_isSingle_25 rfl rfl ?_
        refine g_dup X dX14_isSingle_26 rfl ?_
        obtain ⟨hT41, hf⟩ := ck_e hf
        refine g_get (ci := 12) (v := vI (mI M39 x0 10)) 10 X cdX14 i_X14_isSingle_X14 (by decide) k_X14_isSingle_f187 rfl dX14_isSingle_27 rfl hT41 rfl ?_
        refine g_iconst (v := (1 : Int32)) X dX14_isSingle_30 (by decide) ?_
        refine g_isub X dX14_isSingle_31 ?_
        refine g_putI (ci := 12) 10 X cdX14 i_X14_isSingle_X14 (by decide) k_X14_isSingle_f187 rfl dX14_isSingle_32 rfl hT41 (Or.inl rfl) rfl rfl rfl ?_
        obtain ⟨M42, hM42, hf⟩ := lw_e hf
        rw [← hM42]
        have hT43 : mT M42 x0 = 13 := by rw [hM42]; exact hT41
        refine g_aload_n X dX14_isSingle_35 rfl rfl ?_
        refine g_bipush (v := (20 : Int32)) X dX14_isSingle_36 (by decide) ?_
        obtain ⟨r44, M44, hq44, hf⟩ := bd_e hf
        refine g_callV (ci := 12) (b := x0) (As := [vI (20 : Int32)]) (st := []) (v := none) (M1 := M44) X (m_X14_put l hq44) (cwV 1 X.2.2.1 gX14_isSingle_X14_put rfl rfl rfl (by decide +kernel) ⟨rX14R_f (Nat.le_of_ble_eq_true rfl), rX14R_l (Nat.le_of_ble_eq_true rfl)⟩) rfl rfl rfl hT43 (by decide) rfl (Nat.le_of_ble_eq_true rfl) dX14_isSingle_38 ⟨Nat.zero_le _, Nat.zero_le _⟩ ?_
        refine g_iconst (v := (1 : Int32)) X dX14_isSingle_41 (by decide) ?_
        cases hf
        refine g_eqQ hK ?_
        exact g_zret X hr (gnb (Or.inr rfl)) dX14_isSingle_42
      · have hf := ife_t hc hf
        refine g_sub (lvsub_of _ _ [] rfl) ?_
        exact t_X14_isSingle_23 X hr hF _  _ hf hK
set_option maxHeartbeats 4000000 in
set_option maxRecDepth 100000 in
theorem mr_X14_isSingle (l : Launch) {D : va_G} {cy : Nat → ClassId} {B : Nat} {H0 : Heap} {Z : Nat → Nat} {M M1 : gMem} {n0 : Nat} {F : Nat → gMem → Nat → Option (Int32 × gMem)} (hF : hX14R l D cy B H0 Z n0 F) {x0 : Nat} {r : Int32} (hf : fr_X14_isSingle F M x0 = some (r, M1)) : Met l yX14_isSingle wsX14_isSingle (rX14R (n0 + 1)) (va_Pc (Value.ref x0 :: List.map gv []) (gPre D cy B H0 (gSt Z B H0) M)) (gQ D cy B H0 (some (vI r)) M1) 0 0 (gA B) := by
  refine Met.ofW (cc := cX14_isSingle) (maxL := 2) (ret := (some .boolean)) (by decide) rfl ?_
  intro p e s m args below meth c s₁ Bd hml hv
  obtain ⟨rfl, hW, hKK, hFs⟩ := hv
  have X : gX p s m _ meth c D cy B (gSt Z B H0) RX14 cX14_isSingle wsX14_isSingle 2 := ⟨Bd.exec, Bd.bytes, atoms_spec (ws := wsX14_isSingle) Bd.pre, findClass_of_methodNamed Bd.named, hml, hKK, by rw [hW.1]; exact hW.2.1, Bd.notSynchronized, hFs⟩
  have hr := Bd.returns
  have hl := lv_entry ([.ref x0]) (n := 2) (Nat.le_of_ble_eq_true rfl)
  show W p l e (rX14R (n0 + 1)) s m _ below meth c s.heap [] 0 0 _ (entryFrame m ([.ref x0] : List Value).toArray 2)
  rw [lg_entry_eq]
  generalize (lg_sl ([.ref x0]) ++ List.replicate (2 - (lg_sl ([.ref x0])).length) Slot.unset).toArray = ls at hl ⊢
  have hl : lv_has ls 2 (List.map gq [(0, vR (some x0))]) := hl
  exact t_X14_isSingle_0 X hr hF _ _ _ hf rfl s.heap [] ls hW va_S.rf (lv_has_sub hl (lvsub_of _ _ [0] rfl))
/-! ## TideLotsModel.isSum()Z -/
theorem dX14_isSum_0 : decode cX14_isSum 0 = .ok (.aload_n 0, 1) := by decide +kernel
theorem dX14_isSum_1 : decode cX14_isSum 1 = .ok (.invokevirtual 205, 3) := by decide +kernel
theorem dX14_isSum_4 : decode cX14_isSum 4 = .ok (.ifCond .ne 5, 3) := by decide +kernel
theorem dX14_isSum_7 : decode cX14_isSum 7 = .ok (.iconst 0, 1) := by decide +kernel
theorem dX14_isSum_8 : decode cX14_isSum 8 = .ok (.ireturn, 1) := by decide +kernel
theorem dX14_isSum_9 : decode cX14_isSum 9 = .ok (.aload_n 0, 1) := by decide +kernel
theorem dX14_isSum_10 : decode cX14_isSum 10 = .ok (.bipush 43, 2) := by decide +kernel
theorem dX14_isSum_12 : decode cX14_isSum 12 = .ok (.invokevirtual 199, 3) := by decide +kernel
theorem dX14_isSum_15 : decode cX14_isSum 15 = .ok (.ifCond .ne 12, 3) := by decide +kernel
theorem dX14_isSum_18 : decode cX14_isSum 18 = .ok (.aload_n 0, 1) := by decide +kernel
theorem dX14_isSum_19 : decode cX14_isSum 19 = .ok (.bipush 45, 2) := by decide +kernel
theorem dX14_isSum_21 : decode cX14_isSum 21 = .ok (.invokevirtual 199, 3) := by decide +kernel
theorem dX14_isSum_24 : decode cX14_isSum 24 = .ok (.ifCond .eq 47, 3) := by decide +kernel
theorem dX14_isSum_27 : decode cX14_isSum 27 = .ok (.aload_n 0, 1) := by decide +kernel
theorem dX14_isSum_28 : decode cX14_isSum 28 = .ok (.bipush 43, 2) := by decide +kernel
theorem dX14_isSum_30 : decode cX14_isSum 30 = .ok (.invokevirtual 199, 3) := by decide +kernel
theorem dX14_isSum_33 : decode cX14_isSum 33 = .ok (.ifCond .eq 8, 3) := by decide +kernel
theorem dX14_isSum_36 : decode cX14_isSum 36 = .ok (.bipush 32, 2) := by decide +kernel
theorem dX14_isSum_38 : decode cX14_isSum 38 = .ok (.goto 5, 3) := by decide +kernel
theorem dX14_isSum_41 : decode cX14_isSum 41 = .ok (.bipush 33, 2) := by decide +kernel
theorem dX14_isSum_43 : decode cX14_isSum 43 = .ok (.istore_n 1, 1) := by decide +kernel
theorem dX14_isSum_44 : decode cX14_isSum 44 = .ok (.aload_n 0, 1) := by decide +kernel
theorem dX14_isSum_45 : decode cX14_isSum 45 = .ok (.dup, 1) := by decide +kernel
theorem dX14_isSum_46 : decode cX14_isSum 46 = .ok (.getfield 118, 3) := by decide +kernel
theorem dX14_isSum_49 : decode cX14_isSum 49 = .ok (.iconst 1, 1) := by decide +kernel
theorem dX14_isSum_50 : decode cX14_isSum 50 = .ok (.iadd, 1) := by decide +kernel
theorem dX14_isSum_51 : decode cX14_isSum 51 = .ok (.putfield 118, 3) := by decide +kernel
theorem dX14_isSum_54 : decode cX14_isSum 54 = .ok (.aload_n 0, 1) := by decide +kernel
theorem dX14_isSum_55 : decode cX14_isSum 55 = .ok (.invokevirtual 205, 3) := by decide +kernel
theorem dX14_isSum_58 : decode cX14_isSum 58 = .ok (.ifCond .ne 5, 3) := by decide +kernel
theorem dX14_isSum_61 : decode cX14_isSum 61 = .ok (.iconst 0, 1) := by decide +kernel
theorem dX14_isSum_62 : decode cX14_isSum 62 = .ok (.ireturn, 1) := by decide +kernel
theorem dX14_isSum_63 : decode cX14_isSum 63 = .ok (.aload_n 0, 1) := by decide +kernel
theorem dX14_isSum_64 : decode cX14_isSum 64 = .ok (.iload_n 1, 1) := by decide +kernel
theorem dX14_isSum_65 : decode cX14_isSum 65 = .ok (.invokevirtual 180, 3) := by decide +kernel
theorem dX14_isSum_68 : decode cX14_isSum 68 = .ok (.goto (-59), 3) := by decide +kernel
theorem dX14_isSum_71 : decode cX14_isSum 71 = .ok (.iconst 1, 1) := by decide +kernel
theorem dX14_isSum_72 : decode cX14_isSum 72 = .ok (.ireturn, 1) := by decide +kernel
set_option maxRecDepth 20000 in
theorem ggX14_isSum_X14_isProduct : GoodIn wsX14_isSum wsX14_isProduct := goodIn_2 24 (goodIn_rr wsB_X14_isSum_in _ [(1, 15), (1, 0), (1, 16), (1, 17), (1, 18), (1, 4), (1, 5), (1, 6), (1, 7), (1, 8), (1, 9), (1, 10), (1, 11), (1, 12), (1, 13), (1, 14), (0, 0), (1, 1), (1, 2), (1, 3), (1, 19), (1, 20), (1, 21), (1, 22)] (by decide +kernel) (by decide +kernel)) (goodIn_2 24 (goodIn_rr wsB_X14_isSum_in _ [(1, 23), (2, 0), (2, 1), (2, 2), (2, 3), (2, 4), (2, 5), (2, 6), (2, 7), (2, 8), (2, 9), (2, 10), (2, 11), (2, 12), (2, 13), (2, 14), (2, 15), (2, 16), (2, 17), (2, 18), (2, 19), (2, 20), (2, 21), (2, 22)] (by decide +kernel) (by decide +kernel)) (goodIn_2 24 (goodIn_rr wsB_X14_isSum_in _ [(2, 23), (3, 0), (3, 1), (3, 2), (3, 3), (3, 4), (3, 5), (3, 6), (3, 7), (4, 0), (4, 1), (4, 2), (4, 3), (4, 4), (4, 5), (4, 6), (4, 7), (4, 8), (4, 9), (4, 10), (4, 11), (4, 12), (4, 13), (4, 14)] (by decide +kernel) (by decide +kernel)) (goodIn_2 24 (goodIn_rr wsB_X14_isSum_in _ [(5, 0), (5, 1), (5, 2), (5, 3), (5, 4), (5, 5), (5, 6), (5, 7), (5, 8), (5, 9), (5, 10), (5, 11), (5, 12), (5, 13), (5, 14), (5, 15), (5, 16), (5, 17), (5, 18), (5, 19), (5, 20), (5, 21), (5, 22), (5, 23)] (by decide +kernel) (by decide +kernel)) (goodIn_rr wsB_X14_isSum_in _ [(5, 24)] (by decide +kernel) (by decide +kernel)))))
set_option maxRecDepth 20000 in
theorem gX14_isSum_X14_isProduct : GoodIn wsX14_isSum (wsV RX14 205 RX14 yX14_isProduct wsX14_isProduct) := goodIn_app (goodIn_rr wsB_X14_isSum_in _ [(1, 1), (1, 2), (1, 3), (1, 4)] (by decide +kernel) (by decide +kernel)) ggX14_isSum_X14_isProduct
set_option maxRecDepth 20000 in
theorem ggX14_isSum_X14_put : GoodIn wsX14_isSum wsX14_put := goodIn_2 24 (goodIn_rr wsB_X14_isSum_in _ [(1, 13), (1, 14), (4, 0), (4, 1), (4, 2), (4, 3), (4, 4), (4, 5), (4, 6), (4, 7), (4, 8), (4, 9), (4, 10), (4, 11), (4, 12), (4, 13), (4, 14), (5, 0), (5, 1), (5, 2), (5, 3), (5, 4), (5, 5), (5, 6)] (by decide +kernel) (by decide +kernel)) (goodIn_rr wsB_X14_isSum_in _ [(5, 7), (5, 8), (5, 9), (5, 10), (5, 11), (5, 12), (5, 13), (5, 14), (5, 15), (5, 16), (5, 17), (5, 18), (5, 19), (5, 20), (5, 21), (5, 22), (5, 23), (5, 24)] (by decide +kernel) (by decide +kernel))
set_option maxRecDepth 20000 in
theorem gX14_isSum_X14_put : GoodIn wsX14_isSum (wsV RX14 180 RX14 yX14_put wsX14_put) := goodIn_app (goodIn_rr wsB_X14_isSum_in _ [(1, 10), (1, 11), (1, 12), (1, 4)] (by decide +kernel) (by decide +kernel)) ggX14_isSum_X14_put
set_option maxRecDepth 20000 in
theorem ggX14_isSum_X14_isSign : GoodIn wsX14_isSum wsX14_isSign := goodIn_rr wsB_X14_isSum_in _ [(1, 8), (1, 9), (1, 0), (4, 0), (4, 1), (4, 2), (4, 3), (4, 4), (4, 5), (4, 6), (4, 7), (4, 8), (4, 9), (4, 10), (4, 11), (4, 12), (4, 13), (4, 14)] (by decide +kernel) (by decide +kernel)
set_option maxRecDepth 20000 in
theorem gX14_isSum_X14_isSign : GoodIn wsX14_isSum (wsV RX14 199 RX14 yX14_isSign wsX14_isSign) := goodIn_app (goodIn_rr wsB_X14_isSum_in _ [(1, 5), (1, 6), (1, 7), (1, 4)] (by decide +kernel) (by decide +kernel)) ggX14_isSum_X14_isSign
theorem k_X14_isSum_f118 : Cond.fieldLink RX14 118 "TideLotsModel" "token" "I" ∈ wsX14_isSum := by decide +kernel
theorem i_X14_isSum_X14 : ∀ w ∈ u_ws RX14 TX14 15, w ∈ wsX14_isSum := by decide +kernel
noncomputable def b_X14_isSum_43 (F : Nat → gMem → Nat → Option (Int32 × gMem)) (M : gMem) (x0 : Nat) (s0 : Int32) : Option ((gMem) ⊕ (Int32 × gMem)) :=
  ck (mT M x0 = 13) <| lw (wI M x0 9 (((mI M x0 9) + (1 : Int32)))) fun M2 => bd (F 4 M2 x0) fun r4 M4 => (if r4 = 0 then oI (some ((0 : Int32), M4)) else ck (mT M4 x0 = 13) <| bd (f_X14_put M4 x0 s0) fun _ M5 => some (.inl M5))
noncomputable def b_X14_isSum_27 (F : Nat → gMem → Nat → Option (Int32 × gMem)) (M : gMem) (x0 : Nat) : Option ((gMem) ⊕ (Int32 × gMem)) :=
  ck (mT M x0 = 13) <| bd (f_X14_isSign M x0 ((43 : Int32))) fun r8 M8 => (if r8 = 0 then b_X14_isSum_43 F M8 x0 ((33 : Int32)) else b_X14_isSum_43 F M8 x0 ((32 : Int32)))
noncomputable def bb_X14_isSum_9 (F : Nat → gMem → Nat → Option (Int32 × gMem)) (M : gMem) (x0 : Nat) : Option ((gMem) ⊕ (Int32 × gMem)) :=
  ck (mT M x0 = 13) <| bd (f_X14_isSign M x0 ((43 : Int32))) fun r10 M10 => (if r10 = 0 then ck (mT M10 x0 = 13) <| bd (f_X14_isSign M10 x0 ((45 : Int32))) fun r12 M12 => (if r12 = 0 then oI (some ((1 : Int32), M12)) else b_X14_isSum_27 F M12 x0) else b_X14_isSum_27 F M10 x0)
noncomputable def lp_X14_isSum_9 (F : Nat → gMem → Nat → Option (Int32 × gMem)) (M : gMem) (x0 : Nat) : Option (Int32 × gMem) :=
  lp (fun (q : gMem) => bb_X14_isSum_9 F q x0) M
noncomputable def b_X14_isSum_0 (F : Nat → gMem → Nat → Option (Int32 × gMem)) (M : gMem) (x0 : Nat) : Option (Int32 × gMem) :=
  ck (mT M x0 = 13) <| bd (F 4 M x0) fun r15 M15 => (if r15 = 0 then some ((0 : Int32), M15) else lp_X14_isSum_9 F M15 x0)
noncomputable def fr_X14_isSum (F : Nat → gMem → Nat → Option (Int32 × gMem)) (M : gMem) (x0 : Nat) : Option (Int32 × gMem) :=
  b_X14_isSum_0 F M x0
set_option maxHeartbeats 4000000 in
set_option maxRecDepth 100000 in
theorem t_X14_isSum_43 (X : gX p s m args meth c D cy B (gSt Z B H0) RX14 cX14_isSum wsX14_isSum 2) (hr : meth.sig.returnType = (some .boolean)) {n0 : Nat} {F : Nat → gMem → Nat → Option (Int32 × gMem)} (hF : hX14R l D cy B H0 Z n0 F) {Q : State → Prop} : ∀ (M : gMem) (x0 : Nat) (s0 : Int32) (z : (gMem) ⊕ (Int32 × gMem)), b_X14_isSum_43 F M x0 s0 = some z → (Sum.elim (fun (q : gMem) => gGo p l e (rX14R (n0 + 1)) s m args below meth c D cy B H0 2 0 0 Q 9 [(0, vR (some x0))] [] q) (fun (r : Int32 × gMem) => Q = gMQ below D cy B H0 args s 0 0 (some (vI r.1)) r.2)) z → gGo p l e (rX14R (n0 + 1)) s m args below meth c D cy B H0 2 0 0 Q 43 [(0, vR (some x0))] [vI s0] M := by
  intro M x0 s0 z hf hK
  unfold b_X14_isSum_43 at hf
  refine g_istore_n (lv' := [(1, vI s0), (0, vR (some x0))]) X dX14_isSum_43 rfl (by decide) rfl ?_
  refine g_aload_n X dX14_isSum_44 rfl rfl ?_
  refine g_dup X dX14_isSum_45 rfl ?_
  obtain ⟨hT1, hf⟩ := ck_e hf
  refine g_get (ci := 12) (v := vI (mI M x0 9)) 9 X cdX14 i_X14_isSum_X14 (by decide) k_X14_isSum_f118 rfl dX14_isSum_46 rfl hT1 rfl ?_
  refine g_iconst (v := (1 : Int32)) X dX14_isSum_49 (by decide) ?_
  refine g_iadd X dX14_isSum_50 ?_
  refine g_putI (ci := 12) 9 X cdX14 i_X14_isSum_X14 (by decide) k_X14_isSum_f118 rfl dX14_isSum_51 rfl hT1 (Or.inl rfl) rfl rfl rfl ?_
  obtain ⟨M2, hM2, hf⟩ := lw_e hf
  rw [← hM2]
  have hT3 : mT M2 x0 = 13 := by rw [hM2]; exact hT1
  refine g_aload_n X dX14_isSum_54 rfl rfl ?_
  obtain ⟨r4, M4, hq4, hf⟩ := bd_e hf
  refine g_callV (ci := 12) (b := x0) (As := []) (st := []) (v := some (vI r4)) (M1 := M4) X (hF.2.2.2.2.1 _ _ _ _ hq4) (cwV 0 X.2.2.1 gX14_isSum_X14_isProduct rfl rfl rfl (by decide +kernel) ⟨rX14R_rf, rX14R_rl (Nat.le_of_ble_eq_true rfl)⟩) rfl rfl rfl hT3 (by decide) rfl (Nat.le_of_ble_eq_true rfl) dX14_isSum_55 ⟨Nat.zero_le _, Nat.zero_le _⟩ ?_
  refine g_if_ne (tgt := 63) X dX14_isSum_58 (by decide) (fun hc => ?_) (fun hc => ?_)
  · have hf := ife_f hc hf
    refine g_aload_n X dX14_isSum_63 rfl rfl ?_
    refine g_iload_n X dX14_isSum_64 rfl rfl ?_
    obtain ⟨hT6, hf⟩ := ck_e hf
    obtain ⟨r5, M5, hq5, hf⟩ := bd_e hf
    refine g_callV (ci := 12) (b := x0) (As := [vI s0]) (st := []) (v := none) (M1 := M5) X (m_X14_put l hq5) (cwV 1 X.2.2.1 gX14_isSum_X14_put rfl rfl rfl (by decide +kernel) ⟨rX14R_f (Nat.le_of_ble_eq_true rfl), rX14R_l (Nat.le_of_ble_eq_true rfl)⟩) rfl rfl rfl hT6 (by decide) rfl (Nat.le_of_ble_eq_true rfl) dX14_isSum_65 ⟨Nat.zero_le _, Nat.zero_le _⟩ ?_
    refine g_goto (tgt := 9) X dX14_isSum_68 (by decide) ?_
    cases hf
    refine g_sub (lvsub_of _ _ [1] rfl) ?_
    exact hK
  · have hf := ife_t hc hf
    refine g_iconst (v := (0 : Int32)) X dX14_isSum_61 (by decide) ?_
    obtain ⟨w7, hw7, hz7⟩ := oI_e hf
    subst hz7
    have hf := hw7
    cases hf
    refine g_eqQ hK ?_
    exact g_zret X hr (gnb (Or.inl rfl)) dX14_isSum_62
set_option maxHeartbeats 4000000 in
set_option maxRecDepth 100000 in
theorem t_X14_isSum_27 (X : gX p s m args meth c D cy B (gSt Z B H0) RX14 cX14_isSum wsX14_isSum 2) (hr : meth.sig.returnType = (some .boolean)) {n0 : Nat} {F : Nat → gMem → Nat → Option (Int32 × gMem)} (hF : hX14R l D cy B H0 Z n0 F) {Q : State → Prop} : ∀ (M : gMem) (x0 : Nat) (z : (gMem) ⊕ (Int32 × gMem)), b_X14_isSum_27 F M x0 = some z → (Sum.elim (fun (q : gMem) => gGo p l e (rX14R (n0 + 1)) s m args below meth c D cy B H0 2 0 0 Q 9 [(0, vR (some x0))] [] q) (fun (r : Int32 × gMem) => Q = gMQ below D cy B H0 args s 0 0 (some (vI r.1)) r.2)) z → gGo p l e (rX14R (n0 + 1)) s m args below meth c D cy B H0 2 0 0 Q 27 [(0, vR (some x0))] [] M := by
  intro M x0 z hf hK
  unfold b_X14_isSum_27 at hf
  refine g_aload_n X dX14_isSum_27 rfl rfl ?_
  refine g_bipush (v := (43 : Int32)) X dX14_isSum_28 (by decide) ?_
  obtain ⟨hT9, hf⟩ := ck_e hf
  obtain ⟨r8, M8, hq8, hf⟩ := bd_e hf
  refine g_callV (ci := 12) (b := x0) (As := [vI (43 : Int32)]) (st := []) (v := some (vI r8)) (M1 := M8) X (m_X14_isSign l hq8) (cwV 1 X.2.2.1 gX14_isSum_X14_isSign rfl rfl rfl (by decide +kernel) ⟨rX14R_f (Nat.le_of_ble_eq_true rfl), rX14R_l (Nat.le_of_ble_eq_true rfl)⟩) rfl rfl rfl hT9 (by decide) rfl (Nat.le_of_ble_eq_true rfl) dX14_isSum_30 ⟨Nat.zero_le _, Nat.zero_le _⟩ ?_
  refine g_if_eq (tgt := 41) X dX14_isSum_33 (by decide) (fun hc => ?_) (fun hc => ?_)
  · have hf := ife_t hc hf
    refine g_bipush (v := (33 : Int32)) X dX14_isSum_41 (by decide) ?_
    refine g_sub (lvsub_of _ _ [0] rfl) ?_
    exact t_X14_isSum_43 X hr hF _ _ _ _ hf hK
  · have hf := ife_f hc hf
    refine g_bipush (v := (32 : Int32)) X dX14_isSum_36 (by decide) ?_
    refine g_goto (tgt := 43) X dX14_isSum_38 (by decide) ?_
    refine g_sub (lvsub_of _ _ [0] rfl) ?_
    exact t_X14_isSum_43 X hr hF _ _ _ _ hf hK
set_option maxHeartbeats 4000000 in
set_option maxRecDepth 100000 in
theorem tb_X14_isSum_9 (X : gX p s m args meth c D cy B (gSt Z B H0) RX14 cX14_isSum wsX14_isSum 2) (hr : meth.sig.returnType = (some .boolean)) {n0 : Nat} {F : Nat → gMem → Nat → Option (Int32 × gMem)} (hF : hX14R l D cy B H0 Z n0 F) {Q : State → Prop} : ∀ (M : gMem) (x0 : Nat) (z : (gMem) ⊕ (Int32 × gMem)), bb_X14_isSum_9 F M x0 = some z → (Sum.elim (fun (q : gMem) => gGo p l e (rX14R (n0 + 1)) s m args below meth c D cy B H0 2 0 0 Q 9 [(0, vR (some x0))] [] q) (fun (r : Int32 × gMem) => Q = gMQ below D cy B H0 args s 0 0 (some (vI r.1)) r.2)) z → gGo p l e (rX14R (n0 + 1)) s m args below meth c D cy B H0 2 0 0 Q 9 [(0, vR (some x0))] [] M := by
  intro M x0 z hf hK
  unfold bb_X14_isSum_9 at hf
  refine g_aload_n X dX14_isSum_9 rfl rfl ?_
  refine g_bipush (v := (43 : Int32)) X dX14_isSum_10 (by decide) ?_
  obtain ⟨hT11, hf⟩ := ck_e hf
  obtain ⟨r10, M10, hq10, hf⟩ := bd_e hf
  refine g_callV (ci := 12) (b := x0) (As := [vI (43 : Int32)]) (st := []) (v := some (vI r10)) (M1 := M10) X (m_X14_isSign l hq10) (cwV 1 X.2.2.1 gX14_isSum_X14_isSign rfl rfl rfl (by decide +kernel) ⟨rX14R_f (Nat.le_of_ble_eq_true rfl), rX14R_l (Nat.le_of_ble_eq_true rfl)⟩) rfl rfl rfl hT11 (by decide) rfl (Nat.le_of_ble_eq_true rfl) dX14_isSum_12 ⟨Nat.zero_le _, Nat.zero_le _⟩ ?_
  refine g_if_ne (tgt := 27) X dX14_isSum_15 (by decide) (fun hc => ?_) (fun hc => ?_)
  · have hf := ife_f hc hf
    refine g_sub (lvsub_of _ _ [0] rfl) ?_
    exact t_X14_isSum_27 X hr hF _ _ _ hf hK
  · have hf := ife_t hc hf
    refine g_aload_n X dX14_isSum_18 rfl rfl ?_
    refine g_bipush (v := (45 : Int32)) X dX14_isSum_19 (by decide) ?_
    obtain ⟨hT13, hf⟩ := ck_e hf
    obtain ⟨r12, M12, hq12, hf⟩ := bd_e hf
    refine g_callV (ci := 12) (b := x0) (As := [vI (45 : Int32)]) (st := []) (v := some (vI r12)) (M1 := M12) X (m_X14_isSign l hq12) (cwV 1 X.2.2.1 gX14_isSum_X14_isSign rfl rfl rfl (by decide +kernel) ⟨rX14R_f (Nat.le_of_ble_eq_true rfl), rX14R_l (Nat.le_of_ble_eq_true rfl)⟩) rfl rfl rfl hT13 (by decide) rfl (Nat.le_of_ble_eq_true rfl) dX14_isSum_21 ⟨Nat.zero_le _, Nat.zero_le _⟩ ?_
    refine g_if_eq (tgt := 71) X dX14_isSum_24 (by decide) (fun hc => ?_) (fun hc => ?_)
    · have hf := ife_t hc hf
      refine g_iconst (v := (1 : Int32)) X dX14_isSum_71 (by decide) ?_
      obtain ⟨w14, hw14, hz14⟩ := oI_e hf
      subst hz14
      have hf := hw14
      cases hf
      refine g_eqQ hK ?_
      exact g_zret X hr (gnb (Or.inr rfl)) dX14_isSum_72
    · have hf := ife_f hc hf
      refine g_sub (lvsub_of _ _ [0] rfl) ?_
      exact t_X14_isSum_27 X hr hF _ _ _ hf hK
set_option maxHeartbeats 4000000 in
set_option maxRecDepth 100000 in
theorem tl_X14_isSum_9 (X : gX p s m args meth c D cy B (gSt Z B H0) RX14 cX14_isSum wsX14_isSum 2) (hr : meth.sig.returnType = (some .boolean)) {n0 : Nat} {F : Nat → gMem → Nat → Option (Int32 × gMem)} (hF : hX14R l D cy B H0 Z n0 F) {Q : State → Prop} : ∀ (M : gMem) (x0 : Nat) (z : Int32 × gMem), lp_X14_isSum_9 F M x0 = some z → (fun (r : Int32 × gMem) => Q = gMQ below D cy B H0 args s 0 0 (some (vI r.1)) r.2) z → gGo p l e (rX14R (n0 + 1)) s m args below meth c D cy B H0 2 0 0 Q 9 [(0, vR (some x0))] [] M := by
  intro M x0 z hf hK
  refine lp_ind (P := (fun (q : gMem) (z : Int32 × gMem) => (fun (r : Int32 × gMem) => Q = gMQ below D cy B H0 args s 0 0 (some (vI r.1)) r.2) z → gGo p l e (rX14R (n0 + 1)) s m args below meth c D cy B H0 2 0 0 Q 9 [(0, vR (some x0))] [] q)) (fun q z hq => ?_) _ _ hf hK
  intro hK
  obtain ⟨w, hw, hm⟩ := hq
  refine tb_X14_isSum_9 X hr hF _ _ w hw ?_
  cases w with
  | inl a => exact hm hK
  | inr b => cases hm; exact hK
set_option maxHeartbeats 4000000 in
set_option maxRecDepth 100000 in
theorem t_X14_isSum_0 (X : gX p s m args meth c D cy B (gSt Z B H0) RX14 cX14_isSum wsX14_isSum 2) (hr : meth.sig.returnType = (some .boolean)) {n0 : Nat} {F : Nat → gMem → Nat → Option (Int32 × gMem)} (hF : hX14R l D cy B H0 Z n0 F) {Q : State → Prop} : ∀ (M : gMem) (x0 : Nat) (z : Int32 × gMem), b_X14_isSum_0 F M x0 = some z → (fun (r : Int32 × gMem) => Q = gMQ below D cy B H0 args s 0 0 (some (vI r.1)) r.2) z → gGo p l e (rX14R (n0 + 1)) s m args below meth c D cy B H0 2 0 0 Q 0 [(0, vR (some x0))] [] M := by
  intro M x0 z hf hK
  unfold b_X14_isSum_0 at hf
  refine g_aload_n X dX14_isSum_0 rfl rfl ?_
  obtain ⟨hT16, hf⟩ := ck_e hf
  obtain ⟨r15, M15, hq15, hf⟩ := bd_e hf
  refine g_callV (ci := 12) (b := x0) (As := []) (st := []) (v := some (vI r15)) (M1 := M15) X (hF.2.2.2.2.1 _ _ _ _ hq15) (cwV 0 X.2.2.1 gX14_isSum_X14_isProduct rfl rfl rfl (by decide +kernel) ⟨rX14R_rf, rX14R_rl (Nat.le_of_ble_eq_true rfl)⟩) rfl rfl rfl hT16 (by decide) rfl (Nat.le_of_ble_eq_true rfl) dX14_isSum_1 ⟨Nat.zero_le _, Nat.zero_le _⟩ ?_
  refine g_if_ne (tgt := 9) X dX14_isSum_4 (by decide) (fun hc => ?_) (fun hc => ?_)
  · have hf := ife_f hc hf
    refine g_sub (lvsub_of _ _ [0] rfl) ?_
    exact tl_X14_isSum_9 X hr hF _ _ _ hf hK
  · have hf := ife_t hc hf
    refine g_iconst (v := (0 : Int32)) X dX14_isSum_7 (by decide) ?_
    cases hf
    refine g_eqQ hK ?_
    exact g_zret X hr (gnb (Or.inl rfl)) dX14_isSum_8
set_option maxHeartbeats 4000000 in
set_option maxRecDepth 100000 in
theorem mr_X14_isSum (l : Launch) {D : va_G} {cy : Nat → ClassId} {B : Nat} {H0 : Heap} {Z : Nat → Nat} {M M1 : gMem} {n0 : Nat} {F : Nat → gMem → Nat → Option (Int32 × gMem)} (hF : hX14R l D cy B H0 Z n0 F) {x0 : Nat} {r : Int32} (hf : fr_X14_isSum F M x0 = some (r, M1)) : Met l yX14_isSum wsX14_isSum (rX14R (n0 + 1)) (va_Pc (Value.ref x0 :: List.map gv []) (gPre D cy B H0 (gSt Z B H0) M)) (gQ D cy B H0 (some (vI r)) M1) 0 0 (gA B) := by
  refine Met.ofW (cc := cX14_isSum) (maxL := 2) (ret := (some .boolean)) (by decide) rfl ?_
  intro p e s m args below meth c s₁ Bd hml hv
  obtain ⟨rfl, hW, hKK, hFs⟩ := hv
  have X : gX p s m _ meth c D cy B (gSt Z B H0) RX14 cX14_isSum wsX14_isSum 2 := ⟨Bd.exec, Bd.bytes, atoms_spec (ws := wsX14_isSum) Bd.pre, findClass_of_methodNamed Bd.named, hml, hKK, by rw [hW.1]; exact hW.2.1, Bd.notSynchronized, hFs⟩
  have hr := Bd.returns
  have hl := lv_entry ([.ref x0]) (n := 2) (Nat.le_of_ble_eq_true rfl)
  show W p l e (rX14R (n0 + 1)) s m _ below meth c s.heap [] 0 0 _ (entryFrame m ([.ref x0] : List Value).toArray 2)
  rw [lg_entry_eq]
  generalize (lg_sl ([.ref x0]) ++ List.replicate (2 - (lg_sl ([.ref x0])).length) Slot.unset).toArray = ls at hl ⊢
  have hl : lv_has ls 2 (List.map gq [(0, vR (some x0))]) := hl
  exact t_X14_isSum_0 X hr hF _ _ _ hf rfl s.heap [] ls hW va_S.rf (lv_has_sub hl (lvsub_of _ _ [0] rfl))
end
