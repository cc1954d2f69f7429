section
variable {p : Program} {l : Launch} {e : Env} {s : State} {m : MethodId} {args : Array Value} {below : List Frame} {meth : Method} {c : Code} {D : va_G} {cy : Nat → ClassId} {B : Nat} {H0 : Heap} {Z : Nat → Nat}
abbrev rX6R (n : Nat) : Room := { frames := n + 2, cells := 0, slots := 0, locals := n * 40 + 44 }
theorem rX6R_f {n a : Nat} (h : a ≤ 2) : a ≤ (rX6R (n + 1)).frames := by show a ≤ n + 1 + 2; omega
theorem rX6R_l {n a : Nat} (h : a ≤ 44) : a ≤ (rX6R (n + 1)).locals := by show a ≤ (n + 1) * 40 + 44; omega
theorem rX6R_rf {n : Nat} : (rX6R n).frames + 1 ≤ (rX6R (n + 1)).frames := by show n + 2 + 1 ≤ n + 1 + 2; omega
theorem rX6R_rl {n a : Nat} (h : a ≤ 21) : 8 + (a + 11) + (rX6R n).locals ≤ (rX6R (n + 1)).locals := by show 8 + (a + 11) + (n * 40 + 44) ≤ (n + 1) * 40 + 44; omega
def hX6R (l : Launch) (D : va_G) (cy : Nat → ClassId) (B : Nat) (H0 : Heap) (Z : Nat → Nat) (n0 : Nat) (F : Nat → gMem → Nat → Int32 → Option (Int32 × gMem)) : Prop :=
  (∀ (M M1 : gMem) (r : Int32) (x0 : Nat) (x1 : Int32), F 0 M x0 x1 = some (r, M1) → Met l yX6_test wsX6_test (rX6R n0) (va_Pc (Value.ref x0 :: List.map gv [vI x1]) (gPre D cy B H0 (gSt Z B H0) M)) (gQ D cy B H0 (some (vI r)) M1) 0 0 (gA B)) ∧
  (∀ (M M1 : gMem) (r : Int32) (x0 : Nat) (x1 : Int32), F 1 M x0 x1 = some (r, M1) → Met l yX6_both wsX6_both (rX6R n0) (va_Pc (Value.ref x0 :: List.map gv [vI x1]) (gPre D cy B H0 (gSt Z B H0) M)) (gQ D cy B H0 (some (vI r)) M1) 0 0 (gA B)) ∧
  (∀ (M M1 : gMem) (r : Int32) (x0 : Nat) (x1 : Int32), F 2 M x0 x1 = some (r, M1) → Met l yX6_single wsX6_single (rX6R n0) (va_Pc (Value.ref x0 :: List.map gv [vI x1]) (gPre D cy B H0 (gSt Z B H0) M)) (gQ D cy B H0 (some (vI r)) M1) 0 0 (gA B)) ∧
  (∀ (M M1 : gMem) (r : Int32) (x0 : Nat) (x1 : Int32), F 3 M x0 x1 = some (r, M1) → Met l yX6_comparedSum wsX6_comparedSum (rX6R n0) (va_Pc (Value.ref x0 :: List.map gv [vI x1]) (gPre D cy B H0 (gSt Z B H0) M)) (gQ D cy B H0 (some (vI r)) M1) 0 0 (gA B)) ∧
  (∀ (M M1 : gMem) (r : Int32) (x0 : Nat) (x1 : Int32), F 4 M x0 x1 = some (r, M1) → Met l yX6_sum wsX6_sum (rX6R n0) (va_Pc (Value.ref x0 :: List.map gv [vI x1]) (gPre D cy B H0 (gSt Z B H0) M)) (gQ D cy B H0 (some (vI r)) M1) 0 0 (gA B)) ∧
  (∀ (M M1 : gMem) (r : Int32) (x0 : Nat) (x1 : Int32), F 5 M x0 x1 = some (r, M1) → Met l yX6_product wsX6_product (rX6R n0) (va_Pc (Value.ref x0 :: List.map gv [vI x1]) (gPre D cy B H0 (gSt Z B H0) M)) (gQ D cy B H0 (some (vI r)) M1) 0 0 (gA B)) ∧
  (∀ (M M1 : gMem) (r : Int32) (x0 : Nat) (x1 : Int32), F 6 M x0 x1 = some (r, M1) → Met l yX6_value wsX6_value (rX6R n0) (va_Pc (Value.ref x0 :: List.map gv [vI x1]) (gPre D cy B H0 (gSt Z B H0) M)) (gQ D cy B H0 (some (vI r)) M1) 0 0 (gA B))
/-! ## TideLots$Reader.test(I)Z -/
theorem dX6_test_0 : decode cX6_test 0 = .ok (.aload_n 0, 1) := by decide +kernel
theorem dX6_test_1 : decode cX6_test 1 = .ok (.iload_n 1, 1) := by decide +kernel
theorem dX6_test_2 : decode cX6_test 2 = .ok (.invokevirtual 267, 3) := by decide +kernel
theorem dX6_test_5 : decode cX6_test 5 = .ok (.ifCond .ne 5, 3) := by decide +kernel
theorem dX6_test_8 : decode cX6_test 8 = .ok (.iconst 0, 1) := by decide +kernel
theorem dX6_test_9 : decode cX6_test 9 = .ok (.ireturn, 1) := by decide +kernel
theorem dX6_test_10 : decode cX6_test 10 = .ok (.iconst 0, 1) := by decide +kernel
theorem dX6_test_11 : decode cX6_test 11 = .ok (.istore_n 2, 1) := by decide +kernel
theorem dX6_test_12 : decode cX6_test 12 = .ok (.iload_n 2, 1) := by decide +kernel
theorem dX6_test_13 : decode cX6_test 13 = .ok (.sipush 400, 3) := by decide +kernel
theorem dX6_test_16 : decode cX6_test 16 = .ok (.if_icmp .ge 43, 3) := by decide +kernel
theorem dX6_test_19 : decode cX6_test 19 = .ok (.aload_n 0, 1) := by decide +kernel
theorem dX6_test_20 : decode cX6_test 20 = .ok (.getstatic 270, 3) := by decide +kernel
theorem dX6_test_23 : decode cX6_test 23 = .ok (.invokevirtual 79, 3) := by decide +kernel
theorem dX6_test_26 : decode cX6_test 26 = .ok (.ifCond .eq 33, 3) := by decide +kernel
theorem dX6_test_29 : decode cX6_test 29 = .ok (.aload_n 0, 1) := by decide +kernel
theorem dX6_test_30 : decode cX6_test 30 = .ok (.iload_n 1, 1) := by decide +kernel
theorem dX6_test_31 : decode cX6_test 31 = .ok (.invokevirtual 267, 3) := by decide +kernel
theorem dX6_test_34 : decode cX6_test 34 = .ok (.ifCond .ne 5, 3) := by decide +kernel
theorem dX6_test_37 : decode cX6_test 37 = .ok (.iconst 0, 1) := by decide +kernel
theorem dX6_test_38 : decode cX6_test 38 = .ok (.ireturn, 1) := by decide +kernel
theorem dX6_test_39 : decode cX6_test 39 = .ok (.aload_n 0, 1) := by decide +kernel
theorem dX6_test_40 : decode cX6_test 40 = .ok (.getfield 34, 3) := by decide +kernel
theorem dX6_test_43 : decode cX6_test 43 = .ok (.getfield 193, 3) := by decide +kernel
theorem dX6_test_46 : decode cX6_test 46 = .ok (.getstatic 270, 3) := by decide +kernel
theorem dX6_test_49 : decode cX6_test 49 = .ok (.iconst 0, 1) := by decide +kernel
theorem dX6_test_50 : decode cX6_test 50 = .ok (.invokevirtual 273, 3) := by decide +kernel
theorem dX6_test_53 : decode cX6_test 53 = .ok (.iinc 2 1, 3) := by decide +kernel
theorem dX6_test_56 : decode cX6_test 56 = .ok (.goto (-44), 3) := by decide +kernel
theorem dX6_test_59 : decode cX6_test 59 = .ok (.iconst 1, 1) := by decide +kernel
theorem dX6_test_60 : decode cX6_test 60 = .ok (.ireturn, 1) := by decide +kernel
set_option maxRecDepth 20000 in
theorem ggX6_test_X6_take : GoodIn wsX6_test wsX6_take := goodIn_r _ [11, 12, 13, 14, 101, 102, 103, 104, 105, 106, 107, 108, 109, 127, 128, 129, 130, 131, 132] (by decide +kernel) (by decide +kernel)
set_option maxRecDepth 20000 in
theorem gX6_test_X6_take : GoodIn wsX6_test (wsV RX6 79 RX6 yX6_take wsX6_take) := goodIn_app (goodIn_of _ (by decide +kernel)) ggX6_test_X6_take
set_option maxRecDepth 20000 in
theorem ggX6_test_X6_both : GoodIn wsX6_test wsX6_both := goodIn_2 24 (goodIn_r _ [23, 24, 2, 3, 25, 26, 27, 7, 8, 9, 10, 11, 12, 13, 14, 15, 16, 17, 18, 19, 20, 21, 22, 28] (by decide +kernel) (by decide +kernel)) (goodIn_2 24 (goodIn_r _ [29, 30, 31, 32, 33, 34, 35, 36, 37, 38, 39, 40, 41, 42, 43, 44, 45, 46, 47, 48, 49, 50, 51, 52] (by decide +kernel) (by decide +kernel)) (goodIn_2 24 (goodIn_r _ [53, 54, 55, 56, 57, 58, 59, 60, 61, 62, 63, 64, 65, 66, 67, 68, 69, 70, 71, 72, 73, 74, 75, 76] (by decide +kernel) (by decide +kernel)) (goodIn_2 24 (goodIn_r _ [77, 78, 79, 80, 81, 82, 83, 84, 85, 86, 87, 88, 89, 90, 91, 92, 93, 94, 95, 96, 97, 98, 99, 100] (by decide +kernel) (by decide +kernel)) (goodIn_2 24 (goodIn_r _ [0, 1, 4, 5, 6, 101, 102, 103, 104, 105, 106, 107, 108, 109, 110, 111, 112, 113, 114, 115, 116, 117, 118, 119] (by decide +kernel) (by decide +kernel)) (goodIn_r _ [120, 121, 122, 123, 124, 125, 126, 127, 128, 129, 130, 131, 132, 133, 134, 135, 136, 137, 138] (by decide +kernel) (by decide +kernel))))))
set_option maxRecDepth 20000 in
theorem gX6_test_X6_both : GoodIn wsX6_test (wsV RX6 267 RX6 yX6_both wsX6_both) := goodIn_app (goodIn_of _ (by decide +kernel)) ggX6_test_X6_both
set_option maxRecDepth 20000 in
theorem ggX6_test_X9_add : GoodIn wsX6_test wsX9_add := goodIn_r _ [19, 20, 21, 22, 133, 134, 135, 136] (by decide +kernel) (by decide +kernel)
set_option maxRecDepth 20000 in
theorem gX6_test_X9_add : GoodIn wsX6_test (wsV RX6 273 RX9 yX9_add wsX9_add) := goodIn_app (goodIn_of _ (by decide +kernel)) ggX6_test_X9_add
theorem k_X6_test_f270 : Cond.fieldLink RX6 270 "TideLots$Sign" "OR" "LTideLots$Sign;" ∈ wsX6_test := by decide +kernel
theorem k_X6_test_f34 : Cond.fieldLink RX6 34 "TideLots$Reader" "built" "LTideLots$Shore;" ∈ wsX6_test := by decide +kernel
theorem i_X6_test_X6 : ∀ w ∈ u_ws RX6 TX6 9, w ∈ wsX6_test := by decide +kernel
theorem k_X6_test_f193 : Cond.fieldLink RX6 193 "TideLots$Shore" "sums" "LTideLots$Sums;" ∈ wsX6_test := by decide +kernel
theorem i_X6_test_X7 : ∀ w ∈ u_ws RX7 TX7 17, w ∈ wsX6_test := by decide +kernel
noncomputable def b_X6_test_59 (Z : Nat → Nat) (F : Nat → gMem → Nat → Int32 → Option (Int32 × gMem)) (M : gMem)  : Option (Int32 × gMem) :=
  some ((1 : Int32), M)
noncomputable def bb_X6_test_12 (Z : Nat → Nat) (F : Nat → gMem → Nat → Int32 → Option (Int32 × gMem)) (M : gMem) (x0 : Nat) (x1 : Int32) (x2 : Int32) : Option ((gMem × Int32) ⊕ (Int32 × gMem)) :=
  (if (400 : Int32) ≤ x2 then oI (b_X6_test_59 Z F M ) else ck (mT M x0 = 6) <| bd (f_X6_take M x0 ((some (Z 22)))) fun r2 M2 => (if r2 = 0 then oI (b_X6_test_59 Z F M2 ) else ck (mT M2 x0 = 6) <| bd (F 1 M2 x0 x1) fun r5 M5 => (if r5 = 0 then oI (some ((0 : Int32), M5)) else ck (mT M5 x0 = 6) <| dr ((mR M5 x0 2)) fun a8 => ck (mT M5 a8 = 7) <| dr ((mR M5 a8 10)) fun a11 => ck (mT M5 a11 = 8) <| bd (f_X9_add Z M5 a11 ((some (Z 22))) ((0 : Int32))) fun _ M10 => some (.inl (M10, (x2 + (1 : Int32)))))))
noncomputable def lp_X6_test_12 (Z : Nat → Nat) (F : Nat → gMem → Nat → Int32 → Option (Int32 × gMem)) (M : gMem) (x0 : Nat) (x1 : Int32) (x2 : Int32) : Option (Int32 × gMem) :=
  lp (fun (q : gMem × Int32) => bb_X6_test_12 Z F q.1 x0 x1 q.2) (M, x2)
noncomputable def b_X6_test_0 (Z : Nat → Nat) (F : Nat → gMem → Nat → Int32 → Option (Int32 × gMem)) (M : gMem) (x0 : Nat) (x1 : Int32) : Option (Int32 × gMem) :=
  ck (mT M x0 = 6) <| bd (F 1 M x0 x1) fun r14 M14 => (if r14 = 0 then some ((0 : Int32), M14) else lp_X6_test_12 Z F M14 x0 x1 ((0 : Int32)))
noncomputable def fr_X6_test (Z : Nat → Nat) (F : Nat → gMem → Nat → Int32 → Option (Int32 × gMem)) (M : gMem) (x0 : Nat) (x1 : Int32) : Option (Int32 × gMem) :=
  b_X6_test_0 Z F M x0 x1
set_option maxHeartbeats 4000000 in
set_option maxRecDepth 100000 in
theorem t_X6_test_59 (X : gX p s m args meth c D cy B (gSt Z B H0) RX6 cX6_test wsX6_test 3) (hr : meth.sig.returnType = (some .boolean)) {n0 : Nat} {F : Nat → gMem → Nat → Int32 → Option (Int32 × gMem)} (hF : hX6R l D cy B H0 Z n0 F) {Q : State → Prop} : ∀ (M : gMem)  (z : Int32 × gMem), b_X6_test_59 Z F M  = some z → (fun (r : Int32 × gMem) => Q = gMQ below D cy B H0 args s 0 0 (some (vI r.1)) r.2) z → gGo p l e (rX6R (n0 + 1)) s m args below meth c D cy B H0 3 0 0 Q 59 [] [] M := by
  intro M  z hf hK
  unfold b_X6_test_59 at hf
  refine g_iconst (v := (1 : Int32)) X dX6_test_59 (by decide) ?_
  cases hf
  refine g_eqQ hK ?_
  exact g_zret X hr (gnb (Or.inr rfl)) dX6_test_60
set_option maxHeartbeats 4000000 in
set_option maxRecDepth 100000 in
theorem tb_X6_test_12 (X : gX p s m args meth c D cy B (gSt Z B H0) RX6 cX6_test wsX6_test 3) (hr : meth.sig.returnType = (some .boolean)) {n0 : Nat} {F : Nat → gMem → Nat → Int32 → Option (Int32 × gMem)} (hF : hX6R l D cy B H0 Z n0 F) {Q : State → Prop} : ∀ (M : gMem) (x0 : Nat) (x1 : Int32) (x2 : Int32) (z : (gMem × Int32) ⊕ (Int32 × gMem)), bb_X6_test_12 Z F M x0 x1 x2 = some z → (Sum.elim (fun (q : gMem × Int32) => gGo p l e (rX6R (n0 + 1)) s m args below meth c D cy B H0 3 0 0 Q 12 [(0, vR (some x0)), (1, vI x1), (2, vI q.2)] [] q.1) (fun (r : Int32 × gMem) => Q = gMQ below D cy B H0 args s 0 0 (some (vI r.1)) r.2)) z → gGo p l e (rX6R (n0 + 1)) s m args below meth c D cy B H0 3 0 0 Q 12 [(0, vR (some x0)), (1, vI x1), (2, vI x2)] [] M := by
  intro M x0 x1 x2 z hf hK
  unfold bb_X6_test_12 at hf
  refine g_iload_n X dX6_test_12 rfl rfl ?_
  refine g_sipush (v := (400 : Int32)) X dX6_test_13 (by decide) ?_
  refine g_icmp_ge (tgt := 59) X dX6_test_16 (by decide) (fun hc => ?_) (fun hc => ?_)
  · have hf := ife_t hc hf
    obtain ⟨w1, hw1, hz1⟩ := oI_e hf
    subst hz1
    have hf := hw1
    refine g_sub (lvsub_of _ _ [] rfl) ?_
    exact t_X6_test_59 X hr hF _  _ hf hK
  · have hf := ife_f hc hf
    refine g_aload_n X dX6_test_19 rfl rfl ?_
    refine g_gets (w := vR (some (Z 22))) X (gSt_E X 22 (by decide)) k_X6_test_f270 rfl dX6_test_20 ?_
    obtain ⟨hT3, hf⟩ := ck_e hf
    obtain ⟨r2, M2, hq2, hf⟩ := bd_e hf
    refine g_callV (ci := 5) (b := x0) (As := [vR (some (Z 22))]) (st := []) (v := some (vI r2)) (M1 := M2) X (m_X6_take l hq2) (cwV 1 X.2.2.1 gX6_test_X6_take rfl rfl rfl (by decide +kernel) ⟨rX6R_f (Nat.le_of_ble_eq_true rfl), rX6R_l (Nat.le_of_ble_eq_true rfl)⟩) rfl rfl rfl hT3 (by decide) rfl (Nat.le_of_ble_eq_true rfl) dX6_test_23 ⟨Nat.zero_le _, Nat.zero_le _⟩ ?_
    refine g_if_eq (tgt := 59) X dX6_test_26 (by decide) (fun hc => ?_) (fun hc => ?_)
    · have hf := ife_t hc hf
      obtain ⟨w4, hw4, hz4⟩ := oI_e hf
      subst hz4
      have hf := hw4
      refine g_sub (lvsub_of _ _ [] rfl) ?_
      exact t_X6_test_59 X hr hF _  _ hf hK
    · have hf := ife_f hc hf
      refine g_aload_n X dX6_test_29 rfl rfl ?_
      refine g_iload_n X dX6_test_30 rfl rfl ?_
      obtain ⟨hT6, hf⟩ := ck_e hf
      obtain ⟨r5, M5, hq5, hf⟩ := bd_e hf
      refine g_callV (ci := 5) (b := x0) (As := [vI x1]) (st := []) (v := some (vI r5)) (M1 := M5) X (hF.2.1 _ _ _ _ _ hq5) (cwV 1 X.2.2.1 gX6_test_X6_both rfl rfl rfl (by decide +kernel) ⟨rX6R_rf, rX6R_rl (Nat.le_of_ble_eq_true rfl)⟩) rfl rfl rfl hT6 (by decide) rfl (Nat.le_of_ble_eq_true rfl) dX6_test_31 ⟨Nat.zero_le _, Nat.zero_le _⟩ ?_
      refine g_if_ne (tgt := 39) X dX6_test_34 (by decide) (fun hc => ?_) (fun hc => ?_)
      · have hf := ife_f hc hf
        refine g_aload_n X dX6_test_39 rfl rfl ?_
        obtain ⟨hT7, hf⟩ := ck_e hf
        refine g_get (ci := 5) (v := vR (mR M5 x0 2)) 2 X cdX6 i_X6_test_X6 (by decide) k_X6_test_f34 rfl dX6_test_40 rfl hT7 rfl ?_
        obtain ⟨a8, ha8, hf⟩ := dr_e hf
        obtain ⟨hT9, hf⟩ := ck_e hf
        refine g_get (ci := 6) (v := vR (mR M5 a8 10)) 10 X cdX7 i_X6_test_X7 (by decide) k_X6_test_f193 rfl dX6_test_43 ha8 hT9 rfl ?_
        refine g_gets (w := vR (some (Z 22))) X (gSt_E X 22 (by decide)) k_X6_test_f270 rfl dX6_test_46 ?_
        refine g_iconst (v := (0 : Int32)) X dX6_test_49 (by decide) ?_
        obtain ⟨a11, ha11, hf⟩ := dr_e hf
        obtain ⟨hT12, hf⟩ := ck_e hf
        obtain ⟨r10, M10, hq10, hf⟩ := bd_e hf
        refine g_callV (ci := 7) (b := a11) (As := [vR (some (Z 22)), vI (0 : Int32)]) (st := []) (v := none) (M1 := M10) X (m_X9_add l hq10) (cwV 2 X.2.2.1 gX6_test_X9_add rfl rfl rfl (by decide +kernel) ⟨rX6R_f (Nat.le_of_ble_eq_true rfl), rX6R_l (Nat.le_of_ble_eq_true rfl)⟩) rfl rfl ha11 hT12 (by decide) rfl (Nat.le_of_ble_eq_true rfl) dX6_test_50 ⟨Nat.zero_le _, Nat.zero_le _⟩ ?_
        refine g_iinc (v := (1 : Int32)) (lv' := [(2, vI (x2 + (1 : Int32))), (0, vR (some x0)), (1, vI x1)]) X dX6_test_53 rfl (by decide) (by decide) rfl ?_
        refine g_goto (tgt := 12) X dX6_test_56 (by decide) ?_
        cases hf
        refine g_sub (lvsub_of _ _ [1, 2, 0] rfl) ?_
        exact hK
      · have hf := ife_t hc hf
        refine g_iconst (v := (0 : Int32)) X dX6_test_37 (by decide) ?_
        obtain ⟨w13, hw13, hz13⟩ := oI_e hf
        subst hz13
        have hf := hw13
        cases hf
        refine g_eqQ hK ?_
        exact g_zret X hr (gnb (Or.inl rfl)) dX6_test_38
set_option maxHeartbeats 4000000 in
set_option maxRecDepth 100000 in
theorem tl_X6_test_12 (X : gX p s m args meth c D cy B (gSt Z B H0) RX6 cX6_test wsX6_test 3) (hr : meth.sig.returnType = (some .boolean)) {n0 : Nat} {F : Nat → gMem → Nat → Int32 → Option (Int32 × gMem)} (hF : hX6R l D cy B H0 Z n0 F) {Q : State → Prop} : ∀ (M : gMem) (x0 : Nat) (x1 : Int32) (x2 : Int32) (z : Int32 × gMem), lp_X6_test_12 Z F M x0 x1 x2 = some z → (fun (r : Int32 × gMem) => Q = gMQ below D cy B H0 args s 0 0 (some (vI r.1)) r.2) z → gGo p l e (rX6R (n0 + 1)) s m args below meth c D cy B H0 3 0 0 Q 12 [(0, vR (some x0)), (1, vI x1), (2, vI x2)] [] M := by
  intro M x0 x1 x2 z hf hK
  refine lp_ind (P := (fun (q : gMem × Int32) (z : Int32 × gMem) => (fun (r : Int32 × gMem) => Q = gMQ below D cy B H0 args s 0 0 (some (vI r.1)) r.2) z → gGo p l e (rX6R (n0 + 1)) s m args below meth c D cy B H0 3 0 0 Q 12 [(0, vR (some x0)), (1, vI x1), (2, vI q.2)] [] q.1)) (fun q z hq => ?_) _ _ hf hK
  intro hK
  obtain ⟨w, hw, hm⟩ := hq
  refine tb_X6_test_12 X hr hF _ _ _ _ w hw ?_
  cases w with
  | inl a => exact hm hK
  | inr b => cases hm; exact hK
set_option maxHeartbeats 4000000 in
set_option maxRecDepth 100000 in
theorem t_X6_test_0 (X : gX p s m args meth c D cy B (gSt Z B H0) RX6 cX6_test wsX6_test 3) (hr : meth.sig.returnType = (some .boolean)) {n0 : Nat} {F : Nat → gMem → Nat → Int32 → Option (Int32 × gMem)} (hF : hX6R l D cy B H0 Z n0 F) {Q : State → Prop} : ∀ (M : gMem) (x0 : Nat) (x1 : Int32) (z : Int32 × gMem), b_X6_test_0 Z F M x0 x1 = some z → (fun (r : Int32 × gMem) => Q = gMQ below D cy B H0 args s 0 0 (some (vI r.1)) r.2) z → gGo p l e (rX6R (n0 + 1)) s m args below meth c D cy B H0 3 0 0 Q 0 [(0, vR (some x0)), (1, vI x1)] [] M := by
  intro M x0 x1 z hf hK
  unfold b_X6_test_0 at hf
  refine g_aload_n X dX6_test_0 rfl rfl ?_
  refine g_iload_n X dX6_test_1 rfl rfl ?_
  obtain ⟨hT15, hf⟩ := ck_e hf
  obtain ⟨r14, M14, hq14, hf⟩ := bd_e hf
  refine g_callV (ci := 5) (b := x0) (As := [vI x1]) (st := []) (v := some (vI r14)) (M1 := M14) X (hF.2.1 _ _ _ _ _ hq14) (cwV 1 X.2.2.1 gX6_test_X6_both rfl rfl rfl (by decide +kernel) ⟨rX6R_rf, rX6R_rl (Nat.le_of_ble_eq_true rfl)⟩) rfl rfl rfl hT15 (by decide) rfl (Nat.le_of_ble_eq_true rfl) dX6_test_2 ⟨Nat.zero_le _, Nat.zero_le _⟩ ?_
  refine g_if_ne (tgt := 10) X dX6_test_5 (by decide) (fun hc => ?_) (fun hc => ?_)
  · have hf := ife_f hc hf
    refine g_iconst (v := (0 : Int32)) X dX6_test_10 (by decide) ?_
    refine g_istore_n (lv' := [(2, vI (0 : Int32)), (0, vR (some x0)), (1, vI x1)]) X dX6_test_11 rfl (by decide) rfl ?_
    refine g_sub (lvsub_of _ _ [1, 2, 0] rfl) ?_
    exact tl_X6_test_12 X hr hF _ _ _ _ _ hf hK
  · have hf := ife_t hc hf
    refine g_iconst (v := (0 : Int32)) X dX6_test_8 (by decide) ?_
    cases hf
    refine g_eqQ hK ?_
    exact g_zret X hr (gnb (Or.inl rfl)) dX6_test_9
set_option maxHeartbeats 4000000 in
set_option maxRecDepth 100000 in
theorem mr_X6_test (l : Launch) {D : va_G} {cy : Nat → ClassId} {B : Nat} {H0 : Heap} {Z : Nat → Nat} {M M1 : gMem} {n0 : Nat} {F : Nat → gMem → Nat → Int32 → Option (Int32 × gMem)} (hF : hX6R l D cy B H0 Z n0 F) {x0 : Nat} {x1 : Int32} {r : Int32} (hf : fr_X6_test Z F M x0 x1 = some (r, M1)) : Met l yX6_test wsX6_test (rX6R (n0 + 1)) (va_Pc (Value.ref x0 :: List.map gv [vI x1]) (gPre D cy B H0 (gSt Z B H0) M)) (gQ D cy B H0 (some (vI r)) M1) 0 0 (gA B) := by
  refine Met.ofW (cc := cX6_test) (maxL := 3) (ret := (some .boolean)) (by decide) rfl ?_
  intro p e s m args below meth c s₁ Bd hml hv
  obtain ⟨rfl, hW, hKK, hFs⟩ := hv
  have X : gX p s m _ meth c D cy B (gSt Z B H0) RX6 cX6_test wsX6_test 3 := ⟨Bd.exec, Bd.bytes, atoms_spec (ws := wsX6_test) Bd.pre, findClass_of_methodNamed Bd.named, hml, hKK, by rw [hW.1]; exact hW.2.1, Bd.notSynchronized, hFs⟩
  have hr := Bd.returns
  have hl := lv_entry ([.ref x0, .int x1]) (n := 3) (Nat.le_of_ble_eq_true rfl)
  show W p l e (rX6R (n0 + 1)) s m _ below meth c s.heap [] 0 0 _ (entryFrame m ([.ref x0, .int x1] : List Value).toArray 3)
  rw [lg_entry_eq]
  generalize (lg_sl ([.ref x0, .int x1]) ++ List.replicate (3 - (lg_sl ([.ref x0, .int x1])).length) Slot.unset).toArray = ls at hl ⊢
  have hl : lv_has ls 3 (List.map gq [(0, vR (some x0)), (1, vI x1)]) := hl
  exact t_X6_test_0 X hr hF _ _ _ _ hf rfl s.heap [] ls hW va_S.rf (lv_has_sub hl (lvsub_of _ _ [0, 1] rfl))
/-! ## TideLots$Reader.both(I)Z -/
theorem dX6_both_0 : decode cX6_both 0 = .ok (.aload_n 0, 1) := by decide +kernel
theorem dX6_both_1 : decode cX6_both 1 = .ok (.iload_n 1, 1) := by decide +kernel
theorem dX6_both_2 : decode cX6_both 2 = .ok (.invokevirtual 276, 3) := by decide +kernel
theorem dX6_both_5 : decode cX6_both 5 = .ok (.ifCond .ne 5, 3) := by decide +kernel
theorem dX6_both_8 : decode cX6_both 8 = .ok (.iconst 0, 1) := by decide +kernel
theorem dX6_both_9 : decode cX6_both 9 = .ok (.ireturn, 1) := by decide +kernel
theorem dX6_both_10 : decode cX6_both 10 = .ok (.iconst 0, 1) := by decide +kernel
theorem dX6_both_11 : decode cX6_both 11 = .ok (.istore_n 2, 1) := by decide +kernel
theorem dX6_both_12 : decode cX6_both 12 = .ok (.iload_n 2, 1) := by decide +kernel
theorem dX6_both_13 : decode cX6_both 13 = .ok (.sipush 400, 3) := by decide +kernel
theorem dX6_both_16 : decode cX6_both 16 = .ok (.if_icmp .ge 43, 3) := by decide +kernel
theorem dX6_both_19 : decode cX6_both 19 = .ok (.aload_n 0, 1) := by decide +kernel
theorem dX6_both_20 : decode cX6_both 20 = .ok (.getstatic 279, 3) := by decide +kernel
theorem dX6_both_23 : decode cX6_both 23 = .ok (.invokevirtual 79, 3) := by decide +kernel
theorem dX6_both_26 : decode cX6_both 26 = .ok (.ifCond .eq 33, 3) := by decide +kernel
theorem dX6_both_29 : decode cX6_both 29 = .ok (.aload_n 0, 1) := by decide +kernel
theorem dX6_both_30 : decode cX6_both 30 = .ok (.iload_n 1, 1) := by decide +kernel
theorem dX6_both_31 : decode cX6_both 31 = .ok (.invokevirtual 276, 3) := by decide +kernel
theorem dX6_both_34 : decode cX6_both 34 = .ok (.ifCond .ne 5, 3) := by decide +kernel
theorem dX6_both_37 : decode cX6_both 37 = .ok (.iconst 0, 1) := by decide +kernel
theorem dX6_both_38 : decode cX6_both 38 = .ok (.ireturn, 1) := by decide +kernel
theorem dX6_both_39 : decode cX6_both 39 = .ok (.aload_n 0, 1) := by decide +kernel
theorem dX6_both_40 : decode cX6_both 40 = .ok (.getfield 34, 3) := by decide +kernel
theorem dX6_both_43 : decode cX6_both 43 = .ok (.getfield 193, 3) := by decide +kernel
theorem dX6_both_46 : decode cX6_both 46 = .ok (.getstatic 279, 3) := by decide +kernel
theorem dX6_both_49 : decode cX6_both 49 = .ok (.iconst 0, 1) := by decide +kernel
theorem dX6_both_50 : decode cX6_both 50 = .ok (.invokevirtual 273, 3) := by decide +kernel
theorem dX6_both_53 : decode cX6_both 53 = .ok (.iinc 2 1, 3) := by decide +kernel
theorem dX6_both_56 : decode cX6_both 56 = .ok (.goto (-44), 3) := by decide +kernel
theorem dX6_both_59 : decode cX6_both 59 = .ok (.iconst 1, 1) := by decide +kernel
theorem dX6_both_60 : decode cX6_both 60 = .ok (.ireturn, 1) := by decide +kernel
set_option maxRecDepth 20000 in
theorem ggX6_both_X6_take : GoodIn wsX6_both wsX6_take := goodIn_r _ [11, 12, 13, 14, 101, 102, 103, 104, 105, 106, 107, 108, 109, 127, 128, 129, 130, 131, 132] (by decide +kernel) (by decide +kernel)
set_option maxRecDepth 20000 in
theorem gX6_both_X6_take : GoodIn wsX6_both (wsV RX6 79 RX6 yX6_take wsX6_take) := goodIn_app (goodIn_of _ (by decide +kernel)) ggX6_both_X6_take
set_option maxRecDepth 20000 in
theorem ggX6_both_X6_single : GoodIn wsX6_both wsX6_single := goodIn_2 24 (goodIn_r _ [23, 24, 25, 2, 3, 26, 27, 28, 29, 30, 31, 32, 33, 7, 34, 13, 14, 12, 35, 36, 37, 38, 39, 40] (by decide +kernel) (by decide +kernel)) (goodIn_2 24 (goodIn_r _ [41, 8, 9, 10, 11, 4, 5, 6, 15, 16, 17, 18, 19, 20, 21, 22, 42, 43, 44, 45, 46, 47, 48, 49] (by decide +kernel) (by decide +kernel)) (goodIn_2 24 (goodIn_r _ [50, 51, 52, 53, 54, 55, 56, 57, 58, 59, 60, 61, 62, 63, 64, 65, 66, 67, 68, 69, 70, 71, 72, 73] (by decide +kernel) (by decide +kernel)) (goodIn_2 24 (goodIn_r _ [74, 75, 76, 77, 78, 79, 80, 81, 82, 83, 84, 85, 86, 87, 88, 89, 90, 91, 92, 93, 94, 95, 0, 1] (by decide +kernel) (by decide +kernel)) (goodIn_2 24 (goodIn_r _ [96, 97, 98, 99, 100, 101, 102, 103, 104, 105, 106, 107, 108, 109, 110, 111, 112, 113, 114, 115, 116, 117, 118, 119] (by decide +kernel) (by decide +kernel)) (goodIn_r _ [120, 121, 122, 123, 124, 125, 126, 127, 128, 129, 130, 131, 132, 133, 134, 135, 136, 137, 138] (by decide +kernel) (by decide +kernel))))))
set_option maxRecDepth 20000 in
theorem gX6_both_X6_single : GoodIn wsX6_both (wsV RX6 276 RX6 yX6_single wsX6_single) := goodIn_app (goodIn_of _ (by decide +kernel)) ggX6_both_X6_single
set_option maxRecDepth 20000 in
theorem ggX6_both_X9_add : GoodIn wsX6_both wsX9_add := goodIn_r _ [19, 20, 21, 22, 133, 134, 135, 136] (by decide +kernel) (by decide +kernel)
set_option maxRecDepth 20000 in
theorem gX6_both_X9_add : GoodIn wsX6_both (wsV RX6 273 RX9 yX9_add wsX9_add) := goodIn_app (goodIn_of _ (by decide +kernel)) ggX6_both_X9_add
theorem k_X6_both_f279 : Cond.fieldLink RX6 279 "TideLots$Sign" "AND" "LTideLots$Sign;" ∈ wsX6_both := by decide +kernel
theorem k_X6_both_f34 : Cond.fieldLink RX6 34 "TideLots$Reader" "built" "LTideLots$Shore;" ∈ wsX6_both := by decide +kernel
theorem i_X6_both_X6 : ∀ w ∈ u_ws RX6 TX6 9, w ∈ wsX6_both := by decide +kernel
theorem k_X6_both_f193 : Cond.fieldLink RX6 193 "TideLots$Shore" "sums" "LTideLots$Sums;" ∈ wsX6_both := by decide +kernel
theorem i_X6_both_X7 : ∀ w ∈ u_ws RX7 TX7 17, w ∈ wsX6_both := by decide +kernel
noncomputable def b_X6_both_59 (Z : Nat → Nat) (F : Nat → gMem → Nat → Int32 → Option (Int32 × gMem)) (M : gMem)  : Option (Int32 × gMem) :=
  some ((1 : Int32), M)
noncomputable def bb_X6_both_12 (Z : Nat → Nat) (F : Nat → gMem → Nat → Int32 → Option (Int32 × gMem)) (M : gMem) (x0 : Nat) (x1 : Int32) (x2 : Int32) : Option ((gMem × Int32) ⊕ (Int32 × gMem)) :=
  (if (400 : Int32) ≤ x2 then oI (b_X6_both_59 Z F M ) else ck (mT M x0 = 6) <| bd (f_X6_take M x0 ((some (Z 21)))) fun r2 M2 => (if r2 = 0 then oI (b_X6_both_59 Z F M2 ) else ck (mT M2 x0 = 6) <| bd (F 2 M2 x0 x1) fun r5 M5 => (if r5 = 0 then oI (some ((0 : Int32), M5)) else ck (mT M5 x0 = 6) <| dr ((mR M5 x0 2)) fun a8 => ck (mT M5 a8 = 7) <| dr ((mR M5 a8 10)) fun a11 => ck (mT M5 a11 = 8) <| bd (f_X9_add Z M5 a11 ((some (Z 21))) ((0 : Int32))) fun _ M10 => some (.inl (M10, (x2 + (1 : Int32)))))))
noncomputable def lp_X6_both_12 (Z : Nat → Nat) (F : Nat → gMem → Nat → Int32 → Option (Int32 × gMem)) (M : gMem) (x0 : Nat) (x1 : Int32) (x2 : Int32) : Option (Int32 × gMem) :=
  lp (fun (q : gMem × Int32) => bb_X6_both_12 Z F q.1 x0 x1 q.2) (M, x2)
noncomputable def b_X6_both_0 (Z : Nat → Nat) (F : Nat → gMem → Nat → Int32 → Option (Int32 × gMem)) (M : gMem) (x0 : Nat) (x1 : Int32) : Option (Int32 × gMem) :=
  ck (mT M x0 = 6) <| bd (F 2 M x0 x1) fun r14 M14 => (if r14 = 0 then some ((0 : Int32), M14) else lp_X6_both_12 Z F M14 x0 x1 ((0 : Int32)))
noncomputable def fr_X6_both (Z : Nat → Nat) (F : Nat → gMem → Nat → Int32 → Option (Int32 × gMem)) (M : gMem) (x0 : Nat) (x1 : Int32) : Option (Int32 × gMem) :=
  b_X6_both_0 Z F M x0 x1
set_option maxHeartbeats 4000000 in
set_option maxRecDepth 100000 in
theorem t_X6_both_59 (X : gX p s m args meth c D cy B (gSt Z B H0) RX6 cX6_both wsX6_both 3) (hr : meth.sig.returnType = (some .boolean)) {n0 : Nat} {F : Nat → gMem → Nat → Int32 → Option (Int32 × gMem)} (hF : hX6R l D cy B H0 Z n0 F) {Q : State → Prop} : ∀ (M : gMem)  (z : Int32 × gMem), b_X6_both_59 Z F M  = some z → (fun (r : Int32 × gMem) => Q = gMQ below D cy B H0 args s 0 0 (some (vI r.1)) r.2) z → gGo p l e (rX6R (n0 + 1)) s m args below meth c D cy B H0 3 0 0 Q 59 [] [] M := by
  intro M  z hf hK
  unfold b_X6_both_59 at hf
  refine g_iconst (v := (1 : Int32)) X dX6_both_59 (by decide) ?_
  cases hf
  refine g_eqQ hK ?_
  exact g_zret X hr (gnb (Or.inr rfl)) dX6_both_60
set_option maxHeartbeats 4000000 in
set_option maxRecDepth 100000 in
theorem tb_X6_both_12 (X : gX p s m args meth c D cy B (gSt Z B H0) RX6 cX6_both wsX6_both 3) (hr : meth.sig.returnType = (some .boolean)) {n0 : Nat} {F : Nat → gMem → Nat → Int32 → Option (Int32 × gMem)} (hF : hX6R l D cy B H0 Z n0 F) {Q : State → Prop} : ∀ (M : gMem) (x0 : Nat) (x1 : Int32) (x2 : Int32) (z : (gMem × Int32) ⊕ (Int32 × gMem)), bb_X6_both_12 Z F M x0 x1 x2 = some z → (Sum.elim (fun (q : gMem × Int32) => gGo p l e (rX6R (n0 + 1)) s m args below meth c D cy B H0 3 0 0 Q 12 [(0, vR (some x0)), (1, vI x1), (2, vI q.2)] [] q.1) (fun (r : Int32 × gMem) => Q = gMQ below D cy B H0 args s 0 0 (some (vI r.1)) r.2)) z → gGo p l e (rX6R (n0 + 1)) s m args below meth c D cy B H0 3 0 0 Q 12 [(0, vR (some x0)), (1, vI x1), (2, vI x2)] [] M := by
  intro M x0 x1 x2 z hf hK
  unfold bb_X6_both_12 at hf
  refine g_iload_n X dX6_both_12 rfl rfl ?_
  refine g_sipush (v := (400 : Int32)) X dX6_both_13 (by decide) ?_
  refine g_icmp_ge (tgt := 59) X dX6_both_16 (by decide) (fun hc => ?_) (fun hc => ?_)
  · have hf := ife_t hc hf
    obtain ⟨w1, hw1, hz1⟩ := oI_e hf
    subst hz1
    have hf := hw1
    refine g_sub (lvsub_of _ _ [] rfl) ?_
    exact t_X6_both_59 X hr hF _  _ hf hK
  · have hf := ife_f hc hf
    refine g_aload_n X dX6_both_19 rfl rfl ?_
    refine g_gets (w := vR (some (Z 21))) X (gSt_E X 21 (by decide)) k_X6_both_f279 rfl dX6_both_20 ?_
    obtain ⟨hT3, hf⟩ := ck_e hf
    obtain ⟨r2, M2, hq2, hf⟩ := bd_e hf
    refine g_callV (ci := 5) (b := x0) (As := [vR (some (Z 21))]) (st := []) (v := some (vI r2)) (M1 := M2) X (m_X6_take l hq2) (cwV 1 X.2.2.1 gX6_both_X6_take rfl rfl rfl (by decide +kernel) ⟨rX6R_f (Nat.le_of_ble_eq_true rfl), rX6R_l (Nat.le_of_ble_eq_true rfl)⟩) rfl rfl rfl hT3 (by decide) rfl (Nat.le_of_ble_eq_true rfl) dX6_both_23 ⟨Nat.zero_le _, Nat.zero_le _⟩ ?_
    refine g_if_eq (tgt := 59) X dX6_both_26 (by decide) (fun hc => ?_) (fun hc => ?_)
    · have hf := ife_t hc hf
      obtain ⟨w4, hw4, hz4⟩ := oI_e hf
      subst hz4
      have hf := hw4
      refine g_sub (lvsub_of _ _ [] rfl) ?_
      exact t_X6_both_59 X hr hF _  _ hf hK
    · have hf := ife_f hc hf
      refine g_aload_n X dX6_both_29 rfl rfl ?_
      refine g_iload_n X dX6_both_30 rfl rfl ?_
      obtain ⟨hT6, hf⟩ := ck_e hf
      obtain ⟨r5, M5, hq5, hf⟩ := bd_e hf
      refine g_callV (ci := 5) (b := x0) (As := [vI x1]) (st := []) (v := some (vI r5)) (M1 := M5) X (hF.2.2.1 _ _ _ _ _ hq5) (cwV 1 X.2.2.1 gX6_both_X6_single rfl rfl rfl (by decide +kernel) ⟨rX6R_rf, rX6R_rl (Nat.le_of_ble_eq_true rfl)⟩) rfl rfl rfl hT6 (by decide) rfl (Nat.le_of_ble_eq_true rfl) dX6_both_31 ⟨Nat.zero_le _, Nat.zero_le _⟩ ?_
      refine g_if_ne (tgt := 39) X dX6_both_34 (by decide) (fun hc => ?_) (fun hc => ?_)
      · have hf := ife_f hc hf
        refine g_aload_n X dX6_both_39 rfl rfl ?_
        obtain ⟨hT7, hf⟩ := ck_e hf
        refine g_get (ci := 5) (v := vR (mR M5 x0 2)) 2 X cdX6 i_X6_both_X6 (by decide) k_X6_both_f34 rfl dX6_both_40 rfl hT7 rfl ?_
        obtain ⟨a8, ha8, hf⟩ := dr_e hf
        obtain ⟨hT9, hf⟩ := ck_e hf
        refine g_get (ci := 6) (v := vR (mR M5 a8 10)) 10 X cdX7 i_X6_both_X7 (by decide) k_X6_both_f193 rfl dX6_both_43 ha8 hT9 rfl ?_
        refine g_gets (w := vR (some (Z 21))) X (gSt_E X 21 (by decide)) k_X6_both_f279 rfl dX6_both_46 ?_
        refine g_iconst (v := (0 : Int32)) X dX6_both_49 (by decide) ?_
        obtain ⟨a11, ha11, hf⟩ := dr_e hf
        obtain ⟨hT12, hf⟩ := ck_e hf
        obtain ⟨r10, M10, hq10, hf⟩ := bd_e hf
        refine g_callV (ci := 7) (b := a11) (As := [vR (some (Z 21)), vI (0 : Int32)]) (st := []) (v := none) (M1 := M10) X (m_X9_add l hq10) (cwV 2 X.2.2.1 gX6_both_X9_add rfl rfl rfl (by decide +kernel) ⟨rX6R_f (Nat.le_of_ble_eq_true rfl), rX6R_l (Nat.le_of_ble_eq_true rfl)⟩) rfl rfl ha11 hT12 (by decide) rfl (Nat.le_of_ble_eq_true rfl) dX6_both_50 ⟨Nat.zero_le _, Nat.zero_le _⟩ ?_
        refine g_iinc (v := (1 : Int32)) (lv' := [(2, vI (x2 + (1 : Int32))), (0, vR (some x0)), (1, vI x1)]) X dX6_both_53 rfl (by decide) (by decide) rfl ?_
        refine g_goto (tgt := 12) X dX6_both_56 (by decide) ?_
        cases hf
        refine g_sub (lvsub_of _ _ [1, 2, 0] rfl) ?_
        exact hK
      · have hf := ife_t hc hf
        refine g_iconst (v := (0 : Int32)) X dX6_both_37 (by decide) ?_
        obtain ⟨w13, hw13, hz13⟩ := oI_e hf
        subst hz13
        have hf := hw13
        cases hf
        refine g_eqQ hK ?_
        exact g_zret X hr (gnb (Or.inl rfl)) dX6_both_38
set_option maxHeartbeats 4000000 in
set_option maxRecDepth 100000 in
theorem tl_X6_both_12 (X : gX p s m args meth c D cy B (gSt Z B H0) RX6 cX6_both wsX6_both 3) (hr : meth.sig.returnType = (some .boolean)) {n0 : Nat} {F : Nat → gMem → Nat → Int32 → Option (Int32 × gMem)} (hF : hX6R l D cy B H0 Z n0 F) {Q : State → Prop} : ∀ (M : gMem) (x0 : Nat) (x1 : Int32) (x2 : Int32) (z : Int32 × gMem), lp_X6_both_12 Z F M x0 x1 x2 = some z → (fun (r : Int32 × gMem) => Q = gMQ below D cy B H0 args s 0 0 (some (vI r.1)) r.2) z → gGo p l e (rX6R (n0 + 1)) s m args below meth c D cy B H0 3 0 0 Q 12 [(0, vR (some x0)), (1, vI x1), (2, vI x2)] [] M := by
  intro M x0 x1 x2 z hf hK
  refine lp_ind (P := (fun (q : gMem × Int32) (z : Int32 × gMem) => (fun (r : Int32 × gMem) => Q = gMQ below D cy B H0 args s 0 0 (some (vI r.1)) r.2) z → gGo p l e (rX6R (n0 + 1)) s m args below meth c D cy B H0 3 0 0 Q 12 [(0, vR (some x0)), (1, vI x1), (2, vI q.2)] [] q.1)) (fun q z hq => ?_) _ _ hf hK
  intro hK
  obtain ⟨w, hw, hm⟩ := hq
  refine tb_X6_both_12 X hr hF _ _ _ _ w hw ?_
  cases w with
  | inl a => exact hm hK
  | inr b => cases hm; exact hK
set_option maxHeartbeats 4000000 in
set_option maxRecDepth 100000 in
theorem t_X6_both_0 (X : gX p s m args meth c D cy B (gSt Z B H0) RX6 cX6_both wsX6_both 3) (hr : meth.sig.returnType = (some .boolean)) {n0 : Nat} {F : Nat → gMem → Nat → Int32 → Option (Int32 × gMem)} (hF : hX6R l D cy B H0 Z n0 F) {Q : State → Prop} : ∀ (M : gMem) (x0 : Nat) (x1 : Int32) (z : Int32 × gMem), b_X6_both_0 Z F M x0 x1 = some z → (fun (r : Int32 × gMem) => Q = gMQ below D cy B H0 args s 0 0 (some (vI r.1)) r.2) z → gGo p l e (rX6R (n0 + 1)) s m args below meth c D cy B H0 3 0 0 Q 0 [(0, vR (some x0)), (1, vI x1)] [] M := by
  intro M x0 x1 z hf hK
  unfold b_X6_both_0 at hf
  refine g_aload_n X dX6_both_0 rfl rfl ?_
  refine g_iload_n X dX6_both_1 rfl rfl ?_
  obtain ⟨hT15, hf⟩ := ck_e hf
  obtain ⟨r14, M14, hq14, hf⟩ := bd_e hf
  refine g_callV (ci := 5) (b := x0) (As := [vI x1]) (st := []) (v := some (vI r14)) (M1 := M14) X (hF.2.2.1 _ _ _ _ _ hq14) (cwV 1 X.2.2.1 gX6_both_X6_single rfl rfl rfl (by decide +kernel) ⟨rX6R_rf, rX6R_rl (Nat.le_of_ble_eq_true rfl)⟩) rfl rfl rfl hT15 (by decide) rfl (Nat.le_of_ble_eq_true rfl) dX6_both_2 ⟨Nat.zero_le _, Nat.zero_le _⟩ ?_
  refine g_if_ne (tgt := 10) X dX6_both_5 (by decide) (fun hc => ?_) (fun hc => ?_)
  · have hf := ife_f hc hf
    refine g_iconst (v := (0 : Int32)) X dX6_both_10 (by decide) ?_
    refine g_istore_n (lv' := [(2, vI (0 : Int32)), (0, vR (some x0)), (1, vI x1)]) X dX6_both_11 rfl (by decide) rfl ?_
    refine g_sub (lvsub_of _ _ [1, 2, 0] rfl) ?_
    exact tl_X6_both_12 X hr hF _ _ _ _ _ hf hK
  · have hf := ife_t hc hf
    refine g_iconst (v := (0 : Int32)) X dX6_both_8 (by decide) ?_
    cases hf
    refine g_eqQ hK ?_
    exact g_zret X hr (gnb (Or.inl rfl)) dX6_both_9
set_option maxHeartbeats 4000000 in
set_option maxRecDepth 100000 in
theorem mr_X6_both (l : Launch) {D : va_G} {cy : Nat → ClassId} {B : Nat} {H0 : Heap} {Z : Nat → Nat} {M M1 : gMem} {n0 : Nat} {F : Nat → gMem → Nat → Int32 → Option (Int32 × gMem)} (hF : hX6R l D cy B H0 Z n0 F) {x0 : Nat} {x1 : Int32} {r : Int32} (hf : fr_X6_both Z F M x0 x1 = some (r, M1)) : Met l yX6_both wsX6_both (rX6R (n0 + 1)) (va_Pc (Value.ref x0 :: List.map gv [vI x1]) (gPre D cy B H0 (gSt Z B H0) M)) (gQ D cy B H0 (some (vI r)) M1) 0 0 (gA B) := by
  refine Met.ofW (cc := cX6_both) (maxL := 3) (ret := (some .boolean)) (by decide) rfl ?_
  intro p e s m args below meth c s₁ Bd hml hv
  obtain ⟨rfl, hW, hKK, hFs⟩ := hv
  have X : gX p s m _ meth c D cy B (gSt Z B H0) RX6 cX6_both wsX6_both 3 := ⟨Bd.exec, Bd.bytes, atoms_spec (ws := wsX6_both) Bd.pre, findClass_of_methodNamed Bd.named, hml, hKK, by rw [hW.1]; exact hW.2.1, Bd.notSynchronized, hFs⟩
  have hr := Bd.returns
  have hl := lv_entry ([.ref x0, .int x1]) (n := 3) (Nat.le_of_ble_eq_true rfl)
  show W p l e (rX6R (n0 + 1)) s m _ below meth c s.heap [] 0 0 _ (entryFrame m ([.ref x0, .int x1] : List Value).toArray 3)
  rw [lg_entry_eq]
  generalize (lg_sl ([.ref x0, .int x1]) ++ List.replicate (3 - (lg_sl ([.ref x0, .int x1])).length) Slot.unset).toArray = ls at hl ⊢
  have hl : lv_has ls 3 (List.map gq [(0, vR (some x0)), (1, vI x1)]) := hl
  exact t_X6_both_0 X hr hF _ _ _ _ hf rfl s.heap [] ls hW va_S.rf (lv_has_sub hl (lvsub_of _ _ [0, 1] rfl))
/-! ## TideLots$Reader.single(I)Z -/
theorem dX6_single_0 : decode cX6_single 0 = .ok (.aload_n 0, 1) := by decide +kernel
theorem dX6_single_1 : decode cX6_single 1 = .ok (.invokevirtual 43, 3) := by decide +kernel
theorem dX6_single_4 : decode cX6_single 4 = .ok (.astore_n 2, 1) := by decide +kernel
theorem dX6_single_5 : decode cX6_single 5 = .ok (.getstatic 53, 3) := by decide +kernel
theorem dX6_single_8 : decode cX6_single 8 = .ok (.aload_n 2, 1) := by decide +kernel
theorem dX6_single_9 : decode cX6_single 9 = .ok (.invokevirtual 59, 3) := by decide +kernel
theorem dX6_single_12 : decode cX6_single 12 = .ok (.iaload, 1) := by decide +kernel
theorem dX6_single_13 : decode cX6_single 13 = .ok (.tableswitch 155 5 7 #[27, 71, 113], 27) := by decide +kernel
theorem dX6_single_40 : decode cX6_single 40 = .ok (.iload_n 1, 1) := by decide +kernel
theorem dX6_single_41 : decode cX6_single 41 = .ok (.bipush 8, 2) := by decide +kernel
theorem dX6_single_43 : decode cX6_single 43 = .ok (.if_icmp .ge 23, 3) := by decide +kernel
theorem dX6_single_46 : decode cX6_single 46 = .ok (.aload_n 0, 1) := by decide +kernel
theorem dX6_single_47 : decode cX6_single 47 = .ok (.getstatic 282, 3) := by decide +kernel
theorem dX6_single_50 : decode cX6_single 50 = .ok (.invokevirtual 79, 3) := by decide +kernel
theorem dX6_single_53 : decode cX6_single 53 = .ok (.ifCond .eq 13, 3) := by decide +kernel
theorem dX6_single_56 : decode cX6_single 56 = .ok (.aload_n 0, 1) := by decide +kernel
theorem dX6_single_57 : decode cX6_single 57 = .ok (.iload_n 1, 1) := by decide +kernel
theorem dX6_single_58 : decode cX6_single 58 = .ok (.iconst 1, 1) := by decide +kernel
theorem dX6_single_59 : decode cX6_single 59 = .ok (.iadd, 1) := by decide +kernel
theorem dX6_single_60 : decode cX6_single 60 = .ok (.invokevirtual 276, 3) := by decide +kernel
theorem dX6_single_63 : decode cX6_single 63 = .ok (.ifCond .ne 5, 3) := by decide +kernel
theorem dX6_single_66 : decode cX6_single 66 = .ok (.iconst 0, 1) := by decide +kernel
theorem dX6_single_67 : decode cX6_single 67 = .ok (.ireturn, 1) := by decide +kernel
theorem dX6_single_68 : decode cX6_single 68 = .ok (.aload_n 0, 1) := by decide +kernel
theorem dX6_single_69 : decode cX6_single 69 = .ok (.getfield 34, 3) := by decide +kernel
theorem dX6_single_72 : decode cX6_single 72 = .ok (.getfield 193, 3) := by decide +kernel
theorem dX6_single_75 : decode cX6_single 75 = .ok (.getstatic 282, 3) := by decide +kernel
theorem dX6_single_78 : decode cX6_single 78 = .ok (.iconst 0, 1) := by decide +kernel
theorem dX6_single_79 : decode cX6_single 79 = .ok (.invokevirtual 273, 3) := by decide +kernel
theorem dX6_single_82 : decode cX6_single 82 = .ok (.iconst 1, 1) := by decide +kernel
theorem dX6_single_83 : decode cX6_single 83 = .ok (.ireturn, 1) := by decide +kernel
theorem dX6_single_84 : decode cX6_single 84 = .ok (.iload_n 1, 1) := by decide +kernel
theorem dX6_single_85 : decode cX6_single 85 = .ok (.bipush 8, 2) := by decide +kernel
theorem dX6_single_87 : decode cX6_single 87 = .ok (.if_icmp .ge 37, 3) := by decide +kernel
theorem dX6_single_90 : decode cX6_single 90 = .ok (.aload_n 0, 1) := by decide +kernel
theorem dX6_single_91 : decode cX6_single 91 = .ok (.getstatic 285, 3) := by decide +kernel
theorem dX6_single_94 : decode cX6_single 94 = .ok (.invokevirtual 79, 3) := by decide +kernel
theorem dX6_single_97 : decode cX6_single 97 = .ok (.ifCond .eq 27, 3) := by decide +kernel
theorem dX6_single_100 : decode cX6_single 100 = .ok (.aload_n 0, 1) := by decide +kernel
theorem dX6_single_101 : decode cX6_single 101 = .ok (.iload_n 1, 1) := by decide +kernel
theorem dX6_single_102 : decode cX6_single 102 = .ok (.iconst 1, 1) := by decide +kernel
theorem dX6_single_103 : decode cX6_single 103 = .ok (.iadd, 1) := by decide +kernel
theorem dX6_single_104 : decode cX6_single 104 = .ok (.invokevirtual 208, 3) := by decide +kernel
theorem dX6_single_107 : decode cX6_single 107 = .ok (.ifCond .eq 17, 3) := by decide +kernel
theorem dX6_single_110 : decode cX6_single 110 = .ok (.aload_n 0, 1) := by decide +kernel
theorem dX6_single_111 : decode cX6_single 111 = .ok (.getstatic 288, 3) := by decide +kernel
theorem dX6_single_114 : decode cX6_single 114 = .ok (.invokevirtual 79, 3) := by decide +kernel
theorem dX6_single_117 : decode cX6_single 117 = .ok (.ifCond .eq 7, 3) := by decide +kernel
theorem dX6_single_120 : decode cX6_single 120 = .ok (.iconst 1, 1) := by decide +kernel
theorem dX6_single_121 : decode cX6_single 121 = .ok (.goto 4, 3) := by decide +kernel
theorem dX6_single_124 : decode cX6_single 124 = .ok (.iconst 0, 1) := by decide +kernel
theorem dX6_single_125 : decode cX6_single 125 = .ok (.ireturn, 1) := by decide +kernel
theorem dX6_single_126 : decode cX6_single 126 = .ok (.aload_n 0, 1) := by decide +kernel
theorem dX6_single_127 : decode cX6_single 127 = .ok (.getstatic 291, 3) := by decide +kernel
theorem dX6_single_130 : decode cX6_single 130 = .ok (.invokevirtual 79, 3) := by decide +kernel
theorem dX6_single_133 : decode cX6_single 133 = .ok (.ifCond .eq 14, 3) := by decide +kernel
theorem dX6_single_136 : decode cX6_single 136 = .ok (.aload_n 0, 1) := by decide +kernel
theorem dX6_single_137 : decode cX6_single 137 = .ok (.aload_n 0, 1) := by decide +kernel
theorem dX6_single_138 : decode cX6_single 138 = .ok (.getfield 24, 3) := by decide +kernel
theorem dX6_single_141 : decode cX6_single 141 = .ok (.invokevirtual 179, 3) := by decide +kernel
theorem dX6_single_144 : decode cX6_single 144 = .ok (.ifCond .ne 5, 3) := by decide +kernel
theorem dX6_single_147 : decode cX6_single 147 = .ok (.iconst 0, 1) := by decide +kernel
theorem dX6_single_148 : decode cX6_single 148 = .ok (.ireturn, 1) := by decide +kernel
theorem dX6_single_149 : decode cX6_single 149 = .ok (.aload_n 0, 1) := by decide +kernel
theorem dX6_single_150 : decode cX6_single 150 = .ok (.getfield 34, 3) := by decide +kernel
theorem dX6_single_153 : decode cX6_single 153 = .ok (.getfield 193, 3) := by decide +kernel
theorem dX6_single_156 : decode cX6_single 156 = .ok (.getstatic 291, 3) := by decide +kernel
theorem dX6_single_159 : decode cX6_single 159 = .ok (.aload_n 0, 1) := by decide +kernel
theorem dX6_single_160 : decode cX6_single 160 = .ok (.getfield 112, 3) := by decide +kernel
theorem dX6_single_163 : decode cX6_single 163 = .ok (.invokevirtual 273, 3) := by decide +kernel
theorem dX6_single_166 : decode cX6_single 166 = .ok (.iconst 1, 1) := by decide +kernel
theorem dX6_single_167 : decode cX6_single 167 = .ok (.ireturn, 1) := by decide +kernel
theorem dX6_single_168 : decode cX6_single 168 = .ok (.aload_n 0, 1) := by decide +kernel
theorem dX6_single_169 : decode cX6_single 169 = .ok (.iload_n 1, 1) := by decide +kernel
theorem dX6_single_170 : decode cX6_single 170 = .ok (.invokevirtual 244, 3) := by decide +kernel
theorem dX6_single_173 : decode cX6_single 173 = .ok (.ifCond .eq 15, 3) := by decide +kernel
theorem dX6_single_176 : decode cX6_single 176 = .ok (.aload_n 0, 1) := by decide +kernel
theorem dX6_single_177 : decode cX6_single 177 = .ok (.iload_n 1, 1) := by decide +kernel
theorem dX6_single_178 : decode cX6_single 178 = .ok (.invokevirtual 294, 3) := by decide +kernel
theorem dX6_single_181 : decode cX6_single 181 = .ok (.ifCond .eq 7, 3) := by decide +kernel
theorem dX6_single_184 : decode cX6_single 184 = .ok (.iconst 1, 1) := by decide +kernel
theorem dX6_single_185 : decode cX6_single 185 = .ok (.goto 4, 3) := by decide +kernel
theorem dX6_single_188 : decode cX6_single 188 = .ok (.iconst 0, 1) := by decide +kernel
theorem dX6_single_189 : decode cX6_single 189 = .ok (.ireturn, 1) := by decide +kernel
set_option maxRecDepth 20000 in
theorem ggX6_single_X6_sign : GoodIn wsX6_single wsX6_sign := goodIn_r _ [14, 15, 16, 17, 101, 102, 103, 104, 105, 106, 107, 108, 109, 127, 128, 129, 130, 131, 132] (by decide +kernel) (by decide +kernel)
set_option maxRecDepth 20000 in
theorem gX6_single_X6_sign : GoodIn wsX6_single (wsV RX6 43 RX6 yX6_sign wsX6_sign) := goodIn_app (goodIn_of _ (by decide +kernel)) ggX6_single_X6_sign
set_option maxRecDepth 20000 in
theorem ggX6_single_Jx29ce0_ordinal_8abf5 : GoodIn wsX6_single wsJx29ce0_ordinal_8abf5 := goodIn_r _ [23, 24] (by decide +kernel) (by decide +kernel)
set_option maxRecDepth 20000 in
theorem gX6_single_Jx29ce0_ordinal_8abf5_u59X8 : GoodIn wsX6_single (va_wsU RX6 59 RX8 "java/lang/Enum" ⟨"TideLots$Sign", "ordinal", "()I"⟩ yJx29ce0_ordinal_8abf5 wsJx29ce0_ordinal_8abf5) := goodIn_app (goodIn_of _ (by decide +kernel)) ggX6_single_Jx29ce0_ordinal_8abf5
set_option maxRecDepth 20000 in
theorem ggX6_single_X6_take : GoodIn wsX6_single wsX6_take := goodIn_r _ [28, 17, 15, 16, 101, 102, 103, 104, 105, 106, 107, 108, 109, 127, 128, 129, 130, 131, 132] (by decide +kernel) (by decide +kernel)
set_option maxRecDepth 20000 in
theorem gX6_single_X6_take : GoodIn wsX6_single (wsV RX6 79 RX6 yX6_take wsX6_take) := goodIn_app (goodIn_of _ (by decide +kernel)) ggX6_single_X6_take
set_option maxRecDepth 20000 in
theorem ggX6_single_X6_single : GoodIn wsX6_single wsX6_single := goodIn_2 24 (goodIn_r _ [0, 1, 2, 3, 4, 5, 6, 7, 8, 9, 10, 11, 12, 13, 14, 15, 16, 17, 18, 19, 20, 21, 22, 23] (by decide +kernel) (by decide +kernel)) (goodIn_2 24 (goodIn_r _ [24, 25, 26, 27, 28, 29, 30, 31, 32, 33, 34, 35, 36, 37, 38, 39, 40, 41, 42, 43, 44, 45, 46, 47] (by decide +kernel) (by decide +kernel)) (goodIn_2 24 (goodIn_r _ [48, 49, 50, 51, 52, 53, 54, 55, 56, 57, 58, 59, 60, 61, 62, 63, 64, 65, 66, 67, 68, 69, 70, 71] (by decide +kernel) (by decide +kernel)) (goodIn_2 24 (goodIn_r _ [72, 73, 74, 75, 76, 77, 78, 79, 80, 81, 82, 83, 84, 85, 86, 87, 88, 89, 90, 91, 92, 93, 94, 95] (by decide +kernel) (by decide +kernel)) (goodIn_2 24 (goodIn_r _ [96, 97, 98, 99, 100, 101, 102, 103, 104, 105, 106, 107, 108, 109, 110, 111, 112, 113, 114, 115, 116, 117, 118, 119] (by decide +kernel) (by decide +kernel)) (goodIn_r _ [120, 121, 122, 123, 124, 125, 126, 127, 128, 129, 130, 131, 132, 133, 134, 135, 136, 137, 138] (by decide +kernel) (by decide +kernel))))))
set_option maxRecDepth 20000 in
theorem gX6_single_X6_single : GoodIn wsX6_single (wsV RX6 276 RX6 yX6_single wsX6_single) := goodIn_app (goodIn_of _ (by decide +kernel)) ggX6_single_X6_single
set_option maxRecDepth 20000 in
theorem ggX6_single_X9_add : GoodIn wsX6_single wsX9_add := goodIn_r _ [36, 37, 38, 39, 133, 134, 135, 136] (by decide +kernel) (by decide +kernel)
set_option maxRecDepth 20000 in
theorem gX6_single_X9_add : GoodIn wsX6_single (wsV RX6 273 RX9 yX9_add wsX9_add) := goodIn_app (goodIn_of _ (by decide +kernel)) ggX6_single_X9_add
set_option maxRecDepth 20000 in
theorem ggX6_single_X6_test : GoodIn wsX6_single wsX6_test := goodIn_2 24 (goodIn_r _ [96, 97, 3, 4, 98, 99, 100, 13, 25, 26, 27, 28, 17, 15, 16, 32, 33, 34, 35, 36, 37, 38, 39, 94] (by decide +kernel) (by decide +kernel)) (goodIn_2 24 (goodIn_r _ [95, 29, 30, 31, 0, 1, 2, 5, 6, 7, 8, 9, 10, 11, 12, 14, 18, 19, 20, 21, 22, 23, 24, 40] (by decide +kernel) (by decide +kernel)) (goodIn_2 24 (goodIn_r _ [41, 42, 43, 44, 45, 46, 47, 48, 49, 50, 51, 52, 53, 54, 55, 56, 57, 58, 59, 60, 61, 62, 63, 64] (by decide +kernel) (by decide +kernel)) (goodIn_2 24 (goodIn_r _ [65, 66, 67, 68, 69, 70, 71, 72, 73, 74, 75, 76, 77, 78, 79, 80, 81, 82, 83, 84, 85, 86, 87, 88] (by decide +kernel) (by decide +kernel)) (goodIn_2 24 (goodIn_r _ [89, 90, 91, 92, 93, 101, 102, 103, 104, 105, 106, 107, 108, 109, 110, 111, 112, 113, 114, 115, 116, 117, 118, 119] (by decide +kernel) (by decide +kernel)) (goodIn_r _ [120, 121, 122, 123, 124, 125, 126, 127, 128, 129, 130, 131, 132, 133, 134, 135, 136, 137, 138] (by decide +kernel) (by decide +kernel))))))
set_option maxRecDepth 20000 in
theorem gX6_single_X6_test : GoodIn wsX6_single (wsV RX6 208 RX6 yX6_test wsX6_test) := goodIn_app (goodIn_of _ (by decide +kernel)) ggX6_single_X6_test
set_option maxRecDepth 20000 in
theorem ggX6_single_X6_takeKnown : GoodIn wsX6_single wsX6_takeKnown := goodIn_2 24 (goodIn_r _ [46, 47, 15, 48, 17, 9, 10, 11, 12, 13, 14, 16, 49, 50, 51, 52, 53, 54, 55, 56, 57, 58, 59, 60] (by decide +kernel) (by decide +kernel)) (goodIn_r _ [61, 62, 25, 26, 27, 28, 101, 102, 103, 104, 105, 106, 107, 108, 109, 127, 128, 129, 130, 131, 132, 137, 138] (by decide +kernel) (by decide +kernel))
set_option maxRecDepth 20000 in
theorem gX6_single_X6_takeKnown : GoodIn wsX6_single (wsV RX6 179 RX6 yX6_takeKnown wsX6_takeKnown) := goodIn_app (goodIn_of _ (by decide +kernel)) ggX6_single_X6_takeKnown
set_option maxRecDepth 20000 in
theorem ggX6_single_X6_sum : GoodIn wsX6_single wsX6_sum := goodIn_2 24 (goodIn_r _ [66, 67, 68, 3, 4, 69, 70, 71, 13, 10, 11, 12, 14, 15, 16, 17, 25, 26, 27, 28, 32, 33, 34, 35] (by decide +kernel) (by decide +kernel)) (goodIn_2 24 (goodIn_r _ [36, 37, 38, 39, 72, 73, 74, 75, 76, 77, 78, 1, 79, 8, 80, 81, 82, 83, 84, 9, 18, 19, 20, 21] (by decide +kernel) (by decide +kernel)) (goodIn_2 24 (goodIn_r _ [22, 23, 24, 85, 86, 87, 88, 89, 48, 56, 57, 58, 59, 60, 61, 62, 43, 44, 45, 46, 47, 49, 50, 51] (by decide +kernel) (by decide +kernel)) (goodIn_2 24 (goodIn_r _ [52, 53, 54, 55, 63, 64, 65, 101, 102, 103, 104, 105, 106, 107, 108, 109, 110, 111, 112, 113, 114, 115, 116, 117] (by decide +kernel) (by decide +kernel)) (goodIn_r _ [118, 119, 120, 121, 122, 123, 124, 125, 126, 127, 128, 129, 130, 131, 132, 133, 134, 135, 136, 137, 138] (by decide +kernel) (by decide +kernel)))))
set_option maxRecDepth 20000 in
theorem gX6_single_X6_sum : GoodIn wsX6_single (wsV RX6 244 RX6 yX6_sum wsX6_sum) := goodIn_app (goodIn_of _ (by decide +kernel)) ggX6_single_X6_sum
set_option maxRecDepth 20000 in
theorem ggX6_single_X6_comparedSum : GoodIn wsX6_single wsX6_comparedSum := goodIn_2 24 (goodIn_r _ [93, 1, 3, 4, 10, 11, 12, 13, 14, 15, 16, 17, 18, 19, 20, 21, 22, 23, 24, 25, 26, 27, 28, 63] (by decide +kernel) (by decide +kernel)) (goodIn_2 24 (goodIn_r _ [64, 65, 66, 67, 68, 69, 70, 71, 32, 33, 34, 35, 36, 37, 38, 39, 72, 73, 74, 75, 76, 77, 78, 79] (by decide +kernel) (by decide +kernel)) (goodIn_2 24 (goodIn_r _ [8, 80, 81, 82, 83, 84, 9, 85, 86, 87, 88, 89, 48, 56, 57, 58, 59, 60, 61, 62, 43, 44, 45, 46] (by decide +kernel) (by decide +kernel)) (goodIn_2 24 (goodIn_r _ [47, 49, 50, 51, 52, 53, 54, 55, 101, 102, 103, 104, 105, 106, 107, 108, 109, 110, 111, 112, 113, 114, 115, 116] (by decide +kernel) (by decide +kernel)) (goodIn_r _ [117, 118, 119, 120, 121, 122, 123, 124, 125, 126, 127, 128, 129, 130, 131, 132, 133, 134, 135, 136, 137, 138] (by decide +kernel) (by decide +kernel)))))
set_option maxRecDepth 20000 in
theorem gX6_single_X6_comparedSum : GoodIn wsX6_single (wsV RX6 294 RX6 yX6_comparedSum wsX6_comparedSum) := goodIn_app (goodIn_of _ (by decide +kernel)) ggX6_single_X6_comparedSum
theorem k_X6_single_f53 : Cond.fieldLink RX6 53 "TideLots$1" "$SwitchMap$TideLots$Sign" "[I" ∈ wsX6_single := by decide +kernel
theorem k_X6_single_f282 : Cond.fieldLink RX6 282 "TideLots$Sign" "NOT" "LTideLots$Sign;" ∈ wsX6_single := by decide +kernel
theorem k_X6_single_f34 : Cond.fieldLink RX6 34 "TideLots$Reader" "built" "LTideLots$Shore;" ∈ wsX6_single := by decide +kernel
theorem i_X6_single_X6 : ∀ w ∈ u_ws RX6 TX6 9, w ∈ wsX6_single := by decide +kernel
theorem k_X6_single_f193 : Cond.fieldLink RX6 193 "TideLots$Shore" "sums" "LTideLots$Sums;" ∈ wsX6_single := by decide +kernel
theorem i_X6_single_X7 : ∀ w ∈ u_ws RX7 TX7 17, w ∈ wsX6_single := by decide +kernel
theorem k_X6_single_f285 : Cond.fieldLink RX6 285 "TideLots$Sign" "OPEN_TEST" "LTideLots$Sign;" ∈ wsX6_single := by decide +kernel
theorem k_X6_single_f288 : Cond.fieldLink RX6 288 "TideLots$Sign" "CLOSE_TEST" "LTideLots$Sign;" ∈ wsX6_single := by decide +kernel
theorem k_X6_single_f291 : Cond.fieldLink RX6 291 "TideLots$Sign" "CHEATS" "LTideLots$Sign;" ∈ wsX6_single := by decide +kernel
theorem k_X6_single_f24 : Cond.fieldLink RX6 24 "TideLots$Reader" "fisherNames" "LTideLots$Names;" ∈ wsX6_single := by decide +kernel
theorem k_X6_single_f112 : Cond.fieldLink RX6 112 "TideLots$Reader" "number" "I" ∈ wsX6_single := by decide +kernel
noncomputable def b_X6_single_189 (Z : Nat → Nat) (F : Nat → gMem → Nat → Int32 → Option (Int32 × gMem)) (M : gMem) (s0 : Int32) : Option (Int32 × gMem) :=
  ck (s0 = 0 ∨ s0 = 1) <| some (s0, M)
noncomputable def b_X6_single_188 (Z : Nat → Nat) (F : Nat → gMem → Nat → Int32 → Option (Int32 × gMem)) (M : gMem)  : Option (Int32 × gMem) :=
  b_X6_single_189 Z F M ((0 : Int32))
noncomputable def b_X6_single_147 (Z : Nat → Nat) (F : Nat → gMem → Nat → Int32 → Option (Int32 × gMem)) (M : gMem)  : Option (Int32 × gMem) :=
  some ((0 : Int32), M)
noncomputable def b_X6_single_125 (Z : Nat → Nat) (F : Nat → gMem → Nat → Int32 → Option (Int32 × gMem)) (M : gMem) (s0 : Int32) : Option (Int32 × gMem) :=
  ck (s0 = 0 ∨ s0 = 1) <| some (s0, M)
noncomputable def b_X6_single_124 (Z : Nat → Nat) (F : Nat → gMem → Nat → Int32 → Option (Int32 × gMem)) (M : gMem)  : Option (Int32 × gMem) :=
  b_X6_single_125 Z F M ((0 : Int32))
noncomputable def b_X6_single_66 (Z : Nat → Nat) (F : Nat → gMem → Nat → Int32 → Option (Int32 × gMem)) (M : gMem)  : Option (Int32 × gMem) :=
  some ((0 : Int32), M)
noncomputable def b_X6_single_0 (Z : Nat → Nat) (F : Nat → gMem → Nat → Int32 → Option (Int32 × gMem)) (M : gMem) (x0 : Nat) (x1 : Int32) : Option (Int32 × gMem) :=
  ck (mT M x0 = 6) <| bd (f_X6_sign M x0) fun r3 M3 => dr (ordZ Z r3) fun o5 => (if (gSw o5) = (5 : Int32) then (if (8 : Int32) ≤ x1 then b_X6_single_66 Z F M3  else ck (mT M3 x0 = 6) <| bd (f_X6_take M3 x0 ((some (Z 20)))) fun r7 M7 => (if r7 = 0 then b_X6_single_66 Z F M7  else ck (mT M7 x0 = 6) <| bd (F 2 M7 x0 ((x1 + (1 : Int32)))) fun r9 M9 => (if r9 = 0 then b_X6_single_66 Z F M9  else ck (mT M9 x0 = 6) <| dr ((mR M9 x0 2)) fun a12 => ck (mT M9 a12 = 7) <| dr ((mR M9 a12 10)) fun a15 => ck (mT M9 a15 = 8) <| bd (f_X9_add Z M9 a15 ((some (Z 20))) ((0 : Int32))) fun _ M14 => some ((1 : Int32), M14)))) else (if (gSw o5) = (6 : Int32) then (if (8 : Int32) ≤ x1 then b_X6_single_124 Z F M3  else ck (mT M3 x0 = 6) <| bd (f_X6_take M3 x0 ((some (Z 27)))) fun r18 M18 => (if r18 = 0 then b_X6_single_124 Z F M18  else ck (mT M18 x0 = 6) <| bd (F 0 M18 x0 ((x1 + (1 : Int32)))) fun r20 M20 => (if r20 = 0 then b_X6_single_124 Z F M20  else ck (mT M20 x0 = 6) <| bd (f_X6_take M20 x0 ((some (Z 28)))) fun r22 M22 => (if r22 = 0 then b_X6_single_124 Z F M22  else b_X6_single_125 Z F M22 ((1 : Int32)))))) else (if (gSw o5) = (7 : Int32) then ck (mT M3 x0 = 6) <| bd (f_X6_take M3 x0 ((some (Z 19)))) fun r25 M25 => (if r25 = 0 then b_X6_single_147 Z F M25  else ck (mT M25 x0 = 6) <| bd (f_X6_takeKnown Z M25 x0 ((mR M25 x0 4))) fun r28 M28 => (if r28 = 0 then b_X6_single_147 Z F M28  else ck (mT M28 x0 = 6) <| dr ((mR M28 x0 2)) fun a30 => ck (mT M28 a30 = 7) <| dr ((mR M28 a30 10)) fun a33 => ck (mT M28 a33 = 8) <| bd (f_X9_add Z M28 a33 ((some (Z 19))) ((mI M28 x0 8))) fun _ M32 => some ((1 : Int32), M32))) else ck (mT M3 x0 = 6) <| bd (F 4 M3 x0 x1) fun r35 M35 => (if r35 = 0 then b_X6_single_188 Z F M35  else ck (mT M35 x0 = 6) <| bd (F 3 M35 x0 x1) fun r37 M37 => (if r37 = 0 then b_X6_single_188 Z F M37  else b_X6_single_189 Z F M37 ((1 : Int32)))))))
noncomputable def fr_X6_single (Z : Nat → Nat) (F : Nat → gMem → Nat → Int32 → Option (Int32 × gMem)) (M : gMem) (x0 : Nat) (x1 : Int32) : Option (Int32 × gMem) :=
  b_X6_single_0 Z F M x0 x1
set_option maxHeartbeats 4000000 in
set_option maxRecDepth 100000 in
theorem t_X6_single_189 (X : gX p s m args meth c D cy B (gSt Z B H0) RX6 cX6_single wsX6_single 3) (hr : meth.sig.returnType = (some .boolean)) {n0 : Nat} {F : Nat → gMem → Nat → Int32 → Option (Int32 × gMem)} (hF : hX6R l D cy B H0 Z n0 F) {Q : State → Prop} : ∀ (M : gMem) (s0 : Int32) (z : Int32 × gMem), b_X6_single_189 Z F M s0 = some z → (fun (r : Int32 × gMem) => Q = gMQ below D cy B H0 args s 0 0 (some (vI r.1)) r.2) z → gGo p l e (rX6R (n0 + 1)) s m args below meth c D cy B H0 3 0 0 Q 189 [] [vI s0] M := by
  intro M s0 z hf hK
  unfold b_X6_single_189 at hf
  obtain ⟨hg1, hf⟩ := ck_e hf
  cases hf
  refine g_eqQ hK ?_
  exact g_zret X hr (gnb hg1) dX6_single_189
set_option maxHeartbeats 4000000 in
set_option maxRecDepth 100000 in
theorem t_X6_single_188 (X : gX p s m args meth c D cy B (gSt Z B H0) RX6 cX6_single wsX6_single 3) (hr : meth.sig.returnType = (some .boolean)) {n0 : Nat} {F : Nat → gMem → Nat → Int32 → Option (Int32 × gMem)} (hF : hX6R l D cy B H0 Z n0 F) {Q : State → Prop} : ∀ (M : gMem)  (z : Int32 × gMem), b_X6_single_188 Z F M  = some z → (fun (r : Int32 × gMem) => Q = gMQ below D cy B H0 args s 0 0 (some (vI r.1)) r.2) z → gGo p l e (rX6R (n0 + 1)) s m args below meth c D cy B H0 3 0 0 Q 188 [] [] M := by
  intro M  z hf hK
  unfold b_X6_single_188 at hf
  refine g_iconst (v := (0 : Int32)) X dX6_single_188 (by decide) ?_
  refine g_sub (lvsub_of _ _ [] rfl) ?_
  exact t_X6_single_189 X hr hF _ _ _ hf hK
set_option maxHeartbeats 4000000 in
set_option maxRecDepth 100000 in
theorem t_X6_single_147 (X : gX p s m args meth c D cy B (gSt Z B H0) RX6 cX6_single wsX6_single 3) (hr : meth.sig.returnType = (some .boolean)) {n0 : Nat} {F : Nat → gMem → Nat → Int32 → Option (Int32 × gMem)} (hF : hX6R l D cy B H0 Z n0 F) {Q : State → Prop} : ∀ (M : gMem)  (z : Int32 × gMem), b_X6_single_147 Z F M  = some z → (fun (r : Int32 × gMem) => Q = gMQ below D cy B H0 args s 0 0 (some (vI r.1)) r.2) z → gGo p l e (rX6R (n0 + 1)) s m args below meth c D cy B H0 3 0 0 Q 147 [] [] M := by
  intro M  z hf hK
  unfold b_X6_single_147 at hf
  refine g_iconst (v := (0 : Int32)) X dX6_single_147 (by decide) ?_
  cases hf
  refine g_eqQ hK ?_
  exact g_zret X hr (gnb (Or.inl rfl)) dX6_single_148
set_option maxHeartbeats 4000000 in
set_option maxRecDepth 100000 in
theorem t_X6_single_125 (X : gX p s m args meth c D cy B (gSt Z B H0) RX6 cX6_single wsX6_single 3) (hr : meth.sig.returnType = (some .boolean)) {n0 : Nat} {F : Nat → gMem → Nat → Int32 → Option (Int32 × gMem)} (hF : hX6R l D cy B H0 Z n0 F) {Q : State → Prop} : ∀ (M : gMem) (s0 : Int32) (z : Int32 × gMem), b_X6_single_125 Z F M s0 = some z → (fun (r : Int32 × gMem) => Q = gMQ below D cy B H0 args s 0 0 (some (vI r.1)) r.2) z → gGo p l e (rX6R (n0 + 1)) s m args below meth c D cy B H0 3 0 0 Q 125 [] [vI s0] M := by
  intro M s0 z hf hK
  unfold b_X6_single_125 at hf
  obtain ⟨hg2, hf⟩ := ck_e hf
  cases hf
  refine g_eqQ hK ?_
  exact g_zret X hr (gnb hg2) dX6_single_125
set_option maxHeartbeats 4000000 in
set_option maxRecDepth 100000 in
theorem t_X6_single_124 (X : gX p s m args meth c D cy B (gSt Z B H0) RX6 cX6_single wsX6_single 3) (hr : meth.sig.returnType = (some .boolean)) {n0 : Nat} {F : Nat → gMem → Nat → Int32 → Option (Int32 × gMem)} (hF : hX6R l D cy B H0 Z n0 F) {Q : State → Prop} : ∀ (M : gMem)  (z : Int32 × gMem), b_X6_single_124 Z F M  = some z → (fun (r : Int32 × gMem) => Q = gMQ below D cy B H0 args s 0 0 (some (vI r.1)) r.2) z → gGo p l e (rX6R (n0 + 1)) s m args below meth c D cy B H0 3 0 0 Q 124 [] [] M := by
  intro M  z hf hK
  unfold b_X6_single_124 at hf
  refine g_iconst (v := (0 : Int32)) X dX6_single_124 (by decide) ?_
  refine g_sub (lvsub_of _ _ [] rfl) ?_
  exact t_X6_single_125 X hr hF _ _ _ hf hK
set_option maxHeartbeats 4000000 in
set_option maxRecDepth 100000 in
theorem t_X6_single_66 (X : gX p s m args meth c D cy B (gSt Z B H0) RX6 cX6_single wsX6_single 3) (hr : meth.sig.returnType = (some .boolean)) {n0 : Nat} {F : Nat → gMem → Nat → Int32 → Option (Int32 × gMem)} (hF : hX6R l D cy B H0 Z n0 F) {Q : State → Prop} : ∀ (M : gMem)  (z : Int32 × gMem), b_X6_single_66 Z F M  = some z → (fun (r : Int32 × gMem) => Q = gMQ below D cy B H0 args s 0 0 (some (vI r.1)) r.2) z → gGo p l e (rX6R (n0 + 1)) s m args below meth c D cy B H0 3 0 0 Q 66 [] [] M := by
  intro M  z hf hK
  unfold b_X6_single_66 at hf
  refine g_iconst (v := (0 : Int32)) X dX6_single_66 (by decide) ?_
  cases hf
  refine g_eqQ hK ?_
  exact g_zret X hr (gnb (Or.inl rfl)) dX6_single_67
set_option maxHeartbeats 4000000 in
set_option maxRecDepth 100000 in
theorem t_X6_single_0 (X : gX p s m args meth c D cy B (gSt Z B H0) RX6 cX6_single wsX6_single 3) (hr : meth.sig.returnType = (some .boolean)) {n0 : Nat} {F : Nat → gMem → Nat → Int32 → Option (Int32 × gMem)} (hF : hX6R l D cy B H0 Z n0 F) {Q : State → Prop} : ∀ (M : gMem) (x0 : Nat) (x1 : Int32) (z : Int32 × gMem), b_X6_single_0 Z F M x0 x1 = some z → (fun (r : Int32 × gMem) => Q = gMQ below D cy B H0 args s 0 0 (some (vI r.1)) r.2) z → gGo p l e (rX6R (n0 + 1)) s m args below meth c D cy B H0 3 0 0 Q 0 [(0, vR (some x0)), (1, vI x1)] [] M := by
  intro M x0 x1 z hf hK
  unfold b_X6_single_0 at hf
  refine g_aload_n X dX6_single_0 rfl rfl ?_
  obtain ⟨hT4, hf⟩ := ck_e hf
  obtain ⟨r3, M3, hq3, hf⟩ := bd_e hf
  refine g_callV (ci := 5) (b := x0) (As := []) (st := []) (v := some (vR r3)) (M1 := M3) X (m_X6_sign l hq3) (cwV 0 X.2.2.1 gX6_single_X6_sign rfl rfl rfl (by decide +kernel) ⟨rX6R_f (Nat.le_of_ble_eq_true rfl), rX6R_l (Nat.le_of_ble_eq_true rfl)⟩) rfl rfl rfl hT4 (by decide) rfl (Nat.le_of_ble_eq_true rfl) dX6_single_1 ⟨Nat.zero_le _, Nat.zero_le _⟩ ?_
  refine g_astore_n (lv' := [(2, vR r3), (0, vR (some x0)), (1, vI x1)]) X dX6_single_4 rfl (by decide) rfl ?_
  refine g_gets (w := vR (some (Z 46))) X (gSt_SW X) k_X6_single_f53 rfl dX6_single_5 ?_
  refine g_aload_n X dX6_single_8 rfl rfl ?_
  obtain ⟨o5, ho5, hf⟩ := dr_e hf
  refine g_callU (C := RX8) (owner := "java/lang/Enum") (As := []) (st := [vR (some (Z 46))]) (v := some (vI (nI o5))) X (m_ordinal l (ordZ_lt ho5)) (va_cwU 0 X.2.2.1 gX6_single_Jx29ce0_ordinal_8abf5_u59X8 rfl rfl rfl (by decide +kernel) (by decide +kernel) ⟨rX6R_f (Nat.le_of_ble_eq_true rfl), rX6R_l (Nat.le_of_ble_eq_true rfl)⟩) rfl rfl (ordZ_eq ho5) (fun H hW => gO_recv (gSt_O X (ordZ_lt ho5)) hW) (Nat.le_of_ble_eq_true rfl) dX6_single_9 ⟨Nat.zero_le _, Nat.zero_le _⟩ ?_
  refine g_ialdT (w := gSw o5) X (gSt_SWt X) rfl (gord_nn (ordZ_lt ho5)) (gord_lt (ordZ_lt ho5)) (gord_sw (ordZ_lt ho5)) dX6_single_12 ?_
  by_cases hs6 : (gSw o5) = (5 : Int32)
  · have hf := ife_t hs6 hf
    refine g_tabin (tgt := 40) X dX6_single_13 hs6 (by decide) (by decide) rfl (by decide) ?_
    refine g_iload_n X dX6_single_40 rfl rfl ?_
    refine g_bipush (v := (8 : Int32)) X dX6_single_41 (by decide) ?_
    refine g_icmp_ge (tgt := 66) X dX6_single_43 (by decide) (fun hc => ?_) (fun hc => ?_)
    · have hf := ife_t hc hf
      refine g_sub (lvsub_of _ _ [] rfl) ?_
      exact t_X6_single_66 X hr hF _  _ hf hK
    · have hf := ife_f hc hf
      refine g_aload_n X dX6_single_46 rfl rfl ?_
      refine g_gets (w := vR (some (Z 20))) X (gSt_E X 20 (by decide)) k_X6_single_f282 rfl dX6_single_47 ?_
      obtain ⟨hT8, hf⟩ := ck_e hf
      obtain ⟨r7, M7, hq7, hf⟩ := bd_e hf
      refine g_callV (ci := 5) (b := x0) (As := [vR (some (Z 20))]) (st := []) (v := some (vI r7)) (M1 := M7) X (m_X6_take l hq7) (cwV 1 X.2.2.1 gX6_single_X6_take rfl rfl rfl (by decide +kernel) ⟨rX6R_f (Nat.le_of_ble_eq_true rfl), rX6R_l (Nat.le_of_ble_eq_true rfl)⟩) rfl rfl rfl hT8 (by decide) rfl (Nat.le_of_ble_eq_true rfl) dX6_single_50 ⟨Nat.zero_le _, Nat.zero_le _⟩ ?_
      refine g_if_eq (tgt := 66) X dX6_single_53 (by decide) (fun hc => ?_) (fun hc => ?_)
      · have hf := ife_t hc hf
        refine g_sub (lvsub_of _ _ [] rfl) ?_
        exact t_X6_single_66 X hr hF _  _ hf hK
      · have hf := ife_f hc hf
        refine g_aload_n X dX6_single_56 rfl rfl ?_
        refine g_iload_n X dX6_single_57 rfl rfl ?_
        refine g_iconst (v := (1 : Int32)) X dX6_single_58 (by decide) ?_
        refine g_iadd X dX6_single_59 ?_
        obtain ⟨hT10, hf⟩ := ck_e hf
        obtain ⟨r9, M9, hq9, hf⟩ := bd_e hf
        refine g_callV (ci := 5) (b := x0) (As := [vI (x1 + (1 : Int32))]) (st := []) (v := some (vI r9)) (M1 := M9) X (hF.2.2.1 _ _ _ _ _ hq9) (cwV 1 X.2.2.1 gX6_single_X6_single rfl rfl rfl (by decide +kernel) ⟨rX6R_rf, rX6R_rl (Nat.le_of_ble_eq_true rfl)⟩) rfl rfl rfl hT10 (by decide) rfl (Nat.le_of_ble_eq_true rfl) dX6_single_60 ⟨Nat.zero_le _, Nat.zero_le _⟩ ?_
        refine g_if_ne (tgt := 68) X dX6_single_63 (by decide) (fun hc => ?_) (fun hc => ?_)
        · have hf := ife_f hc hf
          refine g_aload_n X dX6_single_68 rfl rfl ?_
          obtain ⟨hT11, hf⟩ := ck_e hf
          refine g_get (ci := 5) (v := vR (mR M9 x0 2)) 2 X cdX6 i_X6_single_X6 (by decide) k_X6_single_f34 rfl dX6_single_69 rfl hT11 rfl ?_
          obtain ⟨a12, ha12, hf⟩ := dr_e hf
          obtain ⟨hT13, hf⟩ := ck_e hf
          refine g_get (ci := 6) (v := vR (mR M9 a12 10)) 10 X cdX7 i_X6_single_X7 (by decide) k_X6_single_f193 rfl dX6_single_72 ha12 hT13 rfl ?_
          refine g_gets (w := vR (some (Z 20))) X (gSt_E X 20 (by decide)) k_X6_single_f282 rfl dX6_single_75 ?_
          refine g_iconst (v := (0 : Int32)) X dX6_single_78 (by decide) ?_
          obtain ⟨a15, ha15, hf⟩ := dr_e hf
          obtain ⟨hT16, hf⟩ := ck_e hf
          obtain ⟨r14, M14, hq14, hf⟩ := bd_e hf
          refine g_callV (ci := 7) (b := a15) (As := [vR (some (Z 20)), vI (0 : Int32)]) (st := []) (v := none) (M1 := M14) X (m_X9_add l hq14) (cwV 2 X.2.2.1 gX6_single_X9_add rfl rfl rfl (by decide +kernel) ⟨rX6R_f (Nat.le_of_ble_eq_true rfl), rX6R_l (Nat.le_of_ble_eq_true rfl)⟩) rfl rfl ha15 hT16 (by decide) rfl (Nat.le_of_ble_eq_true rfl) dX6_single_79 ⟨Nat.zero_le _, Nat.zero_le _⟩ ?_
          refine g_iconst (v := (1 : Int32)) X dX6_single_82 (by decide) ?_
          cases hf
          refine g_eqQ hK ?_
          exact g_zret X hr (gnb (Or.inr rfl)) dX6_single_83
        · have hf := ife_t hc hf
          refine g_sub (lvsub_of _ _ [] rfl) ?_
          exact t_X6_single_66 X hr hF _  _ hf hK
  · have hf := ife_f hs6 hf
    by_cases hs17 : (gSw o5) = (6 : Int32)
    · have hf := ife_t hs17 hf
      refine g_tabin (tgt := 84) X dX6_single_13 hs17 (by decide) (by decide) rfl (by decide) ?_
      refine g_iload_n X dX6_single_84 rfl rfl ?_
      refine g_bipush (v := (8 : Int32)) X dX6_single_85 (by decide) ?_
      refine g_icmp_ge (tgt := 124) X dX6_single_87 (by decide) (fun hc => ?_) (fun hc => ?_)
      · have hf := ife_t hc hf
        refine g_sub (lvsub_of _ _ [] rfl) ?_
        exact t_X6_single_124 X hr hF _  _ hf hK
      · have hf := ife_f hc hf
        refine g_aload_n X dX6_single_90 rfl rfl ?_
        refine g_gets (w := vR (some (Z 27))) X (gSt_E X 27 (by decide)) k_X6_single_f285 rfl dX6_single_91 ?_
        obtain ⟨hT19, hf⟩ := ck_e hf
        obtain ⟨r18, M18, hq18, hf⟩ := bd_e hf
        refine g_callV (ci := 5) (b := x0) (As := [vR (some (Z 27))]) (st := []) (v := some (vI r18)) (M1 := M18) X (m_X6_take l hq18) (cwV 1 X.2.2.1 gX6_single_X6_take rfl rfl rfl (by decide +kernel) ⟨rX6R_f (Nat.le_of_ble_eq_true rfl), rX6R_l (Nat.le_of_ble_eq_true rfl)⟩) rfl rfl rfl hT19 (by decide) rfl (Nat.le_of_ble_eq_true rfl) dX6_single_94 ⟨Nat.zero_le _, Nat.zero_le _⟩ ?_
        refine g_if_eq (tgt := 124) X dX6_single_97 (by decide) (fun hc => ?_) (fun hc => ?_)
        · have hf := ife_t hc hf
          refine g_sub (lvsub_of _ _ [] rfl) ?_
          exact t_X6_single_124 X hr hF _  _ hf hK
        · have hf := ife_f hc hf
          refine g_aload_n X dX6_single_100 rfl rfl ?_
          refine g_iload_n X dX6_single_101 rfl rfl ?_
          refine g_iconst (v := (1 : Int32)) X dX6_single_102 (by decide) ?_
          refine g_iadd X dX6_single_103 ?_
          obtain ⟨hT21, hf⟩ := ck_e hf
          obtain ⟨r20, M20, hq20, hf⟩ := bd_e hf
          refine g_callV (ci := 5) (b := x0) (As := [vI (x1 + (1 : Int32))]) (st := []) (v := some (vI r20)) (M1 := M20) X (hF.1 _ _ _ _ _ hq20) (cwV 1 X.2.2.1 gX6_single_X6_test rfl rfl rfl (by decide +kernel) ⟨rX6R_rf, rX6R_rl (Nat.le_of_ble_eq_true rfl)⟩) rfl rfl rfl hT21 (by decide) rfl (Nat.le_of_ble_eq_true rfl) dX6_single_104 ⟨Nat.zero_le _, Nat.zero_le _⟩ ?_
          refine g_if_eq (tgt := 124) X dX6_single_107 (by decide) (fun hc => ?_) (fun hc => ?_)
          · have hf := ife_t hc hf
            refine g_sub (lvsub_of _ _ [] rfl) ?_
            exact t_X6_single_124 X hr hF _  _ hf hK
          · have hf := ife_f hc hf
            refine g_aload_n X dX6_single_110 rfl rfl ?_
            refine g_gets (w := vR (some (Z 28))) X (gSt_E X 28 (by decide)) k_X6_single_f288 rfl dX6_single_111 ?_
            obtain ⟨hT23, hf⟩ := ck_e hf
            obtain ⟨r22, M22, hq22, hf⟩ := bd_e hf
            refine g_callV (ci := 5) (b := x0) (As := [vR (some (Z 28))]) (st := []) (v := some (vI r22)) (M1 := M22) X (m_X6_take l hq22) (cwV 1 X.2.2.1 gX6_single_X6_take rfl rfl rfl (by decide +kernel) ⟨rX6R_f (Nat.le_of_ble_eq_true rfl), rX6R_l (Nat.le_of_ble_eq_true rfl)⟩) rfl rfl rfl hT23 (by decide) rfl (Nat.le_of_ble_eq_true rfl) dX6_single_114 ⟨Nat.zero_le _, Nat.zero_le _⟩ ?_
            refine g_if_eq (tgt := 124) X dX6_single_117 (by decide) (fun hc => ?_) (fun hc => ?_)
            · have hf := ife_t hc hf
              refine g_sub (lvsub_of _ _ [] rfl) ?_
              exact t_X6_single_124 X hr hF _  _ hf hK
            · have hf := ife_f hc hf
              refine g_iconst (v := (1 : Int32)) X dX6_single_120 (by decide) ?_
              refine g_goto (tgt := 125) X dX6_single_121 (by decide) ?_
              refine g_sub (lvsub_of _ _ [] rfl) ?_
              exact t_X6_single_125 X hr hF _ _ _ hf hK
    · have hf := ife_f hs17 hf
      by_cases hs24 : (gSw o5) = (7 : Int32)
      · have hf := ife_t hs24 hf
        refine g_tabin (tgt := 126) X dX6_single_13 hs24 (by decide) (by decide) rfl (by decide) ?_
        refine g_aload_n X dX6_single_126 rfl rfl ?_
        refine g_gets (w := vR (some (Z 19))) X (gSt_E X 19 (by decide)) k_X6_single_f291 rfl dX6_single_127 ?_
        obtain ⟨hT26, hf⟩ := ck_e hf
        obtain ⟨r25, M25, hq25, hf⟩ := bd_e hf
        refine g_callV (ci := 5) (b := x0) (As := [vR (some (Z 19))]) (st := []) (v := some (vI r25)) (M1 := M25) X (m_X6_take l hq25) (cwV 1 X.2.2.1 gX6_single_X6_take rfl rfl rfl (by decide +kernel) ⟨rX6R_f (Nat.le_of_ble_eq_true rfl), rX6R_l (Nat.le_of_ble_eq_true rfl)⟩) rfl rfl rfl hT26 (by decide) rfl (Nat.le_of_ble_eq_true rfl) dX6_single_130 ⟨Nat.zero_le _, Nat.zero_le _⟩ ?_
        refine g_if_eq (tgt := 147) X dX6_single_133 (by decide) (fun hc => ?_) (fun hc => ?_)
        · have hf := ife_t hc hf
          refine g_sub (lvsub_of _ _ [] rfl) ?_
          exact t_X6_single_147 X hr hF _  _ hf hK
        · have hf := ife_f hc hf
          refine g_aload_n X dX6_single_136 rfl rfl ?_
          refine g_aload_n X dX6_single_137 rfl rfl ?_
          obtain ⟨hT27, hf⟩ := ck_e hf
          refine g_get (ci := 5) (v := vR (mR M25 x0 4)) 4 X cdX6 i_X6_single_X6 (by decide) k_X6_single_f24 rfl dX6_single_138 rfl hT27 rfl ?_
          obtain ⟨r28, M28, hq28, hf⟩ := bd_e hf
          refine g_callV (ci := 5) (b := x0) (As := [vR (mR M25 x0 4)]) (st := []) (v := some (vI r28)) (M1 := M28) X (m_X6_takeKnown l hq28) (cwV 1 X.2.2.1 gX6_single_X6_takeKnown rfl rfl rfl (by decide +kernel) ⟨rX6R_f (Nat.le_of_ble_eq_true rfl), rX6R_l (Nat.le_of_ble_eq_true rfl)⟩) rfl rfl rfl hT27 (by decide) rfl (Nat.le_of_ble_eq_true rfl) dX6_single_141 ⟨Nat.zero_le _, Nat.zero_le _⟩ ?_
          refine g_if_ne (tgt := 149) X dX6_single_144 (by decide) (fun hc => ?_) (fun hc => ?_)
          · have hf := ife_f hc hf
            refine g_aload_n X dX6_single_149 rfl rfl ?_
            obtain ⟨hT29, hf⟩ := ck_e hf
            refine g_get (ci := 5) (v := vR (mR M28 x0 2)) 2 X cdX6 i_X6_single_X6 (by decide) k_X6_single_f34 rfl dX6_single_150 rfl hT29 rfl ?_
            obtain ⟨a30, ha30, hf⟩ := dr_e hf
            obtain ⟨hT31, hf⟩ := ck_e hf
            refine g_get (ci := 6) (v := vR (mR M28 a30 10)) 10 X cdX7 i_X6_single_X7 (by decide) k_X6_single_f193 rfl dX6_single_153 ha30 hT31 rfl ?_
            refine g_gets (w := vR (some (Z 19))) X (gSt_E X 19 (by decide)) k_X6_single_f291 rfl dX6_single_156 ?_
            refine g_aload_n X dX6_single_159 rfl rfl ?_
            refine g_get (ci := 5) (v := vI (mI M28 x0 8)) 8 X cdX6 i_X6_single_X6 (by decide) k_X6_single_f112 rfl dX6_single_160 rfl hT29 rfl ?_
            obtain ⟨a33, ha33, hf⟩ := dr_e hf
            obtain ⟨hT34, hf⟩ := ck_e hf
            obtain ⟨r32, M32, hq32, hf⟩ := bd_e hf
            refine g_callV (ci := 7) (b := a33) (As := [vR (some (Z 19)), vI (mI M28 x0 8)]) (st := []) (v := none) (M1 := M32) X (m_X9_add l hq32) (cwV 2 X.2.2.1 gX6_single_X9_add rfl rfl rfl (by decide +kernel) ⟨rX6R_f (Nat.le_of_ble_eq_true rfl), rX6R_l (Nat.le_of_ble_eq_true rfl)⟩) rfl rfl ha33 hT34 (by decide) rfl (Nat.le_of_ble_eq_true rfl) dX6_single_163 ⟨Nat.zero_le _, Nat.zero_le _⟩ ?_
            refine g_iconst (v := (1 : Int32)) X dX6_single_166 (by decide) ?_
            cases hf
            refine g_eqQ hK ?_
            exact g_zret X hr (gnb (Or.inr rfl)) dX6_single_167
          · have hf := ife_t hc hf
            refine g_sub (lvsub_of _ _ [] rfl) ?_
            exact t_X6_single_147 X hr hF _  _ hf hK
      · have hf := ife_f hs24 hf
        refine g_tabout (tgt := 168) X dX6_single_13 (gtab_out 3 (5) (by decide) (by decide) (fun i hi => match i, hi with | 0, _ => fun e => hs6 (e.trans (by decide)) | 1, _ => fun e => hs17 (e.trans (by decide)) | 2, _ => fun e => hs24 (e.trans (by decide)) | i + 3, h => absurd h (by omega))) (by decide) ?_
        refine g_aload_n X dX6_single_168 rfl rfl ?_
        refine g_iload_n X dX6_single_169 rfl rfl ?_
        obtain ⟨hT36, hf⟩ := ck_e hf
        obtain ⟨r35, M35, hq35, hf⟩ := bd_e hf
        refine g_callV (ci := 5) (b := x0) (As := [vI x1]) (st := []) (v := some (vI r35)) (M1 := M35) X (hF.2.2.2.2.1 _ _ _ _ _ hq35) (cwV 1 X.2.2.1 gX6_single_X6_sum rfl rfl rfl (by decide +kernel) ⟨rX6R_rf, rX6R_rl (Nat.le_of_ble_eq_true rfl)⟩) rfl rfl rfl hT36 (by decide) rfl (Nat.le_of_ble_eq_true rfl) dX6_single_170 ⟨Nat.zero_le _, Nat.zero_le _⟩ ?_
        refine g_if_eq (tgt := 188) X dX6_single_173 (by decide) (fun hc => ?_) (fun hc => ?_)
        · have hf := ife_t hc hf
          refine g_sub (lvsub_of _ _ [] rfl) ?_
          exact t_X6_single_188 X hr hF _  _ hf hK
        · have hf := ife_f hc hf
          refine g_aload_n X dX6_single_176 rfl rfl ?_
          refine g_iload_n X dX6_single_177 rfl rfl ?_
          obtain ⟨hT38, hf⟩ := ck_e hf
          obtain ⟨r37, M37, hq37, hf⟩ := bd_e hf
          refine g_callV (ci := 5) (b := x0) (As := [vI x1]) (st := []) (v := some (vI r37)) (M1 := M37) X (hF.2.2.2.1 _ _ _ _ _ hq37) (cwV 1 X.2.2.1 gX6_single_X6_comparedSum rfl rfl rfl (by decide +kernel) ⟨rX6R_rf, rX6R_rl (Nat.le_of_ble_eq_true rfl)⟩) rfl rfl rfl hT38 (by decide) rfl (Nat.le_of_ble_eq_true rfl) dX6_single_178 ⟨Nat.zero_le _, Nat.zero_le _⟩ ?_
          refine g_if_eq (tgt := 188) X dX6_single_181 (by decide) (fun hc => ?_) (fun hc => ?_)
          · have hf := ife_t hc hf
            refine g_sub (lvsub_of _ _ [] rfl) ?_
            exact t_X6_single_188 X hr hF _  _ hf hK
          · have hf := ife_f hc hf
            refine g_iconst (v := (1 : Int32)) X dX6_single_184 (by decide) ?_
            refine g_goto (tgt := 189) X dX6_single_185 (by decide) ?_
            refine g_sub (lvsub_of _ _ [] rfl) ?_
            exact t_X6_single_189 X hr hF _ _ _ hf hK
set_option maxHeartbeats 4000000 in
set_option maxRecDepth 100000 in
theorem mr_X6_single (l : Launch) {D : va_G} {cy : Nat → ClassId} {B : Nat} {H0 : Heap} {Z : Nat → Nat} {M M1 : gMem} {n0 : Nat} {F : Nat → gMem → Nat → Int32 → Option (Int32 × gMem)} (hF : hX6R l D cy B H0 Z n0 F) {x0 : Nat} {x1 : Int32} {r : Int32} (hf : fr_X6_single Z F M x0 x1 = some (r, M1)) : Met l yX6_single wsX6_single (rX6R (n0 + 1)) (va_Pc (Value.ref x0 :: List.map gv [vI x1]) (gPre D cy B H0 (gSt Z B H0) M)) (gQ D cy B H0 (some (vI r)) M1) 0 0 (gA B) := by
  refine Met.ofW (cc := cX6_single) (maxL := 3) (ret := (some .boolean)) (by decide) rfl ?_
  intro p e s m args below meth c s₁ Bd hml hv
  obtain ⟨rfl, hW, hKK, hFs⟩ := hv
  have X : gX p s m _ meth c D cy B (gSt Z B H0) RX6 cX6_single wsX6_single 3 := ⟨Bd.exec, Bd.bytes, atoms_spec (ws := wsX6_single) Bd.pre, findClass_of_methodNamed Bd.named, hml, hKK, by rw [hW.1]; exact hW.2.1, Bd.notSynchronized, hFs⟩
  have hr := Bd.returns
  have hl := lv_entry ([.ref x0, .int x1]) (n := 3) (Nat.le_of_ble_eq_true rfl)
  show W p l e (rX6R (n0 + 1)) s m _ below meth c s.heap [] 0 0 _ (entryFrame m ([.ref x0, .int x1] : List Value).toArray 3)
  rw [lg_entry_eq]
  generalize (lg_sl ([.ref x0, .int x1]) ++ List.replicate (3 - (lg_sl ([.ref x0, .int x1])).length) Slot.unset).toArray = ls at hl ⊢
  have hl : lv_has ls 3 (List.map gq [(0, vR (some x0)), (1, vI x1)]) := hl
  exact t_X6_single_0 X hr hF _ _ _ _ hf rfl s.heap [] ls hW va_S.rf (lv_has_sub hl (lvsub_of _ _ [0, 1] rfl))
end
