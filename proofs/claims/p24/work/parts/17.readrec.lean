section
variable {p : Program} {l : Launch} {e : Env} {s : State} {m : MethodId} {args : Array Value} {below : List Frame} {meth : Method} {c : Code} {D : va_G} {cy : Nat → ClassId} {B : Nat} {H0 : Heap} {Z : Nat → Nat}
abbrev rX6R (n : Nat) : Room := { frames := n + 2, cells := 0, slots := 0, locals := n * 40 + 44 }
theorem rX6R_f {n a : Nat} (h : a ≤ 2) : a ≤ (rX6R (n + 1)).frames := by show a ≤ n + 1 + 2; omega
theorem rX6R_l {n a : Nat} (h : a ≤ 44) : a ≤ (rX6R (n + 1)).locals := by show a ≤ (n + 1) * 40 + 44; omega
theorem rX6R_rf {n : Nat} : (rX6R n).frames + 1 ≤ (rX6R (n + 1)).frames := by show n + 2 + 1 ≤ n + 1 + 2; omega
theorem rX6R_rl {n a : Nat} (h : a ≤ 21) : 8 + (a + 11) + (rX6R n).locals ≤ (rX6R (n + 1)).locals := by show 8 + (a + 11) + (n * 40 + 44) ≤ (n + 1) * 40 + 44; omega
def hX6R (l : Launch) (D : va_G) (cy : Nat → ClassId) (B : Nat) (H0 : Heap) (Z : Nat → Nat) (n0 : Nat) (F : Nat → gMem → Nat → Int32 → Option (Int32 × gMem)) : Prop :=
  (∀ (M M1 : gMem) (r : Int32) (x0 : Nat) (x1 : Int32), F 0 M x0 x1 = some (r, M1) → Met l yX6_test wsX6_test (rX6R n0) (va_Pc (Value.ref x0 :: List.map gv [vI x1]) (gPre D cy B H0 (gSt Z B H0) M)) (gQ D cy B H0 (some (vI r)) M1) 0 0 (gA B)) ∧
  (∀ (M M1 : gMem) (r : Int32) (x0 : Nat) (x1 : Int32), F 1 M x0 x1 = some (r, M1) → Met l yX6_both wsX6_both (rX6R n0) (va_Pc (Value.ref x0 :: List.map gv [vI x1]) (gPre D cy B H0 (gSt Z B H0) M)) (gQ D cy B H0 (some (vI r)) M1) 0 0 (gA B)) ∧
  (∀ (M M1 : gMem) (r : Int32) (x0 : Nat) (x1 : Int32), F 2 M x0 x1 = some (r, M1) → Met l yX6_single wsX6_single (rX6R n0) (va_Pc (Value.ref x0 :: List.map gv [vI x1]) (gPre D cy B H0 (gSt Z B H0) M)) (gQ D cy B H0 (some (vI r)) M1) 0 0 (gA B)) ∧
  (∀ (M M1 : gMem) (r : Int32) (x0 : Nat) (x1 : Int32), F 3 M x0 x1 = some (r, M1) → Met l yX6_comparedSum wsX6_comparedSum (rX6R n0) (va_Pc (Value.ref x0 :: List.map gv [vI x1]) (gPre D cy B H0 (gSt Z B H0) M)) (gQ D cy B H0 (some (vI r)) M1) 0 0 (gA B)) ∧
  (∀ (M M1 : gMem) (r : Int32) (x0 : Nat) (x1 : Int32), F 4 M x0 x1 = some (r, M1) → Met l yX6_sum wsX6_sum (rX6R n0) (va_Pc (Value.ref x0 :: List.map gv [vI x1]) (gPre D cy B H0 (gSt Z B H0) M)) (gQ D cy B H0 (some (vI r)) M1) 0 0 (gA B)) ∧
  (∀ (M M1 : gMem) (r : Int32) (x0 : Nat) (x1 : Int32), F 5 M x0 x1 = some (r, M1) → Met l yX6_product wsX6_product (rX6R n0) (va_Pc (Value.ref x0 :: List.map gv [vI x1]) (gPre D cy B H0 (gSt Z B H0) M)) (gQ D cy B H0 (some (vI r)) M1) 0 0 (gA B)) ∧
  (∀ (M M1 : gMem) (r : Int32) (x0 : Nat) (x1 : Int32), F 6 M x0 x1 = some (r, M1) → Met l yX6_value wsX6_value (rX6R n0) (va_Pc (Value.ref x0 :: List.map gv [vI x1]) (gPre D cy B H0 (gSt Z B H0) M)) (gQ D cy B H0 (some (vI r)) M1) 0 0 (gA B))
/-! ## TideLots$Reader.test(I)Z -/
theorem dX6_test_0 : decode cX6_test 0 = .ok (.aload_n 0, 1) := by decide +kernel
theorem dX6_test_1 : decode cX6_test 1 = .ok (.iload_n 1, 1) := by decide +kernel
theorem dX6_test_2 : decode cX6_test 2 = .ok (.invokevirtual 267, 3) := by decide +kernel
theorem dX6_test_5 : decode cX6_test 5 = .ok (.ifCond .ne 5, 3) := by decide +kernel
theorem dX6_test_8 : decode cX6_test 8 = .ok (.iconst 0, 1) := by decide +kernel
theorem dX6_test_9 : decode cX6_test 9 = .ok (.ireturn, 1) := by decide +kernel
theorem dX6_test_10 : decode cX6_test 10 = .ok (.iconst 0, 1) := by decide +kernel
theorem dX6_test_11 : decode cX6_test 11 = .ok (.istore_n 2, 1) := by decide +kernel
theorem dX6_test_12 : decode cX6_test 12 = .ok (.iload_n 2, 1) := by decide +kernel
theorem dX6_test_13 : decode cX6_test 13 = .ok (.sipush 400, 3) := by decide +kernel
theorem dX6_test_16 : decode cX6_test 16 = .ok (.if_icmp .ge 43, 3) := by decide +kernel
theorem dX6_test_19 : decode cX6_test 19 = .ok (.aload_n 0, 1) := by decide +kernel
theorem dX6_test_20 : decode cX6_test 20 = .ok (.getstatic 270, 3) := by decide +kernel
theorem dX6_test_23 : decode cX6_test 23 = .ok (.invokevirtual 79, 3) := by decide +kernel
theorem dX6_test_26 : decode cX6_test 26 = .ok (.ifCond .eq 33, 3) := by decide +kernel
theorem dX6_test_29 : decode cX6_test 29 = .ok (.aload_n 0, 1) := by decide +kernel
theorem dX6_test_30 : decode cX6_test 30 = .ok (.iload_n 1, 1) := by decide +kernel
theorem dX6_test_31 : decode cX6_test 31 = .ok (.invokevirtual 267, 3) := by decide +kernel
theorem dX6_test_34 : decode cX6_test 34 = .ok (.ifCond .ne 5, 3) := by decide +kernel
theorem dX6_test_37 : decode cX6_test 37 = .ok (.iconst 0, 1) := by decide +kernel
theorem dX6_test_38 : decode cX6_test 38 = .ok (.ireturn, 1) := by decide +kernel
theorem dX6_test_39 : decode cX6_test 39 = .ok (.aload_n 0, 1) := by decide +kernel
theorem dX6_test_40 : decode cX6_test 40 = .ok (.getfield 34, 3) := by decide +kernel
theorem dX6_test_43 : decode cX6_test 43 = .ok (.getfield 193, 3) := by decide +kernel
theorem dX6_test_46 : decode cX6_test 46 = .ok (.getstatic 270, 3) := by decide +kernel
theorem dX6_test_49 : decode cX6_test 49 = .ok (.iconst 0, 1) := by decide +kernel
theorem dX6_test_50 : decode cX6_test 50 = .ok (.invokevirtual 273, 3) := by decide +kernel
theorem dX6_test_53 : decode cX6_test 53 = .ok (.iinc 2 1, 3) := by decide +kernel
theorem dX6_test_56 : decode cX6_test 56 = .ok (.goto (-44), 3) := by decide +kernel
theorem dX6_test_59 : decode cX6_test 59 = .ok (.iconst 1, 1) := by decide +kernel
theorem dX6_test_60 : decode cX6_test 60 = .ok (.ireturn, 1) := by decide +kernel
set_option maxRecDepth 20000 in
theorem ggX6_test_X6_take : GoodIn wsX6_test wsX6_take := goodIn_r _ [11, 12, 13, 14, 101, 102, 103, 104, 105, 106, 107, 108, 109, 127, 128, 129, 130, 131, 132] (by decide +kernel) (by decide +kernel)
set_option maxRecDepth 20000 in
theorem gX6_test_X6_take : GoodIn wsX6_test (wsV RX6 79 RX6 yX6_take wsX6_take) := goodIn_app (goodIn_of _ (by decide +kernel)) ggX6_test_X6_take
set_option maxRecDepth 20000 in
theorem ggX6_test_X6_both : GoodIn wsX6_test wsX6_both := goodIn_r _ [23, 24, 2, 3, 25, 26, 27, 7, 8, 9, 10, 11, 12, 13, 14, 15, 16, 17, 18, 19, 20, 21, 22, 28, 29, 30, 31, 32, 33, 34, 35, 36, 37, 38, 39, 40, 41, 42, 43, 44, 45, 46, 47, 48, 49, 50, 51, 52, 53, 54, 55, 56, 57, 58, 59, 60, 61, 62, 63, 64, 65, 66, 67, 68, 69, 70, 71, 72, 73, 74, 75, 76, 77, 78, 79, 80, 81, 82, 83, 84, 85, 86, 87, 88, 89, 90, 91, 92, 93, 94, 95, 96, 97, 98, 99, 100, 0, 1, 4, 5, 6, 101, 102, 103, 104, 105, 106, 107, 108, 109, 110, 111, 112, 113, 114, 115, 116, 117, 118, 119, 120, 121, 122, 123, 124, 125, 126, 127, 128, 129, 130, 131, 132, 133, 134, 135, 136, 137, 138] (by decide +kernel) (by decide +kernel)
set_option maxRecDepth 20000 in
theorem gX6_test_X6_both : GoodIn wsX6_test (wsV RX6 267 RX6 yX6_both wsX6_both) := goodIn_app (goodIn_of _ (by decide +kernel)) ggX6_test_X6_both
set_option maxRecDepth 20000 in
theorem ggX6_test_X9_add : GoodIn wsX6_test wsX9_add := goodIn_r _ [19, 20, 21, 22, 133, 134, 135, 136] (by decide +kernel) (by decide +kernel)
set_option maxRecDepth 20000 in
theorem gX6_test_X9_add : GoodIn wsX6_test (wsV RX6 273 RX9 yX9_add wsX9_add) := goodIn_app (goodIn_of _ (by decide +kernel)) ggX6_test_X9_add
theorem k_X6_test_f270 : Cond.fieldLink RX6 270 "TideLots$Sign" "OR" "LTideLots$Sign;" ∈ wsX6_test := by decide +kernel
theorem k_X6_test_f34 : Cond.fieldLink RX6 34 "TideLots$Reader" "built" "LTideLots$Shore;" ∈ wsX6_test := by decide +kernel
theorem i_X6_test_X6 : ∀ w ∈ u_ws RX6 TX6 9, w ∈ wsX6_test := by decide +kernel
theorem k_X6_test_f193 : Cond.fieldLink RX6 193 "TideLots$Shore" "sums" "LTideLots$Sums;" ∈ wsX6_test := by decide +kernel
theorem i_X6_test_X7 : ∀ w ∈ u_ws RX7 TX7 17, w ∈ wsX6_test := by decide +kernel
noncomputable def b_X6_test_59 (Z : Nat → Nat) (F : Nat → gMem → Nat → Int32 → Option (Int32 × gMem)) (M : gMem)  : Option (Int32 × gMem) :=
  some ((1 : Int32), M)
noncomputable def bb_X6_test_12 (Z : Nat → Nat) (F : Nat → gMem → Nat → Int32 → Option (Int32 × gMem)) (M : gMem) (x0 : Nat) (x1 : Int32) (x2 : Int32) : Option ((gMem × Int32) ⊕ (Int32 × gMem)) :=
  (if (400 : Int32) ≤ x2 then oI (b_X6_test_59 Z F M ) else ck (mT M x0 = 6) <| bd (f_X6_take M x0 ((some (Z 22)))) fun r2 M2 => (if r2 = 0 then oI (b_X6_test_59 Z F M2 ) else ck (mT M2 x0 = 6) <| bd (F 1 M2 x0 x1) fun r5 M5 => (if r5 = 0 then oI (some ((0 : Int32), M5)) else ck (mT M5 x0 = 6) <| dr ((mR M5 x0 2)) fun a8 => ck (mT M5 a8 = 7) <| dr ((mR M5 a8 10)) fun a11 => ck (mT M5 a11 = 8) <| bd (f_X9_add Z M5 a11 ((some (Z 22))) ((0 : Int32))) fun _ M10 => some (.inl (M10, (x2 + (1 : Int32)))))))
noncomputable def lp_X6_test_12 (Z : Nat → Nat) (F : Nat → gMem → Nat → Int32 → Option (Int32 × gMem)) (M : gMem) (x0 : Nat) (x1 : Int32) (x2 : Int32) : Option (Int32 × gMem) :=
  lp (fun (q : gMem × Int32) => bb_X6_test_12 Z F q.1 x0 x1 q.2) (M, x2)
noncomputable def b_X6_test_0 (Z : Nat → Nat) (F : Nat → gMem → Nat → Int32 → Option (Int32 × gMem)) (M : gMem) (x0 : Nat) (x1 : Int32) : Option (Int32 × gMem) :=
  ck (mT M x0 = 6) <| bd (F 1 M x0 x1) fun r14 M14 => (if r14 = 0 then some ((0 : Int32), M14) else lp_X6_test_12 Z F M14 x0 x1 ((0 : Int32)))
noncomputable def fr_X6_test (Z : Nat → Nat) (F : Nat → gMem → Nat → Int32 → Option (Int32 × gMem)) (M : gMem) (x0 : Nat) (x1 : Int32) : Option (Int32 × gMem) :=
  b_X6_test_0 Z F M x0 x1
set_option maxHeartbeats 4000000 in
set_option maxRecDepth 100000 in
theorem t_X6_test_59 (X : gX p s m args meth c D cy B (gSt Z B H0) RX6 cX6_test wsX6_test 3) (hr : meth.sig.returnType = (some .boolean)) {n0 : Nat} {F : Nat → gMem → Nat → Int32 → Option (Int32 × gMem)} (hF : hX6R l D cy B H0 Z n0 F) {Q : State → Prop} : ∀ (M : gMem)  (z : Int32 × gMem), b_X6_test_59 Z F M  = some z → (fun (r : Int32 × gMem) => Q = gMQ below D cy B H0 args s 0 0 (some (vI r.1)) r.2) z → gGo p l e (rX6R (n0 + 1)) s m args below meth c D cy B H0 3 0 0 Q 59 [] [] M := by
  intro M  z hf hK
  unfold b_X6_test_59 at hf
  refine g_iconst (v := (1 : Int32)) X dX6_test_59 (by decide) ?_
  cases hf
  refine g_eqQ hK ?_
  exact g_zret X hr (gnb (Or.inr rfl)) dX6_test_60
set_option maxHeartbeats 4000000 in
set_option maxRecDepth 100000 in
theorem tb_X6_test_12 (X : gX p s m args meth c D cy B (gSt Z B H0) RX6 cX6_test wsX6_test 3) (hr : meth.sig.returnType = (some .boolean)) {n0 : Nat} {F : Nat → gMem → Nat → Int32 → Option (Int32 × gMem)} (hF : hX6R l D cy B H0 Z n0 F) {Q : State → Prop} : ∀ (M : gMem) (x0 : Nat) (x1 : Int32) (x2 : Int32) (z : (gMem × Int32) ⊕ (Int32 × gMem)), bb_X6_test_12 Z F M x0 x1 x2 = some z → (Sum.elim (fun (q : gMem × Int32) => gGo p l e (rX6R (n0 + 1)) s m args below meth c D cy B H0 3 0 0 Q 12 [(0, vR (some x0)), (1, vI x1), (2, vI q.2)] [] q.1) (fun (r : Int32 × gMem) => Q = gMQ below D cy B H0 args s 0 0 (some (vI r.1)) r.2)) z → gGo p l e (rX6R (n0 + 1)) s m args below meth c D cy B H0 3 0 0 Q 12 [(0, vR (some x0)), (1, vI x1), (2, vI x2)] [] M := by
  intro M x0 x1 x2 z hf hK
  unfold bb_X6_test_12 at hf
  refine g_iload_n X dX6_test_12 rfl rfl ?_
  refine g_sipush (v := (400 : Int32)) X dX6_test_13 (by decide) ?_
  refine g_icmp_ge (tgt := 59) X dX6_test_16 (by decide) (fun hc => ?_) (fun hc => ?_)
  · have hf := ife_t hc hf
    obtain ⟨w1, hw1, hz1⟩ := oI_e hf
    subst hz1
    have hf := hw1
    refine g_sub (lvsub_of _ _ [] rfl) ?_
    exact t_X6_test_59 X hr hF _  _ hf hK
  · have hf := ife_f hc hf
    refine g_aload_n X dX6_test_19 rfl rfl ?_
    refine g_gets (w := vR (some (Z 22))) X (gSt_E X 22 (by decide)) k_X6_test_f270 rfl dX6_test_20 ?_
    obtain ⟨hT3, hf⟩ := ck_e hf
    obtain ⟨r2, M2, hq2, hf⟩ := bd_e hf
    refine g_callV (ci := 5) (b := x0) (As := [vR (some (Z 22))]) (st := []) (v := some (vI r2)) (M1 := M2) X (m_X6_take l hq2) (cwV 1 X.2.2.1 gX6_test_X6_take rfl rfl rfl (by decide +kernel) ⟨rX6R_f (Nat.le_of_ble_eq_true rfl), rX6R_l (Nat.le_of_ble_eq_true rfl)⟩) rfl rfl rfl hT3 (by decide) rfl (Nat.le_of_ble_eq_true rfl) dX6_test_23 ⟨Nat.zero_le _, Nat.zero_le _⟩ ?_
    refine g_if_eq (tgt := 59) X dX6_test_26 (by decide) (fun hc => ?_) (fun hc => ?_)
    · have hf := ife_t hc hf
      obtain ⟨w4, hw4, hz4⟩ := oI_e hf
      subst hz4
      have hf := hw4
      refine g_sub (lvsub_of _ _ [] rfl) ?_
      exact t_X6_test_59 X hr hF _  _ hf hK
    · have hf := ife_f hc hf
      refine g_aload_n X dX6_test_29 rfl rfl ?_
      refine g_iload_n X dX6_test_30 rfl rfl ?_
      obtain ⟨hT6, hf⟩ := ck_e hf
      obtain ⟨r5, M5, hq5, hf⟩ := bd_e hf
      refine g_callV (ci := 5) (b := x0) (As := [vI x1]) (st := []) (v := some (vI r5)) (M1 := M5) X (hF.2.1 _ _ _ _ _ hq5) (cwV 1 X.2.2.1 gX6_test_X6_both rfl rfl rfl (by decide +kernel) ⟨rX6R_rf, rX6R_rl (Nat.le_of_ble_eq_true rfl)⟩) rfl rfl rfl hT6 (by decide) rfl (Nat.le_of_ble_eq_true rfl) dX6_test_31 ⟨Nat.zero_le _, Nat.zero_le _⟩ ?_
      refine g_if_ne (tgt := 39) X dX6_test_34 (by decide) (fun hc => ?_) (fun hc => ?_)
      · have hf := ife_f hc hf
        refine g_aload_n X dX6_test_39 rfl rfl ?_
        obtain ⟨hT7, hf⟩ := ck_e hf
        refine g_get (ci := 5) (v := vR (mR M5 x0 2)) 2 X cdX6 i_X6_test_X6 (by decide) k_X6_test_f34 rfl dX6_test_40 rfl hT7 rfl ?_
        obtain ⟨a8, ha8, hf⟩ := dr_e hf
        obtain ⟨hT9, hf⟩ := ck_e hf
        refine g_get (ci := 6) (v := vR (mR M5 a8 10)) 10 X cdX7 i_X6_test_X7 (by decide) k_X6_test_f193 rfl dX6_test_43 ha8 hT9 rfl ?_
        refine g_gets (w := vR (some (Z 22))) X (gSt_E X 22 (by decide)) k_X6_test_f270 rfl dX6_test_46 ?_
        refine g_iconst (v := (0 : Int32)) X dX6_test_49 (by decide) ?_
        obtain ⟨a11, ha11, hf⟩ := dr_e hf
        obtain ⟨hT12, hf⟩ := ck_e hf
        obtain ⟨r10, M10, hq10, hf⟩ := bd_e hf
        refine g_callV (ci := 7) (b := a11) (As := [vR (some (Z 22)), vI (0 : Int32)]) (st := []) (v := none) (M1 := M10) X (m_X9_add l hq10) (cwV 2 X.2.2.1 gX6_test_X9_add rfl rfl rfl (by decide +kernel) ⟨rX6R_f (Nat.le_of_ble_eq_true rfl), rX6R_l (Nat.le_of_ble_eq_true rfl)⟩) rfl rfl ha11 hT12 (by decide) rfl (Nat.le_of_ble_eq_true rfl) dX6_test_50 ⟨Nat.zero_le _, Nat.zero_le _⟩ ?_
        refine g_iinc (v := (1 : Int32)) (lv' := [(2, vI (x2 + (1 : Int32))), (0, vR (some x0)), (1, vI x1)]) X dX6_test_53 rfl (by decide) (by decide) rfl ?_
        refine g_goto (tgt := 12) X dX6_test_56 (by decide) ?_
        cases hf
        refine g_sub (lvsub_of _ _ [1, 2, 0] rfl) ?_
        exact hK
      · have hf := ife_t hc hf
        refine g_iconst (v := (0 : Int32)) X dX6_test_37 (by decide) ?_
        obtain ⟨w13, hw13, hz13⟩ := oI_e hf
        subst hz13
        have hf := hw13
        cases hf
        refine g_eqQ hK ?_
        exact g_zret X hr (gnb (Or.inl rfl)) dX6_test_38
set_option maxHeartbeats 4000000 in
set_option maxRecDepth 100000 in
theorem tl_X6_test_12 (X : gX p s m args meth c D cy B (gSt Z B H0) RX6 cX6_test wsX6_test 3) (hr : meth.sig.returnType = (some .boolean)) {n0 : Nat} {F : Nat → gMem → Nat → Int32 → Option (Int32 × gMem)} (hF : hX6R l D cy B H0 Z n0 F) {Q : State → Prop} : ∀ (M : gMem) (x0 : Nat) (x1 : Int32) (x2 : Int32) (z : Int32 × gMem), lp_X6_test_12 Z F M x0 x1 x2 = some z → (fun (r : Int32 × gMem) => Q = gMQ below D cy B H0 args s 0 0 (some (vI r.1)) r.2) z → gGo p l e (rX6R (n0 + 1)) s m args below meth c D cy B H0 3 0 0 Q 12 [(0, vR (some x0)), (1, vI x1), (2, vI x2)] [] M := by
  intro M x0 x1 x2 z hf hK
  refine lp_ind (P := (fun (q : gMem × Int32) (z : Int32 × gMem) => (fun (r : Int32 × gMem) => Q = gMQ below D cy B H0 args s 0 0 (some (vI r.1)) r.2) z → gGo p l e (rX6R (n0 + 1)) s m args below meth c D cy B H0 3 0 0 Q 12 [(0, vR (some x0)), (1, vI x1), (2, vI q.2)] [] q.1)) (fun q z hq => ?_) _ _ hf hK
  intro hK
  obtain ⟨w, hw, hm⟩ := hq
  refine tb_X6_test_12 X hr hF _ _ _ _ w hw ?_
  cases w with
  | inl a => exact hm hK
  | inr b => cases hm; exact hK
set_option maxHeartbeats 4000000 in
set_option maxRecDepth 100000 in
theorem t_X6_test_0 (X : gX p s m args meth c D cy B (gSt Z B H0) RX6 cX6_test wsX6_test 3) (hr : meth.sig.returnType = (some .boolean)) {n0 : Nat} {F : Nat → gMem → Nat → Int32 → Option (Int32 × gMem)} (hF : hX6R l D cy B H0 Z n0 F) {Q : State → Prop} : ∀ (M : gMem) (x0 : Nat) (x1 : Int32) (z : Int32 × gMem), b_X6_test_0 Z F M x0 x1 = some z → (fun (r : Int32 × gMem) => Q = gMQ below D cy B H0 args s 0 0 (some (vI r.1)) r.2) z → gGo p l e (rX6R (n0 + 1)) s m args below meth c D cy B H0 3 0 0 Q 0 [(0, vR (some x0)), (1, vI x1)] [] M := by
  intro M x0 x1 z hf hK
  unfold b_X6_test_0 at hf
  refine g_aload_n X dX6_test_0 rfl rfl ?_
  refine g_iload_n X dX6_test_1 rfl rfl ?_
  obtain ⟨hT15, hf⟩ := ck_e hf
  obtain ⟨r14, M14, hq14, hf⟩ := bd_e hf
  refine g_callV (ci := 5) (b := x0) (As := [vI x1]) (st := []) (v := some (vI r14)) (M1 := M14) X (hF.2.1 _ _ _ _ _ hq14) (cwV 1 X.2.2.1 gX6_test_X6_both rfl rfl rfl (by decide +kernel) ⟨rX6R_rf, rX6R_rl (Nat.le_of_ble_eq_true rfl)⟩) rfl rfl rfl hT15 (by decide) rfl (Nat.le_of_ble_eq_true rfl) dX6_test_2 ⟨Nat.zero_le _, Nat.zero_le _⟩ ?_
  refine g_if_ne (tgt := 10) X dX6_test_5 (by decide) (fun hc => ?_) (fun hc => ?_)
  · have hf := ife_f hc hf
    refine g_iconst (v := (0 : Int32)) X dX6_test_10 (by decide) ?_
    refine g_istore_n (lv' := [(2, vI (0 : Int32)), (0, vR (some x0)), (1, vI x1)]) X dX6_test_11 rfl (by decide) rfl ?_
    refine g_sub (lvsub_of _ _ [1, 2, 0] rfl) ?_
    exact tl_X6_test_12 X hr hF _ _ _ _ _ hf hK
  · have hf := ife_t hc hf
    refine g_iconst (v := (0 : Int32)) X dX6_test_8 (by decide) ?_
    cases hf
    refine g_eqQ hK ?_
    exact g_zret X hr (gnb (Or.inl rfl)) dX6_test_9
set_option maxHeartbeats 4000000 in
set_option maxRecDepth 100000 in
theorem mr_X6_test (l : Launch) {D : va_G} {cy : Nat → ClassId} {B : Nat} {H0 : Heap} {Z : Nat → Nat} {M M1 : gMem} {n0 : Nat} {F : Nat → gMem → Nat → Int32 → Option (Int32 × gMem)} (hF : hX6R l D cy B H0 Z n0 F) {x0 : Nat} {x1 : Int32} {r : Int32} (hf : fr_X6_test Z F M x0 x1 = some (r, M1)) : Met l yX6_test wsX6_test (rX6R (n0 + 1)) (va_Pc (Value.ref x0 :: List.map gv [vI x1]) (gPre D cy B H0 (gSt Z B H0) M)) (gQ D cy B H0 (some (vI r)) M1) 0 0 (gA B) := by
  refine Met.ofW (cc := cX6_test) (maxL := 3) (ret := (some .boolean)) (by decide) rfl ?_
  intro p e s m args below meth c s₁ Bd hml hv
  obtain ⟨rfl, hW, hKK, hFs⟩ := hv
  have X : gX p s m _ meth c D cy B (gSt Z B H0) RX6 cX6_test wsX6_test 3 := ⟨Bd.exec, Bd.bytes, atoms_spec (ws := wsX6_test) Bd.pre, findClass_of_methodNamed Bd.named, hml, hKK, by rw [hW.1]; exact hW.2.1, Bd.notSynchronized, hFs⟩
  have hr := Bd.returns
  have hl := lv_entry ([.ref x0, .int x1]) (n := 3) (Nat.le_of_ble_eq_true rfl)
  show W p l e (rX6R (n0 + 1)) s m _ below meth c s.heap [] 0 0 _ (entryFrame m ([.ref x0, .int x1] : List Value).toArray 3)
  rw [lg_entry_eq]
  generalize (lg_sl ([.ref x0, .int x1]) ++ List.replicate (3 - (lg_sl ([.ref x0, .int x1])).length) Slot.unset).toArray = ls at hl ⊢
  have hl : lv_has ls 3 (List.map gq [(0, vR (some x0)), (1, vI x1)]) := hl
  exact t_X6_test_0 X hr hF _ _ _ _ hf rfl s.heap [] ls hW va_S.rf (lv_has_sub hl (lvsub_of _ _ [0, 1] rfl))
/-! ## TideLots$Reader.both(I)Z -/
theorem dX6_both_0 : decode cX6_both 0 = .ok (.aload_n 0, 1) := by decide +kernel
theorem dX6_both_1 : decode cX6_both 1 = .ok (.iload_n 1, 1) := by decide +kernel
theorem dX6_both_2 : decode cX6_both 2 = .ok (.invokevirtual 276, 3) := by decide +kernel
theorem dX6_both_5 : decode cX6_both 5 = .ok (.ifCond .ne 5, 3) := by decide +kernel
theorem dX6_both_8 : decode cX6_both 8 = .ok (.iconst 0, 1) := by decide +kernel
theorem dX6_both_9 : decode cX6_both 9 = .ok (.ireturn, 1) := by decide +kernel
theorem dX6_both_10 : decode cX6_both 10 = .ok (.iconst 0, 1) := by decide +kernel
theorem dX6_both_11 : decode cX6_both 11 = .ok (.istore_n 2, 1) := by decide +kernel
theorem dX6_both_12 : decode cX6_both 12 = .ok (.iload_n 2, 1) := by decide +kernel
theorem dX6_both_13 : decode cX6_both 13 = .ok (.sipush 400, 3) := by decide +kernel
theorem dX6_both_16 : decode cX6_both 16 = .ok (.if_icmp .ge 43, 3) := by decide +kernel
theorem dX6_both_19 : decode cX6_both 19 = .ok (.aload_n 0, 1) := by decide +kernel
theorem dX6_both_20 : decode cX6_both 20 = .ok (.getstatic 279, 3) := by decide +kernel
theorem dX6_both_23 : decode cX6_both 23 = .ok (.invokevirtual 79, 3) := by decide +kernel
theorem dX6_both_26 : decode cX6_both 26 = .ok (.ifCond .eq 33, 3) := by decide +kernel
theorem dX6_both_29 : decode cX6_both 29 = .ok (.aload_n 0, 1) := by decide +kernel
theorem dX6_both_30 : decode cX6_both 30 = .ok (.iload_n 1, 1) := by decide +kernel
theorem dX6_both_31 : decode cX6_both 31 = .ok (.invokevirtual 276, 3) := by decide +kernel
theorem dX6_both_34 : decode cX6_both 34 = .ok (.ifCond .ne 5, 3) := by decide +kernel
theorem dX6_both_37 : decode cX6_both 37 = .ok (.iconst 0, 1) := by decide +kernel
theorem dX6_both_38 : decode cX6_both 38 = .ok (.ireturn, 1) := by decide +kernel
theorem dX6_both_39 : decode cX6_both 39 = .ok (.aload_n 0, 1) := by decide +kernel
theorem dX6_both_40 : decode cX6_both 40 = .ok (.getfield 34, 3) := by decide +kernel
theorem dX6_both_43 : decode cX6_both 43 = .ok (.getfield 193, 3) := by decide +kernel
theorem dX6_both_46 : decode cX6_both 46 = .ok (.getstatic 279, 3) := by decide +kernel
theorem dX6_both_49 : decode cX6_both 49 = .ok (.iconst 0, 1) := by decide +kernel
theorem dX6_both_50 : decode cX6_both 50 = .ok (.invokevirtual 273, 3) := by decide +kernel
theorem dX6_both_53 : decode cX6_both 53 = .ok (.iinc 2 1, 3) := by decide +kernel
theorem dX6_both_56 : decode cX6_both 56 = .ok (.goto (-44), 3) := by decide +kernel
theorem dX6_both_59 : decode cX6_both 59 = .ok (.iconst 1, 1) := by decide +kernel
theorem dX6_both_60 : decode cX6_both 60 = .ok (.ireturn, 1) := by decide +kernel
set_option maxRecDepth 20000 in
theorem ggX6_both_X6_take : GoodIn wsX6_both wsX6_take := goodIn_r _ [11, 12, 13, 14, 101, 102, 103, 104, 105, 106, 107, 108, 109, 127, 128, 129, 130, 131, 132] (by decide +kernel) (by decide +kernel)
set_option maxRecDepth 20000 in
theorem gX6_both_X6_take : GoodIn wsX6_both (wsV RX6 79 RX6 yX6_take wsX6_take) := goodIn_app (goodIn_of _ (by decide +kernel)) ggX6_both_X6_take
set_option maxRecDepth 20000 in
theorem ggX6_both_X6_single : GoodIn wsX6_both wsX6_single := goodIn_r _ [23, 24, 25, 2, 3, 26, 27, 28, 29, 30, 31, 32, 33, 7, 34, 13, 14, 12, 35, 36, 37, 38, 39, 40, 41, 8, 9, 10, 11, 4, 5, 6, 15, 16, 17, 18, 19, 20, 21, 22, 42, 43, 44, 45, 46, 47, 48, 49, 50, 51, 52, 53, 54, 55, 56, 57, 58, 59, 60, 61, 62, 63, 64, 65, 66, 67, 68, 69, 70, 71, 72, 73, 74, 75, 76, 77, 78, 79, 80, 81, 82, 83, 84, 85, 86, 87, 88, 89, 90, 91, 92, 93, 94, 95, 0, 1, 96, 97, 98, 99, 100, 101, 102, 103, 104, 105, 106, 107, 108, 109, 110, 111, 112, 113, 114, 115, 116, 117, 118, 119, 120, 121, 122, 123, 124, 125, 126, 127, 128, 129, 130, 131, 132, 133, 134, 135, 136, 137, 138] (by decide +kernel) (by decide +kernel)
set_option maxRecDepth 20000 in
theorem gX6_both_X6_single : GoodIn wsX6_both (wsV RX6 276 RX6 yX6_single wsX6_single) := goodIn_app (goodIn_of _ (by decide +kernel)) ggX6_both_X6_single
set_option maxRecDepth 20000 in
theorem ggX6_both_X9_add : GoodIn wsX6_both wsX9_add := goodIn_r _ [19, 20, 21, 22, 133, 134, 135, 136] (by decide +kernel) (by decide +kernel)
set_option maxRecDepth 20000 in
theorem gX6_both_X9_add : GoodIn wsX6_both (wsV RX6 273 RX9 yX9_add wsX9_add) := goodIn_app (goodIn_of _ (by decide +kernel)) ggX6_both_X9_add
theorem k_X6_both_f279 : Cond.fieldLink RX6 279 "TideLots$Sign" "AND" "LTideLots$Sign;" ∈ wsX6_both := by decide +kernel
theorem k_X6_both_f34 : Cond.fieldLink RX6 34 "TideLots$Reader" "built" "LTideLots$Shore;" ∈ wsX6_both := by decide +kernel
theorem i_X6_both_X6 : ∀ w ∈ u_ws RX6 TX6 9, w ∈ wsX6_both := by decide +kernel
theorem k_X6_both_f193 : Cond.fieldLink RX6 193 "TideLots$Shore" "sums" "LTideLots$Sums;" ∈ wsX6_both := by decide +kernel
theorem i_X6_both_X7 : ∀ w ∈ u_ws RX7 TX7 17, w ∈ wsX6_both := by decide +kernel
noncomputable def b_X6_both_59 (Z : Nat → Nat) (F : Nat → gMem → Nat → Int32 → Option (Int32 × gMem)) (M : gMem)  : Option (Int32 × gMem) :=
  some ((1 : Int32), M)
noncomputable def bb_X6_both_12 (Z : Nat → Nat) (F : Nat → gMem → Nat → Int32 → Option (Int32 × gMem)) (M : gMem) (x0 : Nat) (x1 : Int32) (x2 : Int32) : Option ((gMem × Int32) ⊕ (Int32 × gMem)) :=
  (if (400 : Int32) ≤ x2 then oI (b_X6_both_59 Z F M ) else ck (mT M x0 = 6) <| bd (f_X6_take M x0 ((some (Z 21)))) fun r2 M2 => (if r2 = 0 then oI (b_X6_both_59 Z F M2 ) else ck (mT M2 x0 = 6) <| bd (F 2 M2 x0 x1) fun r5 M5 => (if r5 = 0 then oI (some ((0 : Int32), M5)) else ck (mT M5 x0 = 6) <| dr ((mR M5 x0 2)) fun a8 => ck (mT M5 a8 = 7) <| dr ((mR M5 a8 10)) fun a11 => ck (mT M5 a11 = 8) <| bd (f_X9_add Z M5 a11 ((some (Z 21))) ((0 : Int32))) fun _ M10 => some (.inl (M10, (x2 + (1 : Int32)))))))
noncomputable def lp_X6_both_12 (Z : Nat → Nat) (F : Nat → gMem → Nat → Int32 → Option (Int32 × gMem)) (M : gMem) (x0 : Nat) (x1 : Int32) (x2 : Int32) : Option (Int32 × gMem) :=
  lp (fun (q : gMem × Int32) => bb_X6_both_12 Z F q.1 x0 x1 q.2) (M, x2)
noncomputable def b_X6_both_0 (Z : Nat → Nat) (F : Nat → gMem → Nat → Int32 → Option (Int32 × gMem)) (M : gMem) (x0 : Nat) (x1 : Int32) : Option (Int32 × gMem) :=
  ck (mT M x0 = 6) <| bd (F 2 M x0 x1) fun r14 M14 => (if r14 = 0 then some ((0 : Int32), M14) else lp_X6_both_12 Z F M14 x0 x1 ((0 : Int32)))
noncomputable def fr_X6_both (Z : Nat → Nat) (F : Nat → gMem → Nat → Int32 → Option (Int32 × gMem)) (M : gMem) (x0 : Nat) (x1 : Int32) : Option (Int32 × gMem) :=
  b_X6_both_0 Z F M x0 x1
set_option maxHeartbeats 4000000 in
set_option maxRecDepth 100000 in
theorem t_X6_both_59 (X : gX p s m args meth c D cy B (gSt Z B H0) RX6 cX6_both wsX6_both 3) (hr : meth.sig.returnType = (some .boolean)) {n0 : Nat} {F : Nat → gMem → Nat → Int32 → Option (Int32 × gMem)} (hF : hX6R l D cy B H0 Z n0 F) {Q : State → Prop} : ∀ (M : gMem)  (z : Int32 × gMem), b_X6_both_59 Z F M  = some z → (fun (r : Int32 × gMem) => Q = gMQ below D cy B H0 args s 0 0 (some (vI r.1)) r.2) z → gGo p l e (rX6R (n0 + 1)) s m args below meth c D cy B H0 3 0 0 Q 59 [] [] M := by
  intro M  z hf hK
  unfold b_X6_both_59 at hf
  refine g_iconst (v := (1 : Int32)) X dX6_both_59 (by decide) ?_
  cases hf
  refine g_eqQ hK ?_
  exact g_zret X hr (gnb (Or.inr rfl)) dX6_both_60
set_option maxHeartbeats 4000000 in
set_option maxRecDepth 100000 in
theorem tb_X6_both_12 (X : gX p s m args meth c D cy B (gSt Z B H0) RX6 cX6_both wsX6_both 3) (hr : meth.sig.returnType = (some .boolean)) {n0 : Nat} {F : Nat → gMem → Nat → Int32 → Option (Int32 × gMem)} (hF : hX6R l D cy B H0 Z n0 F) {Q : State → Prop} : ∀ (M : gMem) (x0 : Nat) (x1 : Int32) (x2 : Int32) (z : (gMem × Int32) ⊕ (Int32 × gMem)), bb_X6_both_12 Z F M x0 x1 x2 = some z → (Sum.elim (fun (q : gMem × Int32) => gGo p l e (rX6R (n0 + 1)) s m args below meth c D cy B H0 3 0 0 Q 12 [(0, vR (some x0)), (1, vI x1), (2, vI q.2)] [] q.1) (fun (r : Int32 × gMem) => Q = gMQ below D cy B H0 args s 0 0 (some (vI r.1)) r.2)) z → gGo p l e (rX6R (n0 + 1)) s m args below meth c D cy B H0 3 0 0 Q 12 [(0, vR (some x0)), (1, vI x1), (2, vI x2)] [] M := by
  intro M x0 x1 x2 z hf hK
  unfold bb_X6_both_12 at hf
  refine g_iload_n X dX6_both_12 rfl rfl ?_
  refine g_sipush (v := (400 : Int32)) X dX6_both_13 (by decide) ?_
  refine g_icmp_ge (tgt := 59) X dX6_both_16 (by decide) (fun hc => ?_) (fun hc => ?_)
  · have hf := ife_t hc hf
    obtain ⟨w1, hw1, hz1⟩ := oI_e hf
    subst hz1
    have hf := hw1
    refine g_sub (lvsub_of _ _ [] rfl) ?_
    exact t_X6_both_59 X hr hF _  _ hf hK
  · have hf := ife_f hc hf
    refine g_aload_n X dX6_both_19 rfl rfl ?_
    refine g_gets (w := vR (some (Z 21))) X (gSt_E X 21 (by decide)) k_X6_both_f279 rfl dX6_both_20 ?_
    obtain ⟨hT3, hf⟩ := ck_e hf
    obtain ⟨r2, M2, hq2, hf⟩ := bd_e hf
    refine g_callV (ci := 5) (b := x0) (As := [vR (some (Z 21))]) (st := []) (v := some (vI r2)) (M1 := M2) X (m_X6_take l hq2) (cwV 1 X.2.2.1 gX6_both_X6_take rfl rfl rfl (by decide +kernel) ⟨rX6R_f (Nat.le_of_ble_eq_true rfl), rX6R_l (Nat.le_of_ble_eq_true rfl)⟩) rfl rfl rfl hT3 (by decide) rfl (Nat.le_of_ble_eq_true rfl) dX6_both_23 ⟨Nat.zero_le _, Nat.zero_le _⟩ ?_
    refine g_if_eq (tgt := 59) X dX6_both_26 (by decide) (fun hc => ?_) (fun hc => ?_)
    · have hf := ife_t hc hf
      obtain ⟨w4, hw4, hz4⟩ := oI_e hf
      subst hz4
      have hf := hw4
      refine g_sub (lvsub_of _ _ [] rfl) ?_
      exact t_X6_both_59 X hr hF _  _ hf hK
    · have hf := ife_f hc hf
      refine g_aload_n X dX6_both_29 rfl rfl ?_
      refine g_iload_n X dX6_both_30 rfl rfl ?_
      obtain ⟨hT6, hf⟩ := ck_e hf
      obtain ⟨r5, M5, hq5, hf⟩ := bd_e hf
      refine g_callV (ci := 5) (b := x0) (As := [vI x1]) (st := []) (v := some (vI r5)) (M1 := M5) X (hF.2.2.1 _ _ _ _ _ hq5) (cwV 1 X.2.2.1 gX6_both_X6_single rfl rfl rfl (by decide +kernel) ⟨rX6R_rf, rX6R_rl (Nat.le_of_ble_eq_true rfl)⟩) rfl rfl rfl hT6 (by decide) rfl (Nat.le_of_ble_eq_true rfl) dX6_both_31 ⟨Nat.zero_le _, Nat.zero_le _⟩ ?_
      refine g_if_ne (tgt := 39) X dX6_both_34 (by decide) (fun hc => ?_) (fun hc => ?_)
      · have hf := ife_f hc hf
        refine g_aload_n X dX6_both_39 rfl rfl ?_
        obtain ⟨hT7, hf⟩ := ck_e hf
        refine g_get (ci := 5) (v := vR (mR M5 x0 2)) 2 X cdX6 i_X6_both_X6 (by decide) k_X6_both_f34 rfl dX6_both_40 rfl hT7 rfl ?_
        obtain ⟨a8, ha8, hf⟩ := dr_e hf
        obtain ⟨hT9, hf⟩ := ck_e hf
        refine g_get (ci := 6) (v := vR (mR M5 a8 10)) 10 X cdX7 i_X6_both_X7 (by decide) k_X6_both_f193 rfl dX6_both_43 ha8 hT9 rfl ?_
        refine g_gets (w := vR (some (Z 21))) X (gSt_E X 21 (by decide)) k_X6_both_f279 rfl dX6_both_46 ?_
        refine g_iconst (v := (0 : Int32)) X dX6_both_49 (by decide) ?_
        obtain ⟨a11, ha11, hf⟩ := dr_e hf
        obtain ⟨hT12, hf⟩ := ck_e hf
        obtain ⟨r10, M10, hq10, hf⟩ := bd_e hf
        refine g_callV (ci := 7) (b := a11) (As := [vR (some (Z 21)), vI (0 : Int32)]) (st := []) (v := none) (M1 := M10) X (m_X9_add l hq10) (cwV 2 X.2.2.1 gX6_both_X9_add rfl rfl rfl (by decide +kernel) ⟨rX6R_f (Nat.le_of_ble_eq_true rfl), rX6R_l (Nat.le_of_ble_eq_true rfl)⟩) rfl rfl ha11 hT12 (by decide) rfl (Nat.le_of_ble_eq_true rfl) dX6_both_50 ⟨Nat.zero_le _, Nat.zero_le _⟩ ?_
        refine g_iinc (v := (1 : Int32)) (lv' := [(2, vI (x2 + (1 : Int32))), (0, vR (some x0)), (1, vI x1)]) X dX6_both_53 rfl (by decide) (by decide) rfl ?_
        refine g_goto (tgt := 12) X dX6_both_56 (by decide) ?_
        cases hf
        refine g_sub (lvsub_of _ _ [1, 2, 0] rfl) ?_
        exact hK
      · have hf := ife_t hc hf
        refine g_iconst (v := (0 : Int32)) X dX6_both_37 (by decide) ?_
        obtain ⟨w13, hw13, hz13⟩ := oI_e hf
        subst hz13
        have hf := hw13
        cases hf
        refine g_eqQ hK ?_
        exact g_zret X hr (gnb (Or.inl rfl)) dX6_both_38
set_option maxHeartbeats 4000000 in
set_option maxRecDepth 100000 in
theorem tl_X6_both_12 (X : gX p s m args meth c D cy B (gSt Z B H0) RX6 cX6_both wsX6_both 3) (hr : meth.sig.returnType = (some .boolean)) {n0 : Nat} {F : Nat → gMem → Nat → Int32 → Option (Int32 × gMem)} (hF : hX6R l D cy B H0 Z n0 F) {Q : State → Prop} : ∀ (M : gMem) (x0 : Nat) (x1 : Int32) (x2 : Int32) (z : Int32 × gMem), lp_X6_both_12 Z F M x0 x1 x2 = some z → (fun (r : Int32 × gMem) => Q = gMQ below D cy B H0 args s 0 0 (some (vI r.1)) r.2) z → gGo p l e (rX6R (n0 + 1)) s m args below meth c D cy B H0 3 0 0 Q 12 [(0, vR (some x0)), (1, vI x1), (2, vI x2)] [] M := by
  intro M x0 x1 x2 z hf hK
  refine lp_ind (P := (fun (q : gMem × Int32) (z : Int32 × gMem) => (fun (r : Int32 × gMem) => Q = gMQ below D cy B H0 args s 0 0 (some (vI r.1)) r.2) z → gGo p l e (rX6R (n0 + 1)) s m args below meth c D cy B H0 3 0 0 Q 12 [(0, vR (some x0)), (1, vI x1), (2, vI q.2)] [] q.1)) (fun q z hq => ?_) _ _ hf hK
  intro hK
  obtain ⟨w, hw, hm⟩ := hq
  refine tb_X6_both_12 X hr hF _ _ _ _ w hw ?_
  cases w with
  | inl a => exact hm hK
  | inr b => cases hm; exact hK
set_option maxHeartbeats 4000000 in
set_option maxRecDepth 100000 in
theorem t_X6_both_0 (X : gX p s m args meth c D cy B (gSt Z B H0) RX6 cX6_both wsX6_both 3) (hr : meth.sig.returnType = (some .boolean)) {n0 : Nat} {F : Nat → gMem → Nat → Int32 → Option (Int32 × gMem)} (hF : hX6R l D cy B H0 Z n0 F) {Q : State → Prop} : ∀ (M : gMem) (x0 : Nat) (x1 : Int32) (z : Int32 × gMem), b_X6_both_0 Z F M x0 x1 = some z → (fun (r : Int32 × gMem) => Q = gMQ below D cy B H0 args s 0 0 (some (vI r.1)) r.2) z → gGo p l e (rX6R (n0 + 1)) s m args below meth c D cy B H0 3 0 0 Q 0 [(0, vR (some x0)), (1, vI x1)] [] M := by
  intro M x0 x1 z hf hK
  unfold b_X6_both_0 at hf
  refine g_aload_n X dX6_both_0 rfl rfl ?_
  refine g_iload_n X dX6_both_1 rfl rfl ?_
  obtain ⟨hT15, hf⟩ := ck_e hf
  obtain ⟨r14, M14, hq14, hf⟩ := bd_e hf
  refine g_callV (ci := 5) (b := x0) (As := [vI x1]) (st := []) (v := some (vI r14)) (M1 := M14) X (hF.2.2.1 _ _ _ _ _ hq14) (cwV 1 X.2.2.1 gX6_both_X6_single rfl rfl rfl (by decide +kernel) ⟨rX6R_rf, rX6R_rl (Nat.le_of_ble_eq_true rfl)⟩) rfl rfl rfl hT15 (by decide) rfl (Nat.le_of_ble_eq_true rfl) dX6_both_2 ⟨Nat.zero_le _, Nat.zero_le _⟩ ?_
  refine g_if_ne (tgt := 10) X dX6_both_5 (by decide) (fun hc => ?_) (fun hc => ?_)
  · have hf := ife_f hc hf
    refine g_iconst (v := (0 : Int32)) X dX6_both_10 (by decide) ?_
    refine g_istore_n (lv' := [(2, vI (0 : Int32)), (0, vR (some x0)), (1, vI x1)]) X dX6_both_11 rfl (by decide) rfl ?_
    refine g_sub (lvsub_of _ _ [1, 2, 0] rfl) ?_
    exact tl_X6_both_12 X hr hF _ _ _ _ _ hf hK
  · have hf := ife_t hc hf
    refine g_iconst (v := (0 : Int32)) X dX6_both_8 (by decide) ?_
    cases hf
    refine g_eqQ hK ?_
    exact g_zret X hr (gnb (Or.inl rfl)) dX6_both_9
set_option maxHeartbeats 4000000 in
set_option maxRecDepth 100000 in
theorem mr_X6_both (l : Launch) {D : va_G} {cy : Nat → ClassId} {B : Nat} {H0 : Heap} {Z : Nat → Nat} {M M1 : gMem} {n0 : Nat} {F : Nat → gMem → Nat → Int32 → Option (Int32 × gMem)} (hF : hX6R l D cy B H0 Z n0 F) {x0 : Nat} {x1 : Int32} {r : Int32} (hf : fr_X6_both Z F M x0 x1 = some (r, M1)) : Met l yX6_both wsX6_both (rX6R (n0 + 1)) (va_Pc (Value.ref x0 :: List.map gv [vI x1]) (gPre D cy B H0 (gSt Z B H0) M)) (gQ D cy B H0 (some (vI r)) M1) 0 0 (gA B) := by
  refine Met.ofW (cc := cX6_both) (maxL := 3) (ret := (some .boolean)) (by decide) rfl ?_
  intro p e s m args below meth c s₁ Bd hml hv
  obtain ⟨rfl, hW, hKK, hFs⟩ := hv
  have X : gX p s m _ meth c D cy B (gSt Z B H0) RX6 cX6_both wsX6_both 3 := ⟨Bd.exec, Bd.bytes, atoms_spec (ws := wsX6_both) Bd.pre, findClass_of_methodNamed Bd.named, hml, hKK, by rw [hW.1]; exact hW.2.1, Bd.notSynchronized, hFs⟩
  have hr := Bd.returns
  have hl := lv_entry ([.ref x0, .int x1]) (n := 3) (Nat.le_of_ble_eq_true rfl)
  show W p l e (rX6R (n0 + 1)) s m _ below meth c s.heap [] 0 0 _ (entryFrame m ([.ref x0, .int x1] : List Value).toArray 3)
  rw [lg_entry_eq]
  generalize (lg_sl ([.ref x0, .int x1]) ++ List.replicate (3 - (lg_sl ([.ref x0, .int x1])).length) Slot.unset).toArray = ls at hl ⊢
  have hl : lv_has ls 3 (List.map gq [(0, vR (some x0)), (1, vI x1)]) := hl
  exact t_X6_both_0 X hr hF _ _ _ _ hf rfl s.heap [] ls hW va_S.rf (lv_has_sub hl (lvsub_of _ _ [0, 1] rfl))
/-! ## TideLots$Reader.single(I)Z -/
theorem dX6_single_0 : decode cX6_single 0 = .ok (.aload_n 0, 1) := by decide +kernel
theorem dX6_single_1 : decode cX6_single 1 = .ok (.invokevirtual 43, 3) := by decide +kernel
theorem dX6_single_4 : decode cX6_single 4 = .ok (.astore_n 2, 1) := by decide +kernel
theorem dX6_single_5 : decode cX6_single 5 = .ok (.getstatic 53, 3) := by decide +kernel
theorem dX6_single_8 : decode cX6_single 8 = .ok (.aload_n 2, 1) := by decide +kernel
theorem dX6_single_9 : decode cX6_single 9 = .ok (.invokevirtual 59, 3) := by decide +kernel
theorem dX6_single_12 : decode cX6_single 12 = .ok (.iaload, 1) := by decide +kernel
theorem dX6_single_13 : decode cX6_single 13 = .ok (.tableswitch 155 5 7 #[27, 71, 113], 27) := by decide +kernel
theorem dX6_single_40 : decode cX6_single 40 = .ok (.iload_n 1, 1) := by decide +kernel
theorem dX6_single_41 : decode cX6_single 41 = .ok (.bipush 8, 2) := by decide +kernel
theorem dX6_single_43 : decode cX6_single 43 = .ok (.if_icmp .ge 23, 3) := by decide +kernel
theorem dX6_single_46 : decode cX6_single 46 = .ok (.aload_n 0, 1) := by decide +kernel
theorem dX6_single_47 : decode cX6_single 47 = .ok (.getstatic 282, 3) := by decide +kernel
theorem dX6_single_50 : decode cX6_single 50 = .ok (.invokevirtual 79, 3) := by decide +kernel
theorem dX6_single_53 : decode cX6_single 53 = .ok (.ifCond .eq 13, 3) := by decide +kernel
theorem dX6_single_56 : decode cX6_single 56 = .ok (.aload_n 0, 1) := by decide +kernel
theorem dX6_single_57 : decode cX6_single 57 = .ok (.iload_n 1, 1) := by decide +kernel
theorem dX6_single_58 : decode cX6_single 58 = .ok (.iconst 1, 1) := by decide +kernel
theorem dX6_single_59 : decode cX6_single 59 = .ok (.iadd, 1) := by decide +kernel
theorem dX6_single_60 : decode cX6_single 60 = .ok (.invokevirtual 276, 3) := by decide +kernel
theorem dX6_single_63 : decode cX6_single 63 = .ok (.ifCond .ne 5, 3) := by decide +kernel
theorem dX6_single_66 : decode cX6_single 66 = .ok (.iconst 0, 1) := by decide +kernel
theorem dX6_single_67 : decode cX6_single 67 = .ok (.ireturn, 1) := by decide +kernel
theorem dX6_single_68 : decode cX6_single 68 = .ok (.aload_n 0, 1) := by decide +kernel
theorem dX6_single_69 : decode cX6_single 69 = .ok (.getfield 34, 3) := by decide +kernel
theorem dX6_single_72 : decode cX6_single 72 = .ok (.getfield 193, 3) := by decide +kernel
theorem dX6_single_75 : decode cX6_single 75 = .ok (.getstatic 282, 3) := by decide +kernel
theorem dX6_single_78 : decode cX6_single 78 = .ok (.iconst 0, 1) := by decide +kernel
theorem dX6_single_79 : decode cX6_single 79 = .ok (.invokevirtual 273, 3) := by decide +kernel
theorem dX6_single_82 : decode cX6_single 82 = .ok (.iconst 1, 1) := by decide +kernel
theorem dX6_single_83 : decode cX6_single 83 = .ok (.ireturn, 1) := by decide +kernel
theorem dX6_single_84 : decode cX6_single 84 = .ok (.iload_n 1, 1) := by decide +kernel
theorem dX6_single_85 : decode cX6_single 85 = .ok (.bipush 8, 2) := by decide +kernel
theorem dX6_single_87 : decode cX6_single 87 = .ok (.if_icmp .ge 37, 3) := by decide +kernel
theorem dX6_single_90 : decode cX6_single 90 = .ok (.aload_n 0, 1) := by decide +kernel
theorem dX6_single_91 : decode cX6_single 91 = .ok (.getstatic 285, 3) := by decide +kernel
theorem dX6_single_94 : decode cX6_single 94 = .ok (.invokevirtual 79, 3) := by decide +kernel
theorem dX6_single_97 : decode cX6_single 97 = .ok (.ifCond .eq 27, 3) := by decide +kernel
theorem dX6_single_100 : decode cX6_single 100 = .ok (.aload_n 0, 1) := by decide +kernel
theorem dX6_single_101 : decode cX6_single 101 = .ok (.iload_n 1, 1) := by decide +kernel
theorem dX6_single_102 : decode cX6_single 102 = .ok (.iconst 1, 1) := by decide +kernel
theorem dX6_single_103 : decode cX6_single 103 = .ok (.iadd, 1) := by decide +kernel
theorem dX6_single_104 : decode cX6_single 104 = .ok (.invokevirtual 208, 3) := by decide +kernel
theorem dX6_single_107 : decode cX6_single 107 = .ok (.ifCond .eq 17, 3) := by decide +kernel
theorem dX6_single_110 : decode cX6_single 110 = .ok (.aload_n 0, 1) := by decide +kernel
theorem dX6_single_111 : decode cX6_single 111 = .ok (.getstatic 288, 3) := by decide +kernel
theorem dX6_single_114 : decode cX6_single 114 = .ok (.invokevirtual 79, 3) := by decide +kernel
theorem dX6_single_117 : decode cX6_single 117 = .ok (.ifCond .eq 7, 3) := by decide +kernel
theorem dX6_single_120 : decode cX6_single 120 = .ok (.iconst 1, 1) := by decide +kernel
theorem dX6_single_121 : decode cX6_single 121 = .ok (.goto 4, 3) := by decide +kernel
theorem dX6_single_124 : decode cX6_single 124 = .ok (.iconst 0, 1) := by decide +kernel
theorem dX6_single_125 : decode cX6_single 125 = .ok (.ireturn, 1) := by decide +kernel
theorem dX6_single_126 : decode cX6_single 126 = .ok (.aload_n 0, 1) := by decide +kernel
theorem dX6_single_127 : decode cX6_single 127 = .ok (.getstatic 291, 3) := by decide +kernel
theorem dX6_single_130 : decode cX6_single 130 = .ok (.invokevirtual 79, 3) := by decide +kernel
theorem dX6_single_133 : decode cX6_single 133 = .ok (.ifCond .eq 14, 3) := by decide +kernel
theorem dX6_single_136 : decode cX6_single 136 = .ok (.aload_n 0, 1) := by decide +kernel
theorem dX6_single_137 : decode cX6_single 137 = .ok (.aload_n 0, 1) := by decide +kernel
theorem dX6_single_138 : decode cX6_single 138 = .ok (.getfield 24, 3) := by decide +kernel
theorem dX6_single_141 : decode cX6_single 141 = .ok (.invokevirtual 179, 3) := by decide +kernel
theorem dX6_single_144 : decode cX6_single 144 = .ok (.ifCond .ne 5, 3) := by decide +kernel
theorem dX6_single_147 : decode cX6_single 147 = .ok (.iconst 0, 1) := by decide +kernel
theorem dX6_single_148 : decode cX6_single 148 = .ok (.ireturn, 1) := by decide +kernel
theorem dX6_single_149 : decode cX6_single 149 = .ok (.aload_n 0, 1) := by decide +kernel
theorem dX6_single_150 : decode cX6_single 150 = .ok (.getfield 34, 3) := by decide +kernel
theorem dX6_single_153 : decode cX6_single 153 = .ok (.getfield 193, 3) := by decide +kernel
theorem dX6_single_156 : decode cX6_single 156 = .ok (.getstatic 291, 3) := by decide +kernel
theorem dX6_single_159 : decode cX6_single 159 = .ok (.aload_n 0, 1) := by decide +kernel
theorem dX6_single_160 : decode cX6_single 160 = .ok (.getfield 112, 3) := by decide +kernel
theorem dX6_single_163 : decode cX6_single 163 = .ok (.invokevirtual 273, 3) := by decide +kernel
theorem dX6_single_166 : decode cX6_single 166 = .ok (.iconst 1, 1) := by decide +kernel
theorem dX6_single_167 : decode cX6_single 167 = .ok (.ireturn, 1) := by decide +kernel
theorem dX6_single_168 : decode cX6_single 168 = .ok (.aload_n 0, 1) := by decide +kernel
theorem dX6_single_169 : decode cX6_single 169 = .ok (.iload_n 1, 1) := by decide +kernel
theorem dX6_single_170 : decode cX6_single 170 = .ok (.invokevirtual 244, 3) := by decide +kernel
theorem dX6_single_173 : decode cX6_single 173 = .ok (.ifCond .eq 15, 3) := by decide +kernel
theorem dX6_single_176 : decode cX6_single 176 = .ok (.aload_n 0, 1) := by decide +kernel
theorem dX6_single_177 : decode cX6_single 177 = .ok (.iload_n 1, 1) := by decide +kernel
theorem dX6_single_178 : decode cX6_single 178 = .ok (.invokevirtual 294, 3) := by decide +kernel
theorem dX6_single_181 : decode cX6_single 181 = .ok (.ifCond .eq 7, 3) := by decide +kernel
theorem dX6_single_184 : decode cX6_single 184 = .ok (.iconst 1, 1) := by decide +kernel
theorem dX6_single_185 : decode cX6_single 185 = .ok (.goto 4, 3) := by decide +kernel
theorem dX6_single_188 : decode cX6_single 188 = .ok (.iconst 0, 1) := by decide +kernel
theorem dX6_single_189 : decode cX6_single 189 = .ok (.ireturn, 1) := by decide +kernel
set_option maxRecDepth 20000 in
theorem ggX6_single_X6_sign : GoodIn wsX6_single wsX6_sign := goodIn_r _ [14, 15, 16, 17, 101, 102, 103, 104, 105, 106, 107, 108, 109, 127, 128, 129, 130, 131, 132] (by decide +kernel) (by decide +kernel)
set_option maxRecDepth 20000 in
theorem gX6_single_X6_sign : GoodIn wsX6_single (wsV RX6 43 RX6 yX6_sign wsX6_sign) := goodIn_app (goodIn_of _ (by decide +kernel)) ggX6_single_X6_sign
set_option maxRecDepth 20000 in
theorem ggX6_single_Jx29ce0_ordinal_8abf5 : GoodIn wsX6_single wsJx29ce0_ordinal_8abf5 := goodIn_r _ [23, 24] (by decide +kernel) (by decide +kernel)
set_option maxRecDepth 20000 in
theorem gX6_single_Jx29ce0_ordinal_8abf5_u59X8 : GoodIn wsX6_single (va_wsU RX6 59 RX8 "java/lang/Enum" ⟨"TideLots$Sign", "ordinal", "()I"⟩ yJx29ce0_ordinal_8abf5 wsJx29ce0_ordinal_8abf5) := goodIn_app (goodIn_of _ (by decide +kernel)) ggX6_single_Jx29ce0_ordinal_8abf5
set_option maxRecDepth 20000 in
theorem ggX6_single_X6_take : GoodIn wsX6_single wsX6_take := goodIn_r _ [28, 17, 15, 16, 101, 102, 103, 104, 105, 106, 107, 108, 109, 127, 128, 129, 130, 131, 132] (by decide +kernel) (by decide +kernel)
set_option maxRecDepth 20000 in
theorem gX6_single_X6_take : GoodIn wsX6_single (wsV RX6 79 RX6 yX6_take wsX6_take) := goodIn_app (goodIn_of _ (by decide +kernel)) ggX6_single_X6_take
set_option maxRecDepth 20000 in
theorem ggX6_single_X6_single : GoodIn wsX6_single wsX6_single := goodIn_r _ [0, 1, 2, 3, 4, 5, 6, 7, 8, 9, 10, 11, 12, 13, 14, 15, 16, 17, 18, 19, 20, 21, 22, 23, 24, 25, 26, 27, 28, 29, 30, 31, 32, 33, 34, 35, 36, 37, 38, 39, 40, 41, 42, 43, 44, 45, 46, 47, 48, 49, 50, 51, 52, 53, 54, 55, 56, 57, 58, 59, 60, 61, 62, 63, 64, 65, 66, 67, 68, 69, 70, 71, 72, 73, 74, 75, 76, 77, 78, 79, 80, 81, 82, 83, 84, 85, 86, 87, 88, 89, 90, 91, 92, 93, 94, 95, 96, 97, 98, 99, 100, 101, 102, 103, 104, 105, 106, 107, 108, 109, 110, 111, 112, 113, 114, 115, 116, 117, 118, 119, 120, 121, 122, 123, 124, 125, 126, 127, 128, 129, 130, 131, 132, 133, 134, 135, 136, 137, 138] (by decide +kernel) (by decide +kernel)
set_option maxRecDepth 20000 in
theorem gX6_single_X6_single : GoodIn wsX6_single (wsV RX6 276 RX6 yX6_single wsX6_single) := goodIn_app (goodIn_of _ (by decide +kernel)) ggX6_single_X6_single
set_option maxRecDepth 20000 in
theorem ggX6_single_X9_add : GoodIn wsX6_single wsX9_add := goodIn_r _ [36, 37, 38, 39, 133, 134, 135, 136] (by decide +kernel) (by decide +kernel)
set_option maxRecDepth 20000 in
theorem gX6_single_X9_add : GoodIn wsX6_single (wsV RX6 273 RX9 yX9_add wsX9_add) := goodIn_app (goodIn_of _ (by decide +kernel)) ggX6_single_X9_add
set_option maxRecDepth 20000 in
theorem ggX6_single_X6_test : GoodIn wsX6_single wsX6_test := goodIn_r _ [96, 97, 3, 4, 98, 99, 100, 13, 25, 26, 27, 28, 17, 15, 16, 32, 33, 34, 35, 36, 37, 38, 39, 94, 95, 29, 30, 31, 0, 1, 2, 5, 6, 7, 8, 9, 10, 11, 12, 14, 18, 19, 20, 21, 22, 23, 24, 40, 41, 42, 43, 44, 45, 46, 47, 48, 49, 50, 51, 52, 53, 54, 55, 56, 57, 58, 59, 60, 61, 62, 63, 64, 65, 66, 67, 68, 69, 70, 71, 72, 73, 74, 75, 76, 77, 78, 79, 80, 81, 82, 83, 84, 85, 86, 87, 88, 89, 90, 91, 92, 93, 101, 102, 103, 104, 105, 106, 107, 108, 109, 110, 111, 112, 113, 114, 115, 116, 117, 118, 119, 120, 121, 122, 123, 124, 125, 126, 127, 128, 129, 130, 131, 132, 133, 134, 135, 136, 137, 138] (by decide +kernel) (by decide +kernel)
set_option maxRecDepth 20000 in
theorem gX6_single_X6_test : GoodIn wsX6_single (wsV RX6 208 RX6 yX6_test wsX6_test) := goodIn_app (goodIn_of _ (by decide +kernel)) ggX6_single_X6_test
set_option maxRecDepth 20000 in
theorem ggX6_single_X6_takeKnown : GoodIn wsX6_single wsX6_takeKnown := goodIn_r _ [46, 47, 15, 48, 17, 9, 10, 11, 12, 13, 14, 16, 49, 50, 51, 52, 53, 54, 55, 56, 57, 58, 59, 60, 61, 62, 25, 26, 27, 28, 101, 102, 103, 104, 105, 106, 107, 108, 109, 127, 128, 129, 130, 131, 132, 137, 138] (by decide +kernel) (by decide +kernel)
set_option maxRecDepth 20000 in
theorem gX6_single_X6_takeKnown : GoodIn wsX6_single (wsV RX6 179 RX6 yX6_takeKnown wsX6_takeKnown) := goodIn_app (goodIn_of _ (by decide +kernel)) ggX6_single_X6_takeKnown
set_option maxRecDepth 20000 in
theorem ggX6_single_X6_sum : GoodIn wsX6_single wsX6_sum := goodIn_r _ [66, 67, 68, 3, 4, 69, 70, 71, 13, 10, 11, 12, 14, 15, 16, 17, 25, 26, 27, 28, 32, 33, 34, 35, 36, 37, 38, 39, 72, 73, 74, 75, 76, 77, 78, 1, 79, 8, 80, 81, 82, 83, 84, 9, 18, 19, 20, 21, 22, 23, 24, 85, 86, 87, 88, 89, 48, 56, 57, 58, 59, 60, 61, 62, 43, 44, 45, 46, 47, 49, 50, 51, 52, 53, 54, 55, 63, 64, 65, 101, 102, 103, 104, 105, 106, 107, 108, 109, 110, 111, 112, 113, 114, 115, 116, 117, 118, 119, 120, 121, 122, 123, 124, 125, 126, 127, 128, 129, 130, 131, 132, 133, 134, 135, 136, 137, 138] (by decide +kernel) (by decide +kernel)
set_option maxRecDepth 20000 in
theorem gX6_single_X6_sum : GoodIn wsX6_single (wsV RX6 244 RX6 yX6_sum wsX6_sum) := goodIn_app (goodIn_of _ (by decide +kernel)) ggX6_single_X6_sum
set_option maxRecDepth 20000 in
theorem ggX6_single_X6_comparedSum : GoodIn wsX6_single wsX6_comparedSum := goodIn_r _ [93, 1, 3, 4, 10, 11, 12, 13, 14, 15, 16, 17, 18, 19, 20, 21, 22, 23, 24, 25, 26, 27, 28, 63, 64, 65, 66, 67, 68, 69, 70, 71, 32, 33, 34, 35, 36, 37, 38, 39, 72, 73, 74, 75, 76, 77, 78, 79, 8, 80, 81, 82, 83, 84, 9, 85, 86, 87, 88, 89, 48, 56, 57, 58, 59, 60, 61, 62, 43, 44, 45, 46, 47, 49, 50, 51, 52, 53, 54, 55, 101, 102, 103, 104, 105, 106, 107, 108, 109, 110, 111, 112, 113, 114, 115, 116, 117, 118, 119, 120, 121, 122, 123, 124, 125, 126, 127, 128, 129, 130, 131, 132, 133, 134, 135, 136, 137, 138] (by decide +kernel) (by decide +kernel)
set_option maxRecDepth 20000 in
theorem gX6_single_X6_comparedSum : GoodIn wsX6_single (wsV RX6 294 RX6 yX6_comparedSum wsX6_comparedSum) := goodIn_app (goodIn_of _ (by decide +kernel)) ggX6_single_X6_comparedSum
theorem k_X6_single_f53 : Cond.fieldLink RX6 53 "TideLots$1" "$SwitchMap$TideLots$Sign" "[I" ∈ wsX6_single := by decide +kernel
theorem k_X6_single_f282 : Cond.fieldLink RX6 282 "TideLots$Sign" "NOT" "LTideLots$Sign;" ∈ wsX6_single := by decide +kernel
theorem k_X6_single_f34 : Cond.fieldLink RX6 34 "TideLots$Reader" "built" "LTideLots$Shore;" ∈ wsX6_single := by decide +kernel
theorem i_X6_single_X6 : ∀ w ∈ u_ws RX6 TX6 9, w ∈ wsX6_single := by decide +kernel
theorem k_X6_single_f193 : Cond.fieldLink RX6 193 "TideLots$Shore" "sums" "LTideLots$Sums;" ∈ wsX6_single := by decide +kernel
theorem i_X6_single_X7 : ∀ w ∈ u_ws RX7 TX7 17, w ∈ wsX6_single := by decide +kernel
theorem k_X6_single_f285 : Cond.fieldLink RX6 285 "TideLots$Sign" "OPEN_TEST" "LTideLots$Sign;" ∈ wsX6_single := by decide +kernel
theorem k_X6_single_f288 : Cond.fieldLink RX6 288 "TideLots$Sign" "CLOSE_TEST" "LTideLots$Sign;" ∈ wsX6_single := by decide +kernel
theorem k_X6_single_f291 : Cond.fieldLink RX6 291 "TideLots$Sign" "CHEATS" "LTideLots$Sign;" ∈ wsX6_single := by decide +kernel
theorem k_X6_single_f24 : Cond.fieldLink RX6 24 "TideLots$Reader" "fisherNames" "LTideLots$Names;" ∈ wsX6_single := by decide +kernel
theorem k_X6_single_f112 : Cond.fieldLink RX6 112 "TideLots$Reader" "number" "I" ∈ wsX6_single := by decide +kernel
noncomputable def b_X6_single_189 (Z : Nat → Nat) (F : Nat → gMem → Nat → Int32 → Option (Int32 × gMem)) (M : gMem) (s0 : Int32) : Option (Int32 × gMem) :=
  ck (s0 = 0 ∨ s0 = 1) <| some (s0, M)
noncomputable def b_X6_single_188 (Z : Nat → Nat) (F : Nat → gMem → Nat → Int32 → Option (Int32 × gMem)) (M : gMem)  : Option (Int32 × gMem) :=
  b_X6_single_189 Z F M ((0 : Int32))
noncomputable def b_X6_single_147 (Z : Nat → Nat) (F : Nat → gMem → Nat → Int32 → Option (Int32 × gMem)) (M : gMem)  : Option (Int32 × gMem) :=
  some ((0 : Int32), M)
noncomputable def b_X6_single_125 (Z : Nat → Nat) (F : Nat → gMem → Nat → Int32 → Option (Int32 × gMem)) (M : gMem) (s0 : Int32) : Option (Int32 × gMem) :=
  ck (s0 = 0 ∨ s0 = 1) <| some (s0, M)
noncomputable def b_X6_single_124 (Z : Nat → Nat) (F : Nat → gMem → Nat → Int32 → Option (Int32 × gMem)) (M : gMem)  : Option (Int32 × gMem) :=
  b_X6_single_125 Z F M ((0 : Int32))
noncomputable def b_X6_single_66 (Z : Nat → Nat) (F : Nat → gMem → Nat → Int32 → Option (Int32 × gMem)) (M : gMem)  : Option (Int32 × gMem) :=
  some ((0 : Int32), M)
noncomputable def b_X6_single_0 (Z : Nat → Nat) (F : Nat → gMem → Nat → Int32 → Option (Int32 × gMem)) (M : gMem) (x0 : Nat) (x1 : Int32) : Option (Int32 × gMem) :=
  ck (mT M x0 = 6) <| bd (f_X6_sign M x0) fun r3 M3 => dr (ordZ Z r3) fun o5 => (if (gSw o5) = (5 : Int32) then (if (8 : Int32) ≤ x1 then b_X6_single_66 Z F M3  else ck (mT M3 x0 = 6) <| bd (f_X6_take M3 x0 ((some (Z 20)))) fun r7 M7 => (if r7 = 0 then b_X6_single_66 Z F M7  else ck (mT M7 x0 = 6) <| bd (F 2 M7 x0 ((x1 + (1 : Int32)))) fun r9 M9 => (if r9 = 0 then b_X6_single_66 Z F M9  else ck (mT M9 x0 = 6) <| dr ((mR M9 x0 2)) fun a12 => ck (mT M9 a12 = 7) <| dr ((mR M9 a12 10)) fun a15 => ck (mT M9 a15 = 8) <| bd (f_X9_add Z M9 a15 ((some (Z 20))) ((0 : Int32))) fun _ M14 => some ((1 : Int32), M14)))) else (if (gSw o5) = (6 : Int32) then (if (8 : Int32) ≤ x1 then b_X6_single_124 Z F M3  else ck (mT M3 x0 = 6) <| bd (f_X6_take M3 x0 ((some (Z 27)))) fun r18 M18 => (if r18 = 0 then b_X6_single_124 Z F M18  else ck (mT M18 x0 = 6) <| bd (F 0 M18 x0 ((x1 + (1 : Int32)))) fun r20 M20 => (if r20 = 0 then b_X6_single_124 Z F M20  else ck (mT M20 x0 = 6) <| bd (f_X6_take M20 x0 ((some (Z 28)))) fun r22 M22 => (if r22 = 0 then b_X6_single_124 Z F M22  else b_X6_single_125 Z F M22 ((1 : Int32)))))) else (if (gSw o5) = (7 : Int32) then ck (mT M3 x0 = 6) <| bd (f_X6_take M3 x0 ((some (Z 19)))) fun r25 M25 => (if r25 = 0 then b_X6_single_147 Z F M25  else ck (mT M25 x0 = 6) <| bd (f_X6_takeKnown Z M25 x0 ((mR M25 x0 4))) fun r28 M28 => (if r28 = 0 then b_X6_single_147 Z F M28  else ck (mT M28 x0 = 6) <| dr ((mR M28 x0 2)) fun a30 => ck (mT M28 a30 = 7) <| dr ((mR M28 a30 10)) fun a33 => ck (mT M28 a33 = 8) <| bd (f_X9_add Z M28 a33 ((some (Z 19))) ((mI M28 x0 8))) fun _ M32 => some ((1 : Int32), M32))) else ck (mT M3 x0 = 6) <| bd (F 4 M3 x0 x1) fun r35 M35 => (if r35 = 0 then b_X6_single_188 Z F M35  else ck (mT M35 x0 = 6) <| bd (F 3 M35 x0 x1) fun r37 M37 => (if r37 = 0 then b_X6_single_188 Z F M37  else b_X6_single_189 Z F M37 ((1 : Int32)))))))
noncomputable def fr_X6_single (Z : Nat → Nat) (F : Nat → gMem → Nat → Int32 → Option (Int32 × gMem)) (M : gMem) (x0 : Nat) (x1 : Int32) : Option (Int32 × gMem) :=
  b_X6_single_0 Z F M x0 x1
set_option maxHeartbeats 4000000 in
set_option maxRecDepth 100000 in
theorem t_X6_single_189 (X : gX p s m args meth c D cy B (gSt Z B H0) RX6 cX6_single wsX6_single 3) (hr : meth.sig.returnType = (some .boolean)) {n0 : Nat} {F : Nat → gMem → Nat → Int32 → Option (Int32 × gMem)} (hF : hX6R l D cy B H0 Z n0 F) {Q : State → Prop} : ∀ (M : gMem) (s0 : Int32) (z : Int32 × gMem), b_X6_single_189 Z F M s0 = some z → (fun (r : Int32 × gMem) => Q = gMQ below D cy B H0 args s 0 0 (some (vI r.1)) r.2) z → gGo p l e (rX6R (n0 + 1)) s m args below meth c D cy B H0 3 0 0 Q 189 [] [vI s0] M := by
  intro M s0 z hf hK
  unfold b_X6_single_189 at hf
  obtain ⟨hg1, hf⟩ := ck_e hf
  cases hf
  refine g_eqQ hK ?_
  exact g_zret X hr (gnb hg1) dX6_single_189
set_option maxHeartbeats 4000000 in
set_option maxRecDepth 100000 in
theorem t_X6_single_188 (X : gX p s m args meth c D cy B (gSt Z B H0) RX6 cX6_single wsX6_single 3) (hr : meth.sig.returnType = (some .boolean)) {n0 : Nat} {F : Nat → gMem → Nat → Int32 → Option (Int32 × gMem)} (hF : hX6R l D cy B H0 Z n0 F) {Q : State → Prop} : ∀ (M : gMem)  (z : Int32 × gMem), b_X6_single_188 Z F M  = some z → (fun (r : Int32 × gMem) => Q = gMQ below D cy B H0 args s 0 0 (some (vI r.1)) r.2) z → gGo p l e (rX6R (n0 + 1)) s m args below meth c D cy B H0 3 0 0 Q 188 [] [] M := by
  intro M  z hf hK
  unfold b_X6_single_188 at hf
  refine g_iconst (v := (0 : Int32)) X dX6_single_188 (by decide) ?_
  refine g_sub (lvsub_of _ _ [] rfl) ?_
  exact t_X6_single_189 X hr hF _ _ _ hf hK
set_option maxHeartbeats 4000000 in
set_option maxRecDepth 100000 in
theorem t_X6_single_147 (X : gX p s m args meth c D cy B (gSt Z B H0) RX6 cX6_single wsX6_single 3) (hr : meth.sig.returnType = (some .boolean)) {n0 : Nat} {F : Nat → gMem → Nat → Int32 → Option (Int32 × gMem)} (hF : hX6R l D cy B H0 Z n0 F) {Q : State → Prop} : ∀ (M : gMem)  (z : Int32 × gMem), b_X6_single_147 Z F M  = some z → (fun (r : Int32 × gMem) => Q = gMQ below D cy B H0 args s 0 0 (some (vI r.1)) r.2) z → gGo p l e (rX6R (n0 + 1)) s m args below meth c D cy B H0 3 0 0 Q 147 [] [] M := by
  intro M  z hf hK
  unfold b_X6_single_147 at hf
  refine g_iconst (v := (0 : Int32)) X dX6_single_147 (by decide) ?_
  cases hf
  refine g_eqQ hK ?_
  exact g_zret X hr (gnb (Or.inl rfl)) dX6_single_148
set_option maxHeartbeats 4000000 in
set_option maxRecDepth 100000 in
theorem t_X6_single_125 (X : gX p s m args meth c D cy B (gSt Z B H0) RX6 cX6_single wsX6_single 3) (hr : meth.sig.returnType = (some .boolean)) {n0 : Nat} {F : Nat → gMem → Nat → Int32 → Option (Int32 × gMem)} (hF : hX6R l D cy B H0 Z n0 F) {Q : State → Prop} : ∀ (M : gMem) (s0 : Int32) (z : Int32 × gMem), b_X6_single_125 Z F M s0 = some z → (fun (r : Int32 × gMem) => Q = gMQ below D cy B H0 args s 0 0 (some (vI r.1)) r.2) z → gGo p l e (rX6R (n0 + 1)) s m args below meth c D cy B H0 3 0 0 Q 125 [] [vI s0] M := by
  intro M s0 z hf hK
  unfold b_X6_single_125 at hf
  obtain ⟨hg2, hf⟩ := ck_e hf
  cases hf
  refine g_eqQ hK ?_
  exact g_zret X hr (gnb hg2) dX6_single_125
set_option maxHeartbeats 4000000 in
set_option maxRecDepth 100000 in
theorem t_X6_single_124 (X : gX p s m args meth c D cy B (gSt Z B H0) RX6 cX6_single wsX6_single 3) (hr : meth.sig.returnType = (some .boolean)) {n0 : Nat} {F : Nat → gMem → Nat → Int32 → Option (Int32 × gMem)} (hF : hX6R l D cy B H0 Z n0 F) {Q : State → Prop} : ∀ (M : gMem)  (z : Int32 × gMem), b_X6_single_124 Z F M  = some z → (fun (r : Int32 × gMem) => Q = gMQ below D cy B H0 args s 0 0 (some (vI r.1)) r.2) z → gGo p l e (rX6R (n0 + 1)) s m args below meth c D cy B H0 3 0 0 Q 124 [] [] M := by
  intro M  z hf hK
  unfold b_X6_single_124 at hf
  refine g_iconst (v := (0 : Int32)) X dX6_single_124 (by decide) ?_
  refine g_sub (lvsub_of _ _ [] rfl) ?_
  exact t_X6_single_125 X hr hF _ _ _ hf hK
set_option maxHeartbeats 4000000 in
set_option maxRecDepth 100000 in
theorem t_X6_single_66 (X : gX p s m args meth c D cy B (gSt Z B H0) RX6 cX6_single wsX6_single 3) (hr : meth.sig.returnType = (some .boolean)) {n0 : Nat} {F : Nat → gMem → Nat → Int32 → Option (Int32 × gMem)} (hF : hX6R l D cy B H0 Z n0 F) {Q : State → Prop} : ∀ (M : gMem)  (z : Int32 × gMem), b_X6_single_66 Z F M  = some z → (fun (r : Int32 × gMem) => Q = gMQ below D cy B H0 args s 0 0 (some (vI r.1)) r.2) z → gGo p l e (rX6R (n0 + 1)) s m args below meth c D cy B H0 3 0 0 Q 66 [] [] M := by
  intro M  z hf hK
  unfold b_X6_single_66 at hf
  refine g_iconst (v := (0 : Int32)) X dX6_single_66 (by decide) ?_
  cases hf
  refine g_eqQ hK ?_
  exact g_zret X hr (gnb (Or.inl rfl)) dX6_single_67
set_option maxHeartbeats 4000000 in
set_option maxRecDepth 100000 in
theorem t_X6_single_0 (X : gX p s m args meth c D cy B (gSt Z B H0) RX6 cX6_single wsX6_single 3) (hr : meth.sig.returnType = (some .boolean)) {n0 : Nat} {F : Nat → gMem → Nat → Int32 → Option (Int32 × gMem)} (hF : hX6R l D cy B H0 Z n0 F) {Q : State → Prop} : ∀ (M : gMem) (x0 : Nat) (x1 : Int32) (z : Int32 × gMem), b_X6_single_0 Z F M x0 x1 = some z → (fun (r : Int32 × gMem) => Q = gMQ below D cy B H0 args s 0 0 (some (vI r.1)) r.2) z → gGo p l e (rX6R (n0 + 1)) s m args below meth c D cy B H0 3 0 0 Q 0 [(0, vR (some x0)), (1, vI x1)] [] M := by
  intro M x0 x1 z hf hK
  unfold b_X6_single_0 at hf
  refine g_aload_n X dX6_single_0 rfl rfl ?_
  obtain ⟨hT4, hf⟩ := ck_e hf
  obtain ⟨r3, M3, hq3, hf⟩ := bd_e hf
  refine g_callV (ci := 5) (b := x0) (As := []) (st := []) (v := some (vR r3)) (M1 := M3) X (m_X6_sign l hq3) (cwV 0 X.2.2.1 gX6_single_X6_sign rfl rfl rfl (by decide +kernel) ⟨rX6R_f (Nat.le_of_ble_eq_true rfl), rX6R_l (Nat.le_of_ble_eq_true rfl)⟩) rfl rfl rfl hT4 (by decide) rfl (Nat.le_of_ble_eq_true rfl) dX6_single_1 ⟨Nat.zero_le _, Nat.zero_le _⟩ ?_
  refine g_astore_n (lv' := [(2, vR r3), (0, vR (some x0)), (1, vI x1)]) X dX6_single_4 rfl (by decide) rfl ?_
  refine g_gets (w := vR (some (Z 46))) X (gSt_SW X) k_X6_single_f53 rfl dX6_single_5 ?_
  refine g_aload_n X dX6_single_8 rfl rfl ?_
  obtain ⟨o5, ho5, hf⟩ := dr_e hf
  refine g_callU (C := RX8) (owner := "java/lang/Enum") (As := []) (st := [vR (some (Z 46))]) (v := some (vI (nI o5))) X (m_ordinal l (ordZ_lt ho5)) (va_cwU 0 X.2.2.1 gX6_single_Jx29ce0_ordinal_8abf5_u59X8 rfl rfl rfl (by decide +kernel) (by decide +kernel) ⟨rX6R_f (Nat.le_of_ble_eq_true rfl), rX6R_l (Nat.le_of_ble_eq_true rfl)⟩) rfl rfl (ordZ_eq ho5) (fun H hW => gO_recv (gSt_O X (ordZ_lt ho5)) hW) (Nat.le_of_ble_eq_true rfl) dX6_single_9 ⟨Nat.zero_le _, Nat.zero_le _⟩ ?_
  refine g_ialdT (w := gSw o5) X (gSt_SWt X) rfl (gord_nn (ordZ_lt ho5)) (gord_lt (ordZ_lt ho5)) (gord_sw (ordZ_lt ho5)) dX6_single_12 ?_
  by_cases hs6 : (gSw o5) = (5 : Int32)
  · have hf := ife_t hs6 hf
    refine g_tabin (tgt := 40) X dX6_single_13 hs6 (by decide) (by decide) rfl (by decide) ?_
    refine g_iload_n X dX6_single_40 rfl rfl ?_
    refine g_bipush (v := (8 : Int32)) X dX6_single_41 (by decide) ?_
    refine g_icmp_ge (tgt := 66) X dX6_single_43 (by decide) (fun hc => ?_) (fun hc => ?_)
    · have hf := ife_t hc hf
      refine g_sub (lvsub_of _ _ [] rfl) ?_
      exact t_X6_single_66 X hr hF _  _ hf hK
    · have hf := ife_f hc hf
      refine g_aload_n X dX6_single_46 rfl rfl ?_
      refine g_gets (w := vR (some (Z 20))) X (gSt_E X 20 (by decide)) k_X6_single_f282 rfl dX6_single_47 ?_
      obtain ⟨hT8, hf⟩ := ck_e hf
      obtain ⟨r7, M7, hq7, hf⟩ := bd_e hf
      refine g_callV (ci := 5) (b := x0) (As := [vR (some (Z 20))]) (st := []) (v := some (vI r7)) (M1 := M7) X (m_X6_take l hq7) (cwV 1 X.2.2.1 gX6_single_X6_take rfl rfl rfl (by decide +kernel) ⟨rX6R_f (Nat.le_of_ble_eq_true rfl), rX6R_l (Nat.le_of_ble_eq_true rfl)⟩) rfl rfl rfl hT8 (by decide) rfl (Nat.le_of_ble_eq_true rfl) dX6_single_50 ⟨Nat.zero_le _, Nat.zero_le _⟩ ?_
      refine g_if_eq (tgt := 66) X dX6_single_53 (by decide) (fun hc => ?_) (fun hc => ?_)
      · have hf := ife_t hc hf
        refine g_sub (lvsub_of _ _ [] rfl) ?_
        exact t_X6_single_66 X hr hF _  _ hf hK
      · have hf := ife_f hc hf
        refine g_aload_n X dX6_single_56 rfl rfl ?_
        refine g_iload_n X dX6_single_57 rfl rfl ?_
        refine g_iconst (v := (1 : Int32)) X dX6_single_58 (by decide) ?_
        refine g_iadd X dX6_single_59 ?_
        obtain ⟨hT10, hf⟩ := ck_e hf
        obtain ⟨r9, M9, hq9, hf⟩ := bd_e hf
        refine g_callV (ci := 5) (b := x0) (As := [vI (x1 + (1 : Int32))]) (st := []) (v := some (vI r9)) (M1 := M9) X (hF.2.2.1 _ _ _ _ _ hq9) (cwV 1 X.2.2.1 gX6_single_X6_single rfl rfl rfl (by decide +kernel) ⟨rX6R_rf, rX6R_rl (Nat.le_of_ble_eq_true rfl)⟩) rfl rfl rfl hT10 (by decide) rfl (Nat.le_of_ble_eq_true rfl) dX6_single_60 ⟨Nat.zero_le _, Nat.zero_le _⟩ ?_
        refine g_if_ne (tgt := 68) X dX6_single_63 (by decide) (fun hc => ?_) (fun hc => ?_)
        · have hf := ife_f hc hf
          refine g_aload_n X dX6_single_68 rfl rfl ?_
          obtain ⟨hT11, hf⟩ := ck_e hf
          refine g_get (ci := 5) (v := vR (mR M9 x0 2)) 2 X cdX6 i_X6_single_X6 (by decide) k_X6_single_f34 rfl dX6_single_69 rfl hT11 rfl ?_
          obtain ⟨a12, ha12, hf⟩ := dr_e hf
          obtain ⟨hT13, hf⟩ := ck_e hf
          refine g_get (ci := 6) (v := vR (mR M9 a12 10)) 10 X cdX7 i_X6_single_X7 (by decide) k_X6_single_f193 rfl dX6_single_72 ha12 hT13 rfl ?_
          refine g_gets (w := vR (some (Z 20))) X (gSt_E X 20 (by decide)) k_X6_single_f282 rfl dX6_single_75 ?_
          refine g_iconst (v := (0 : Int32)) X dX6_single_78 (by decide) ?_
          obtain ⟨a15, ha15, hf⟩ := dr_e hf
          obtain ⟨hT16, hf⟩ := ck_e hf
          obtain ⟨r14, M14, hq14, hf⟩ := bd_e hf
          refine g_callV (ci := 7) (b := a15) (As := [vR (some (Z 20)), vI (0 : Int32)]) (st := []) (v := none) (M1 := M14) X (m_X9_add l hq14) (cwV 2 X.2.2.1 gX6_single_X9_add rfl rfl rfl (by decide +kernel) ⟨rX6R_f (Nat.le_of_ble_eq_true rfl), rX6R_l (Nat.le_of_ble_eq_true rfl)⟩) rfl rfl ha15 hT16 (by decide) rfl (Nat.le_of_ble_eq_true rfl) dX6_single_79 ⟨Nat.zero_le _, Nat.zero_le _⟩ ?_
          refine g_iconst (v := (1 : Int32)) X dX6_single_82 (by decide) ?_
          cases hf
          refine g_eqQ hK ?_
          exact g_zret X hr (gnb (Or.inr rfl)) dX6_single_83
        · have hf := ife_t hc hf
          refine g_sub (lvsub_of _ _ [] rfl) ?_
          exact t_X6_single_66 X hr hF _  _ hf hK
  · have hf := ife_f hs6 hf
    by_cases hs17 : (gSw o5) = (6 : Int32)
    · have hf := ife_t hs17 hf
      refine g_tabin (tgt := 84) X dX6_single_13 hs17 (by decide) (by decide) rfl (by decide) ?_
      refine g_iload_n X dX6_single_84 rfl rfl ?_
      refine g_bipush (v := (8 : Int32)) X dX6_single_85 (by decide) ?_
      refine g_icmp_ge (tgt := 124) X dX6_single_87 (by decide) (fun hc => ?_) (fun hc => ?_)
      · have hf := ife_t hc hf
        refine g_sub (lvsub_of _ _ [] rfl) ?_
        exact t_X6_single_124 X hr hF _  _ hf hK
      · have hf := ife_f hc hf
        refine g_aload_n X dX6_single_90 rfl rfl ?_
        refine g_gets (w := vR (some (Z 27))) X (gSt_E X 27 (by decide)) k_X6_single_f285 rfl dX6_single_91 ?_
        obtain ⟨hT19, hf⟩ := ck_e hf
        obtain ⟨r18, M18, hq18, hf⟩ := bd_e hf
        refine g_callV (ci := 5) (b := x0) (As := [vR (some (Z 27))]) (st := []) (v := some (vI r18)) (M1 := M18) X (m_X6_take l hq18) (cwV 1 X.2.2.1 gX6_single_X6_take rfl rfl rfl (by decide +kernel) ⟨rX6R_f (Nat.le_of_ble_eq_true rfl), rX6R_l (Nat.le_of_ble_eq_true rfl)⟩) rfl rfl rfl hT19 (by decide) rfl (Nat.le_of_ble_eq_true rfl) dX6_single_94 ⟨Nat.zero_le _, Nat.zero_le _⟩ ?_
        refine g_if_eq (tgt := 124) X dX6_single_97 (by decide) (fun hc => ?_) (fun hc => ?_)
        · have hf := ife_t hc hf
          refine g_sub (lvsub_of _ _ [] rfl) ?_
          exact t_X6_single_124 X hr hF _  _ hf hK
        · have hf := ife_f hc hf
          refine g_aload_n X dX6_single_100 rfl rfl ?_
          refine g_iload_n X dX6_single_101 rfl rfl ?_
          refine g_iconst (v := (1 : Int32)) X dX6_single_102 (by decide) ?_
          refine g_iadd X dX6_single_103 ?_
          obtain ⟨hT21, hf⟩ := ck_e hf
          obtain ⟨r20, M20, hq20, hf⟩ := bd_e hf
          refine g_callV (ci := 5) (b := x0) (As := [vI (x1 + (1 : Int32))]) (st := []) (v := some (vI r20)) (M1 := M20) X (hF.1 _ _ _ _ _ hq20) (cwV 1 X.2.2.1 gX6_single_X6_test rfl rfl rfl (by decide +kernel) ⟨rX6R_rf, rX6R_rl (Nat.le_of_ble_eq_true rfl)⟩) rfl rfl rfl hT21 (by decide) rfl (Nat.le_of_ble_eq_true rfl) dX6_single_104 ⟨Nat.zero_le _, Nat.zero_le _⟩ ?_
          refine g_if_eq (tgt := 124) X dX6_single_107 (by decide) (fun hc => ?_) (fun hc => ?_)
          · have hf := ife_t hc hf
            refine g_sub (lvsub_of _ _ [] rfl) ?_
            exact t_X6_single_124 X hr hF _  _ hf hK
          · have hf := ife_f hc hf
            refine g_aload_n X dX6_single_110 rfl rfl ?_
            refine g_gets (w := vR (some (Z 28))) X (gSt_E X 28 (by decide)) k_X6_single_f288 rfl dX6_single_111 ?_
            obtain ⟨hT23, hf⟩ := ck_e hf
            obtain ⟨r22, M22, hq22, hf⟩ := bd_e hf
            refine g_callV (ci := 5) (b := x0) (As := [vR (some (Z 28))]) (st := []) (v := some (vI r22)) (M1 := M22) X (m_X6_take l hq22) (cwV 1 X.2.2.1 gX6_single_X6_take rfl rfl rfl (by decide +kernel) ⟨rX6R_f (Nat.le_of_ble_eq_true rfl), rX6R_l (Nat.le_of_ble_eq_true rfl)⟩) rfl rfl rfl hT23 (by decide) rfl (Nat.le_of_ble_eq_true rfl) dX6_single_114 ⟨Nat.zero_le _, Nat.zero_le _⟩ ?_
            refine g_if_eq (tgt := 124) X dX6_single_117 (by decide) (fun hc => ?_) (fun hc => ?_)
            · have hf := ife_t hc hf
              refine g_sub (lvsub_of _ _ [] rfl) ?_
              exact t_X6_single_124 X hr hF _  _ hf hK
            · have hf := ife_f hc hf
              refine g_iconst (v := (1 : Int32)) X dX6_single_120 (by decide) ?_
              refine g_goto (tgt := 125) X dX6_single_121 (by decide) ?_
              refine g_sub (lvsub_of _ _ [] rfl) ?_
              exact t_X6_single_125 X hr hF _ _ _ hf hK
    · have hf := ife_f hs17 hf
      by_cases hs24 : (gSw o5) = (7 : Int32)
      · have hf := ife_t hs24 hf
        refine g_tabin (tgt := 126) X dX6_single_13 hs24 (by decide) (by decide) rfl (by decide) ?_
        refine g_aload_n X dX6_single_126 rfl rfl ?_
        refine g_gets (w := vR (some (Z 19))) X (gSt_E X 19 (by decide)) k_X6_single_f291 rfl dX6_single_127 ?_
        obtain ⟨hT26, hf⟩ := ck_e hf
        obtain ⟨r25, M25, hq25, hf⟩ := bd_e hf
        refine g_callV (ci := 5) (b := x0) (As := [vR (some (Z 19))]) (st := []) (v := some (vI r25)) (M1 := M25) X (m_X6_take l hq25) (cwV 1 X.2.2.1 gX6_single_X6_take rfl rfl rfl (by decide +kernel) ⟨rX6R_f (Nat.le_of_ble_eq_true rfl), rX6R_l (Nat.le_of_ble_eq_true rfl)⟩) rfl rfl rfl hT26 (by decide) rfl (Nat.le_of_ble_eq_true rfl) dX6_single_130 ⟨Nat.zero_le _, Nat.zero_le _⟩ ?_
        refine g_if_eq (tgt := 147) X dX6_single_133 (by decide) (fun hc => ?_) (fun hc => ?_)
        · have hf := ife_t hc hf
          refine g_sub (lvsub_of _ _ [] rfl) ?_
          exact t_X6_single_147 X hr hF _  _ hf hK
        · have hf := ife_f hc hf
          refine g_aload_n X dX6_single_136 rfl rfl ?_
          refine g_aload_n X dX6_single_137 rfl rfl ?_
          obtain ⟨hT27, hf⟩ := ck_e hf
          refine g_get (ci := 5) (v := vR (mR M25 x0 4)) 4 X cdX6 i_X6_single_X6 (by decide) k_X6_single_f24 rfl dX6_single_138 rfl hT27 rfl ?_
          obtain ⟨r28, M28, hq28, hf⟩ := bd_e hf
          refine g_callV (ci := 5) (b := x0) (As := [vR (mR M25 x0 4)]) (st := []) (v := some (vI r28)) (M1 := M28) X (m_X6_takeKnown l hq28) (cwV 1 X.2.2.1 gX6_single_X6_takeKnown rfl rfl rfl (by decide +kernel) ⟨rX6R_f (Nat.le_of_ble_eq_true rfl), rX6R_l (Nat.le_of_ble_eq_true rfl)⟩) rfl rfl rfl hT27 (by decide) rfl (Nat.le_of_ble_eq_true rfl) dX6_single_141 ⟨Nat.zero_le _, Nat.zero_le _⟩ ?_
          refine g_if_ne (tgt := 149) X dX6_single_144 (by decide) (fun hc => ?_) (fun hc => ?_)
          · have hf := ife_f hc hf
            refine g_aload_n X dX6_single_149 rfl rfl ?_
            obtain ⟨hT29, hf⟩ := ck_e hf
            refine g_get (ci := 5) (v := vR (mR M28 x0 2)) 2 X cdX6 i_X6_single_X6 (by decide) k_X6_single_f34 rfl dX6_single_150 rfl hT29 rfl ?_
            obtain ⟨a30, ha30, hf⟩ := dr_e hf
            obtain ⟨hT31, hf⟩ := ck_e hf
            refine g_get (ci := 6) (v := vR (mR M28 a30 10)) 10 X cdX7 i_X6_single_X7 (by decide) k_X6_single_f193 rfl dX6_single_153 ha30 hT31 rfl ?_
            refine g_gets (w := vR (some (Z 19))) X (gSt_E X 19 (by decide)) k_X6_single_f291 rfl dX6_single_156 ?_
            refine g_aload_n X dX6_single_159 rfl rfl ?_
            refine g_get (ci := 5) (v := vI (mI M28 x0 8)) 8 X cdX6 i_X6_single_X6 (by decide) k_X6_single_f112 rfl dX6_single_160 rfl hT29 rfl ?_
            obtain ⟨a33, ha33, hf⟩ := dr_e hf
            obtain ⟨hT34, hf⟩ := ck_e hf
            obtain ⟨r32, M32, hq32, hf⟩ := bd_e hf
            refine g_callV (ci := 7) (b := a33) (As := [vR (some (Z 19)), vI (mI M28 x0 8)]) (st := []) (v := none) (M1 := M32) X (m_X9_add l hq32) (cwV 2 X.2.2.1 gX6_single_X9_add rfl rfl rfl (by decide +kernel) ⟨rX6R_f (Nat.le_of_ble_eq_true rfl), rX6R_l (Nat.le_of_ble_eq_true rfl)⟩) rfl rfl ha33 hT34 (by decide) rfl (Nat.le_of_ble_eq_true rfl) dX6_single_163 ⟨Nat.zero_le _, Nat.zero_le _⟩ ?_
            refine g_iconst (v := (1 : Int32)) X dX6_single_166 (by decide) ?_
            cases hf
            refine g_eqQ hK ?_
            exact g_zret X hr (gnb (Or.inr rfl)) dX6_single_167
          · have hf := ife_t hc hf
            refine g_sub (lvsub_of _ _ [] rfl) ?_
            exact t_X6_single_147 X hr hF _  _ hf hK
      · have hf := ife_f hs24 hf
        refine g_tabout (tgt := 168) X dX6_single_13 (gtab_out 3 (5) (by decide) (by decide) (fun i hi => match i, hi with | 0, _ => fun e => hs6 (e.trans (by decide)) | 1, _ => fun e => hs17 (e.trans (by decide)) | 2, _ => fun e => hs24 (e.trans (by decide)) | i + 3, h => absurd h (by omega))) (by decide) ?_
        refine g_aload_n X dX6_single_168 rfl rfl ?_
        refine g_iload_n X dX6_single_169 rfl rfl ?_
        obtain ⟨hT36, hf⟩ := ck_e hf
        obtain ⟨r35, M35, hq35, hf⟩ := bd_e hf
        refine g_callV (ci := 5) (b := x0) (As := [vI x1]) (st := []) (v := some (vI r35)) (M1 := M35) X (hF.2.2.2.2.1 _ _ _ _ _ hq35) (cwV 1 X.2.2.1 gX6_single_X6_sum rfl rfl rfl (by decide +kernel) ⟨rX6R_rf, rX6R_rl (Nat.le_of_ble_eq_true rfl)⟩) rfl rfl rfl hT36 (by decide) rfl (Nat.le_of_ble_eq_true rfl) dX6_single_170 ⟨Nat.zero_le _, Nat.zero_le _⟩ ?_
        refine g_if_eq (tgt := 188) X dX6_single_173 (by decide) (fun hc => ?_) (fun hc => ?_)
        · have hf := ife_t hc hf
          refine g_sub (lvsub_of _ _ [] rfl) ?_
          exact t_X6_single_188 X hr hF _  _ hf hK
        · have hf := ife_f hc hf
          refine g_aload_n X dX6_single_176 rfl rfl ?_
          refine g_iload_n X dX6_single_177 rfl rfl ?_
          obtain ⟨hT38, hf⟩ := ck_e hf
          obtain ⟨r37, M37, hq37, hf⟩ := bd_e hf
          refine g_callV (ci := 5) (b := x0) (As := [vI x1]) (st := []) (v := some (vI r37)) (M1 := M37) X (hF.2.2.2.1 _ _ _ _ _ hq37) (cwV 1 X.2.2.1 gX6_single_X6_comparedSum rfl rfl rfl (by decide +kernel) ⟨rX6R_rf, rX6R_rl (Nat.le_of_ble_eq_true rfl)⟩) rfl rfl rfl hT38 (by decide) rfl (Nat.le_of_ble_eq_true rfl) dX6_single_178 ⟨Nat.zero_le _, Nat.zero_le _⟩ ?_
          refine g_if_eq (tgt := 188) X dX6_single_181 (by decide) (fun hc => ?_) (fun hc => ?_)
          · have hf := ife_t hc hf
            refine g_sub (lvsub_of _ _ [] rfl) ?_
            exact t_X6_single_188 X hr hF _  _ hf hK
          · have hf := ife_f hc hf
            refine g_iconst (v := (1 : Int32)) X dX6_single_184 (by decide) ?_
            refine g_goto (tgt := 189) X dX6_single_185 (by decide) ?_
            refine g_sub (lvsub_of _ _ [] rfl) ?_
            exact t_X6_single_189 X hr hF _ _ _ hf hK
set_option maxHeartbeats 4000000 in
set_option maxRecDepth 100000 in
theorem mr_X6_single (l : Launch) {D : va_G} {cy : Nat → ClassId} {B : Nat} {H0 : Heap} {Z : Nat → Nat} {M M1 : gMem} {n0 : Nat} {F : Nat → gMem → Nat → Int32 → Option (Int32 × gMem)} (hF : hX6R l D cy B H0 Z n0 F) {x0 : Nat} {x1 : Int32} {r : Int32} (hf : fr_X6_single Z F M x0 x1 = some (r, M1)) : Met l yX6_single wsX6_single (rX6R (n0 + 1)) (va_Pc (Value.ref x0 :: List.map gv [vI x1]) (gPre D cy B H0 (gSt Z B H0) M)) (gQ D cy B H0 (some (vI r)) M1) 0 0 (gA B) := by
  refine Met.ofW (cc := cX6_single) (maxL := 3) (ret := (some .boolean)) (by decide) rfl ?_
  intro p e s m args below meth c s₁ Bd hml hv
  obtain ⟨rfl, hW, hKK, hFs⟩ := hv
  have X : gX p s m _ meth c D cy B (gSt Z B H0) RX6 cX6_single wsX6_single 3 := ⟨Bd.exec, Bd.bytes, atoms_spec (ws := wsX6_single) Bd.pre, findClass_of_methodNamed Bd.named, hml, hKK, by rw [hW.1]; exact hW.2.1, Bd.notSynchronized, hFs⟩
  have hr := Bd.returns
  have hl := lv_entry ([.ref x0, .int x1]) (n := 3) (Nat.le_of_ble_eq_true rfl)
  show W p l e (rX6R (n0 + 1)) s m _ below meth c s.heap [] 0 0 _ (entryFrame m ([.ref x0, .int x1] : List Value).toArray 3)
  rw [lg_entry_eq]
  generalize (lg_sl ([.ref x0, .int x1]) ++ List.replicate (3 - (lg_sl ([.ref x0, .int x1])).length) Slot.unset).toArray = ls at hl ⊢
  have hl : lv_has ls 3 (List.map gq [(0, vR (some x0)), (1, vI x1)]) := hl
  exact t_X6_single_0 X hr hF _ _ _ _ hf rfl s.heap [] ls hW va_S.rf (lv_has_sub hl (lvsub_of _ _ [0, 1] rfl))
/-! ## TideLots$Reader.comparedSum(I)Z -/
theorem dX6_comparedSum_0 : decode cX6_comparedSum 0 = .ok (.aload_n 0, 1) := by decide +kernel
theorem dX6_comparedSum_1 : decode cX6_comparedSum 1 = .ok (.invokevirtual 43, 3) := by decide +kernel
theorem dX6_comparedSum_4 : decode cX6_comparedSum 4 = .ok (.astore_n 2, 1) := by decide +kernel
theorem dX6_comparedSum_5 : decode cX6_comparedSum 5 = .ok (.getstatic 53, 3) := by decide +kernel
theorem dX6_comparedSum_8 : decode cX6_comparedSum 8 = .ok (.aload_n 2, 1) := by decide +kernel
theorem dX6_comparedSum_9 : decode cX6_comparedSum 9 = .ok (.invokevirtual 59, 3) := by decide +kernel
theorem dX6_comparedSum_12 : decode cX6_comparedSum 12 = .ok (.iaload, 1) := by decide +kernel
theorem dX6_comparedSum_13 : decode cX6_comparedSum 13 = .ok (.tableswitch 67 8 12 #[35, 35, 35, 35, 35], 35) := by decide +kernel
theorem dX6_comparedSum_48 : decode cX6_comparedSum 48 = .ok (.aload_n 0, 1) := by decide +kernel
theorem dX6_comparedSum_49 : decode cX6_comparedSum 49 = .ok (.aload_n 2, 1) := by decide +kernel
theorem dX6_comparedSum_50 : decode cX6_comparedSum 50 = .ok (.invokevirtual 79, 3) := by decide +kernel
theorem dX6_comparedSum_53 : decode cX6_comparedSum 53 = .ok (.ifCond .eq 11, 3) := by decide +kernel
theorem dX6_comparedSum_56 : decode cX6_comparedSum 56 = .ok (.aload_n 0, 1) := by decide +kernel
theorem dX6_comparedSum_57 : decode cX6_comparedSum 57 = .ok (.iload_n 1, 1) := by decide +kernel
theorem dX6_comparedSum_58 : decode cX6_comparedSum 58 = .ok (.invokevirtual 244, 3) := by decide +kernel
theorem dX6_comparedSum_61 : decode cX6_comparedSum 61 = .ok (.ifCond .ne 5, 3) := by decide +kernel
theorem dX6_comparedSum_64 : decode cX6_comparedSum 64 = .ok (.iconst 0, 1) := by decide +kernel
theorem dX6_comparedSum_65 : decode cX6_comparedSum 65 = .ok (.ireturn, 1) := by decide +kernel
theorem dX6_comparedSum_66 : decode cX6_comparedSum 66 = .ok (.aload_n 0, 1) := by decide +kernel
theorem dX6_comparedSum_67 : decode cX6_comparedSum 67 = .ok (.getfield 34, 3) := by decide +kernel
theorem dX6_comparedSum_70 : decode cX6_comparedSum 70 = .ok (.getfield 193, 3) := by decide +kernel
theorem dX6_comparedSum_73 : decode cX6_comparedSum 73 = .ok (.aload_n 2, 1) := by decide +kernel
theorem dX6_comparedSum_74 : decode cX6_comparedSum 74 = .ok (.iconst 0, 1) := by decide +kernel
theorem dX6_comparedSum_75 : decode cX6_comparedSum 75 = .ok (.invokevirtual 273, 3) := by decide +kernel
theorem dX6_comparedSum_78 : decode cX6_comparedSum 78 = .ok (.iconst 1, 1) := by decide +kernel
theorem dX6_comparedSum_79 : decode cX6_comparedSum 79 = .ok (.ireturn, 1) := by decide +kernel
theorem dX6_comparedSum_80 : decode cX6_comparedSum 80 = .ok (.iconst 0, 1) := by decide +kernel
theorem dX6_comparedSum_81 : decode cX6_comparedSum 81 = .ok (.ireturn, 1) := by decide +kernel
set_option maxRecDepth 20000 in
theorem ggX6_comparedSum_X6_take : GoodIn wsX6_comparedSum wsX6_take := goodIn_r _ [22, 11, 9, 10, 80, 81, 82, 83, 84, 85, 86, 87, 88, 106, 107, 108, 109, 110, 111] (by decide +kernel) (by decide +kernel)
set_option maxRecDepth 20000 in
theorem gX6_comparedSum_X6_take : GoodIn wsX6_comparedSum (wsV RX6 79 RX6 yX6_take wsX6_take) := goodIn_app (goodIn_of _ (by decide +kernel)) ggX6_comparedSum_X6_take
set_option maxRecDepth 20000 in
theorem ggX6_comparedSum_X6_sum : GoodIn wsX6_comparedSum wsX6_sum := goodIn_r _ [26, 27, 28, 2, 3, 29, 30, 31, 7, 4, 5, 6, 8, 9, 10, 11, 19, 20, 21, 22, 32, 33, 34, 35, 36, 37, 38, 39, 40, 41, 42, 43, 44, 45, 46, 1, 47, 48, 49, 50, 51, 52, 53, 54, 12, 13, 14, 15, 16, 17, 18, 55, 56, 57, 58, 59, 60, 61, 62, 63, 64, 65, 66, 67, 68, 69, 70, 71, 72, 73, 74, 75, 76, 77, 78, 79, 23, 24, 25, 80, 81, 82, 83, 84, 85, 86, 87, 88, 89, 90, 91, 92, 93, 94, 95, 96, 97, 98, 99, 100, 101, 102, 103, 104, 105, 106, 107, 108, 109, 110, 111, 112, 113, 114, 115, 116, 117] (by decide +kernel) (by decide +kernel)
set_option maxRecDepth 20000 in
theorem gX6_comparedSum_X6_sum : GoodIn wsX6_comparedSum (wsV RX6 244 RX6 yX6_sum wsX6_sum) := goodIn_app (goodIn_of _ (by decide +kernel)) ggX6_comparedSum_X6_sum
set_option maxRecDepth 20000 in
theorem ggX6_comparedSum_X9_add : GoodIn wsX6_comparedSum wsX9_add := goodIn_r _ [36, 37, 38, 39, 112, 113, 114, 115] (by decide +kernel) (by decide +kernel)
set_option maxRecDepth 20000 in
theorem gX6_comparedSum_X9_add : GoodIn wsX6_comparedSum (wsV RX6 273 RX9 yX9_add wsX9_add) := goodIn_app (goodIn_of _ (by decide +kernel)) ggX6_comparedSum_X9_add
set_option maxRecDepth 20000 in
theorem ggX6_comparedSum_X6_sign : GoodIn wsX6_comparedSum wsX6_sign := goodIn_r _ [8, 9, 10, 11, 80, 81, 82, 83, 84, 85, 86, 87, 88, 106, 107, 108, 109, 110, 111] (by decide +kernel) (by decide +kernel)
set_option maxRecDepth 20000 in
theorem gX6_comparedSum_X6_sign : GoodIn wsX6_comparedSum (wsV RX6 43 RX6 yX6_sign wsX6_sign) := goodIn_app (goodIn_of _ (by decide +kernel)) ggX6_comparedSum_X6_sign
set_option maxRecDepth 20000 in
theorem ggX6_comparedSum_Jx29ce0_ordinal_8abf5 : GoodIn wsX6_comparedSum wsJx29ce0_ordinal_8abf5 := goodIn_r _ [17, 18] (by decide +kernel) (by decide +kernel)
set_option maxRecDepth 20000 in
theorem gX6_comparedSum_Jx29ce0_ordinal_8abf5_u59X8 : GoodIn wsX6_comparedSum (va_wsU RX6 59 RX8 "java/lang/Enum" ⟨"TideLots$Sign", "ordinal", "()I"⟩ yJx29ce0_ordinal_8abf5 wsJx29ce0_ordinal_8abf5) := goodIn_app (goodIn_of _ (by decide +kernel)) ggX6_comparedSum_Jx29ce0_ordinal_8abf5
theorem k_X6_comparedSum_f34 : Cond.fieldLink RX6 34 "TideLots$Reader" "built" "LTideLots$Shore;" ∈ wsX6_comparedSum := by decide +kernel
theorem i_X6_comparedSum_X6 : ∀ w ∈ u_ws RX6 TX6 9, w ∈ wsX6_comparedSum := by decide +kernel
theorem k_X6_comparedSum_f193 : Cond.fieldLink RX6 193 "TideLots$Shore" "sums" "LTideLots$Sums;" ∈ wsX6_comparedSum := by decide +kernel
theorem i_X6_comparedSum_X7 : ∀ w ∈ u_ws RX7 TX7 17, w ∈ wsX6_comparedSum := by decide +kernel
theorem k_X6_comparedSum_f53 : Cond.fieldLink RX6 53 "TideLots$1" "$SwitchMap$TideLots$Sign" "[I" ∈ wsX6_comparedSum := by decide +kernel
noncomputable def b_X6_comparedSum_64 (Z : Nat → Nat) (F : Nat → gMem → Nat → Int32 → Option (Int32 × gMem)) (M : gMem)  : Option (Int32 × gMem) :=
  some ((0 : Int32), M)
noncomputable def b_X6_comparedSum_48 (Z : Nat → Nat) (F : Nat → gMem → Nat → Int32 → Option (Int32 × gMem)) (M : gMem) (x0 : Nat) (x1 : Int32) (x2 : Option Nat) : Option (Int32 × gMem) :=
  ck (mT M x0 = 6) <| bd (f_X6_take M x0 x2) fun r1 M1 => (if r1 = 0 then b_X6_comparedSum_64 Z F M1  else ck (mT M1 x0 = 6) <| bd (F 4 M1 x0 x1) fun r3 M3 => (if r3 = 0 then b_X6_comparedSum_64 Z F M3  else ck (mT M3 x0 = 6) <| dr ((mR M3 x0 2)) fun a6 => ck (mT M3 a6 = 7) <| dr ((mR M3 a6 10)) fun a9 => ck (mT M3 a9 = 8) <| bd (f_X9_add Z M3 a9 x2 ((0 : Int32))) fun _ M8 => some ((1 : Int32), M8)))
noncomputable def b_X6_comparedSum_0 (Z : Nat → Nat) (F : Nat → gMem → Nat → Int32 → Option (Int32 × gMem)) (M : gMem) (x0 : Nat) (x1 : Int32) : Option (Int32 × gMem) :=
  ck (mT M x0 = 6) <| bd (f_X6_sign M x0) fun r11 M11 => dr (ordZ Z r11) fun o13 => (if (gSw o13) = (8 : Int32) then b_X6_comparedSum_48 Z F M11 x0 x1 r11 else (if (gSw o13) = (9 : Int32) then b_X6_comparedSum_48 Z F M11 x0 x1 r11 else (if (gSw o13) = (10 : Int32) then b_X6_comparedSum_48 Z F M11 x0 x1 r11 else (if (gSw o13) = (11 : Int32) then b_X6_comparedSum_48 Z F M11 x0 x1 r11 else (if (gSw o13) = (12 : Int32) then b_X6_comparedSum_48 Z F M11 x0 x1 r11 else some ((0 : Int32), M11))))))
noncomputable def fr_X6_comparedSum (Z : Nat → Nat) (F : Nat → gMem → Nat → Int32 → Option (Int32 × gMem)) (M : gMem) (x0 : Nat) (x1 : Int32) : Option (Int32 × gMem) :=
  b_X6_comparedSum_0 Z F M x0 x1
set_option maxHeartbeats 4000000 in
set_option maxRecDepth 100000 in
theorem t_X6_comparedSum_64 (X : gX p s m args meth c D cy B (gSt Z B H0) RX6 cX6_comparedSum wsX6_comparedSum 3) (hr : meth.sig.returnType = (some .boolean)) {n0 : Nat} {F : Nat → gMem → Nat → Int32 → Option (Int32 × gMem)} (hF : hX6R l D cy B H0 Z n0 F) {Q : State → Prop} : ∀ (M : gMem)  (z : Int32 × gMem), b_X6_comparedSum_64 Z F M  = some z → (fun (r : Int32 × gMem) => Q = gMQ below D cy B H0 args s 0 0 (some (vI r.1)) r.2) z → gGo p l e (rX6R (n0 + 1)) s m args below meth c D cy B H0 3 0 0 Q 64 [] [] M := by
  intro M  z hf hK
  unfold b_X6_comparedSum_64 at hf
  refine g_iconst (v := (0 : Int32)) X dX6_comparedSum_64 (by decide) ?_
  cases hf
  refine g_eqQ hK ?_
  exact g_zret X hr (gnb (Or.inl rfl)) dX6_comparedSum_65
set_option maxHeartbeats 4000000 in
set_option maxRecDepth 100000 in
theorem t_X6_comparedSum_48 (X : gX p s m args meth c D cy B (gSt Z B H0) RX6 cX6_comparedSum wsX6_comparedSum 3) (hr : meth.sig.returnType = (some .boolean)) {n0 : Nat} {F : Nat → gMem → Nat → Int32 → Option (Int32 × gMem)} (hF : hX6R l D cy B H0 Z n0 F) {Q : State → Prop} : ∀ (M : gMem) (x0 : Nat) (x1 : Int32) (x2 : Option Nat) (z : Int32 × gMem), b_X6_comparedSum_48 Z F M x0 x1 x2 = some z → (fun (r : Int32 × gMem) => Q = gMQ below D cy B H0 args s 0 0 (some (vI r.1)) r.2) z → gGo p l e (rX6R (n0 + 1)) s m args below meth c D cy B H0 3 0 0 Q 48 [(0, vR (some x0)), (1, vI x1), (2, vR x2)] [] M := by
  intro M x0 x1 x2 z hf hK
  unfold b_X6_comparedSum_48 at hf
  refine g_aload_n X dX6_comparedSum_48 rfl rfl ?_
  refine g_aload_n X dX6_comparedSum_49 rfl rfl ?_
  obtain ⟨hT2, hf⟩ := ck_e hf
  obtain ⟨r1, M1, hq1, hf⟩ := bd_e hf
  refine g_callV (ci := 5) (b := x0) (As := [vR x2]) (st := []) (v := some (vI r1)) (M1 := M1) X (m_X6_take l hq1) (cwV 1 X.2.2.1 gX6_comparedSum_X6_take rfl rfl rfl (by decide +kernel) ⟨rX6R_f (Nat.le_of_ble_eq_true rfl), rX6R_l (Nat.le_of_ble_eq_true rfl)⟩) rfl rfl rfl hT2 (by decide) rfl (Nat.le_of_ble_eq_true rfl) dX6_comparedSum_50 ⟨Nat.zero_le _, Nat.zero_le _⟩ ?_
  refine g_if_eq (tgt := 64) X dX6_comparedSum_53 (by decide) (fun hc => ?_) (fun hc => ?_)
  · have hf := ife_t hc hf
    refine g_sub (lvsub_of _ _ [] rfl) ?_
    exact t_X6_comparedSum_64 X hr hF _  _ hf hK
  · have hf := ife_f hc hf
    refine g_aload_n X dX6_comparedSum_56 rfl rfl ?_
    refine g_iload_n X dX6_comparedSum_57 rfl rfl ?_
    obtain ⟨hT4, hf⟩ := ck_e hf
    obtain ⟨r3, M3, hq3, hf⟩ := bd_e hf
    refine g_callV (ci := 5) (b := x0) (As := [vI x1]) (st := []) (v := some (vI r3)) (M1 := M3) X (hF.2.2.2.2.1 _ _ _ _ _ hq3) (cwV 1 X.2.2.1 gX6_comparedSum_X6_sum rfl rfl rfl (by decide +kernel) ⟨rX6R_rf, rX6R_rl (Nat.le_of_ble_eq_true rfl)⟩) rfl rfl rfl hT4 (by decide) rfl (Nat.le_of_ble_eq_true rfl) dX6_comparedSum_58 ⟨Nat.zero_le _, Nat.zero_le _⟩ ?_
    refine g_if_ne (tgt := 66) X dX6_comparedSum_61 (by decide) (fun hc => ?_) (fun hc => ?_)
    · have hf := ife_f hc hf
      refine g_aload_n X dX6_comparedSum_66 rfl rfl ?_
      obtain ⟨hT5, hf⟩ := ck_e hf
      refine g_get (ci := 5) (v := vR (mR M3 x0 2)) 2 X cdX6 i_X6_comparedSum_X6 (by decide) k_X6_comparedSum_f34 rfl dX6_comparedSum_67 rfl hT5 rfl ?_
      obtain ⟨a6, ha6, hf⟩ := dr_e hf
      obtain ⟨hT7, hf⟩ := ck_e hf
      refine g_get (ci := 6) (v := vR (mR M3 a6 10)) 10 X cdX7 i_X6_comparedSum_X7 (by decide) k_X6_comparedSum_f193 rfl dX6_comparedSum_70 ha6 hT7 rfl ?_
      refine g_aload_n X dX6_comparedSum_73 rfl rfl ?_
      refine g_iconst (v := (0 : Int32)) X dX6_comparedSum_74 (by decide) ?_
      obtain ⟨a9, ha9, hf⟩ := dr_e hf
      obtain ⟨hT10, hf⟩ := ck_e hf
      obtain ⟨r8, M8, hq8, hf⟩ := bd_e hf
      refine g_callV (ci := 7) (b := a9) (As := [vR x2, vI (0 : Int32)]) (st := []) (v := none) (M1 := M8) X (m_X9_add l hq8) (cwV 2 X.2.2.1 gX6_comparedSum_X9_add rfl rfl rfl (by decide +kernel) ⟨rX6R_f (Nat.le_of_ble_eq_true rfl), rX6R_l (Nat.le_of_ble_eq_true rfl)⟩) rfl rfl ha9 hT10 (by decide) rfl (Nat.le_of_ble_eq_true rfl) dX6_comparedSum_75 ⟨Nat.zero_le _, Nat.zero_le _⟩ ?_
      refine g_iconst (v := (1 : Int32)) X dX6_comparedSum_78 (by decide) ?_
      cases hf
      refine g_eqQ hK ?_
      exact g_zret X hr (gnb (Or.inr rfl)) dX6_comparedSum_79
    · have hf := ife_t hc hf
      refine g_sub (lvsub_of _ _ [] rfl) ?_
      exact t_X6_comparedSum_64 X hr hF _  _ hf hK
set_option maxHeartbeats 4000000 in
set_option maxRecDepth 100000 in
theorem t_X6_comparedSum_0 (X : gX p s m args meth c D cy B (gSt Z B H0) RX6 cX6_comparedSum wsX6_comparedSum 3) (hr : meth.sig.returnType = (some .boolean)) {n0 : Nat} {F : Nat → gMem → Nat → Int32 → Option (Int32 × gMem)} (hF : hX6R l D cy B H0 Z n0 F) {Q : State → Prop} : ∀ (M : gMem) (x0 : Nat) (x1 : Int32) (z : Int32 × gMem), b_X6_comparedSum_0 Z F M x0 x1 = some z → (fun (r : Int32 × gMem) => Q = gMQ below D cy B H0 args s 0 0 (some (vI r.1)) r.2) z → gGo p l e (rX6R (n0 + 1)) s m args below meth c D cy B H0 3 0 0 Q 0 [(0, vR (some x0)), (1, vI x1)] [] M := by
  intro M x0 x1 z hf hK
  unfold b_X6_comparedSum_0 at hf
  refine g_aload_n X dX6_comparedSum_0 rfl rfl ?_
  obtain ⟨hT12, hf⟩ := ck_e hf
  obtain ⟨r11, M11, hq11, hf⟩ := bd_e hf
  refine g_callV (ci := 5) (b := x0) (As := []) (st := []) (v := some (vR r11)) (M1 := M11) X (m_X6_sign l hq11) (cwV 0 X.2.2.1 gX6_comparedSum_X6_sign rfl rfl rfl (by decide +kernel) ⟨rX6R_f (Nat.le_of_ble_eq_true rfl), rX6R_l (Nat.le_of_ble_eq_true rfl)⟩) rfl rfl rfl hT12 (by decide) rfl (Nat.le_of_ble_eq_true rfl) dX6_comparedSum_1 ⟨Nat.zero_le _, Nat.zero_le _⟩ ?_
  refine g_astore_n (lv' := [(2, vR r11), (0, vR (some x0)), (1, vI x1)]) X dX6_comparedSum_4 rfl (by decide) rfl ?_
  refine g_gets (w := vR (some (Z 46))) X (gSt_SW X) k_X6_comparedSum_f53 rfl dX6_comparedSum_5 ?_
  refine g_aload_n X dX6_comparedSum_8 rfl rfl ?_
  obtain ⟨o13, ho13, hf⟩ := dr_e hf
  refine g_callU (C := RX8) (owner := "java/lang/Enum") (As := []) (st := [vR (some (Z 46))]) (v := some (vI (nI o13))) X (m_ordinal l (ordZ_lt ho13)) (va_cwU 0 X.2.2.1 gX6_comparedSum_Jx29ce0_ordinal_8abf5_u59X8 rfl rfl rfl (by decide +kernel) (by decide +kernel) ⟨rX6R_f (Nat.le_of_ble_eq_true rfl), rX6R_l (Nat.le_of_ble_eq_true rfl)⟩) rfl rfl (ordZ_eq ho13) (fun H hW => gO_recv (gSt_O X (ordZ_lt ho13)) hW) (Nat.le_of_ble_eq_true rfl) dX6_comparedSum_9 ⟨Nat.zero_le _, Nat.zero_le _⟩ ?_
  refine g_ialdT (w := gSw o13) X (gSt_SWt X) rfl (gord_nn (ordZ_lt ho13)) (gord_lt (ordZ_lt ho13)) (gord_sw (ordZ_lt ho13)) dX6_comparedSum_12 ?_
  by_cases hs14 : (gSw o13) = (8 : Int32)
  · have hf := ife_t hs14 hf
    refine g_tabin (tgt := 48) X dX6_comparedSum_13 hs14 (by decide) (by decide) rfl (by decide) ?_
    refine g_sub (lvsub_of _ _ [1, 2, 0] rfl) ?_
    exact t_X6_comparedSum_48 X hr hF _ _ _ _ _ hf hK
  · have hf := ife_f hs14 hf
    by_cases hs15 : (gSw o13) = (9 : Int32)
    · have hf := ife_t hs15 hf
      refine g_tabin (tgt := 48) X dX6_comparedSum_13 hs15 (by decide) (by decide) rfl (by decide) ?_
      refine g_sub (lvsub_of _ _ [1, 2, 0] rfl) ?_
      exact t_X6_comparedSum_48 X hr hF _ _ _ _ _ hf hK
    · have hf := ife_f hs15 hf
      by_cases hs16 : (gSw o13) = (10 : Int32)
      · have hf := ife_t hs16 hf
        refine g_tabin (tgt := 48) X dX6_comparedSum_13 hs16 (by decide) (by decide) rfl (by decide) ?_
        refine g_sub (lvsub_of _ _ [1, 2, 0] rfl) ?_
        exact t_X6_comparedSum_48 X hr hF _ _ _ _ _ hf hK
      · have hf := ife_f hs16 hf
        by_cases hs17 : (gSw o13) = (11 : Int32)
        · have hf := ife_t hs17 hf
          refine g_tabin (tgt := 48) X dX6_comparedSum_13 hs17 (by decide) (by decide) rfl (by decide) ?_
          refine g_sub (lvsub_of _ _ [1, 2, 0] rfl) ?_
          exact t_X6_comparedSum_48 X hr hF _ _ _ _ _ hf hK
        · have hf := ife_f hs17 hf
          by_cases hs18 : (gSw o13) = (12 : Int32)
          · have hf := ife_t hs18 hf
            refine g_tabin (tgt := 48) X dX6_comparedSum_13 hs18 (by decide) (by decide) rfl (by decide) ?_
            refine g_sub (lvsub_of _ _ [1, 2, 0] rfl) ?_
            exact t_X6_comparedSum_48 X hr hF _ _ _ _ _ hf hK
          · have hf := ife_f hs18 hf
            refine g_tabout (tgt := 80) X dX6_comparedSum_13 (gtab_out 5 (8) (by decide) (by decide) (fun i hi => match i, hi with | 0, _ => fun e => hs14 (e.trans (by decide)) | 1, _ => fun e => hs15 (e.trans (by decide)) | 2, _ => fun e => hs16 (e.trans (by decide)) | 3, _ => fun e => hs17 (e.trans (by decide)) | 4, _ => fun e => hs18 (e.trans (by decide)) | i + 5, h => absurd h (by omega))) (by decide) ?_
            refine g_iconst (v := (0 : Int32)) X dX6_comparedSum_80 (by decide) ?_
            cases hf
            refine g_eqQ hK ?_
            exact g_zret X hr (gnb (Or.inl rfl)) dX6_comparedSum_81
set_option maxHeartbeats 4000000 in
set_option maxRecDepth 100000 in
theorem mr_X6_comparedSum (l : Launch) {D : va_G} {cy : Nat → ClassId} {B : Nat} {H0 : Heap} {Z : Nat → Nat} {M M1 : gMem} {n0 : Nat} {F : Nat → gMem → Nat → Int32 → Option (Int32 × gMem)} (hF : hX6R l D cy B H0 Z n0 F) {x0 : Nat} {x1 : Int32} {r : Int32} (hf : fr_X6_comparedSum Z F M x0 x1 = some (r, M1)) : Met l yX6_comparedSum wsX6_comparedSum (rX6R (n0 + 1)) (va_Pc (Value.ref x0 :: List.map gv [vI x1]) (gPre D cy B H0 (gSt Z B H0) M)) (gQ D cy B H0 (some (vI r)) M1) 0 0 (gA B) := by
  refine Met.ofW (cc := cX6_comparedSum) (maxL := 3) (ret := (some .boolean)) (by decide) rfl ?_
  intro p e s m args below meth c s₁ Bd hml hv
  obtain ⟨rfl, hW, hKK, hFs⟩ := hv
  have X : gX p s m _ meth c D cy B (gSt Z B H0) RX6 cX6_comparedSum wsX6_comparedSum 3 := ⟨Bd.exec, Bd.bytes, atoms_spec (ws := wsX6_comparedSum) Bd.pre, findClass_of_methodNamed Bd.named, hml, hKK, by rw [hW.1]; exact hW.2.1, Bd.notSynchronized, hFs⟩
  have hr := Bd.returns
  have hl := lv_entry ([.ref x0, .int x1]) (n := 3) (Nat.le_of_ble_eq_true rfl)
  show W p l e (rX6R (n0 + 1)) s m _ below meth c s.heap [] 0 0 _ (entryFrame m ([.ref x0, .int x1] : List Value).toArray 3)
  rw [lg_entry_eq]
  generalize (lg_sl ([.ref x0, .int x1]) ++ List.replicate (3 - (lg_sl ([.ref x0, .int x1])).length) Slot.unset).toArray = ls at hl ⊢
  have hl : lv_has ls 3 (List.map gq [(0, vR (some x0)), (1, vI x1)]) := hl
  exact t_X6_comparedSum_0 X hr hF _ _ _ _ hf rfl s.heap [] ls hW va_S.rf (lv_has_sub hl (lvsub_of _ _ [0, 1] rfl))
/-! ## TideLots$Reader.sum(I)Z -/
theorem dX6_sum_0 : decode cX6_sum 0 = .ok (.aload_n 0, 1) := by decide +kernel
theorem dX6_sum_1 : decode cX6_sum 1 = .ok (.iload_n 1, 1) := by decide +kernel
theorem dX6_sum_2 : decode cX6_sum 2 = .ok (.invokevirtual 297, 3) := by decide +kernel
theorem dX6_sum_5 : decode cX6_sum 5 = .ok (.ifCond .ne 5, 3) := by decide +kernel
theorem dX6_sum_8 : decode cX6_sum 8 = .ok (.iconst 0, 1) := by decide +kernel
theorem dX6_sum_9 : decode cX6_sum 9 = .ok (.ireturn, 1) := by decide +kernel
theorem dX6_sum_10 : decode cX6_sum 10 = .ok (.iconst 0, 1) := by decide +kernel
theorem dX6_sum_11 : decode cX6_sum 11 = .ok (.istore_n 2, 1) := by decide +kernel
theorem dX6_sum_12 : decode cX6_sum 12 = .ok (.iload_n 2, 1) := by decide +kernel
theorem dX6_sum_13 : decode cX6_sum 13 = .ok (.sipush 400, 3) := by decide +kernel
theorem dX6_sum_16 : decode cX6_sum 16 = .ok (.if_icmp .ge 64, 3) := by decide +kernel
theorem dX6_sum_19 : decode cX6_sum 19 = .ok (.aload_n 0, 1) := by decide +kernel
theorem dX6_sum_20 : decode cX6_sum 20 = .ok (.invokevirtual 43, 3) := by decide +kernel
theorem dX6_sum_23 : decode cX6_sum 23 = .ok (.getstatic 300, 3) := by decide +kernel
theorem dX6_sum_26 : decode cX6_sum 26 = .ok (.if_acmp .eq 13, 3) := by decide +kernel
theorem dX6_sum_29 : decode cX6_sum 29 = .ok (.aload_n 0, 1) := by decide +kernel
theorem dX6_sum_30 : decode cX6_sum 30 = .ok (.invokevirtual 43, 3) := by decide +kernel
theorem dX6_sum_33 : decode cX6_sum 33 = .ok (.getstatic 303, 3) := by decide +kernel
theorem dX6_sum_36 : decode cX6_sum 36 = .ok (.if_acmp .ne 44, 3) := by decide +kernel
theorem dX6_sum_39 : decode cX6_sum 39 = .ok (.aload_n 0, 1) := by decide +kernel
theorem dX6_sum_40 : decode cX6_sum 40 = .ok (.invokevirtual 43, 3) := by decide +kernel
theorem dX6_sum_43 : decode cX6_sum 43 = .ok (.astore_n 3, 1) := by decide +kernel
theorem dX6_sum_44 : decode cX6_sum 44 = .ok (.aload_n 0, 1) := by decide +kernel
theorem dX6_sum_45 : decode cX6_sum 45 = .ok (.aload_n 3, 1) := by decide +kernel
theorem dX6_sum_46 : decode cX6_sum 46 = .ok (.invokevirtual 79, 3) := by decide +kernel
theorem dX6_sum_49 : decode cX6_sum 49 = .ok (.ifCond .eq 11, 3) := by decide +kernel
theorem dX6_sum_52 : decode cX6_sum 52 = .ok (.aload_n 0, 1) := by decide +kernel
theorem dX6_sum_53 : decode cX6_sum 53 = .ok (.iload_n 1, 1) := by decide +kernel
theorem dX6_sum_54 : decode cX6_sum 54 = .ok (.invokevirtual 297, 3) := by decide +kernel
theorem dX6_sum_57 : decode cX6_sum 57 = .ok (.ifCond .ne 5, 3) := by decide +kernel
theorem dX6_sum_60 : decode cX6_sum 60 = .ok (.iconst 0, 1) := by decide +kernel
theorem dX6_sum_61 : decode cX6_sum 61 = .ok (.ireturn, 1) := by decide +kernel
theorem dX6_sum_62 : decode cX6_sum 62 = .ok (.aload_n 0, 1) := by decide +kernel
theorem dX6_sum_63 : decode cX6_sum 63 = .ok (.getfield 34, 3) := by decide +kernel
theorem dX6_sum_66 : decode cX6_sum 66 = .ok (.getfield 193, 3) := by decide +kernel
theorem dX6_sum_69 : decode cX6_sum 69 = .ok (.aload_n 3, 1) := by decide +kernel
theorem dX6_sum_70 : decode cX6_sum 70 = .ok (.iconst 0, 1) := by decide +kernel
theorem dX6_sum_71 : decode cX6_sum 71 = .ok (.invokevirtual 273, 3) := by decide +kernel
theorem dX6_sum_74 : decode cX6_sum 74 = .ok (.iinc 2 1, 3) := by decide +kernel
theorem dX6_sum_77 : decode cX6_sum 77 = .ok (.goto (-65), 3) := by decide +kernel
theorem dX6_sum_80 : decode cX6_sum 80 = .ok (.iconst 1, 1) := by decide +kernel
theorem dX6_sum_81 : decode cX6_sum 81 = .ok (.ireturn, 1) := by decide +kernel
set_option maxRecDepth 20000 in
theorem ggX6_sum_X6_sign : GoodIn wsX6_sum wsX6_sign := goodIn_r _ [12, 13, 14, 15, 79, 80, 81, 82, 83, 84, 85, 86, 87, 105, 106, 107, 108, 109, 110] (by decide +kernel) (by decide +kernel)
set_option maxRecDepth 20000 in
theorem gX6_sum_X6_sign : GoodIn wsX6_sum (wsV RX6 43 RX6 yX6_sign wsX6_sign) := goodIn_app (goodIn_of _ (by decide +kernel)) ggX6_sum_X6_sign
set_option maxRecDepth 20000 in
theorem ggX6_sum_X6_take : GoodIn wsX6_sum wsX6_take := goodIn_r _ [19, 15, 13, 14, 79, 80, 81, 82, 83, 84, 85, 86, 87, 105, 106, 107, 108, 109, 110] (by decide +kernel) (by decide +kernel)
set_option maxRecDepth 20000 in
theorem gX6_sum_X6_take : GoodIn wsX6_sum (wsV RX6 79 RX6 yX6_take wsX6_take) := goodIn_app (goodIn_of _ (by decide +kernel)) ggX6_sum_X6_take
set_option maxRecDepth 20000 in
theorem ggX6_sum_X6_product : GoodIn wsX6_sum wsX6_product := goodIn_r _ [28, 29, 30, 3, 4, 31, 32, 33, 8, 9, 10, 11, 12, 13, 14, 15, 16, 17, 18, 19, 20, 21, 22, 23, 24, 25, 26, 27, 0, 1, 2, 5, 6, 7, 34, 35, 36, 37, 38, 39, 40, 41, 42, 43, 44, 45, 46, 47, 48, 49, 50, 51, 52, 53, 54, 55, 56, 57, 58, 59, 60, 61, 62, 63, 64, 65, 66, 67, 68, 69, 70, 71, 72, 73, 74, 75, 76, 77, 78, 79, 80, 81, 82, 83, 84, 85, 86, 87, 88, 89, 90, 91, 92, 93, 94, 95, 96, 97, 98, 99, 100, 101, 102, 103, 104, 105, 106, 107, 108, 109, 110, 111, 112, 113, 114, 115, 116] (by decide +kernel) (by decide +kernel)
set_option maxRecDepth 20000 in
theorem gX6_sum_X6_product : GoodIn wsX6_sum (wsV RX6 297 RX6 yX6_product wsX6_product) := goodIn_app (goodIn_of _ (by decide +kernel)) ggX6_sum_X6_product
set_option maxRecDepth 20000 in
theorem ggX6_sum_X9_add : GoodIn wsX6_sum wsX9_add := goodIn_r _ [24, 25, 26, 27, 111, 112, 113, 114] (by decide +kernel) (by decide +kernel)
set_option maxRecDepth 20000 in
theorem gX6_sum_X9_add : GoodIn wsX6_sum (wsV RX6 273 RX9 yX9_add wsX9_add) := goodIn_app (goodIn_of _ (by decide +kernel)) ggX6_sum_X9_add
theorem k_X6_sum_f34 : Cond.fieldLink RX6 34 "TideLots$Reader" "built" "LTideLots$Shore;" ∈ wsX6_sum := by decide +kernel
theorem i_X6_sum_X6 : ∀ w ∈ u_ws RX6 TX6 9, w ∈ wsX6_sum := by decide +kernel
theorem k_X6_sum_f193 : Cond.fieldLink RX6 193 "TideLots$Shore" "sums" "LTideLots$Sums;" ∈ wsX6_sum := by decide +kernel
theorem i_X6_sum_X7 : ∀ w ∈ u_ws RX7 TX7 17, w ∈ wsX6_sum := by decide +kernel
theorem k_X6_sum_f300 : Cond.fieldLink RX6 300 "TideLots$Sign" "PLUS" "LTideLots$Sign;" ∈ wsX6_sum := by decide +kernel
theorem k_X6_sum_f303 : Cond.fieldLink RX6 303 "TideLots$Sign" "MINUS" "LTideLots$Sign;" ∈ wsX6_sum := by decide +kernel
noncomputable def b_X6_sum_80 (Z : Nat → Nat) (F : Nat → gMem → Nat → Int32 → Option (Int32 × gMem)) (M : gMem)  : Option (Int32 × gMem) :=
  some ((1 : Int32), M)
noncomputable def b_X6_sum_60 (Z : Nat → Nat) (F : Nat → gMem → Nat → Int32 → Option (Int32 × gMem)) (M : gMem)  : Option (Int32 × gMem) :=
  some ((0 : Int32), M)
noncomputable def b_X6_sum_39 (Z : Nat → Nat) (F : Nat → gMem → Nat → Int32 → Option (Int32 × gMem)) (M : gMem) (x0 : Nat) (x1 : Int32) (x2 : Int32) : Option ((gMem × Int32) ⊕ (Int32 × gMem)) :=
  ck (mT M x0 = 6) <| bd (f_X6_sign M x0) fun r1 M1 => ck (mT M1 x0 = 6) <| bd (f_X6_take M1 x0 r1) fun r3 M3 => (if r3 = 0 then oI (b_X6_sum_60 Z F M3 ) else ck (mT M3 x0 = 6) <| bd (F 5 M3 x0 x1) fun r6 M6 => (if r6 = 0 then oI (b_X6_sum_60 Z F M6 ) else ck (mT M6 x0 = 6) <| dr ((mR M6 x0 2)) fun a9 => ck (mT M6 a9 = 7) <| dr ((mR M6 a9 10)) fun a12 => ck (mT M6 a12 = 8) <| bd (f_X9_add Z M6 a12 r1 ((0 : Int32))) fun _ M11 => some (.inl (M11, (x2 + (1 : Int32))))))
noncomputable def bb_X6_sum_12 (Z : Nat → Nat) (F : Nat → gMem → Nat → Int32 → Option (Int32 × gMem)) (M : gMem) (x0 : Nat) (x1 : Int32) (x2 : Int32) : Option ((gMem × Int32) ⊕ (Int32 × gMem)) :=
  (if (400 : Int32) ≤ x2 then oI (b_X6_sum_80 Z F M ) else ck (mT M x0 = 6) <| bd (f_X6_sign M x0) fun r16 M16 => (if r16 = (some (Z 31)) then b_X6_sum_39 Z F M16 x0 x1 x2 else ck (mT M16 x0 = 6) <| bd (f_X6_sign M16 x0) fun r18 M18 => (if r18 = (some (Z 32)) then b_X6_sum_39 Z F M18 x0 x1 x2 else oI (b_X6_sum_80 Z F M18 ))))
noncomputable def lp_X6_sum_12 (Z : Nat → Nat) (F : Nat → gMem → Nat → Int32 → Option (Int32 × gMem)) (M : gMem) (x0 : Nat) (x1 : Int32) (x2 : Int32) : Option (Int32 × gMem) :=
  lp (fun (q : gMem × Int32) => bb_X6_sum_12 Z F q.1 x0 x1 q.2) (M, x2)
noncomputable def b_X6_sum_0 (Z : Nat → Nat) (F : Nat → gMem → Nat → Int32 → Option (Int32 × gMem)) (M : gMem) (x0 : Nat) (x1 : Int32) : Option (Int32 × gMem) :=
  ck (mT M x0 = 6) <| bd (F 5 M x0 x1) fun r21 M21 => (if r21 = 0 then some ((0 : Int32), M21) else lp_X6_sum_12 Z F M21 x0 x1 ((0 : Int32)))
noncomputable def fr_X6_sum (Z : Nat → Nat) (F : Nat → gMem → Nat → Int32 → Option (Int32 × gMem)) (M : gMem) (x0 : Nat) (x1 : Int32) : Option (Int32 × gMem) :=
  b_X6_sum_0 Z F M x0 x1
set_option maxHeartbeats 4000000 in
set_option maxRecDepth 100000 in
theorem t_X6_sum_80 (X : gX p s m args meth c D cy B (gSt Z B H0) RX6 cX6_sum wsX6_sum 4) (hr : meth.sig.returnType = (some .boolean)) {n0 : Nat} {F : Nat → gMem → Nat → Int32 → Option (Int32 × gMem)} (hF : hX6R l D cy B H0 Z n0 F) {Q : State → Prop} : ∀ (M : gMem)  (z : Int32 × gMem), b_X6_sum_80 Z F M  = some z → (fun (r : Int32 × gMem) => Q = gMQ below D cy B H0 args s 0 0 (some (vI r.1)) r.2) z → gGo p l e (rX6R (n0 + 1)) s m args below meth c D cy B H0 4 0 0 Q 80 [] [] M := by
  intro M  z hf hK
  unfold b_X6_sum_80 at hf
  refine g_iconst (v := (1 : Int32)) X dX6_sum_80 (by decide) ?_
  cases hf
  refine g_eqQ hK ?_
  exact g_zret X hr (gnb (Or.inr rfl)) dX6_sum_81
set_option maxHeartbeats 4000000 in
set_option maxRecDepth 100000 in
theorem t_X6_sum_60 (X : gX p s m args meth c D cy B (gSt Z B H0) RX6 cX6_sum wsX6_sum 4) (hr : meth.sig.returnType = (some .boolean)) {n0 : Nat} {F : Nat → gMem → Nat → Int32 → Option (Int32 × gMem)} (hF : hX6R l D cy B H0 Z n0 F) {Q : State → Prop} : ∀ (M : gMem)  (z : Int32 × gMem), b_X6_sum_60 Z F M  = some z → (fun (r : Int32 × gMem) => Q = gMQ below D cy B H0 args s 0 0 (some (vI r.1)) r.2) z → gGo p l e (rX6R (n0 + 1)) s m args below meth c D cy B H0 4 0 0 Q 60 [] [] M := by
  intro M  z hf hK
  unfold b_X6_sum_60 at hf
  refine g_iconst (v := (0 : Int32)) X dX6_sum_60 (by decide) ?_
  cases hf
  refine g_eqQ hK ?_
  exact g_zret X hr (gnb (Or.inl rfl)) dX6_sum_61
set_option maxHeartbeats 4000000 in
set_option maxRecDepth 100000 in
theorem t_X6_sum_39 (X : gX p s m args meth c D cy B (gSt Z B H0) RX6 cX6_sum wsX6_sum 4) (hr : meth.sig.returnType = (some .boolean)) {n0 : Nat} {F : Nat → gMem → Nat → Int32 → Option (Int32 × gMem)} (hF : hX6R l D cy B H0 Z n0 F) {Q : State → Prop} : ∀ (M : gMem) (x0 : Nat) (x1 : Int32) (x2 : Int32) (z : (gMem × Int32) ⊕ (Int32 × gMem)), b_X6_sum_39 Z F M x0 x1 x2 = some z → (Sum.elim (fun (q : gMem × Int32) => gGo p l e (rX6R (n0 + 1)) s m args below meth c D cy B H0 4 0 0 Q 12 [(0, vR (some x0)), (1, vI x1), (2, vI q.2)] [] q.1) (fun (r : Int32 × gMem) => Q = gMQ below D cy B H0 args s 0 0 (some (vI r.1)) r.2)) z → gGo p l e (rX6R (n0 + 1)) s m args below meth c D cy B H0 4 0 0 Q 39 [(0, vR (some x0)), (1, vI x1), (2, vI x2)] [] M := by
  intro M x0 x1 x2 z hf hK
  unfold b_X6_sum_39 at hf
  refine g_aload_n X dX6_sum_39 rfl rfl ?_
  obtain ⟨hT2, hf⟩ := ck_e hf
  obtain ⟨r1, M1, hq1, hf⟩ := bd_e hf
  refine g_callV (ci := 5) (b := x0) (As := []) (st := []) (v := some (vR r1)) (M1 := M1) X (m_X6_sign l hq1) (cwV 0 X.2.2.1 gX6_sum_X6_sign rfl rfl rfl (by decide +kernel) ⟨rX6R_f (Nat.le_of_ble_eq_true rfl), rX6R_l (Nat.le_of_ble_eq_true rfl)⟩) rfl rfl rfl hT2 (by decide) rfl (Nat.le_of_ble_eq_true rfl) dX6_sum_40 ⟨Nat.zero_le _, Nat.zero_le _⟩ ?_
  refine g_astore_n (lv' := [(3, vR r1), (0, vR (some x0)), (1, vI x1), (2, vI x2)]) X dX6_sum_43 rfl (by decide) rfl ?_
  refine g_aload_n X dX6_sum_44 rfl rfl ?_
  refine g_aload_n X dX6_sum_45 rfl rfl ?_
  obtain ⟨hT4, hf⟩ := ck_e hf
  obtain ⟨r3, M3, hq3, hf⟩ := bd_e hf
  refine g_callV (ci := 5) (b := x0) (As := [vR r1]) (st := []) (v := some (vI r3)) (M1 := M3) X (m_X6_take l hq3) (cwV 1 X.2.2.1 gX6_sum_X6_take rfl rfl rfl (by decide +kernel) ⟨rX6R_f (Nat.le_of_ble_eq_true rfl), rX6R_l (Nat.le_of_ble_eq_true rfl)⟩) rfl rfl rfl hT4 (by decide) rfl (Nat.le_of_ble_eq_true rfl) dX6_sum_46 ⟨Nat.zero_le _, Nat.zero_le _⟩ ?_
  refine g_if_eq (tgt := 60) X dX6_sum_49 (by decide) (fun hc => ?_) (fun hc => ?_)
  · have hf := ife_t hc hf
    obtain ⟨w5, hw5, hz5⟩ := oI_e hf
    subst hz5
    have hf := hw5
    refine g_sub (lvsub_of _ _ [] rfl) ?_
    exact t_X6_sum_60 X hr hF _  _ hf hK
  · have hf := ife_f hc hf
    refine g_aload_n X dX6_sum_52 rfl rfl ?_
    refine g_iload_n X dX6_sum_53 rfl rfl ?_
    obtain ⟨hT7, hf⟩ := ck_e hf
    obtain ⟨r6, M6, hq6, hf⟩ := bd_e hf
    refine g_callV (ci := 5) (b := x0) (As := [vI x1]) (st := []) (v := some (vI r6)) (M1 := M6) X (hF.2.2.2.2.2.1 _ _ _ _ _ hq6) (cwV 1 X.2.2.1 gX6_sum_X6_product rfl rfl rfl (by decide +kernel) ⟨rX6R_rf, rX6R_rl (Nat.le_of_ble_eq_true rfl)⟩) rfl rfl rfl hT7 (by decide) rfl (Nat.le_of_ble_eq_true rfl) dX6_sum_54 ⟨Nat.zero_le _, Nat.zero_le _⟩ ?_
    refine g_if_ne (tgt := 62) X dX6_sum_57 (by decide) (fun hc => ?_) (fun hc => ?_)
    · have hf := ife_f hc hf
      refine g_aload_n X dX6_sum_62 rfl rfl ?_
      obtain ⟨hT8, hf⟩ := ck_e hf
      refine g_get (ci := 5) (v := vR (mR M6 x0 2)) 2 X cdX6 i_X6_sum_X6 (by decide) k_X6_sum_f34 rfl dX6_sum_63 rfl hT8 rfl ?_
      obtain ⟨a9, ha9, hf⟩ := dr_e hf
      obtain ⟨hT10, hf⟩ := ck_e hf
      refine g_get (ci := 6) (v := vR (mR M6 a9 10)) 10 X cdX7 i_X6_sum_X7 (by decide) k_X6_sum_f193 rfl dX6_sum_66 ha9 hT10 rfl ?_
      refine g_aload_n X dX6_sum_69 rfl rfl ?_
      refine g_iconst (v := (0 : Int32)) X dX6_sum_70 (by decide) ?_
      obtain ⟨a12, ha12, hf⟩ := dr_e hf
      obtain ⟨hT13, hf⟩ := ck_e hf
      obtain ⟨r11, M11, hq11, hf⟩ := bd_e hf
      refine g_callV (ci := 7) (b := a12) (As := [vR r1, vI (0 : Int32)]) (st := []) (v := none) (M1 := M11) X (m_X9_add l hq11) (cwV 2 X.2.2.1 gX6_sum_X9_add rfl rfl rfl (by decide +kernel) ⟨rX6R_f (Nat.le_of_ble_eq_true rfl), rX6R_l (Nat.le_of_ble_eq_true rfl)⟩) rfl rfl ha12 hT13 (by decide) rfl (Nat.le_of_ble_eq_true rfl) dX6_sum_71 ⟨Nat.zero_le _, Nat.zero_le _⟩ ?_
      refine g_iinc (v := (1 : Int32)) (lv' := [(2, vI (x2 + (1 : Int32))), (3, vR r1), (0, vR (some x0)), (1, vI x1)]) X dX6_sum_74 rfl (by decide) (by decide) rfl ?_
      refine g_goto (tgt := 12) X dX6_sum_77 (by decide) ?_
      cases hf
      refine g_sub (lvsub_of _ _ [2, 3, 0] rfl) ?_
      exact hK
    · have hf := ife_t hc hf
      obtain ⟨w14, hw14, hz14⟩ := oI_e hf
      subst hz14
      have hf := hw14
      refine g_sub (lvsub_of _ _ [] rfl) ?_
      exact t_X6_sum_60 X hr hF _  _ hf hK
set_option maxHeartbeats 4000000 in
set_option maxRecDepth 100000 in
theorem tb_X6_sum_12 (X : gX p s m args meth c D cy B (gSt Z B H0) RX6 cX6_sum wsX6_sum 4) (hr : meth.sig.returnType = (some .boolean)) {n0 : Nat} {F : Nat → gMem → Nat → Int32 → Option (Int32 × gMem)} (hF : hX6R l D cy B H0 Z n0 F) {Q : State → Prop} : ∀ (M : gMem) (x0 : Nat) (x1 : Int32) (x2 : Int32) (z : (gMem × Int32) ⊕ (Int32 × gMem)), bb_X6_sum_12 Z F M x0 x1 x2 = some z → (Sum.elim (fun (q : gMem × Int32) => gGo p l e (rX6R (n0 + 1)) s m args below meth c D cy B H0 4 0 0 Q 12 [(0, vR (some x0)), (1, vI x1), (2, vI q.2)] [] q.1) (fun (r : Int32 × gMem) => Q = gMQ below D cy B H0 args s 0 0 (some (vI r.1)) r.2)) z → gGo p l e (rX6R (n0 + 1)) s m args below meth c D cy B H0 4 0 0 Q 12 [(0, vR (some x0)), (1, vI x1), (2, vI x2)] [] M := by
  intro M x0 x1 x2 z hf hK
  unfold bb_X6_sum_12 at hf
  refine g_iload_n X dX6_sum_12 rfl rfl ?_
  refine g_sipush (v := (400 : Int32)) X dX6_sum_13 (by decide) ?_
  refine g_icmp_ge (tgt := 80) X dX6_sum_16 (by decide) (fun hc => ?_) (fun hc => ?_)
  · have hf := ife_t hc hf
    obtain ⟨w15, hw15, hz15⟩ := oI_e hf
    subst hz15
    have hf := hw15
    refine g_sub (lvsub_of _ _ [] rfl) ?_
    exact t_X6_sum_80 X hr hF _  _ hf hK
  · have hf := ife_f hc hf
    refine g_aload_n X dX6_sum_19 rfl rfl ?_
    obtain ⟨hT17, hf⟩ := ck_e hf
    obtain ⟨r16, M16, hq16, hf⟩ := bd_e hf
    refine g_callV (ci := 5) (b := x0) (As := []) (st := []) (v := some (vR r16)) (M1 := M16) X (m_X6_sign l hq16) (cwV 0 X.2.2.1 gX6_sum_X6_sign rfl rfl rfl (by decide +kernel) ⟨rX6R_f (Nat.le_of_ble_eq_true rfl), rX6R_l (Nat.le_of_ble_eq_true rfl)⟩) rfl rfl rfl hT17 (by decide) rfl (Nat.le_of_ble_eq_true rfl) dX6_sum_20 ⟨Nat.zero_le _, Nat.zero_le _⟩ ?_
    refine g_gets (w := vR (some (Z 31))) X (gSt_E X 31 (by decide)) k_X6_sum_f300 rfl dX6_sum_23 ?_
    refine g_acmp_eq (tgt := 39) X dX6_sum_26 (by decide) (fun hc => ?_) (fun hc => ?_)
    · have hf := ife_t hc hf
      refine g_sub (lvsub_of _ _ [0, 1, 2] rfl) ?_
      exact t_X6_sum_39 X hr hF _ _ _ _ _ hf hK
    · have hf := ife_f hc hf
      refine g_aload_n X dX6_sum_29 rfl rfl ?_
      obtain ⟨hT19, hf⟩ := ck_e hf
      obtain ⟨r18, M18, hq18, hf⟩ := bd_e hf
      refine g_callV (ci := 5) (b := x0) (As := []) (st := []) (v := some (vR r18)) (M1 := M18) X (m_X6_sign l hq18) (cwV 0 X.2.2.1 gX6_sum_X6_sign rfl rfl rfl (by decide +kernel) ⟨rX6R_f (Nat.le_of_ble_eq_true rfl), rX6R_l (Nat.le_of_ble_eq_true rfl)⟩) rfl rfl rfl hT19 (by decide) rfl (Nat.le_of_ble_eq_true rfl) dX6_sum_30 ⟨Nat.zero_le _, Nat.zero_le _⟩ ?_
      refine g_gets (w := vR (some (Z 32))) X (gSt_E X 32 (by decide)) k_X6_sum_f303 rfl dX6_sum_33 ?_
      refine g_acmp_ne (tgt := 80) X dX6_sum_36 (by decide) (fun hc => ?_) (fun hc => ?_)
      · have hf := ife_f hc hf
        obtain ⟨w20, hw20, hz20⟩ := oI_e hf
        subst hz20
        have hf := hw20
        refine g_sub (lvsub_of _ _ [] rfl) ?_
        exact t_X6_sum_80 X hr hF _  _ hf hK
      · have hf := ife_t hc hf
        refine g_sub (lvsub_of _ _ [0, 1, 2] rfl) ?_
        exact t_X6_sum_39 X hr hF _ _ _ _ _ hf hK
set_option maxHeartbeats 4000000 in
set_option maxRecDepth 100000 in
theorem tl_X6_sum_12 (X : gX p s m args meth c D cy B (gSt Z B H0) RX6 cX6_sum wsX6_sum 4) (hr : meth.sig.returnType = (some .boolean)) {n0 : Nat} {F : Nat → gMem → Nat → Int32 → Option (Int32 × gMem)} (hF : hX6R l D cy B H0 Z n0 F) {Q : State → Prop} : ∀ (M : gMem) (x0 : Nat) (x1 : Int32) (x2 : Int32) (z : Int32 × gMem), lp_X6_sum_12 Z F M x0 x1 x2 = some z → (fun (r : Int32 × gMem) => Q = gMQ below D cy B H0 args s 0 0 (some (vI r.1)) r.2) z → gGo p l e (rX6R (n0 + 1)) s m args below meth c D cy B H0 4 0 0 Q 12 [(0, vR (some x0)), (1, vI x1), (2, vI x2)] [] M := by
  intro M x0 x1 x2 z hf hK
  refine lp_ind (P := (fun (q : gMem × Int32) (z : Int32 × gMem) => (fun (r : Int32 × gMem) => Q = gMQ below D cy B H0 args s 0 0 (some (vI r.1)) r.2) z → gGo p l e (rX6R (n0 + 1)) s m args below meth c D cy B H0 4 0 0 Q 12 [(0, vR (some x0)), (1, vI x1), (2, vI q.2)] [] q.1)) (fun q z hq => ?_) _ _ hf hK
  intro hK
  obtain ⟨w, hw, hm⟩ := hq
  refine tb_X6_sum_12 X hr hF _ _ _ _ w hw ?_
  cases w with
  | inl a => exact hm hK
  | inr b => cases hm; exact hK
set_option maxHeartbeats 4000000 in
set_option maxRecDepth 100000 in
theorem t_X6_sum_0 (X : gX p s m args meth c D cy B (gSt Z B H0) RX6 cX6_sum wsX6_sum 4) (hr : meth.sig.returnType = (some .boolean)) {n0 : Nat} {F : Nat → gMem → Nat → Int32 → Option (Int32 × gMem)} (hF : hX6R l D cy B H0 Z n0 F) {Q : State → Prop} : ∀ (M : gMem) (x0 : Nat) (x1 : Int32) (z : Int32 × gMem), b_X6_sum_0 Z F M x0 x1 = some z → (fun (r : Int32 × gMem) => Q = gMQ below D cy B H0 args s 0 0 (some (vI r.1)) r.2) z → gGo p l e (rX6R (n0 + 1)) s m args below meth c D cy B H0 4 0 0 Q 0 [(0, vR (some x0)), (1, vI x1)] [] M := by
  intro M x0 x1 z hf hK
  unfold b_X6_sum_0 at hf
  refine g_aload_n X dX6_sum_0 rfl rfl ?_
  refine g_iload_n X dX6_sum_1 rfl rfl ?_
  obtain ⟨hT22, hf⟩ := ck_e hf
  obtain ⟨r21, M21, hq21, hf⟩ := bd_e hf
  refine g_callV (ci := 5) (b := x0) (As := [vI x1]) (st := []) (v := some (vI r21)) (M1 := M21) X (hF.2.2.2.2.2.1 _ _ _ _ _ hq21) (cwV 1 X.2.2.1 gX6_sum_X6_product rfl rfl rfl (by decide +kernel) ⟨rX6R_rf, rX6R_rl (Nat.le_of_ble_eq_true rfl)⟩) rfl rfl rfl hT22 (by decide) rfl (Nat.le_of_ble_eq_true rfl) dX6_sum_2 ⟨Nat.zero_le _, Nat.zero_le _⟩ ?_
  refine g_if_ne (tgt := 10) X dX6_sum_5 (by decide) (fun hc => ?_) (fun hc => ?_)
  · have hf := ife_f hc hf
    refine g_iconst (v := (0 : Int32)) X dX6_sum_10 (by decide) ?_
    refine g_istore_n (lv' := [(2, vI (0 : Int32)), (0, vR (some x0)), (1, vI x1)]) X dX6_sum_11 rfl (by decide) rfl ?_
    refine g_sub (lvsub_of _ _ [1, 2, 0] rfl) ?_
    exact tl_X6_sum_12 X hr hF _ _ _ _ _ hf hK
  · have hf := ife_t hc hf
    refine g_iconst (v := (0 : Int32)) X dX6_sum_8 (by decide) ?_
    cases hf
    refine g_eqQ hK ?_
    exact g_zret X hr (gnb (Or.inl rfl)) dX6_sum_9
set_option maxHeartbeats 4000000 in
set_option maxRecDepth 100000 in
theorem mr_X6_sum (l : Launch) {D : va_G} {cy : Nat → ClassId} {B : Nat} {H0 : Heap} {Z : Nat → Nat} {M M1 : gMem} {n0 : Nat} {F : Nat → gMem → Nat → Int32 → Option (Int32 × gMem)} (hF : hX6R l D cy B H0 Z n0 F) {x0 : Nat} {x1 : Int32} {r : Int32} (hf : fr_X6_sum Z F M x0 x1 = some (r, M1)) : Met l yX6_sum wsX6_sum (rX6R (n0 + 1)) (va_Pc (Value.ref x0 :: List.map gv [vI x1]) (gPre D cy B H0 (gSt Z B H0) M)) (gQ D cy B H0 (some (vI r)) M1) 0 0 (gA B) := by
  refine Met.ofW (cc := cX6_sum) (maxL := 4) (ret := (some .boolean)) (by decide) rfl ?_
  intro p e s m args below meth c s₁ Bd hml hv
  obtain ⟨rfl, hW, hKK, hFs⟩ := hv
  have X : gX p s m _ meth c D cy B (gSt Z B H0) RX6 cX6_sum wsX6_sum 4 := ⟨Bd.exec, Bd.bytes, atoms_spec (ws := wsX6_sum) Bd.pre, findClass_of_methodNamed Bd.named, hml, hKK, by rw [hW.1]; exact hW.2.1, Bd.notSynchronized, hFs⟩
  have hr := Bd.returns
  have hl := lv_entry ([.ref x0, .int x1]) (n := 4) (Nat.le_of_ble_eq_true rfl)
  show W p l e (rX6R (n0 + 1)) s m _ below meth c s.heap [] 0 0 _ (entryFrame m ([.ref x0, .int x1] : List Value).toArray 4)
  rw [lg_entry_eq]
  generalize (lg_sl ([.ref x0, .int x1]) ++ List.replicate (4 - (lg_sl ([.ref x0, .int x1])).length) Slot.unset).toArray = ls at hl ⊢
  have hl : lv_has ls 4 (List.map gq [(0, vR (some x0)), (1, vI x1)]) := hl
  exact t_X6_sum_0 X hr hF _ _ _ _ hf rfl s.heap [] ls hW va_S.rf (lv_has_sub hl (lvsub_of _ _ [0, 1] rfl))
/-! ## TideLots$Reader.product(I)Z -/
theorem dX6_product_0 : decode cX6_product 0 = .ok (.aload_n 0, 1) := by decide +kernel
theorem dX6_product_1 : decode cX6_product 1 = .ok (.iload_n 1, 1) := by decide +kernel
theorem dX6_product_2 : decode cX6_product 2 = .ok (.invokevirtual 306, 3) := by decide +kernel
theorem dX6_product_5 : decode cX6_product 5 = .ok (.ifCond .ne 5, 3) := by decide +kernel
theorem dX6_product_8 : decode cX6_product 8 = .ok (.iconst 0, 1) := by decide +kernel
theorem dX6_product_9 : decode cX6_product 9 = .ok (.ireturn, 1) := by decide +kernel
theorem dX6_product_10 : decode cX6_product 10 = .ok (.iconst 0, 1) := by decide +kernel
theorem dX6_product_11 : decode cX6_product 11 = .ok (.istore_n 2, 1) := by decide +kernel
theorem dX6_product_12 : decode cX6_product 12 = .ok (.iload_n 2, 1) := by decide +kernel
theorem dX6_product_13 : decode cX6_product 13 = .ok (.sipush 400, 3) := by decide +kernel
theorem dX6_product_16 : decode cX6_product 16 = .ok (.if_icmp .ge 64, 3) := by decide +kernel
theorem dX6_product_19 : decode cX6_product 19 = .ok (.aload_n 0, 1) := by decide +kernel
theorem dX6_product_20 : decode cX6_product 20 = .ok (.invokevirtual 43, 3) := by decide +kernel
theorem dX6_product_23 : decode cX6_product 23 = .ok (.getstatic 309, 3) := by decide +kernel
theorem dX6_product_26 : decode cX6_product 26 = .ok (.if_acmp .eq 13, 3) := by decide +kernel
theorem dX6_product_29 : decode cX6_product 29 = .ok (.aload_n 0, 1) := by decide +kernel
theorem dX6_product_30 : decode cX6_product 30 = .ok (.invokevirtual 43, 3) := by decide +kernel
theorem dX6_product_33 : decode cX6_product 33 = .ok (.getstatic 312, 3) := by decide +kernel
theorem dX6_product_36 : decode cX6_product 36 = .ok (.if_acmp .ne 44, 3) := by decide +kernel
theorem dX6_product_39 : decode cX6_product 39 = .ok (.aload_n 0, 1) := by decide +kernel
theorem dX6_product_40 : decode cX6_product 40 = .ok (.invokevirtual 43, 3) := by decide +kernel
theorem dX6_product_43 : decode cX6_product 43 = .ok (.astore_n 3, 1) := by decide +kernel
theorem dX6_product_44 : decode cX6_product 44 = .ok (.aload_n 0, 1) := by decide +kernel
theorem dX6_product_45 : decode cX6_product 45 = .ok (.aload_n 3, 1) := by decide +kernel
theorem dX6_product_46 : decode cX6_product 46 = .ok (.invokevirtual 79, 3) := by decide +kernel
theorem dX6_product_49 : decode cX6_product 49 = .ok (.ifCond .eq 11, 3) := by decide +kernel
theorem dX6_product_52 : decode cX6_product 52 = .ok (.aload_n 0, 1) := by decide +kernel
theorem dX6_product_53 : decode cX6_product 53 = .ok (.iload_n 1, 1) := by decide +kernel
theorem dX6_product_54 : decode cX6_product 54 = .ok (.invokevirtual 306, 3) := by decide +kernel
theorem dX6_product_57 : decode cX6_product 57 = .ok (.ifCond .ne 5, 3) := by decide +kernel
theorem dX6_product_60 : decode cX6_product 60 = .ok (.iconst 0, 1) := by decide +kernel
theorem dX6_product_61 : decode cX6_product 61 = .ok (.ireturn, 1) := by decide +kernel
theorem dX6_product_62 : decode cX6_product 62 = .ok (.aload_n 0, 1) := by decide +kernel
theorem dX6_product_63 : decode cX6_product 63 = .ok (.getfield 34, 3) := by decide +kernel
theorem dX6_product_66 : decode cX6_product 66 = .ok (.getfield 193, 3) := by decide +kernel
theorem dX6_product_69 : decode cX6_product 69 = .ok (.aload_n 3, 1) := by decide +kernel
theorem dX6_product_70 : decode cX6_product 70 = .ok (.iconst 0, 1) := by decide +kernel
theorem dX6_product_71 : decode cX6_product 71 = .ok (.invokevirtual 273, 3) := by decide +kernel
theorem dX6_product_74 : decode cX6_product 74 = .ok (.iinc 2 1, 3) := by decide +kernel
theorem dX6_product_77 : decode cX6_product 77 = .ok (.goto (-65), 3) := by decide +kernel
theorem dX6_product_80 : decode cX6_product 80 = .ok (.iconst 1, 1) := by decide +kernel
theorem dX6_product_81 : decode cX6_product 81 = .ok (.ireturn, 1) := by decide +kernel
set_option maxRecDepth 20000 in
theorem ggX6_product_X6_sign : GoodIn wsX6_product wsX6_sign := goodIn_r _ [12, 13, 14, 15, 79, 80, 81, 82, 83, 84, 85, 86, 87, 105, 106, 107, 108, 109, 110] (by decide +kernel) (by decide +kernel)
set_option maxRecDepth 20000 in
theorem gX6_product_X6_sign : GoodIn wsX6_product (wsV RX6 43 RX6 yX6_sign wsX6_sign) := goodIn_app (goodIn_of _ (by decide +kernel)) ggX6_product_X6_sign
set_option maxRecDepth 20000 in
theorem ggX6_product_X6_take : GoodIn wsX6_product wsX6_take := goodIn_r _ [19, 15, 13, 14, 79, 80, 81, 82, 83, 84, 85, 86, 87, 105, 106, 107, 108, 109, 110] (by decide +kernel) (by decide +kernel)
set_option maxRecDepth 20000 in
theorem gX6_product_X6_take : GoodIn wsX6_product (wsV RX6 79 RX6 yX6_take wsX6_take) := goodIn_app (goodIn_of _ (by decide +kernel)) ggX6_product_X6_take
set_option maxRecDepth 20000 in
theorem ggX6_product_X6_value : GoodIn wsX6_product wsX6_value := goodIn_r _ [34, 35, 36, 37, 38, 39, 30, 40, 41, 42, 3, 4, 43, 9, 10, 11, 8, 12, 13, 14, 15, 44, 45, 46, 47, 48, 49, 50, 51, 52, 53, 54, 55, 56, 57, 58, 59, 60, 61, 62, 63, 16, 17, 18, 19, 64, 65, 66, 67, 68, 69, 70, 71, 72, 73, 74, 75, 5, 6, 7, 76, 77, 78, 20, 21, 22, 23, 24, 25, 26, 27, 0, 1, 2, 28, 29, 31, 32, 33, 79, 80, 81, 82, 83, 84, 85, 86, 87, 88, 89, 90, 91, 92, 93, 94, 95, 96, 97, 98, 99, 100, 101, 102, 103, 104, 105, 106, 107, 108, 109, 110, 111, 112, 113, 114, 115, 116] (by decide +kernel) (by decide +kernel)
set_option maxRecDepth 20000 in
theorem gX6_product_X6_value : GoodIn wsX6_product (wsV RX6 306 RX6 yX6_value wsX6_value) := goodIn_app (goodIn_of _ (by decide +kernel)) ggX6_product_X6_value
set_option maxRecDepth 20000 in
theorem ggX6_product_X9_add : GoodIn wsX6_product wsX9_add := goodIn_r _ [24, 25, 26, 27, 111, 112, 113, 114] (by decide +kernel) (by decide +kernel)
set_option maxRecDepth 20000 in
theorem gX6_product_X9_add : GoodIn wsX6_product (wsV RX6 273 RX9 yX9_add wsX9_add) := goodIn_app (goodIn_of _ (by decide +kernel)) ggX6_product_X9_add
theorem k_X6_product_f34 : Cond.fieldLink RX6 34 "TideLots$Reader" "built" "LTideLots$Shore;" ∈ wsX6_product := by decide +kernel
theorem i_X6_product_X6 : ∀ w ∈ u_ws RX6 TX6 9, w ∈ wsX6_product := by decide +kernel
theorem k_X6_product_f193 : Cond.fieldLink RX6 193 "TideLots$Shore" "sums" "LTideLots$Sums;" ∈ wsX6_product := by decide +kernel
theorem i_X6_product_X7 : ∀ w ∈ u_ws RX7 TX7 17, w ∈ wsX6_product := by decide +kernel
theorem k_X6_product_f309 : Cond.fieldLink RX6 309 "TideLots$Sign" "TIMES" "LTideLots$Sign;" ∈ wsX6_product := by decide +kernel
theorem k_X6_product_f312 : Cond.fieldLink RX6 312 "TideLots$Sign" "OVER" "LTideLots$Sign;" ∈ wsX6_product := by decide +kernel
noncomputable def b_X6_product_80 (Z : Nat → Nat) (F : Nat → gMem → Nat → Int32 → Option (Int32 × gMem)) (M : gMem)  : Option (Int32 × gMem) :=
  some ((1 : Int32), M)
noncomputable def b_X6_product_60 (Z : Nat → Nat) (F : Nat → gMem → Nat → Int32 → Option (Int32 × gMem)) (M : gMem)  : Option (Int32 × gMem) :=
  some ((0 : Int32), M)
noncomputable def b_X6_product_39 (Z : Nat → Nat) (F : Nat → gMem → Nat → Int32 → Option (Int32 × gMem)) (M : gMem) (x0 : Nat) (x1 : Int32) (x2 : Int32) : Option ((gMem × Int32) ⊕ (Int32 × gMem)) :=
  ck (mT M x0 = 6) <| bd (f_X6_sign M x0) fun r1 M1 => ck (mT M1 x0 = 6) <| bd (f_X6_take M1 x0 r1) fun r3 M3 => (if r3 = 0 then oI (b_X6_product_60 Z F M3 ) else ck (mT M3 x0 = 6) <| bd (F 6 M3 x0 x1) fun r6 M6 => (if r6 = 0 then oI (b_X6_product_60 Z F M6 ) else ck (mT M6 x0 = 6) <| dr ((mR M6 x0 2)) fun a9 => ck (mT M6 a9 = 7) <| dr ((mR M6 a9 10)) fun a12 => ck (mT M6 a12 = 8) <| bd (f_X9_add Z M6 a12 r1 ((0 : Int32))) fun _ M11 => some (.inl (M11, (x2 + (1 : Int32))))))
noncomputable def bb_X6_product_12 (Z : Nat → Nat) (F : Nat → gMem → Nat → Int32 → Option (Int32 × gMem)) (M : gMem) (x0 : Nat) (x1 : Int32) (x2 : Int32) : Option ((gMem × Int32) ⊕ (Int32 × gMem)) :=
  (if (400 : Int32) ≤ x2 then oI (b_X6_product_80 Z F M ) else ck (mT M x0 = 6) <| bd (f_X6_sign M x0) fun r16 M16 => (if r16 = (some (Z 33)) then b_X6_product_39 Z F M16 x0 x1 x2 else ck (mT M16 x0 = 6) <| bd (f_X6_sign M16 x0) fun r18 M18 => (if r18 = (some (Z 34)) then b_X6_product_39 Z F M18 x0 x1 x2 else oI (b_X6_product_80 Z F M18 ))))
noncomputable def lp_X6_product_12 (Z : Nat → Nat) (F : Nat → gMem → Nat → Int32 → Option (Int32 × gMem)) (M : gMem) (x0 : Nat) (x1 : Int32) (x2 : Int32) : Option (Int32 × gMem) :=
  lp (fun (q : gMem × Int32) => bb_X6_product_12 Z F q.1 x0 x1 q.2) (M, x2)
noncomputable def b_X6_product_0 (Z : Nat → Nat) (F : Nat → gMem → Nat → Int32 → Option (Int32 × gMem)) (M : gMem) (x0 : Nat) (x1 : Int32) : Option (Int32 × gMem) :=
  ck (mT M x0 = 6) <| bd (F 6 M x0 x1) fun r21 M21 => (if r21 = 0 then some ((0 : Int32), M21) else lp_X6_product_12 Z F M21 x0 x1 ((0 : Int32)))
noncomputable def fr_X6_product (Z : Nat → Nat) (F : Nat → gMem → Nat → Int32 → Option (Int32 × gMem)) (M : gMem) (x0 : Nat) (x1 : Int32) : Option (Int32 × gMem) :=
  b_X6_product_0 Z F M x0 x1
set_option maxHeartbeats 4000000 in
set_option maxRecDepth 100000 in
theorem t_X6_product_80 (X : gX p s m args meth c D cy B (gSt Z B H0) RX6 cX6_product wsX6_product 4) (hr : meth.sig.returnType = (some .boolean)) {n0 : Nat} {F : Nat → gMem → Nat → Int32 → Option (Int32 × gMem)} (hF : hX6R l D cy B H0 Z n0 F) {Q : State → Prop} : ∀ (M : gMem)  (z : Int32 × gMem), b_X6_product_80 Z F M  = some z → (fun (r : Int32 × gMem) => Q = gMQ below D cy B H0 args s 0 0 (some (vI r.1)) r.2) z → gGo p l e (rX6R (n0 + 1)) s m args below meth c D cy B H0 4 0 0 Q 80 [] [] M := by
  intro M  z hf hK
  unfold b_X6_product_80 at hf
  refine g_iconst (v := (1 : Int32)) X dX6_product_80 (by decide) ?_
  cases hf
  refine g_eqQ hK ?_
  exact g_zret X hr (gnb (Or.inr rfl)) dX6_product_81
set_option maxHeartbeats 4000000 in
set_option maxRecDepth 100000 in
theorem t_X6_product_60 (X : gX p s m args meth c D cy B (gSt Z B H0) RX6 cX6_product wsX6_product 4) (hr : meth.sig.returnType = (some .boolean)) {n0 : Nat} {F : Nat → gMem → Nat → Int32 → Option (Int32 × gMem)} (hF : hX6R l D cy B H0 Z n0 F) {Q : State → Prop} : ∀ (M : gMem)  (z : Int32 × gMem), b_X6_product_60 Z F M  = some z → (fun (r : Int32 × gMem) => Q = gMQ below D cy B H0 args s 0 0 (some (vI r.1)) r.2) z → gGo p l e (rX6R (n0 + 1)) s m args below meth c D cy B H0 4 0 0 Q 60 [] [] M := by
  intro M  z hf hK
  unfold b_X6_product_60 at hf
  refine g_iconst (v := (0 : Int32)) X dX6_product_60 (by decide) ?_
  cases hf
  refine g_eqQ hK ?_
  exact g_zret X hr (gnb (Or.inl rfl)) dX6_product_61
set_option maxHeartbeats 4000000 in
set_option maxRecDepth 100000 in
theorem t_X6_product_39 (X : gX p s m args meth c D cy B (gSt Z B H0) RX6 cX6_product wsX6_product 4) (hr : meth.sig.returnType = (some .boolean)) {n0 : Nat} {F : Nat → gMem → Nat → Int32 → Option (Int32 × gMem)} (hF : hX6R l D cy B H0 Z n0 F) {Q : State → Prop} : ∀ (M : gMem) (x0 : Nat) (x1 : Int32) (x2 : Int32) (z : (gMem × Int32) ⊕ (Int32 × gMem)), b_X6_product_39 Z F M x0 x1 x2 = some z → (Sum.elim (fun (q : gMem × Int32) => gGo p l e (rX6R (n0 + 1)) s m args below meth c D cy B H0 4 0 0 Q 12 [(0, vR (some x0)), (1, vI x1), (2, vI q.2)] [] q.1) (fun (r : Int32 × gMem) => Q = gMQ below D cy B H0 args s 0 0 (some (vI r.1)) r.2)) z → gGo p l e (rX6R (n0 + 1)) s m args below meth c D cy B H0 4 0 0 Q 39 [(0, vR (some x0)), (1, vI x1), (2, vI x2)] [] M := by
  intro M x0 x1 x2 z hf hK
  unfold b_X6_product_39 at hf
  refine g_aload_n X dX6_product_39 rfl rfl ?_
  obtain ⟨hT2, hf⟩ := ck_e hf
  obtain ⟨r1, M1, hq1, hf⟩ := bd_e hf
  refine g_callV (ci := 5) (b := x0) (As := []) (st := []) (v := some (vR r1)) (M1 := M1) X (m_X6_sign l hq1) (cwV 0 X.2.2.1 gX6_product_X6_sign rfl rfl rfl (by decide +kernel) ⟨rX6R_f (Nat.le_of_ble_eq_true rfl), rX6R_l (Nat.le_of_ble_eq_true rfl)⟩) rfl rfl rfl hT2 (by decide) rfl (Nat.le_of_ble_eq_true rfl) dX6_product_40 ⟨Nat.zero_le _, Nat.zero_le _⟩ ?_
  refine g_astore_n (lv' := [(3, vR r1), (0, vR (some x0)), (1, vI x1), (2, vI x2)]) X dX6_product_43 rfl (by decide) rfl ?_
  refine g_aload_n X dX6_product_44 rfl rfl ?_
  refine g_aload_n X dX6_product_45 rfl rfl ?_
  obtain ⟨hT4, hf⟩ := ck_e hf
  obtain ⟨r3, M3, hq3, hf⟩ := bd_e hf
  refine g_callV (ci := 5) (b := x0) (As := [vR r1]) (st := []) (v := some (vI r3)) (M1 := M3) X (m_X6_take l hq3) (cwV 1 X.2.2.1 gX6_product_X6_take rfl rfl rfl (by decide +kernel) ⟨rX6R_f (Nat.le_of_ble_eq_true rfl), rX6R_l (Nat.le_of_ble_eq_true rfl)⟩) rfl rfl rfl hT4 (by decide) rfl (Nat.le_of_ble_eq_true rfl) dX6_product_46 ⟨Nat.zero_le _, Nat.zero_le _⟩ ?_
  refine g_if_eq (tgt := 60) X dX6_product_49 (by decide) (fun hc => ?_) (fun hc => ?_)
  · have hf := ife_t hc hf
    obtain ⟨w5, hw5, hz5⟩ := oI_e hf
    subst hz5
    have hf := hw5
    refine g_sub (lvsub_of _ _ [] rfl) ?_
    exact t_X6_product_60 X hr hF _  _ hf hK
  · have hf := ife_f hc hf
    refine g_aload_n X dX6_product_52 rfl rfl ?_
    refine g_iload_n X dX6_product_53 rfl rfl ?_
    obtain ⟨hT7, hf⟩ := ck_e hf
    obtain ⟨r6, M6, hq6, hf⟩ := bd_e hf
    refine g_callV (ci := 5) (b := x0) (As := [vI x1]) (st := []) (v := some (vI r6)) (M1 := M6) X (hF.2.2.2.2.2.2 _ _ _ _ _ hq6) (cwV 1 X.2.2.1 gX6_product_X6_value rfl rfl rfl (by decide +kernel) ⟨rX6R_rf, rX6R_rl (Nat.le_of_ble_eq_true rfl)⟩) rfl rfl rfl hT7 (by decide) rfl (Nat.le_of_ble_eq_true rfl) dX6_product_54 ⟨Nat.zero_le _, Nat.zero_le _⟩ ?_
    refine g_if_ne (tgt := 62) X dX6_product_57 (by decide) (fun hc => ?_) (fun hc => ?_)
    · have hf := ife_f hc hf
      refine g_aload_n X dX6_product_62 rfl rfl ?_
      obtain ⟨hT8, hf⟩ := ck_e hf
      refine g_get (ci := 5) (v := vR (mR M6 x0 2)) 2 X cdX6 i_X6_product_X6 (by decide) k_X6_product_f34 rfl dX6_product_63 rfl hT8 rfl ?_
      obtain ⟨a9, ha9, hf⟩ := dr_e hf
      obtain ⟨hT10, hf⟩ := ck_e hf
      refine g_get (ci := 6) (v := vR (mR M6 a9 10)) 10 X cdX7 i_X6_product_X7 (by decide) k_X6_product_f193 rfl dX6_product_66 ha9 hT10 rfl ?_
      refine g_aload_n X dX6_product_69 rfl rfl ?_
      refine g_iconst (v := (0 : Int32)) X dX6_product_70 (by decide) ?_
      obtain ⟨a12, ha12, hf⟩ := dr_e hf
      obtain ⟨hT13, hf⟩ := ck_e hf
      obtain ⟨r11, M11, hq11, hf⟩ := bd_e hf
      refine g_callV (ci := 7) (b := a12) (As := [vR r1, vI (0 : Int32)]) (st := []) (v := none) (M1 := M11) X (m_X9_add l hq11) (cwV 2 X.2.2.1 gX6_product_X9_add rfl rfl rfl (by decide +kernel) ⟨rX6R_f (Nat.le_of_ble_eq_true rfl), rX6R_l (Nat.le_of_ble_eq_true rfl)⟩) rfl rfl ha12 hT13 (by decide) rfl (Nat.le_of_ble_eq_true rfl) dX6_product_71 ⟨Nat.zero_le _, Nat.zero_le _⟩ ?_
      refine g_iinc (v := (1 : Int32)) (lv' := [(2, vI (x2 + (1 : Int32))), (3, vR r1), (0, vR (some x0)), (1, vI x1)]) X dX6_product_74 rfl (by decide) (by decide) rfl ?_
      refine g_goto (tgt := 12) X dX6_product_77 (by decide) ?_
      cases hf
      refine g_sub (lvsub_of _ _ [2, 3, 0] rfl) ?_
      exact hK
    · have hf := ife_t hc hf
      obtain ⟨w14, hw14, hz14⟩ := oI_e hf
      subst hz14
      have hf := hw14
      refine g_sub (lvsub_of _ _ [] rfl) ?_
      exact t_X6_product_60 X hr hF _  _ hf hK
set_option maxHeartbeats 4000000 in
set_option maxRecDepth 100000 in
theorem tb_X6_product_12 (X : gX p s m args meth c D cy B (gSt Z B H0) RX6 cX6_product wsX6_product 4) (hr : meth.sig.returnType = (some .boolean)) {n0 : Nat} {F : Nat → gMem → Nat → Int32 → Option (Int32 × gMem)} (hF : hX6R l D cy B H0 Z n0 F) {Q : State → Prop} : ∀ (M : gMem) (x0 : Nat) (x1 : Int32) (x2 : Int32) (z : (gMem × Int32) ⊕ (Int32 × gMem)), bb_X6_product_12 Z F M x0 x1 x2 = some z → (Sum.elim (fun (q : gMem × Int32) => gGo p l e (rX6R (n0 + 1)) s m args below meth c D cy B H0 4 0 0 Q 12 [(0, vR (some x0)), (1, vI x1), (2, vI q.2)] [] q.1) (fun (r : Int32 × gMem) => Q = gMQ below D cy B H0 args s 0 0 (some (vI r.1)) r.2)) z → gGo p l e (rX6R (n0 + 1)) s m args below meth c D cy B H0 4 0 0 Q 12 [(0, vR (some x0)), (1, vI x1), (2, vI x2)] [] M := by
  intro M x0 x1 x2 z hf hK
  unfold bb_X6_product_12 at hf
  refine g_iload_n X dX6_product_12 rfl rfl ?_
  refine g_sipush (v := (400 : Int32)) X dX6_product_13 (by decide) ?_
  refine g_icmp_ge (tgt := 80) X dX6_product_16 (by decide) (fun hc => ?_) (fun hc => ?_)
  · have hf := ife_t hc hf
    obtain ⟨w15, hw15, hz15⟩ := oI_e hf
    subst hz15
    have hf := hw15
    refine g_sub (lvsub_of _ _ [] rfl) ?_
    exact t_X6_product_80 X hr hF _  _ hf hK
  · have hf := ife_f hc hf
    refine g_aload_n X dX6_product_19 rfl rfl ?_
    obtain ⟨hT17, hf⟩ := ck_e hf
    obtain ⟨r16, M16, hq16, hf⟩ := bd_e hf
    refine g_callV (ci := 5) (b := x0) (As := []) (st := []) (v := some (vR r16)) (M1 := M16) X (m_X6_sign l hq16) (cwV 0 X.2.2.1 gX6_product_X6_sign rfl rfl rfl (by decide +kernel) ⟨rX6R_f (Nat.le_of_ble_eq_true rfl), rX6R_l (Nat.le_of_ble_eq_true rfl)⟩) rfl rfl rfl hT17 (by decide) rfl (Nat.le_of_ble_eq_true rfl) dX6_product_20 ⟨Nat.zero_le _, Nat.zero_le _⟩ ?_
    refine g_gets (w := vR (some (Z 33))) X (gSt_E X 33 (by decide)) k_X6_product_f309 rfl dX6_product_23 ?_
    refine g_acmp_eq (tgt := 39) X dX6_product_26 (by decide) (fun hc => ?_) (fun hc => ?_)
    · have hf := ife_t hc hf
      refine g_sub (lvsub_of _ _ [0, 1, 2] rfl) ?_
      exact t_X6_product_39 X hr hF _ _ _ _ _ hf hK
    · have hf := ife_f hc hf
      refine g_aload_n X dX6_product_29 rfl rfl ?_
      obtain ⟨hT19, hf⟩ := ck_e hf
      obtain ⟨r18, M18, hq18, hf⟩ := bd_e hf
      refine g_callV (ci := 5) (b := x0) (As := []) (st := []) (v := some (vR r18)) (M1 := M18) X (m_X6_sign l hq18) (cwV 0 X.2.2.1 gX6_product_X6_sign rfl rfl rfl (by decide +kernel) ⟨rX6R_f (Nat.le_of_ble_eq_true rfl), rX6R_l (Nat.le_of_ble_eq_true rfl)⟩) rfl rfl rfl hT19 (by decide) rfl (Nat.le_of_ble_eq_true rfl) dX6_product_30 ⟨Nat.zero_le _, Nat.zero_le _⟩ ?_
      refine g_gets (w := vR (some (Z 34))) X (gSt_E X 34 (by decide)) k_X6_product_f312 rfl dX6_product_33 ?_
      refine g_acmp_ne (tgt := 80) X dX6_product_36 (by decide) (fun hc => ?_) (fun hc => ?_)
      · have hf := ife_f hc hf
        obtain ⟨w20, hw20, hz20⟩ := oI_e hf
        subst hz20
        have hf := hw20
        refine g_sub (lvsub_of _ _ [] rfl) ?_
        exact t_X6_product_80 X hr hF _  _ hf hK
      · have hf := ife_t hc hf
        refine g_sub (lvsub_of _ _ [0, 1, 2] rfl) ?_
        exact t_X6_product_39 X hr hF _ _ _ _ _ hf hK
set_option maxHeartbeats 4000000 in
set_option maxRecDepth 100000 in
theorem tl_X6_product_12 (X : gX p s m args meth c D cy B (gSt Z B H0) RX6 cX6_product wsX6_product 4) (hr : meth.sig.returnType = (some .boolean)) {n0 : Nat} {F : Nat → gMem → Nat → Int32 → Option (Int32 × gMem)} (hF : hX6R l D cy B H0 Z n0 F) {Q : State → Prop} : ∀ (M : gMem) (x0 : Nat) (x1 : Int32) (x2 : Int32) (z : Int32 × gMem), lp_X6_product_12 Z F M x0 x1 x2 = some z → (fun (r : Int32 × gMem) => Q = gMQ below D cy B H0 args s 0 0 (some (vI r.1)) r.2) z → gGo p l e (rX6R (n0 + 1)) s m args below meth c D cy B H0 4 0 0 Q 12 [(0, vR (some x0)), (1, vI x1), (2, vI x2)] [] M := by
  intro M x0 x1 x2 z hf hK
  refine lp_ind (P := (fun (q : gMem × Int32) (z : Int32 × gMem) => (fun (r : Int32 × gMem) => Q = gMQ below D cy B H0 args s 0 0 (some (vI r.1)) r.2) z → gGo p l e (rX6R (n0 + 1)) s m args below meth c D cy B H0 4 0 0 Q 12 [(0, vR (some x0)), (1, vI x1), (2, vI q.2)] [] q.1)) (fun q z hq => ?_) _ _ hf hK
  intro hK
  obtain ⟨w, hw, hm⟩ := hq
  refine tb_X6_product_12 X hr hF _ _ _ _ w hw ?_
  cases w with
  | inl a => exact hm hK
  | inr b => cases hm; exact hK
set_option maxHeartbeats 4000000 in
set_option maxRecDepth 100000 in
theorem t_X6_product_0 (X : gX p s m args meth c D cy B (gSt Z B H0) RX6 cX6_product wsX6_product 4) (hr : meth.sig.returnType = (some .boolean)) {n0 : Nat} {F : Nat → gMem → Nat → Int32 → Option (Int32 × gMem)} (hF : hX6R l D cy B H0 Z n0 F) {Q : State → Prop} : ∀ (M : gMem) (x0 : Nat) (x1 : Int32) (z : Int32 × gMem), b_X6_product_0 Z F M x0 x1 = some z → (fun (r : Int32 × gMem) => Q = gMQ below D cy B H0 args s 0 0 (some (vI r.1)) r.2) z → gGo p l e (rX6R (n0 + 1)) s m args below meth c D cy B H0 4 0 0 Q 0 [(0, vR (some x0)), (1, vI x1)] [] M := by
  intro M x0 x1 z hf hK
  unfold b_X6_product_0 at hf
  refine g_aload_n X dX6_product_0 rfl rfl ?_
  refine g_iload_n X dX6_product_1 rfl rfl ?_
  obtain ⟨hT22, hf⟩ := ck_e hf
  obtain ⟨r21, M21, hq21, hf⟩ := bd_e hf
  refine g_callV (ci := 5) (b := x0) (As := [vI x1]) (st := []) (v := some (vI r21)) (M1 := M21) X (hF.2.2.2.2.2.2 _ _ _ _ _ hq21) (cwV 1 X.2.2.1 gX6_product_X6_value rfl rfl rfl (by decide +kernel) ⟨rX6R_rf, rX6R_rl (Nat.le_of_ble_eq_true rfl)⟩) rfl rfl rfl hT22 (by decide) rfl (Nat.le_of_ble_eq_true rfl) dX6_product_2 ⟨Nat.zero_le _, Nat.zero_le _⟩ ?_
  refine g_if_ne (tgt := 10) X dX6_product_5 (by decide) (fun hc => ?_) (fun hc => ?_)
  · have hf := ife_f hc hf
    refine g_iconst (v := (0 : Int32)) X dX6_product_10 (by decide) ?_
    refine g_istore_n (lv' := [(2, vI (0 : Int32)), (0, vR (some x0)), (1, vI x1)]) X dX6_product_11 rfl (by decide) rfl ?_
    refine g_sub (lvsub_of _ _ [1, 2, 0] rfl) ?_
    exact tl_X6_product_12 X hr hF _ _ _ _ _ hf hK
  · have hf := ife_t hc hf
    refine g_iconst (v := (0 : Int32)) X dX6_product_8 (by decide) ?_
    cases hf
    refine g_eqQ hK ?_
    exact g_zret X hr (gnb (Or.inl rfl)) dX6_product_9
set_option maxHeartbeats 4000000 in
set_option maxRecDepth 100000 in
theorem mr_X6_product (l : Launch) {D : va_G} {cy : Nat → ClassId} {B : Nat} {H0 : Heap} {Z : Nat → Nat} {M M1 : gMem} {n0 : Nat} {F : Nat → gMem → Nat → Int32 → Option (Int32 × gMem)} (hF : hX6R l D cy B H0 Z n0 F) {x0 : Nat} {x1 : Int32} {r : Int32} (hf : fr_X6_product Z F M x0 x1 = some (r, M1)) : Met l yX6_product wsX6_product (rX6R (n0 + 1)) (va_Pc (Value.ref x0 :: List.map gv [vI x1]) (gPre D cy B H0 (gSt Z B H0) M)) (gQ D cy B H0 (some (vI r)) M1) 0 0 (gA B) := by
  refine Met.ofW (cc := cX6_product) (maxL := 4) (ret := (some .boolean)) (by decide) rfl ?_
  intro p e s m args below meth c s₁ Bd hml hv
  obtain ⟨rfl, hW, hKK, hFs⟩ := hv
  have X : gX p s m _ meth c D cy B (gSt Z B H0) RX6 cX6_product wsX6_product 4 := ⟨Bd.exec, Bd.bytes, atoms_spec (ws := wsX6_product) Bd.pre, findClass_of_methodNamed Bd.named, hml, hKK, by rw [hW.1]; exact hW.2.1, Bd.notSynchronized, hFs⟩
  have hr := Bd.returns
  have hl := lv_entry ([.ref x0, .int x1]) (n := 4) (Nat.le_of_ble_eq_true rfl)
  show W p l e (rX6R (n0 + 1)) s m _ below meth c s.heap [] 0 0 _ (entryFrame m ([.ref x0, .int x1] : List Value).toArray 4)
  rw [lg_entry_eq]
  generalize (lg_sl ([.ref x0, .int x1]) ++ List.replicate (4 - (lg_sl ([.ref x0, .int x1])).length) Slot.unset).toArray = ls at hl ⊢
  have hl : lv_has ls 4 (List.map gq [(0, vR (some x0)), (1, vI x1)]) := hl
  exact t_X6_product_0 X hr hF _ _ _ _ hf rfl s.heap [] ls hW va_S.rf (lv_has_sub hl (lvsub_of _ _ [0, 1] rfl))
/-! ## TideLots$Reader.value(I)Z -/
theorem dX6_value_0 : decode cX6_value 0 = .ok (.aload_n 0, 1) := by decide +kernel
theorem dX6_value_1 : decode cX6_value 1 = .ok (.invokevirtual 43, 3) := by decide +kernel
theorem dX6_value_4 : decode cX6_value 4 = .ok (.astore_n 2, 1) := by decide +kernel
theorem dX6_value_5 : decode cX6_value 5 = .ok (.getstatic 53, 3) := by decide +kernel
theorem dX6_value_8 : decode cX6_value 8 = .ok (.aload_n 2, 1) := by decide +kernel
theorem dX6_value_9 : decode cX6_value 9 = .ok (.invokevirtual 59, 3) := by decide +kernel
theorem dX6_value_12 : decode cX6_value 12 = .ok (.iaload, 1) := by decide +kernel
theorem dX6_value_13 : decode cX6_value 13 = .ok (.tableswitch 288 13 23 #[59, 71, 80, 80, 80, 108, 108, 136, 175, 215, 215], 59) := by decide +kernel
theorem dX6_value_72 : decode cX6_value 72 = .ok (.aload_n 0, 1) := by decide +kernel
theorem dX6_value_73 : decode cX6_value 73 = .ok (.iconst 0, 1) := by decide +kernel
theorem dX6_value_74 : decode cX6_value 74 = .ok (.ldc_w 315, 3) := by decide +kernel
theorem dX6_value_77 : decode cX6_value 77 = .ok (.invokevirtual 108, 3) := by decide +kernel
theorem dX6_value_80 : decode cX6_value 80 = .ok (.istore_n 3, 1) := by decide +kernel
theorem dX6_value_81 : decode cX6_value 81 = .ok (.goto 222, 3) := by decide +kernel
theorem dX6_value_84 : decode cX6_value 84 = .ok (.aload_n 0, 1) := by decide +kernel
theorem dX6_value_85 : decode cX6_value 85 = .ok (.aload_n 2, 1) := by decide +kernel
theorem dX6_value_86 : decode cX6_value 86 = .ok (.invokevirtual 79, 3) := by decide +kernel
theorem dX6_value_89 : decode cX6_value 89 = .ok (.istore_n 3, 1) := by decide +kernel
theorem dX6_value_90 : decode cX6_value 90 = .ok (.goto 213, 3) := by decide +kernel
theorem dX6_value_93 : decode cX6_value 93 = .ok (.aload_n 0, 1) := by decide +kernel
theorem dX6_value_94 : decode cX6_value 94 = .ok (.aload_n 2, 1) := by decide +kernel
theorem dX6_value_95 : decode cX6_value 95 = .ok (.invokevirtual 79, 3) := by decide +kernel
theorem dX6_value_98 : decode cX6_value 98 = .ok (.ifCond .eq 18, 3) := by decide +kernel
theorem dX6_value_101 : decode cX6_value 101 = .ok (.aload_n 0, 1) := by decide +kernel
theorem dX6_value_102 : decode cX6_value 102 = .ok (.aload_n 0, 1) := by decide +kernel
theorem dX6_value_103 : decode cX6_value 103 = .ok (.getfield 24, 3) := by decide +kernel
theorem dX6_value_106 : decode cX6_value 106 = .ok (.invokevirtual 179, 3) := by decide +kernel
theorem dX6_value_109 : decode cX6_value 109 = .ok (.ifCond .eq 7, 3) := by decide +kernel
theorem dX6_value_112 : decode cX6_value 112 = .ok (.iconst 1, 1) := by decide +kernel
theorem dX6_value_113 : decode cX6_value 113 = .ok (.goto 4, 3) := by decide +kernel
theorem dX6_value_116 : decode cX6_value 116 = .ok (.iconst 0, 1) := by decide +kernel
theorem dX6_value_117 : decode cX6_value 117 = .ok (.istore_n 3, 1) := by decide +kernel
theorem dX6_value_118 : decode cX6_value 118 = .ok (.goto 185, 3) := by decide +kernel
theorem dX6_value_121 : decode cX6_value 121 = .ok (.aload_n 0, 1) := by decide +kernel
theorem dX6_value_122 : decode cX6_value 122 = .ok (.aload_n 2, 1) := by decide +kernel
theorem dX6_value_123 : decode cX6_value 123 = .ok (.invokevirtual 79, 3) := by decide +kernel
theorem dX6_value_126 : decode cX6_value 126 = .ok (.ifCond .eq 18, 3) := by decide +kernel
theorem dX6_value_129 : decode cX6_value 129 = .ok (.aload_n 0, 1) := by decide +kernel
theorem dX6_value_130 : decode cX6_value 130 = .ok (.aload_n 0, 1) := by decide +kernel
theorem dX6_value_131 : decode cX6_value 131 = .ok (.getfield 20, 3) := by decide +kernel
theorem dX6_value_134 : decode cX6_value 134 = .ok (.invokevirtual 179, 3) := by decide +kernel
theorem dX6_value_137 : decode cX6_value 137 = .ok (.ifCond .eq 7, 3) := by decide +kernel
theorem dX6_value_140 : decode cX6_value 140 = .ok (.iconst 1, 1) := by decide +kernel
theorem dX6_value_141 : decode cX6_value 141 = .ok (.goto 4, 3) := by decide +kernel
theorem dX6_value_144 : decode cX6_value 144 = .ok (.iconst 0, 1) := by decide +kernel
theorem dX6_value_145 : decode cX6_value 145 = .ok (.istore_n 3, 1) := by decide +kernel
theorem dX6_value_146 : decode cX6_value 146 = .ok (.goto 157, 3) := by decide +kernel
theorem dX6_value_149 : decode cX6_value 149 = .ok (.getstatic 316, 3) := by decide +kernel
theorem dX6_value_152 : decode cX6_value 152 = .ok (.astore_n 2, 1) := by decide +kernel
theorem dX6_value_153 : decode cX6_value 153 = .ok (.iload_n 1, 1) := by decide +kernel
theorem dX6_value_154 : decode cX6_value 154 = .ok (.bipush 8, 2) := by decide +kernel
theorem dX6_value_156 : decode cX6_value 156 = .ok (.if_icmp .ge 27, 3) := by decide +kernel
theorem dX6_value_159 : decode cX6_value 159 = .ok (.aload_n 0, 1) := by decide +kernel
theorem dX6_value_160 : decode cX6_value 160 = .ok (.getstatic 303, 3) := by decide +kernel
theorem dX6_value_163 : decode cX6_value 163 = .ok (.invokevirtual 79, 3) := by decide +kernel
theorem dX6_value_166 : decode cX6_value 166 = .ok (.ifCond .eq 17, 3) := by decide +kernel
theorem dX6_value_169 : decode cX6_value 169 = .ok (.aload_n 0, 1) := by decide +kernel
theorem dX6_value_170 : decode cX6_value 170 = .ok (.iload_n 1, 1) := by decide +kernel
theorem dX6_value_171 : decode cX6_value 171 = .ok (.iconst 1, 1) := by decide +kernel
theorem dX6_value_172 : decode cX6_value 172 = .ok (.iadd, 1) := by decide +kernel
theorem dX6_value_173 : decode cX6_value 173 = .ok (.invokevirtual 306, 3) := by decide +kernel
theorem dX6_value_176 : decode cX6_value 176 = .ok (.ifCond .eq 7, 3) := by decide +kernel
theorem dX6_value_179 : decode cX6_value 179 = .ok (.iconst 1, 1) := by decide +kernel
theorem dX6_value_180 : decode cX6_value 180 = .ok (.goto 4, 3) := by decide +kernel
theorem dX6_value_183 : decode cX6_value 183 = .ok (.iconst 0, 1) := by decide +kernel
theorem dX6_value_184 : decode cX6_value 184 = .ok (.istore_n 3, 1) := by decide +kernel
theorem dX6_value_185 : decode cX6_value 185 = .ok (.goto 118, 3) := by decide +kernel
theorem dX6_value_188 : decode cX6_value 188 = .ok (.iload_n 1, 1) := by decide +kernel
theorem dX6_value_189 : decode cX6_value 189 = .ok (.bipush 8, 2) := by decide +kernel
theorem dX6_value_191 : decode cX6_value 191 = .ok (.if_icmp .ge 35, 3) := by decide +kernel
theorem dX6_value_194 : decode cX6_value 194 = .ok (.aload_n 0, 1) := by decide +kernel
theorem dX6_value_195 : decode cX6_value 195 = .ok (.aload_n 2, 1) := by decide +kernel
theorem dX6_value_196 : decode cX6_value 196 = .ok (.invokevirtual 79, 3) := by decide +kernel
theorem dX6_value_199 : decode cX6_value 199 = .ok (.ifCond .eq 27, 3) := by decide +kernel
theorem dX6_value_202 : decode cX6_value 202 = .ok (.aload_n 0, 1) := by decide +kernel
theorem dX6_value_203 : decode cX6_value 203 = .ok (.iload_n 1, 1) := by decide +kernel
theorem dX6_value_204 : decode cX6_value 204 = .ok (.iconst 1, 1) := by decide +kernel
theorem dX6_value_205 : decode cX6_value 205 = .ok (.iadd, 1) := by decide +kernel
theorem dX6_value_206 : decode cX6_value 206 = .ok (.invokevirtual 244, 3) := by decide +kernel
theorem dX6_value_209 : decode cX6_value 209 = .ok (.ifCond .eq 17, 3) := by decide +kernel
theorem dX6_value_212 : decode cX6_value 212 = .ok (.aload_n 0, 1) := by decide +kernel
theorem dX6_value_213 : decode cX6_value 213 = .ok (.getstatic 319, 3) := by decide +kernel
theorem dX6_value_216 : decode cX6_value 216 = .ok (.invokevirtual 79, 3) := by decide +kernel
theorem dX6_value_219 : decode cX6_value 219 = .ok (.ifCond .eq 7, 3) := by decide +kernel
theorem dX6_value_222 : decode cX6_value 222 = .ok (.iconst 1, 1) := by decide +kernel
theorem dX6_value_223 : decode cX6_value 223 = .ok (.goto 4, 3) := by decide +kernel
theorem dX6_value_226 : decode cX6_value 226 = .ok (.iconst 0, 1) := by decide +kernel
theorem dX6_value_227 : decode cX6_value 227 = .ok (.ireturn, 1) := by decide +kernel
theorem dX6_value_228 : decode cX6_value 228 = .ok (.aload_n 0, 1) := by decide +kernel
theorem dX6_value_229 : decode cX6_value 229 = .ok (.aload_n 2, 1) := by decide +kernel
theorem dX6_value_230 : decode cX6_value 230 = .ok (.invokevirtual 79, 3) := by decide +kernel
theorem dX6_value_233 : decode cX6_value 233 = .ok (.ifCond .eq 63, 3) := by decide +kernel
theorem dX6_value_236 : decode cX6_value 236 = .ok (.iload_n 1, 1) := by decide +kernel
theorem dX6_value_237 : decode cX6_value 237 = .ok (.bipush 8, 2) := by decide +kernel
theorem dX6_value_239 : decode cX6_value 239 = .ok (.if_icmp .ge 57, 3) := by decide +kernel
theorem dX6_value_242 : decode cX6_value 242 = .ok (.aload_n 0, 1) := by decide +kernel
theorem dX6_value_243 : decode cX6_value 243 = .ok (.getstatic 322, 3) := by decide +kernel
theorem dX6_value_246 : decode cX6_value 246 = .ok (.invokevirtual 79, 3) := by decide +kernel
theorem dX6_value_249 : decode cX6_value 249 = .ok (.ifCond .eq 47, 3) := by decide +kernel
theorem dX6_value_252 : decode cX6_value 252 = .ok (.aload_n 0, 1) := by decide +kernel
theorem dX6_value_253 : decode cX6_value 253 = .ok (.iload_n 1, 1) := by decide +kernel
theorem dX6_value_254 : decode cX6_value 254 = .ok (.iconst 1, 1) := by decide +kernel
theorem dX6_value_255 : decode cX6_value 255 = .ok (.iadd, 1) := by decide +kernel
theorem dX6_value_256 : decode cX6_value 256 = .ok (.invokevirtual 244, 3) := by decide +kernel
theorem dX6_value_259 : decode cX6_value 259 = .ok (.ifCond .eq 37, 3) := by decide +kernel
theorem dX6_value_262 : decode cX6_value 262 = .ok (.aload_n 0, 1) := by decide +kernel
theorem dX6_value_263 : decode cX6_value 263 = .ok (.getstatic 127, 3) := by decide +kernel
theorem dX6_value_266 : decode cX6_value 266 = .ok (.invokevirtual 79, 3) := by decide +kernel
theorem dX6_value_269 : decode cX6_value 269 = .ok (.ifCond .eq 27, 3) := by decide +kernel
theorem dX6_value_272 : decode cX6_value 272 = .ok (.aload_n 0, 1) := by decide +kernel
theorem dX6_value_273 : decode cX6_value 273 = .ok (.iload_n 1, 1) := by decide +kernel
theorem dX6_value_274 : decode cX6_value 274 = .ok (.iconst 1, 1) := by decide +kernel
theorem dX6_value_275 : decode cX6_value 275 = .ok (.iadd, 1) := by decide +kernel
theorem dX6_value_276 : decode cX6_value 276 = .ok (.invokevirtual 244, 3) := by decide +kernel
theorem dX6_value_279 : decode cX6_value 279 = .ok (.ifCond .eq 17, 3) := by decide +kernel
theorem dX6_value_282 : decode cX6_value 282 = .ok (.aload_n 0, 1) := by decide +kernel
theorem dX6_value_283 : decode cX6_value 283 = .ok (.getstatic 319, 3) := by decide +kernel
theorem dX6_value_286 : decode cX6_value 286 = .ok (.invokevirtual 79, 3) := by decide +kernel
theorem dX6_value_289 : decode cX6_value 289 = .ok (.ifCond .eq 7, 3) := by decide +kernel
theorem dX6_value_292 : decode cX6_value 292 = .ok (.iconst 1, 1) := by decide +kernel
theorem dX6_value_293 : decode cX6_value 293 = .ok (.goto 4, 3) := by decide +kernel
theorem dX6_value_296 : decode cX6_value 296 = .ok (.iconst 0, 1) := by decide +kernel
theorem dX6_value_297 : decode cX6_value 297 = .ok (.istore_n 3, 1) := by decide +kernel
theorem dX6_value_298 : decode cX6_value 298 = .ok (.goto 5, 3) := by decide +kernel
theorem dX6_value_301 : decode cX6_value 301 = .ok (.iconst 0, 1) := by decide +kernel
theorem dX6_value_302 : decode cX6_value 302 = .ok (.ireturn, 1) := by decide +kernel
theorem dX6_value_303 : decode cX6_value 303 = .ok (.aload_n 0, 1) := by decide +kernel
theorem dX6_value_304 : decode cX6_value 304 = .ok (.getfield 34, 3) := by decide +kernel
theorem dX6_value_307 : decode cX6_value 307 = .ok (.getfield 193, 3) := by decide +kernel
theorem dX6_value_310 : decode cX6_value 310 = .ok (.aload_n 2, 1) := by decide +kernel
theorem dX6_value_311 : decode cX6_value 311 = .ok (.aload_n 0, 1) := by decide +kernel
theorem dX6_value_312 : decode cX6_value 312 = .ok (.getfield 112, 3) := by decide +kernel
theorem dX6_value_315 : decode cX6_value 315 = .ok (.invokevirtual 273, 3) := by decide +kernel
theorem dX6_value_318 : decode cX6_value 318 = .ok (.iload_n 3, 1) := by decide +kernel
theorem dX6_value_319 : decode cX6_value 319 = .ok (.ireturn, 1) := by decide +kernel
set_option maxRecDepth 20000 in
theorem ggX6_value_X9_add : GoodIn wsX6_value wsX9_add := goodIn_r _ [67, 68, 69, 70, 111, 112, 113, 114] (by decide +kernel) (by decide +kernel)
set_option maxRecDepth 20000 in
theorem gX6_value_X9_add : GoodIn wsX6_value (wsV RX6 273 RX9 yX9_add wsX9_add) := goodIn_app (goodIn_of _ (by decide +kernel)) ggX6_value_X9_add
set_option maxRecDepth 20000 in
theorem ggX6_value_X6_take : GoodIn wsX6_value wsX6_take := goodIn_r _ [44, 20, 18, 19, 79, 80, 81, 82, 83, 84, 85, 86, 87, 105, 106, 107, 108, 109, 110] (by decide +kernel) (by decide +kernel)
set_option maxRecDepth 20000 in
theorem gX6_value_X6_take : GoodIn wsX6_value (wsV RX6 79 RX6 yX6_take wsX6_take) := goodIn_app (goodIn_of _ (by decide +kernel)) ggX6_value_X6_take
set_option maxRecDepth 20000 in
theorem ggX6_value_X6_sum : GoodIn wsX6_value wsX6_sum := goodIn_r _ [74, 75, 6, 10, 11, 76, 77, 78, 16, 13, 14, 15, 17, 18, 19, 20, 41, 42, 43, 44, 63, 64, 65, 66, 67, 68, 69, 70, 71, 72, 73, 57, 58, 59, 0, 1, 2, 3, 4, 5, 7, 8, 9, 12, 21, 22, 23, 24, 25, 26, 27, 28, 29, 30, 31, 32, 33, 34, 35, 36, 37, 38, 39, 40, 45, 46, 47, 48, 49, 50, 51, 52, 53, 54, 55, 56, 60, 61, 62, 79, 80, 81, 82, 83, 84, 85, 86, 87, 88, 89, 90, 91, 92, 93, 94, 95, 96, 97, 98, 99, 100, 101, 102, 103, 104, 105, 106, 107, 108, 109, 110, 111, 112, 113, 114, 115, 116] (by decide +kernel) (by decide +kernel)
set_option maxRecDepth 20000 in
theorem gX6_value_X6_sum : GoodIn wsX6_value (wsV RX6 244 RX6 yX6_sum wsX6_sum) := goodIn_app (goodIn_of _ (by decide +kernel)) ggX6_value_X6_sum
set_option maxRecDepth 20000 in
theorem ggX6_value_X6_takeKnown : GoodIn wsX6_value wsX6_takeKnown := goodIn_r _ [48, 49, 18, 33, 20, 12, 13, 14, 15, 16, 17, 19, 50, 51, 52, 53, 54, 55, 56, 34, 35, 36, 37, 38, 39, 40, 41, 42, 43, 44, 79, 80, 81, 82, 83, 84, 85, 86, 87, 105, 106, 107, 108, 109, 110, 115, 116] (by decide +kernel) (by decide +kernel)
set_option maxRecDepth 20000 in
theorem gX6_value_X6_takeKnown : GoodIn wsX6_value (wsV RX6 179 RX6 yX6_takeKnown wsX6_takeKnown) := goodIn_app (goodIn_of _ (by decide +kernel)) ggX6_value_X6_takeKnown
set_option maxRecDepth 20000 in
theorem ggX6_value_X6_sign : GoodIn wsX6_value wsX6_sign := goodIn_r _ [17, 18, 19, 20, 79, 80, 81, 82, 83, 84, 85, 86, 87, 105, 106, 107, 108, 109, 110] (by decide +kernel) (by decide +kernel)
set_option maxRecDepth 20000 in
theorem gX6_value_X6_sign : GoodIn wsX6_value (wsV RX6 43 RX6 yX6_sign wsX6_sign) := goodIn_app (goodIn_of _ (by decide +kernel)) ggX6_value_X6_sign
set_option maxRecDepth 20000 in
theorem ggX6_value_Jx29ce0_ordinal_8abf5 : GoodIn wsX6_value wsJx29ce0_ordinal_8abf5 := goodIn_r _ [26, 27] (by decide +kernel) (by decide +kernel)
set_option maxRecDepth 20000 in
theorem gX6_value_Jx29ce0_ordinal_8abf5_u59X8 : GoodIn wsX6_value (va_wsU RX6 59 RX8 "java/lang/Enum" ⟨"TideLots$Sign", "ordinal", "()I"⟩ yJx29ce0_ordinal_8abf5 wsJx29ce0_ordinal_8abf5) := goodIn_app (goodIn_of _ (by decide +kernel)) ggX6_value_Jx29ce0_ordinal_8abf5
set_option maxRecDepth 20000 in
theorem ggX6_value_X6_takeNumber : GoodIn wsX6_value wsX6_takeNumber := goodIn_r _ [31, 32, 18, 33, 20, 12, 13, 14, 15, 16, 17, 19, 34, 35, 36, 37, 38, 39, 40, 41, 42, 43, 44, 79, 80, 81, 82, 83, 84, 85, 86, 87, 105, 106, 107, 108, 109, 110] (by decide +kernel) (by decide +kernel)
set_option maxRecDepth 20000 in
theorem gX6_value_X6_takeNumber : GoodIn wsX6_value (wsV RX6 108 RX6 yX6_takeNumber wsX6_takeNumber) := goodIn_app (goodIn_of _ (by decide +kernel)) ggX6_value_X6_takeNumber
set_option maxRecDepth 20000 in
theorem ggX6_value_X6_value : GoodIn wsX6_value wsX6_value := goodIn_r _ [0, 1, 2, 3, 4, 5, 6, 7, 8, 9, 10, 11, 12, 13, 14, 15, 16, 17, 18, 19, 20, 21, 22, 23, 24, 25, 26, 27, 28, 29, 30, 31, 32, 33, 34, 35, 36, 37, 38, 39, 40, 41, 42, 43, 44, 45, 46, 47, 48, 49, 50, 51, 52, 53, 54, 55, 56, 57, 58, 59, 60, 61, 62, 63, 64, 65, 66, 67, 68, 69, 70, 71, 72, 73, 74, 75, 76, 77, 78, 79, 80, 81, 82, 83, 84, 85, 86, 87, 88, 89, 90, 91, 92, 93, 94, 95, 96, 97, 98, 99, 100, 101, 102, 103, 104, 105, 106, 107, 108, 109, 110, 111, 112, 113, 114, 115, 116] (by decide +kernel) (by decide +kernel)
set_option maxRecDepth 20000 in
theorem gX6_value_X6_value : GoodIn wsX6_value (wsV RX6 306 RX6 yX6_value wsX6_value) := goodIn_app (goodIn_of _ (by decide +kernel)) ggX6_value_X6_value
theorem k_X6_value_f34 : Cond.fieldLink RX6 34 "TideLots$Reader" "built" "LTideLots$Shore;" ∈ wsX6_value := by decide +kernel
theorem i_X6_value_X6 : ∀ w ∈ u_ws RX6 TX6 9, w ∈ wsX6_value := by decide +kernel
theorem k_X6_value_f193 : Cond.fieldLink RX6 193 "TideLots$Shore" "sums" "LTideLots$Sums;" ∈ wsX6_value := by decide +kernel
theorem i_X6_value_X7 : ∀ w ∈ u_ws RX7 TX7 17, w ∈ wsX6_value := by decide +kernel
theorem k_X6_value_f112 : Cond.fieldLink RX6 112 "TideLots$Reader" "number" "I" ∈ wsX6_value := by decide +kernel
theorem k_X6_value_f322 : Cond.fieldLink RX6 322 "TideLots$Sign" "OPEN" "LTideLots$Sign;" ∈ wsX6_value := by decide +kernel
theorem k_X6_value_f127 : Cond.fieldLink RX6 127 "TideLots$Sign" "COMMA" "LTideLots$Sign;" ∈ wsX6_value := by decide +kernel
theorem k_X6_value_f319 : Cond.fieldLink RX6 319 "TideLots$Sign" "CLOSE" "LTideLots$Sign;" ∈ wsX6_value := by decide +kernel
theorem k_X6_value_f20 : Cond.fieldLink RX6 20 "TideLots$Reader" "groundNames" "LTideLots$Names;" ∈ wsX6_value := by decide +kernel
theorem k_X6_value_f24 : Cond.fieldLink RX6 24 "TideLots$Reader" "fisherNames" "LTideLots$Names;" ∈ wsX6_value := by decide +kernel
theorem k_X6_value_f53 : Cond.fieldLink RX6 53 "TideLots$1" "$SwitchMap$TideLots$Sign" "[I" ∈ wsX6_value := by decide +kernel
theorem k_X6_value_c315 : Jvm.Cond.constant RX6 315 (999999) ∈ wsX6_value := by decide +kernel
theorem k_X6_value_f316 : Cond.fieldLink RX6 316 "TideLots$Sign" "NEGATE" "LTideLots$Sign;" ∈ wsX6_value := by decide +kernel
theorem k_X6_value_f303 : Cond.fieldLink RX6 303 "TideLots$Sign" "MINUS" "LTideLots$Sign;" ∈ wsX6_value := by decide +kernel
noncomputable def b_X6_value_303 (Z : Nat → Nat) (F : Nat → gMem → Nat → Int32 → Option (Int32 × gMem)) (M : gMem) (x0 : Nat) (x2 : Option Nat) (x3 : Int32) : Option (Int32 × gMem) :=
  ck (mT M x0 = 6) <| dr ((mR M x0 2)) fun a2 => ck (mT M a2 = 7) <| dr ((mR M a2 10)) fun a5 => ck (mT M a5 = 8) <| bd (f_X9_add Z M a5 x2 ((mI M x0 8))) fun _ M4 => ck (x3 = 0 ∨ x3 = 1) <| some (x3, M4)
noncomputable def b_X6_value_297 (Z : Nat → Nat) (F : Nat → gMem → Nat → Int32 → Option (Int32 × gMem)) (M : gMem) (x0 : Nat) (x2 : Option Nat) (s0 : Int32) : Option (Int32 × gMem) :=
  b_X6_value_303 Z F M x0 x2 s0
noncomputable def b_X6_value_296 (Z : Nat → Nat) (F : Nat → gMem → Nat → Int32 → Option (Int32 × gMem)) (M : gMem) (x0 : Nat) (x2 : Option Nat) : Option (Int32 × gMem) :=
  b_X6_value_297 Z F M x0 x2 ((0 : Int32))
noncomputable def b_X6_value_228 (Z : Nat → Nat) (F : Nat → gMem → Nat → Int32 → Option (Int32 × gMem)) (M : gMem) (x0 : Nat) (x1 : Int32) (x2 : Option Nat) : Option (Int32 × gMem) :=
  ck (mT M x0 = 6) <| bd (f_X6_take M x0 x2) fun r8 M8 => (if r8 = 0 then b_X6_value_296 Z F M8 x0 x2 else (if (8 : Int32) ≤ x1 then b_X6_value_296 Z F M8 x0 x2 else ck (mT M8 x0 = 6) <| bd (f_X6_take M8 x0 ((some (Z 25)))) fun r10 M10 => (if r10 = 0 then b_X6_value_296 Z F M10 x0 x2 else ck (mT M10 x0 = 6) <| bd (F 4 M10 x0 ((x1 + (1 : Int32)))) fun r12 M12 => (if r12 = 0 then b_X6_value_296 Z F M12 x0 x2 else ck (mT M12 x0 = 6) <| bd (f_X6_take M12 x0 ((some (Z 30)))) fun r14 M14 => (if r14 = 0 then b_X6_value_296 Z F M14 x0 x2 else ck (mT M14 x0 = 6) <| bd (F 4 M14 x0 ((x1 + (1 : Int32)))) fun r16 M16 => (if r16 = 0 then b_X6_value_296 Z F M16 x0 x2 else ck (mT M16 x0 = 6) <| bd (f_X6_take M16 x0 ((some (Z 26)))) fun r18 M18 => (if r18 = 0 then b_X6_value_296 Z F M18 x0 x2 else b_X6_value_297 Z F M18 x0 x2 ((1 : Int32)))))))))
noncomputable def b_X6_value_227 (Z : Nat → Nat) (F : Nat → gMem → Nat → Int32 → Option (Int32 × gMem)) (M : gMem) (s0 : Int32) : Option (Int32 × gMem) :=
  ck (s0 = 0 ∨ s0 = 1) <| some (s0, M)
noncomputable def b_X6_value_226 (Z : Nat → Nat) (F : Nat → gMem → Nat → Int32 → Option (Int32 × gMem)) (M : gMem)  : Option (Int32 × gMem) :=
  b_X6_value_227 Z F M ((0 : Int32))
noncomputable def b_X6_value_184 (Z : Nat → Nat) (F : Nat → gMem → Nat → Int32 → Option (Int32 × gMem)) (M : gMem) (x0 : Nat) (s0 : Int32) : Option (Int32 × gMem) :=
  b_X6_value_303 Z F M x0 ((some (Z 44))) s0
noncomputable def b_X6_value_183 (Z : Nat → Nat) (F : Nat → gMem → Nat → Int32 → Option (Int32 × gMem)) (M : gMem) (x0 : Nat) : Option (Int32 × gMem) :=
  b_X6_value_184 Z F M x0 ((0 : Int32))
noncomputable def b_X6_value_145 (Z : Nat → Nat) (F : Nat → gMem → Nat → Int32 → Option (Int32 × gMem)) (M : gMem) (x0 : Nat) (x2 : Option Nat) (s0 : Int32) : Option (Int32 × gMem) :=
  b_X6_value_303 Z F M x0 x2 s0
noncomputable def b_X6_value_144 (Z : Nat → Nat) (F : Nat → gMem → Nat → Int32 → Option (Int32 × gMem)) (M : gMem) (x0 : Nat) (x2 : Option Nat) : Option (Int32 × gMem) :=
  b_X6_value_145 Z F M x0 x2 ((0 : Int32))
noncomputable def b_X6_value_121 (Z : Nat → Nat) (F : Nat → gMem → Nat → Int32 → Option (Int32 × gMem)) (M : gMem) (x0 : Nat) (x2 : Option Nat) : Option (Int32 × gMem) :=
  ck (mT M x0 = 6) <| bd (f_X6_take M x0 x2) fun r21 M21 => (if r21 = 0 then b_X6_value_144 Z F M21 x0 x2 else ck (mT M21 x0 = 6) <| bd (f_X6_takeKnown Z M21 x0 ((mR M21 x0 3))) fun r24 M24 => (if r24 = 0 then b_X6_value_144 Z F M24 x0 x2 else b_X6_value_145 Z F M24 x0 x2 ((1 : Int32))))
noncomputable def b_X6_value_117 (Z : Nat → Nat) (F : Nat → gMem → Nat → Int32 → Option (Int32 × gMem)) (M : gMem) (x0 : Nat) (x2 : Option Nat) (s0 : Int32) : Option (Int32 × gMem) :=
  b_X6_value_303 Z F M x0 x2 s0
noncomputable def b_X6_value_116 (Z : Nat → Nat) (F : Nat → gMem → Nat → Int32 → Option (Int32 × gMem)) (M : gMem) (x0 : Nat) (x2 : Option Nat) : Option (Int32 × gMem) :=
  b_X6_value_117 Z F M x0 x2 ((0 : Int32))
noncomputable def b_X6_value_93 (Z : Nat → Nat) (F : Nat → gMem → Nat → Int32 → Option (Int32 × gMem)) (M : gMem) (x0 : Nat) (x2 : Option Nat) : Option (Int32 × gMem) :=
  ck (mT M x0 = 6) <| bd (f_X6_take M x0 x2) fun r25 M25 => (if r25 = 0 then b_X6_value_116 Z F M25 x0 x2 else ck (mT M25 x0 = 6) <| bd (f_X6_takeKnown Z M25 x0 ((mR M25 x0 4))) fun r28 M28 => (if r28 = 0 then b_X6_value_116 Z F M28 x0 x2 else b_X6_value_117 Z F M28 x0 x2 ((1 : Int32))))
noncomputable def b_X6_value_0 (Z : Nat → Nat) (F : Nat → gMem → Nat → Int32 → Option (Int32 × gMem)) (M : gMem) (x0 : Nat) (x1 : Int32) : Option (Int32 × gMem) :=
  ck (mT M x0 = 6) <| bd (f_X6_sign M x0) fun r29 M29 => dr (ordZ Z r29) fun o31 => (if (gSw o31) = (13 : Int32) then ck (mT M29 x0 = 6) <| bd (f_X6_takeNumber Z M29 x0 ((0 : Int32)) ((999999 : Int32))) fun r33 M33 => b_X6_value_303 Z F M33 x0 r29 r33 else (if (gSw o31) = (14 : Int32) then ck (mT M29 x0 = 6) <| bd (f_X6_take M29 x0 r29) fun r36 M36 => b_X6_value_303 Z F M36 x0 r29 r36 else (if (gSw o31) = (15 : Int32) then b_X6_value_93 Z F M29 x0 r29 else (if (gSw o31) = (16 : Int32) then b_X6_value_93 Z F M29 x0 r29 else (if (gSw o31) = (17 : Int32) then b_X6_value_93 Z F M29 x0 r29 else (if (gSw o31) = (18 : Int32) then b_X6_value_121 Z F M29 x0 r29 else (if (gSw o31) = (19 : Int32) then b_X6_value_121 Z F M29 x0 r29 else (if (gSw o31) = (20 : Int32) then (if (8 : Int32) ≤ x1 then b_X6_value_183 Z F M29 x0 else ck (mT M29 x0 = 6) <| bd (f_X6_take M29 x0 ((some (Z 32)))) fun r44 M44 => (if r44 = 0 then b_X6_value_183 Z F M44 x0 else ck (mT M44 x0 = 6) <| bd (F 6 M44 x0 ((x1 + (1 : Int32)))) fun r46 M46 => (if r46 = 0 then b_X6_value_183 Z F M46 x0 else b_X6_value_184 Z F M46 x0 ((1 : Int32))))) else (if (gSw o31) = (21 : Int32) then (if (8 : Int32) ≤ x1 then b_X6_value_226 Z F M29  else ck (mT M29 x0 = 6) <| bd (f_X6_take M29 x0 r29) fun r49 M49 => (if r49 = 0 then b_X6_value_226 Z F M49  else ck (mT M49 x0 = 6) <| bd (F 4 M49 x0 ((x1 + (1 : Int32)))) fun r51 M51 => (if r51 = 0 then b_X6_value_226 Z F M51  else ck (mT M51 x0 = 6) <| bd (f_X6_take M51 x0 ((some (Z 26)))) fun r53 M53 => (if r53 = 0 then b_X6_value_226 Z F M53  else b_X6_value_227 Z F M53 ((1 : Int32)))))) else (if (gSw o31) = (22 : Int32) then b_X6_value_228 Z F M29 x0 x1 r29 else (if (gSw o31) = (23 : Int32) then b_X6_value_228 Z F M29 x0 x1 r29 else some ((0 : Int32), M29))))))))))))
noncomputable def fr_X6_value (Z : Nat → Nat) (F : Nat → gMem → Nat → Int32 → Option (Int32 × gMem)) (M : gMem) (x0 : Nat) (x1 : Int32) : Option (Int32 × gMem) :=
  b_X6_value_0 Z F M x0 x1
set_option maxHeartbeats 4000000 in
set_option maxRecDepth 100000 in
theorem t_X6_value_303 (X : gX p s m args meth c D cy B (gSt Z B H0) RX6 cX6_value wsX6_value 4) (hr : meth.sig.returnType = (some .boolean)) {n0 : Nat} {F : Nat → gMem → Nat → Int32 → Option (Int32 × gMem)} (hF : hX6R l D cy B H0 Z n0 F) {Q : State → Prop} : ∀ (M : gMem) (x0 : Nat) (x2 : Option Nat) (x3 : Int32) (z : Int32 × gMem), b_X6_value_303 Z F M x0 x2 x3 = some z → (fun (r : Int32 × gMem) => Q = gMQ below D cy B H0 args s 0 0 (some (vI r.1)) r.2) z → gGo p l e (rX6R (n0 + 1)) s m args below meth c D cy B H0 4 0 0 Q 303 [(0, vR (some x0)), (2, vR x2), (3, vI x3)] [] M := by
  intro M x0 x2 x3 z hf hK
  unfold b_X6_value_303 at hf
  refine g_aload_n X dX6_value_303 rfl rfl ?_
  obtain ⟨hT1, hf⟩ := ck_e hf
  refine g_get (ci := 5) (v := vR (mR M x0 2)) 2 X cdX6 i_X6_value_X6 (by decide) k_X6_value_f34 rfl dX6_value_304 rfl hT1 rfl ?_
  obtain ⟨a2, ha2, hf⟩ := dr_e hf
  obtain ⟨hT3, hf⟩ := ck_e hf
  refine g_get (ci := 6) (v := vR (mR M a2 10)) 10 X cdX7 i_X6_value_X7 (by decide) k_X6_value_f193 rfl dX6_value_307 ha2 hT3 rfl ?_
  refine g_aload_n X dX6_value_310 rfl rfl ?_
  refine g_aload_n X dX6_value_311 rfl rfl ?_
  refine g_get (ci := 5) (v := vI (mI M x0 8)) 8 X cdX6 i_X6_value_X6 (by decide) k_X6_value_f112 rfl dX6_value_312 rfl hT1 rfl ?_
  obtain ⟨a5, ha5, hf⟩ := dr_e hf
  obtain ⟨hT6, hf⟩ := ck_e hf
  obtain ⟨r4, M4, hq4, hf⟩ := bd_e hf
  refine g_callV (ci := 7) (b := a5) (As := [vR x2, vI (mI M x0 8)]) (st := []) (v := none) (M1 := M4) X (m_X9_add l hq4) (cwV 2 X.2.2.1 gX6_value_X9_add rfl rfl rfl (by decide +kernel) ⟨rX6R_f (Nat.le_of_ble_eq_true rfl), rX6R_l (Nat.le_of_ble_eq_true rfl)⟩) rfl rfl ha5 hT6 (by decide) rfl (Nat.le_of_ble_eq_true rfl) dX6_value_315 ⟨Nat.zero_le _, Nat.zero_le _⟩ ?_
  refine g_iload_n X dX6_value_318 rfl rfl ?_
  obtain ⟨hg7, hf⟩ := ck_e hf
  cases hf
  refine g_eqQ hK ?_
  exact g_zret X hr (gnb hg7) dX6_value_319
set_option maxHeartbeats 4000000 in
set_option maxRecDepth 100000 in
theorem t_X6_value_297 (X : gX p s m args meth c D cy B (gSt Z B H0) RX6 cX6_value wsX6_value 4) (hr : meth.sig.returnType = (some .boolean)) {n0 : Nat} {F : Nat → gMem → Nat → Int32 → Option (Int32 × gMem)} (hF : hX6R l D cy B H0 Z n0 F) {Q : State → Prop} : ∀ (M : gMem) (x0 : Nat) (x2 : Option Nat) (s0 : Int32) (z : Int32 × gMem), b_X6_value_297 Z F M x0 x2 s0 = some z → (fun (r : Int32 × gMem) => Q = gMQ below D cy B H0 args s 0 0 (some (vI r.1)) r.2) z → gGo p l e (rX6R (n0 + 1)) s m args below meth c D cy B H0 4 0 0 Q 297 [(0, vR (some x0)), (2, vR x2)] [vI s0] M := by
  intro M x0 x2 s0 z hf hK
  unfold b_X6_value_297 at hf
  refine g_istore_n (lv' := [(3, vI s0), (0, vR (some x0)), (2, vR x2)]) X dX6_value_297 rfl (by decide) rfl ?_
  refine g_goto (tgt := 303) X dX6_value_298 (by decide) ?_
  refine g_sub (lvsub_of _ _ [1, 2, 0] rfl) ?_
  exact t_X6_value_303 X hr hF _ _ _ _ _ hf hK
set_option maxHeartbeats 4000000 in
set_option maxRecDepth 100000 in
theorem t_X6_value_296 (X : gX p s m args meth c D cy B (gSt Z B H0) RX6 cX6_value wsX6_value 4) (hr : meth.sig.returnType = (some .boolean)) {n0 : Nat} {F : Nat → gMem → Nat → Int32 → Option (Int32 × gMem)} (hF : hX6R l D cy B H0 Z n0 F) {Q : State → Prop} : ∀ (M : gMem) (x0 : Nat) (x2 : Option Nat) (z : Int32 × gMem), b_X6_value_296 Z F M x0 x2 = some z → (fun (r : Int32 × gMem) => Q = gMQ below D cy B H0 args s 0 0 (some (vI r.1)) r.2) z → gGo p l e (rX6R (n0 + 1)) s m args below meth c D cy B H0 4 0 0 Q 296 [(0, vR (some x0)), (2, vR x2)] [] M := by
  intro M x0 x2 z hf hK
  unfold b_X6_value_296 at hf
  refine g_iconst (v := (0 : Int32)) X dX6_value_296 (by decide) ?_
  refine g_sub (lvsub_of _ _ [0, 1] rfl) ?_
  exact t_X6_value_297 X hr hF _ _ _ _ _ hf hK
set_option maxHeartbeats 4000000 in
set_option maxRecDepth 100000 in
theorem t_X6_value_228 (X : gX p s m args meth c D cy B (gSt Z B H0) RX6 cX6_value wsX6_value 4) (hr : meth.sig.returnType = (some .boolean)) {n0 : Nat} {F : Nat → gMem → Nat → Int32 → Option (Int32 × gMem)} (hF : hX6R l D cy B H0 Z n0 F) {Q : State → Prop} : ∀ (M : gMem) (x0 : Nat) (x1 : Int32) (x2 : Option Nat) (z : Int32 × gMem), b_X6_value_228 Z F M x0 x1 x2 = some z → (fun (r : Int32 × gMem) => Q = gMQ below D cy B H0 args s 0 0 (some (vI r.1)) r.2) z → gGo p l e (rX6R (n0 + 1)) s m args below meth c D cy B H0 4 0 0 Q 228 [(0, vR (some x0)), (1, vI x1), (2, vR x2)] [] M := by
  intro M x0 x1 x2 z hf hK
  unfold b_X6_value_228 at hf
  refine g_aload_n X dX6_value_228 rfl rfl ?_
  refine g_aload_n X dX6_value_229 rfl rfl ?_
  obtain ⟨hT9, hf⟩ := ck_e hf
  obtain ⟨r8, M8, hq8, hf⟩ := bd_e hf
  refine g_callV (ci := 5) (b := x0) (As := [vR x2]) (st := []) (v := some (vI r8)) (M1 := M8) X (m_X6_take l hq8) (cwV 1 X.2.2.1 gX6_value_X6_take rfl rfl rfl (by decide +kernel) ⟨rX6R_f (Nat.le_of_ble_eq_true rfl), rX6R_l (Nat.le_of_ble_eq_true rfl)⟩) rfl rfl rfl hT9 (by decide) rfl (Nat.le_of_ble_eq_true rfl) dX6_value_230 ⟨Nat.zero_le _, Nat.zero_le _⟩ ?_
  refine g_if_eq (tgt := 296) X dX6_value_233 (by decide) (fun hc => ?_) (fun hc => ?_)
  · have hf := ife_t hc hf
    refine g_sub (lvsub_of _ _ [0, 2] rfl) ?_
    exact t_X6_value_296 X hr hF _ _ _ _ hf hK
  · have hf := ife_f hc hf
    refine g_iload_n X dX6_value_236 rfl rfl ?_
    refine g_bipush (v := (8 : Int32)) X dX6_value_237 (by decide) ?_
    refine g_icmp_ge (tgt := 296) X dX6_value_239 (by decide) (fun hc => ?_) (fun hc => ?_)
    · have hf := ife_t hc hf
      refine g_sub (lvsub_of _ _ [0, 2] rfl) ?_
      exact t_X6_value_296 X hr hF _ _ _ _ hf hK
    · have hf := ife_f hc hf
      refine g_aload_n X dX6_value_242 rfl rfl ?_
      refine g_gets (w := vR (some (Z 25))) X (gSt_E X 25 (by decide)) k_X6_value_f322 rfl dX6_value_243 ?_
      obtain ⟨hT11, hf⟩ := ck_e hf
      obtain ⟨r10, M10, hq10, hf⟩ := bd_e hf
      refine g_callV (ci := 5) (b := x0) (As := [vR (some (Z 25))]) (st := []) (v := some (vI r10)) (M1 := M10) X (m_X6_take l hq10) (cwV 1 X.2.2.1 gX6_value_X6_take rfl rfl rfl (by decide +kernel) ⟨rX6R_f (Nat.le_of_ble_eq_true rfl), rX6R_l (Nat.le_of_ble_eq_true rfl)⟩) rfl rfl rfl hT11 (by decide) rfl (Nat.le_of_ble_eq_true rfl) dX6_value_246 ⟨Nat.zero_le _, Nat.zero_le _⟩ ?_
      refine g_if_eq (tgt := 296) X dX6_value_249 (by decide) (fun hc => ?_) (fun hc => ?_)
      · have hf := ife_t hc hf
        refine g_sub (lvsub_of _ _ [0, 2] rfl) ?_
        exact t_X6_value_296 X hr hF _ _ _ _ hf hK
      · have hf := ife_f hc hf
        refine g_aload_n X dX6_value_252 rfl rfl ?_
        refine g_iload_n X dX6_value_253 rfl rfl ?_
        refine g_iconst (v := (1 : Int32)) X dX6_value_254 (by decide) ?_
        refine g_iadd X dX6_value_255 ?_
        obtain ⟨hT13, hf⟩ := ck_e hf
        obtain ⟨r12, M12, hq12, hf⟩ := bd_e hf
        refine g_callV (ci := 5) (b := x0) (As := [vI (x1 + (1 : Int32))]) (st := []) (v := some (vI r12)) (M1 := M12) X (hF.2.2.2.2.1 _ _ _ _ _ hq12) (cwV 1 X.2.2.1 gX6_value_X6_sum rfl rfl rfl (by decide +kernel) ⟨rX6R_rf, rX6R_rl (Nat.le_of_ble_eq_true rfl)⟩) rfl rfl rfl hT13 (by decide) rfl (Nat.le_of_ble_eq_true rfl) dX6_value_256 ⟨Nat.zero_le _, Nat.zero_le _⟩ ?_
        refine g_if_eq (tgt := 296) X dX6_value_259 (by decide) (fun hc => ?_) (fun hc => ?_)
        · have hf := ife_t hc hf
          refine g_sub (lvsub_of _ _ [0, 2] rfl) ?_
          exact t_X6_value_296 X hr hF _ _ _ _ hf hK
        · have hf := ife_f hc hf
          refine g_aload_n X dX6_value_262 rfl rfl ?_
          refine g_gets (w := vR (some (Z 30))) X (gSt_E X 30 (by decide)) k_X6_value_f127 rfl dX6_value_263 ?_
          obtain ⟨hT15, hf⟩ := ck_e hf
          obtain ⟨r14, M14, hq14, hf⟩ := bd_e hf
          refine g_callV (ci := 5) (b := x0) (As := [vR (some (Z 30))]) (st := []) (v := some (vI r14)) (M1 := M14) X (m_X6_take l hq14) (cwV 1 X.2.2.1 gX6_value_X6_take rfl rfl rfl (by decide +kernel) ⟨rX6R_f (Nat.le_of_ble_eq_true rfl), rX6R_l (Nat.le_of_ble_eq_true rfl)⟩) rfl rfl rfl hT15 (by decide) rfl (Nat.le_of_ble_eq_true rfl) dX6_value_266 ⟨Nat.zero_le _, Nat.zero_le _⟩ ?_
          refine g_if_eq (tgt := 296) X dX6_value_269 (by decide) (fun hc => ?_) (fun hc => ?_)
          · have hf := ife_t hc hf
            refine g_sub (lvsub_of _ _ [0, 2] rfl) ?_
            exact t_X6_value_296 X hr hF _ _ _ _ hf hK
          · have hf := ife_f hc hf
            refine g_aload_n X dX6_value_272 rfl rfl ?_
            refine g_iload_n X dX6_value_273 rfl rfl ?_
            refine g_iconst (v := (1 : Int32)) X dX6_value_274 (by decide) ?_
            refine g_iadd X dX6_value_275 ?_
            obtain ⟨hT17, hf⟩ := ck_e hf
            obtain ⟨r16, M16, hq16, hf⟩ := bd_e hf
            refine g_callV (ci := 5) (b := x0) (As := [vI (x1 + (1 : Int32))]) (st := []) (v := some (vI r16)) (M1 := M16) X (hF.2.2.2.2.1 _ _ _ _ _ hq16) (cwV 1 X.2.2.1 gX6_value_X6_sum rfl rfl rfl (by decide +kernel) ⟨rX6R_rf, rX6R_rl (Nat.le_of_ble_eq_true rfl)⟩) rfl rfl rfl hT17 (by decide) rfl (Nat.le_of_ble_eq_true rfl) dX6_value_276 ⟨Nat.zero_le _, Nat.zero_le _⟩ ?_
            refine g_if_eq (tgt := 296) X dX6_value_279 (by decide) (fun hc => ?_) (fun hc => ?_)
            · have hf := ife_t hc hf
              refine g_sub (lvsub_of _ _ [0, 2] rfl) ?_
              exact t_X6_value_296 X hr hF _ _ _ _ hf hK
            · have hf := ife_f hc hf
              refine g_aload_n X dX6_value_282 rfl rfl ?_
              refine g_gets (w := vR (some (Z 26))) X (gSt_E X 26 (by decide)) k_X6_value_f319 rfl dX6_value_283 ?_
              obtain ⟨hT19, hf⟩ := ck_e hf
              obtain ⟨r18, M18, hq18, hf⟩ := bd_e hf
              refine g_callV (ci := 5) (b := x0) (As := [vR (some (Z 26))]) (st := []) (v := some (vI r18)) (M1 := M18) X (m_X6_take l hq18) (cwV 1 X.2.2.1 gX6_value_X6_take rfl rfl rfl (by decide +kernel) ⟨rX6R_f (Nat.le_of_ble_eq_true rfl), rX6R_l (Nat.le_of_ble_eq_true rfl)⟩) rfl rfl rfl hT19 (by decide) rfl (Nat.le_of_ble_eq_true rfl) dX6_value_286 ⟨Nat.zero_le _, Nat.zero_le _⟩ ?_
              refine g_if_eq (tgt := 296) X dX6_value_289 (by decide) (fun hc => ?_) (fun hc => ?_)
              · have hf := ife_t hc hf
                refine g_sub (lvsub_of _ _ [0, 2] rfl) ?_
                exact t_X6_value_296 X hr hF _ _ _ _ hf hK
              · have hf := ife_f hc hf
                refine g_iconst (v := (1 : Int32)) X dX6_value_292 (by decide) ?_
                refine g_goto (tgt := 297) X dX6_value_293 (by decide) ?_
                refine g_sub (lvsub_of _ _ [0, 2] rfl) ?_
                exact t_X6_value_297 X hr hF _ _ _ _ _ hf hK
set_option maxHeartbeats 4000000 in
set_option maxRecDepth 100000 in
theorem t_X6_value_227 (X : gX p s m args meth c D cy B (gSt Z B H0) RX6 cX6_value wsX6_value 4) (hr : meth.sig.returnType = (some .boolean)) {n0 : Nat} {F : Nat → gMem → Nat → Int32 → Option (Int32 × gMem)} (hF : hX6R l D cy B H0 Z n0 F) {Q : State → Prop} : ∀ (M : gMem) (s0 : Int32) (z : Int32 × gMem), b_X6_value_227 Z F M s0 = some z → (fun (r : Int32 × gMem) => Q = gMQ below D cy B H0 args s 0 0 (some (vI r.1)) r.2) z → gGo p l e (rX6R (n0 + 1)) s m args below meth c D cy B H0 4 0 0 Q 227 [] [vI s0] M := by
  intro M s0 z hf hK
  unfold b_X6_value_227 at hf
  obtain ⟨hg20, hf⟩ := ck_e hf
  cases hf
  refine g_eqQ hK ?_
  exact g_zret X hr (gnb hg20) dX6_value_227
set_option maxHeartbeats 4000000 in
set_option maxRecDepth 100000 in
theorem t_X6_value_226 (X : gX p s m args meth c D cy B (gSt Z B H0) RX6 cX6_value wsX6_value 4) (hr : meth.sig.returnType = (some .boolean)) {n0 : Nat} {F : Nat → gMem → Nat → Int32 → Option (Int32 × gMem)} (hF : hX6R l D cy B H0 Z n0 F) {Q : State → Prop} : ∀ (M : gMem)  (z : Int32 × gMem), b_X6_value_226 Z F M  = some z → (fun (r : Int32 × gMem) => Q = gMQ below D cy B H0 args s 0 0 (some (vI r.1)) r.2) z → gGo p l e (rX6R (n0 + 1)) s m args below meth c D cy B H0 4 0 0 Q 226 [] [] M := by
  intro M  z hf hK
  unfold b_X6_value_226 at hf
  refine g_iconst (v := (0 : Int32)) X dX6_value_226 (by decide) ?_
  refine g_sub (lvsub_of _ _ [] rfl) ?_
  exact t_X6_value_227 X hr hF _ _ _ hf hK
set_option maxHeartbeats 4000000 in
set_option maxRecDepth 100000 in
theorem t_X6_value_184 (X : gX p s m args meth c D cy B (gSt Z B H0) RX6 cX6_value wsX6_value 4) (hr : meth.sig.returnType = (some .boolean)) {n0 : Nat} {F : Nat → gMem → Nat → Int32 → Option (Int32 × gMem)} (hF : hX6R l D cy B H0 Z n0 F) {Q : State → Prop} : ∀ (M : gMem) (x0 : Nat) (s0 : Int32) (z : Int32 × gMem), b_X6_value_184 Z F M x0 s0 = some z → (fun (r : Int32 × gMem) => Q = gMQ below D cy B H0 args s 0 0 (some (vI r.1)) r.2) z → gGo p l e (rX6R (n0 + 1)) s m args below meth c D cy B H0 4 0 0 Q 184 [(0, vR (some x0)), (2, vR (some (Z 44)))] [vI s0] M := by
  intro M x0 s0 z hf hK
  unfold b_X6_value_184 at hf
  refine g_istore_n (lv' := [(3, vI s0), (0, vR (some x0)), (2, vR (some (Z 44)))]) X dX6_value_184 rfl (by decide) rfl ?_
  refine g_goto (tgt := 303) X dX6_value_185 (by decide) ?_
  refine g_sub (lvsub_of _ _ [1, 2, 0] rfl) ?_
  exact t_X6_value_303 X hr hF _ _ _ _ _ hf hK
set_option maxHeartbeats 4000000 in
set_option maxRecDepth 100000 in
theorem t_X6_value_183 (X : gX p s m args meth c D cy B (gSt Z B H0) RX6 cX6_value wsX6_value 4) (hr : meth.sig.returnType = (some .boolean)) {n0 : Nat} {F : Nat → gMem → Nat → Int32 → Option (Int32 × gMem)} (hF : hX6R l D cy B H0 Z n0 F) {Q : State → Prop} : ∀ (M : gMem) (x0 : Nat) (z : Int32 × gMem), b_X6_value_183 Z F M x0 = some z → (fun (r : Int32 × gMem) => Q = gMQ below D cy B H0 args s 0 0 (some (vI r.1)) r.2) z → gGo p l e (rX6R (n0 + 1)) s m args below meth c D cy B H0 4 0 0 Q 183 [(0, vR (some x0)), (2, vR (some (Z 44)))] [] M := by
  intro M x0 z hf hK
  unfold b_X6_value_183 at hf
  refine g_iconst (v := (0 : Int32)) X dX6_value_183 (by decide) ?_
  refine g_sub (lvsub_of _ _ [0, 1] rfl) ?_
  exact t_X6_value_184 X hr hF _ _ _ _ hf hK
set_option maxHeartbeats 4000000 in
set_option maxRecDepth 100000 in
theorem t_X6_value_145 (X : gX p s m args meth c D cy B (gSt Z B H0) RX6 cX6_value wsX6_value 4) (hr : meth.sig.returnType = (some .boolean)) {n0 : Nat} {F : Nat → gMem → Nat → Int32 → Option (Int32 × gMem)} (hF : hX6R l D cy B H0 Z n0 F) {Q : State → Prop} : ∀ (M : gMem) (x0 : Nat) (x2 : Option Nat) (s0 : Int32) (z : Int32 × gMem), b_X6_value_145 Z F M x0 x2 s0 = some z → (fun (r : Int32 × gMem) => Q = gMQ below D cy B H0 args s 0 0 (some (vI r.1)) r.2) z → gGo p l e (rX6R (n0 + 1)) s m args below meth c D cy B H0 4 0 0 Q 145 [(0, vR (some x0)), (2, vR x2)] [vI s0] M := by
  intro M x0 x2 s0 z hf hK
  unfold b_X6_value_145 at hf
  refine g_istore_n (lv' := [(3, vI s0), (0, vR (some x0)), (2, vR x2)]) X dX6_value_145 rfl (by decide) rfl ?_
  refine g_goto (tgt := 303) X dX6_value_146 (by decide) ?_
  refine g_sub (lvsub_of _ _ [1, 2, 0] rfl) ?_
  exact t_X6_value_303 X hr hF _ _ _ _ _ hf hK
set_option maxHeartbeats 4000000 in
set_option maxRecDepth 100000 in
theorem t_X6_value_144 (X : gX p s m args meth c D cy B (gSt Z B H0) RX6 cX6_value wsX6_value 4) (hr : meth.sig.returnType = (some .boolean)) {n0 : Nat} {F : Nat → gMem → Nat → Int32 → Option (Int32 × gMem)} (hF : hX6R l D cy B H0 Z n0 F) {Q : State → Prop} : ∀ (M : gMem) (x0 : Nat) (x2 : Option Nat) (z : Int32 × gMem), b_X6_value_144 Z F M x0 x2 = some z → (fun (r : Int32 × gMem) => Q = gMQ below D cy B H0 args s 0 0 (some (vI r.1)) r.2) z → gGo p l e (rX6R (n0 + 1)) s m args below meth c D cy B H0 4 0 0 Q 144 [(0, vR (some x0)), (2, vR x2)] [] M := by
  intro M x0 x2 z hf hK
  unfold b_X6_value_144 at hf
  refine g_iconst (v := (0 : Int32)) X dX6_value_144 (by decide) ?_
  refine g_sub (lvsub_of _ _ [0, 1] rfl) ?_
  exact t_X6_value_145 X hr hF _ _ _ _ _ hf hK
set_option maxHeartbeats 4000000 in
set_option maxRecDepth 100000 in
theorem t_X6_value_121 (X : gX p s m args meth c D cy B (gSt Z B H0) RX6 cX6_value wsX6_value 4) (hr : meth.sig.returnType = (some .boolean)) {n0 : Nat} {F : Nat → gMem → Nat → Int32 → Option (Int32 × gMem)} (hF : hX6R l D cy B H0 Z n0 F) {Q : State → Prop} : ∀ (M : gMem) (x0 : Nat) (x2 : Option Nat) (z : Int32 × gMem), b_X6_value_121 Z F M x0 x2 = some z → (fun (r : Int32 × gMem) => Q = gMQ below D cy B H0 args s 0 0 (some (vI r.1)) r.2) z → gGo p l e (rX6R (n0 + 1)) s m args below meth c D cy B H0 4 0 0 Q 121 [(0, vR (some x0)), (2, vR x2)] [] M := by
  intro M x0 x2 z hf hK
  unfold b_X6_value_121 at hf
  refine g_aload_n X dX6_value_121 rfl rfl ?_
  refine g_aload_n X dX6_value_122 rfl rfl ?_
  obtain ⟨hT22, hf⟩ := ck_e hf
  obtain ⟨r21, M21, hq21, hf⟩ := bd_e hf
  refine g_callV (ci := 5) (b := x0) (As := [vR x2]) (st := []) (v := some (vI r21)) (M1 := M21) X (m_X6_take l hq21) (cwV 1 X.2.2.1 gX6_value_X6_take rfl rfl rfl (by decide +kernel) ⟨rX6R_f (Nat.le_of_ble_eq_true rfl), rX6R_l (Nat.le_of_ble_eq_true rfl)⟩) rfl rfl rfl hT22 (by decide) rfl (Nat.le_of_ble_eq_true rfl) dX6_value_123 ⟨Nat.zero_le _, Nat.zero_le _⟩ ?_
  refine g_if_eq (tgt := 144) X dX6_value_126 (by decide) (fun hc => ?_) (fun hc => ?_)
  · have hf := ife_t hc hf
    refine g_sub (lvsub_of _ _ [0, 1] rfl) ?_
    exact t_X6_value_144 X hr hF _ _ _ _ hf hK
  · have hf := ife_f hc hf
    refine g_aload_n X dX6_value_129 rfl rfl ?_
    refine g_aload_n X dX6_value_130 rfl rfl ?_
    obtain ⟨hT23, hf⟩ := ck_e hf
    refine g_get (ci := 5) (v := vR (mR M21 x0 3)) 3 X cdX6 i_X6_value_X6 (by decide) k_X6_value_f20 rfl dX6_value_131 rfl hT23 rfl ?_
    obtain ⟨r24, M24, hq24, hf⟩ := bd_e hf
    refine g_callV (ci := 5) (b := x0) (As := [vR (mR M21 x0 3)]) (st := []) (v := some (vI r24)) (M1 := M24) X (m_X6_takeKnown l hq24) (cwV 1 X.2.2.1 gX6_value_X6_takeKnown rfl rfl rfl (by decide +kernel) ⟨rX6R_f (Nat.le_of_ble_eq_true rfl), rX6R_l (Nat.le_of_ble_eq_true rfl)⟩) rfl rfl rfl hT23 (by decide) rfl (Nat.le_of_ble_eq_true rfl) dX6_value_134 ⟨Nat.zero_le _, Nat.zero_le _⟩ ?_
    refine g_if_eq (tgt := 144) X dX6_value_137 (by decide) (fun hc => ?_) (fun hc => ?_)
    · have hf := ife_t hc hf
      refine g_sub (lvsub_of _ _ [0, 1] rfl) ?_
      exact t_X6_value_144 X hr hF _ _ _ _ hf hK
    · have hf := ife_f hc hf
      refine g_iconst (v := (1 : Int32)) X dX6_value_140 (by decide) ?_
      refine g_goto (tgt := 145) X dX6_value_141 (by decide) ?_
      refine g_sub (lvsub_of _ _ [0, 1] rfl) ?_
      exact t_X6_value_145 X hr hF _ _ _ _ _ hf hK
set_option maxHeartbeats 4000000 in
set_option maxRecDepth 100000 in
theorem t_X6_value_117 (X : gX p s m args meth c D cy B (gSt Z B H0) RX6 cX6_value wsX6_value 4) (hr : meth.sig.returnType = (some .boolean)) {n0 : Nat} {F : Nat → gMem → Nat → Int32 → Option (Int32 × gMem)} (hF : hX6R l D cy B H0 Z n0 F) {Q : State → Prop} : ∀ (M : gMem) (x0 : Nat) (x2 : Option Nat) (s0 : Int32) (z : Int32 × gMem), b_X6_value_117 Z F M x0 x2 s0 = some z → (fun (r : Int32 × gMem) => Q = gMQ below D cy B H0 args s 0 0 (some (vI r.1)) r.2) z → gGo p l e (rX6R (n0 + 1)) s m args below meth c D cy B H0 4 0 0 Q 117 [(0, vR (some x0)), (2, vR x2)] [vI s0] M := by
  intro M x0 x2 s0 z hf hK
  unfold b_X6_value_117 at hf
  refine g_istore_n (lv' := [(3, vI s0), (0, vR (some x0)), (2, vR x2)]) X dX6_value_117 rfl (by decide) rfl ?_
  refine g_goto (tgt := 303) X dX6_value_118 (by decide) ?_
  refine g_sub (lvsub_of _ _ [1, 2, 0] rfl) ?_
  exact t_X6_value_303 X hr hF _ _ _ _ _ hf hK
set_option maxHeartbeats 4000000 in
set_option maxRecDepth 100000 in
theorem t_X6_value_116 (X : gX p s m args meth c D cy B (gSt Z B H0) RX6 cX6_value wsX6_value 4) (hr : meth.sig.returnType = (some .boolean)) {n0 : Nat} {F : Nat → gMem → Nat → Int32 → Option (Int32 × gMem)} (hF : hX6R l D cy B H0 Z n0 F) {Q : State → Prop} : ∀ (M : gMem) (x0 : Nat) (x2 : Option Nat) (z : Int32 × gMem), b_X6_value_116 Z F M x0 x2 = some z → (fun (r : Int32 × gMem) => Q = gMQ below D cy B H0 args s 0 0 (some (vI r.1)) r.2) z → gGo p l e (rX6R (n0 + 1)) s m args below meth c D cy B H0 4 0 0 Q 116 [(0, vR (some x0)), (2, vR x2)] [] M := by
  intro M x0 x2 z hf hK
  unfold b_X6_value_116 at hf
  refine g_iconst (v := (0 : Int32)) X dX6_value_116 (by decide) ?_
  refine g_sub (lvsub_of _ _ [0, 1] rfl) ?_
  exact t_X6_value_117 X hr hF _ _ _ _ _ hf hK
set_option maxHeartbeats 4000000 in
set_option maxRecDepth 100000 in
theorem t_X6_value_93 (X : gX p s m args meth c D cy B (gSt Z B H0) RX6 cX6_value wsX6_value 4) (hr : meth.sig.returnType = (some .boolean)) {n0 : Nat} {F : Nat → gMem → Nat → Int32 → Option (Int32 × gMem)} (hF : hX6R l D cy B H0 Z n0 F) {Q : State → Prop} : ∀ (M : gMem) (x0 : Nat) (x2 : Option Nat) (z : Int32 × gMem), b_X6_value_93 Z F M x0 x2 = some z → (fun (r : Int32 × gMem) => Q = gMQ below D cy B H0 args s 0 0 (some (vI r.1)) r.2) z → gGo p l e (rX6R (n0 + 1)) s m args below meth c D cy B H0 4 0 0 Q 93 [(0, vR (some x0)), (2, vR x2)] [] M := by
  intro M x0 x2 z hf hK
  unfold b_X6_value_93 at hf
  refine g_aload_n X dX6_value_93 rfl rfl ?_
  refine g_aload_n X dX6_value_94 rfl rfl ?_
  obtain ⟨hT26, hf⟩ := ck_e hf
  obtain ⟨r25, M25, hq25, hf⟩ := bd_e hf
  refine g_callV (ci := 5) (b := x0) (As := [vR x2]) (st := []) (v := some (vI r25)) (M1 := M25) X (m_X6_take l hq25) (cwV 1 X.2.2.1 gX6_value_X6_take rfl rfl rfl (by decide +kernel) ⟨rX6R_f (Nat.le_of_ble_eq_true rfl), rX6R_l (Nat.le_of_ble_eq_true rfl)⟩) rfl rfl rfl hT26 (by decide) rfl (Nat.le_of_ble_eq_true rfl) dX6_value_95 ⟨Nat.zero_le _, Nat.zero_le _⟩ ?_
  refine g_if_eq (tgt := 116) X dX6_value_98 (by decide) (fun hc => ?_) (fun hc => ?_)
  · have hf := ife_t hc hf
    refine g_sub (lvsub_of _ _ [0, 1] rfl) ?_
    exact t_X6_value_116 X hr hF _ _ _ _ hf hK
  · have hf := ife_f hc hf
    refine g_aload_n X dX6_value_101 rfl rfl ?_
    refine g_aload_n X dX6_value_102 rfl rfl ?_
    obtain ⟨hT27, hf⟩ := ck_e hf
    refine g_get (ci := 5) (v := vR (mR M25 x0 4)) 4 X cdX6 i_X6_value_X6 (by decide) k_X6_value_f24 rfl dX6_value_103 rfl hT27 rfl ?_
    obtain ⟨r28, M28, hq28, hf⟩ := bd_e hf
    refine g_callV (ci := 5) (b := x0) (As := [vR (mR M25 x0 4)]) (st := []) (v := some (vI r28)) (M1 := M28) X (m_X6_takeKnown l hq28) (cwV 1 X.2.2.1 gX6_value_X6_takeKnown rfl rfl rfl (by decide +kernel) ⟨rX6R_f (Nat.le_of_ble_eq_true rfl), rX6R_l (Nat.le_of_ble_eq_true rfl)⟩) rfl rfl rfl hT27 (by decide) rfl (Nat.le_of_ble_eq_true rfl) dX6_value_106 ⟨Nat.zero_le _, Nat.zero_le _⟩ ?_
    refine g_if_eq (tgt := 116) X dX6_value_109 (by decide) (fun hc => ?_) (fun hc => ?_)
    · have hf := ife_t hc hf
      refine g_sub (lvsub_of _ _ [0, 1] rfl) ?_
      exact t_X6_value_116 X hr hF _ _ _ _ hf hK
    · have hf := ife_f hc hf
      refine g_iconst (v := (1 : Int32)) X dX6_value_112 (by decide) ?_
      refine g_goto (tgt := 117) X dX6_value_113 (by decide) ?_
      refine g_sub (lvsub_of _ _ [0, 1] rfl) ?_
      exact t_X6_value_117 X hr hF _ _ _ _ _ hf hK
set_option maxHeartbeats 4000000 in
set_option maxRecDepth 100000 in
theorem t_X6_value_0 (X : gX p s m args meth c D cy B (gSt Z B H0) RX6 cX6_value wsX6_value 4) (hr : meth.sig.returnType = (some .boolean)) {n0 : Nat} {F : Nat → gMem → Nat → Int32 → Option (Int32 × gMem)} (hF : hX6R l D cy B H0 Z n0 F) {Q : State → Prop} : ∀ (M : gMem) (x0 : Nat) (x1 : Int32) (z : Int32 × gMem), b_X6_value_0 Z F M x0 x1 = some z → (fun (r : Int32 × gMem) => Q = gMQ below D cy B H0 args s 0 0 (some (vI r.1)) r.2) z → gGo p l e (rX6R (n0 + 1)) s m args below meth c D cy B H0 4 0 0 Q 0 [(0, vR (some x0)), (1, vI x1)] [] M := by
  intro M x0 x1 z hf hK
  unfold b_X6_value_0 at hf
  refine g_aload_n X dX6_value_0 rfl rfl ?_
  obtain ⟨hT30, hf⟩ := ck_e hf
  obtain ⟨r29, M29, hq29, hf⟩ := bd_e hf
  refine g_callV (ci := 5) (b := x0) (As := []) (st := []) (v := some (vR r29)) (M1 := M29) X (m_X6_sign l hq29) (cwV 0 X.2.2.1 gX6_value_X6_sign rfl rfl rfl (by decide +kernel) ⟨rX6R_f (Nat.le_of_ble_eq_true rfl), rX6R_l (Nat.le_of_ble_eq_true rfl)⟩) rfl rfl rfl hT30 (by decide) rfl (Nat.le_of_ble_eq_true rfl) dX6_value_1 ⟨Nat.zero_le _, Nat.zero_le _⟩ ?_
  refine g_astore_n (lv' := [(2, vR r29), (0, vR (some x0)), (1, vI x1)]) X dX6_value_4 rfl (by decide) rfl ?_
  refine g_gets (w := vR (some (Z 46))) X (gSt_SW X) k_X6_value_f53 rfl dX6_value_5 ?_
  refine g_aload_n X dX6_value_8 rfl rfl ?_
  obtain ⟨o31, ho31, hf⟩ := dr_e hf
  refine g_callU (C := RX8) (owner := "java/lang/Enum") (As := []) (st := [vR (some (Z 46))]) (v := some (vI (nI o31))) X (m_ordinal l (ordZ_lt ho31)) (va_cwU 0 X.2.2.1 gX6_value_Jx29ce0_ordinal_8abf5_u59X8 rfl rfl rfl (by decide +kernel) (by decide +kernel) ⟨rX6R_f (Nat.le_of_ble_eq_true rfl), rX6R_l (Nat.le_of_ble_eq_true rfl)⟩) rfl rfl (ordZ_eq ho31) (fun H hW => gO_recv (gSt_O X (ordZ_lt ho31)) hW) (Nat.le_of_ble_eq_true rfl) dX6_value_9 ⟨Nat.zero_le _, Nat.zero_le _⟩ ?_
  refine g_ialdT (w := gSw o31) X (gSt_SWt X) rfl (gord_nn (ordZ_lt ho31)) (gord_lt (ordZ_lt ho31)) (gord_sw (ordZ_lt ho31)) dX6_value_12 ?_
  by_cases hs32 : (gSw o31) = (13 : Int32)
  · have hf := ife_t hs32 hf
    refine g_tabin (tgt := 72) X dX6_value_13 hs32 (by decide) (by decide) rfl (by decide) ?_
    refine g_aload_n X dX6_value_72 rfl rfl ?_
    refine g_iconst (v := (0 : Int32)) X dX6_value_73 (by decide) ?_
    refine g_ldcw (v := (999999 : Int32)) X k_X6_value_c315 dX6_value_74 ?_
    obtain ⟨hT34, hf⟩ := ck_e hf
    obtain ⟨r33, M33, hq33, hf⟩ := bd_e hf
    refine g_callV (ci := 5) (b := x0) (As := [vI (0 : Int32), vI (999999 : Int32)]) (st := []) (v := some (vI r33)) (M1 := M33) X (m_X6_takeNumber l hq33) (cwV 2 X.2.2.1 gX6_value_X6_takeNumber rfl rfl rfl (by decide +kernel) ⟨rX6R_f (Nat.le_of_ble_eq_true rfl), rX6R_l (Nat.le_of_ble_eq_true rfl)⟩) rfl rfl rfl hT34 (by decide) rfl (Nat.le_of_ble_eq_true rfl) dX6_value_77 ⟨Nat.zero_le _, Nat.zero_le _⟩ ?_
    refine g_istore_n (lv' := [(3, vI r33), (2, vR r29), (0, vR (some x0)), (1, vI x1)]) X dX6_value_80 rfl (by decide) rfl ?_
    refine g_goto (tgt := 303) X dX6_value_81 (by decide) ?_
    refine g_sub (lvsub_of _ _ [2, 1, 0] rfl) ?_
    exact t_X6_value_303 X hr hF _ _ _ _ _ hf hK
  · have hf := ife_f hs32 hf
    by_cases hs35 : (gSw o31) = (14 : Int32)
    · have hf := ife_t hs35 hf
      refine g_tabin (tgt := 84) X dX6_value_13 hs35 (by decide) (by decide) rfl (by decide) ?_
      refine g_aload_n X dX6_value_84 rfl rfl ?_
      refine g_aload_n X dX6_value_85 rfl rfl ?_
      obtain ⟨hT37, hf⟩ := ck_e hf
      obtain ⟨r36, M36, hq36, hf⟩ := bd_e hf
      refine g_callV (ci := 5) (b := x0) (As := [vR r29]) (st := []) (v := some (vI r36)) (M1 := M36) X (m_X6_take l hq36) (cwV 1 X.2.2.1 gX6_value_X6_take rfl rfl rfl (by decide +kernel) ⟨rX6R_f (Nat.le_of_ble_eq_true rfl), rX6R_l (Nat.le_of_ble_eq_true rfl)⟩) rfl rfl rfl hT37 (by decide) rfl (Nat.le_of_ble_eq_true rfl) dX6_value_86 ⟨Nat.zero_le _, Nat.zero_le _⟩ ?_
      refine g_istore_n (lv' := [(3, vI r36), (2, vR r29), (0, vR (some x0)), (1, vI x1)]) X dX6_value_89 rfl (by decide) rfl ?_
      refine g_goto (tgt := 303) X dX6_value_90 (by decide) ?_
      refine g_sub (lvsub_of _ _ [2, 1, 0] rfl) ?_
      exact t_X6_value_303 X hr hF _ _ _ _ _ hf hK
    · have hf := ife_f hs35 hf
      by_cases hs38 : (gSw o31) = (15 : Int32)
      · have hf := ife_t hs38 hf
        refine g_tabin (tgt := 93) X dX6_value_13 hs38 (by decide) (by decide) rfl (by decide) ?_
        refine g_sub (lvsub_of _ _ [1, 0] rfl) ?_
        exact t_X6_value_93 X hr hF _ _ _ _ hf hK
      · have hf := ife_f hs38 hf
        by_cases hs39 : (gSw o31) = (16 : Int32)
        · have hf := ife_t hs39 hf
          refine g_tabin (tgt := 93) X dX6_value_13 hs39 (by decide) (by decide) rfl (by decide) ?_
          refine g_sub (lvsub_of _ _ [1, 0] rfl) ?_
          exact t_X6_value_93 X hr hF _ _ _ _ hf hK
        · have hf := ife_f hs39 hf
          by_cases hs40 : (gSw o31) = (17 : Int32)
          · have hf := ife_t hs40 hf
            refine g_tabin (tgt := 93) X dX6_value_13 hs40 (by decide) (by decide) rfl (by decide) ?_
            refine g_sub (lvsub_of _ _ [1, 0] rfl) ?_
            exact t_X6_value_93 X hr hF _ _ _ _ hf hK
          · have hf := ife_f hs40 hf
            by_cases hs41 : (gSw o31) = (18 : Int32)
            · have hf := ife_t hs41 hf
              refine g_tabin (tgt := 121) X dX6_value_13 hs41 (by decide) (by decide) rfl (by decide) ?_
              refine g_sub (lvsub_of _ _ [1, 0] rfl) ?_
              exact t_X6_value_121 X hr hF _ _ _ _ hf hK
            · have hf := ife_f hs41 hf
              by_cases hs42 : (gSw o31) = (19 : Int32)
              · have hf := ife_t hs42 hf
                refine g_tabin (tgt := 121) X dX6_value_13 hs42 (by decide) (by decide) rfl (by decide) ?_
                refine g_sub (lvsub_of _ _ [1, 0] rfl) ?_
                exact t_X6_value_121 X hr hF _ _ _ _ hf hK
              · have hf := ife_f hs42 hf
                by_cases hs43 : (gSw o31) = (20 : Int32)
                · have hf := ife_t hs43 hf
                  refine g_tabin (tgt := 149) X dX6_value_13 hs43 (by decide) (by decide) rfl (by decide) ?_
                  refine g_gets (w := vR (some (Z 44))) X (gSt_E X 44 (by decide)) k_X6_value_f316 rfl dX6_value_149 ?_
                  refine g_astore_n (lv' := [(2, vR (some (Z 44))), (0, vR (some x0)), (1, vI x1)]) X dX6_value_152 rfl (by decide) rfl ?_
                  refine g_iload_n X dX6_value_153 rfl rfl ?_
                  refine g_bipush (v := (8 : Int32)) X dX6_value_154 (by decide) ?_
                  refine g_icmp_ge (tgt := 183) X dX6_value_156 (by decide) (fun hc => ?_) (fun hc => ?_)
                  · have hf := ife_t hc hf
                    refine g_sub (lvsub_of _ _ [1, 0] rfl) ?_
                    exact t_X6_value_183 X hr hF _ _ _ hf hK
                  · have hf := ife_f hc hf
                    refine g_aload_n X dX6_value_159 rfl rfl ?_
                    refine g_gets (w := vR (some (Z 32))) X (gSt_E X 32 (by decide)) k_X6_value_f303 rfl dX6_value_160 ?_
                    obtain ⟨hT45, hf⟩ := ck_e hf
                    obtain ⟨r44, M44, hq44, hf⟩ := bd_e hf
                    refine g_callV (ci := 5) (b := x0) (As := [vR (some (Z 32))]) (st := []) (v := some (vI r44)) (M1 := M44) X (m_X6_take l hq44) (cwV 1 X.2.2.1 gX6_value_X6_take rfl rfl rfl (by decide +kernel) ⟨rX6R_f (Nat.le_of_ble_eq_true rfl), rX6R_l (Nat.le_of_ble_eq_true rfl)⟩) rfl rfl rfl hT45 (by decide) rfl (Nat.le_of_ble_eq_true rfl) dX6_value_163 ⟨Nat.zero_le _, Nat.zero_le _⟩ ?_
                    refine g_if_eq (tgt := 183) X dX6_value_166 (by decide) (fun hc => ?_) (fun hc => ?_)
                    · have hf := ife_t hc hf
                      refine g_sub (lvsub_of _ _ [1, 0] rfl) ?_
                      exact t_X6_value_183 X hr hF _ _ _ hf hK
                    · have hf := ife_f hc hf
                      refine g_aload_n X dX6_value_169 rfl rfl ?_
                      refine g_iload_n X dX6_value_170 rfl rfl ?_
                      refine g_iconst (v := (1 : Int32)) X dX6_value_171 (by decide) ?_
                      refine g_iadd X dX6_value_172 ?_
                      obtain ⟨hT47, hf⟩ := ck_e hf
                      obtain ⟨r46, M46, hq46, hf⟩ := bd_e hf
                      refine g_callV (ci := 5) (b := x0) (As := [vI (x1 + (1 : Int32))]) (st := []) (v := some (vI r46)) (M1 := M46) X (hF.2.2.2.2.2.2 _ _ _ _ _ hq46) (cwV 1 X.2.2.1 gX6_value_X6_value rfl rfl rfl (by decide +kernel) ⟨rX6R_rf, rX6R_rl (Nat.le_of_ble_eq_true rfl)⟩) rfl rfl rfl hT47 (by decide) rfl (Nat.le_of_ble_eq_true rfl) dX6_value_173 ⟨Nat.zero_le _, Nat.zero_le _⟩ ?_
                      refine g_if_eq (tgt := 183) X dX6_value_176 (by decide) (fun hc => ?_) (fun hc => ?_)
                      · have hf := ife_t hc hf
                        refine g_sub (lvsub_of _ _ [1, 0] rfl) ?_
                        exact t_X6_value_183 X hr hF _ _ _ hf hK
                      · have hf := ife_f hc hf
                        refine g_iconst (v := (1 : Int32)) X dX6_value_179 (by decide) ?_
                        refine g_goto (tgt := 184) X dX6_value_180 (by decide) ?_
                        refine g_sub (lvsub_of _ _ [1, 0] rfl) ?_
                        exact t_X6_value_184 X hr hF _ _ _ _ hf hK
                · have hf := ife_f hs43 hf
                  by_cases hs48 : (gSw o31) = (21 : Int32)
                  · have hf := ife_t hs48 hf
                    refine g_tabin (tgt := 188) X dX6_value_13 hs48 (by decide) (by decide) rfl (by decide) ?_
                    refine g_iload_n X dX6_value_188 rfl rfl ?_
                    refine g_bipush (v := (8 : Int32)) X dX6_value_189 (by decide) ?_
                    refine g_icmp_ge (tgt := 226) X dX6_value_191 (by decide) (fun hc => ?_) (fun hc => ?_)
                    · have hf := ife_t hc hf
                      refine g_sub (lvsub_of _ _ [] rfl) ?_
                      exact t_X6_value_226 X hr hF _  _ hf hK
                    · have hf := ife_f hc hf
                      refine g_aload_n X dX6_value_194 rfl rfl ?_
                      refine g_aload_n X dX6_value_195 rfl rfl ?_
                      obtain ⟨hT50, hf⟩ := ck_e hf
                      obtain ⟨r49, M49, hq49, hf⟩ := bd_e hf
                      refine g_callV (ci := 5) (b := x0) (As := [vR r29]) (st := []) (v := some (vI r49)) (M1 := M49) X (m_X6_take l hq49) (cwV 1 X.2.2.1 gX6_value_X6_take rfl rfl rfl (by decide +kernel) ⟨rX6R_f (Nat.le_of_ble_eq_true rfl), rX6R_l (Nat.le_of_ble_eq_true rfl)⟩) rfl rfl rfl hT50 (by decide) rfl (Nat.le_of_ble_eq_true rfl) dX6_value_196 ⟨Nat.zero_le _, Nat.zero_le _⟩ ?_
                      refine g_if_eq (tgt := 226) X dX6_value_199 (by decide) (fun hc => ?_) (fun hc => ?_)
                      · have hf := ife_t hc hf
                        refine g_sub (lvsub_of _ _ [] rfl) ?_
                        exact t_X6_value_226 X hr hF _  _ hf hK
                      · have hf := ife_f hc hf
                        refine g_aload_n X dX6_value_202 rfl rfl ?_
                        refine g_iload_n X dX6_value_203 rfl rfl ?_
                        refine g_iconst (v := (1 : Int32)) X dX6_value_204 (by decide) ?_
                        refine g_iadd X dX6_value_205 ?_
                        obtain ⟨hT52, hf⟩ := ck_e hf
                        obtain ⟨r51, M51, hq51, hf⟩ := bd_e hf
                        refine g_callV (ci := 5) (b := x0) (As := [vI (x1 + (1 : Int32))]) (st := []) (v := some (vI r51)) (M1 := M51) X (hF.2.2.2.2.1 _ _ _ _ _ hq51) (cwV 1 X.2.2.1 gX6_value_X6_sum rfl rfl rfl (by decide +kernel) ⟨rX6R_rf, rX6R_rl (Nat.le_of_ble_eq_true rfl)⟩) rfl rfl rfl hT52 (by decide) rfl (Nat.le_of_ble_eq_true rfl) dX6_value_206 ⟨Nat.zero_le _, Nat.zero_le _⟩ ?_
                        refine g_if_eq (tgt := 226) X dX6_value_209 (by decide) (fun hc => ?_) (fun hc => ?_)
                        · have hf := ife_t hc hf
                          refine g_sub (lvsub_of _ _ [] rfl) ?_
                          exact t_X6_value_226 X hr hF _  _ hf hK
                        · have hf := ife_f hc hf
                          refine g_aload_n X dX6_value_212 rfl rfl ?_
                          refine g_gets (w := vR (some (Z 26))) X (gSt_E X 26 (by decide)) k_X6_value_f319 rfl dX6_value_213 ?_
                          obtain ⟨hT54, hf⟩ := ck_e hf
                          obtain ⟨r53, M53, hq53, hf⟩ := bd_e hf
                          refine g_callV (ci := 5) (b := x0) (As := [vR (some (Z 26))]) (st := []) (v := some (vI r53)) (M1 := M53) X (m_X6_take l hq53) (cwV 1 X.2.2.1 gX6_value_X6_take rfl rfl rfl (by decide +kernel) ⟨rX6R_f (Nat.le_of_ble_eq_true rfl), rX6R_l (Nat.le_of_ble_eq_true rfl)⟩) rfl rfl rfl hT54 (by decide) rfl (Nat.le_of_ble_eq_true rfl) dX6_value_216 ⟨Nat.zero_le _, Nat.zero_le _⟩ ?_
                          refine g_if_eq (tgt := 226) X dX6_value_219 (by decide) (fun hc => ?_) (fun hc => ?_)
                          · have hf := ife_t hc hf
                            refine g_sub (lvsub_of _ _ [] rfl) ?_
                            exact t_X6_value_226 X hr hF _  _ hf hK
                          · have hf := ife_f hc hf
                            refine g_iconst (v := (1 : Int32)) X dX6_value_222 (by decide) ?_
                            refine g_goto (tgt := 227) X dX6_value_223 (by decide) ?_
                            refine g_sub (lvsub_of _ _ [] rfl) ?_
                            exact t_X6_value_227 X hr hF _ _ _ hf hK
                  · have hf := ife_f hs48 hf
                    by_cases hs55 : (gSw o31) = (22 : Int32)
                    · have hf := ife_t hs55 hf
                      refine g_tabin (tgt := 228) X dX6_value_13 hs55 (by decide) (by decide) rfl (by decide) ?_
                      refine g_sub (lvsub_of _ _ [1, 2, 0] rfl) ?_
                      exact t_X6_value_228 X hr hF _ _ _ _ _ hf hK
                    · have hf := ife_f hs55 hf
                      by_cases hs56 : (gSw o31) = (23 : Int32)
                      · have hf := ife_t hs56 hf
                        refine g_tabin (tgt := 228) X dX6_value_13 hs56 (by decide) (by decide) rfl (by decide) ?_
                        refine g_sub (lvsub_of _ _ [1, 2, 0] rfl) ?_
                        exact t_X6_value_228 X hr hF _ _ _ _ _ hf hK
                      · have hf := ife_f hs56 hf
                        refine g_tabout (tgt := 301) X dX6_value_13 (gtab_out 11 (13) (by decide) (by decide) (fun i hi => match i, hi with | 0, _ => fun e => hs32 (e.trans (by decide)) | 1, _ => fun e => hs35 (e.trans (by decide)) | 2, _ => fun e => hs38 (e.trans (by decide)) | 3, _ => fun e => hs39 (e.trans (by decide)) | 4, _ => fun e => hs40 (e.trans (by decide)) | 5, _ => fun e => hs41 (e.trans (by decide)) | 6, _ => fun e => hs42 (e.trans (by decide)) | 7, _ => fun e => hs43 (e.trans (by decide)) | 8, _ => fun e => hs48 (e.trans (by decide)) | 9, _ => fun e => hs55 (e.trans (by decide)) | 10, _ => fun e => hs56 (e.trans (by decide)) | i + 11, h => absurd h (by omega))) (by decide) ?_
                        refine g_iconst (v := (0 : Int32)) X dX6_value_301 (by decide) ?_
                        cases hf
                        refine g_eqQ hK ?_
                        exact g_zret X hr (gnb (Or.inl rfl)) dX6_value_302
set_option maxHeartbeats 4000000 in
set_option maxRecDepth 100000 in
theorem mr_X6_value (l : Launch) {D : va_G} {cy : Nat → ClassId} {B : Nat} {H0 : Heap} {Z : Nat → Nat} {M M1 : gMem} {n0 : Nat} {F : Nat → gMem → Nat → Int32 → Option (Int32 × gMem)} (hF : hX6R l D cy B H0 Z n0 F) {x0 : Nat} {x1 : Int32} {r : Int32} (hf : fr_X6_value Z F M x0 x1 = some (r, M1)) : Met l yX6_value wsX6_value (rX6R (n0 + 1)) (va_Pc (Value.ref x0 :: List.map gv [vI x1]) (gPre D cy B H0 (gSt Z B H0) M)) (gQ D cy B H0 (some (vI r)) M1) 0 0 (gA B) := by
  refine Met.ofW (cc := cX6_value) (maxL := 4) (ret := (some .boolean)) (by decide) rfl ?_
  intro p e s m args below meth c s₁ Bd hml hv
  obtain ⟨rfl, hW, hKK, hFs⟩ := hv
  have X : gX p s m _ meth c D cy B (gSt Z B H0) RX6 cX6_value wsX6_value 4 := ⟨Bd.exec, Bd.bytes, atoms_spec (ws := wsX6_value) Bd.pre, findClass_of_methodNamed Bd.named, hml, hKK, by rw [hW.1]; exact hW.2.1, Bd.notSynchronized, hFs⟩
  have hr := Bd.returns
  have hl := lv_entry ([.ref x0, .int x1]) (n := 4) (Nat.le_of_ble_eq_true rfl)
  show W p l e (rX6R (n0 + 1)) s m _ below meth c s.heap [] 0 0 _ (entryFrame m ([.ref x0, .int x1] : List Value).toArray 4)
  rw [lg_entry_eq]
  generalize (lg_sl ([.ref x0, .int x1]) ++ List.replicate (4 - (lg_sl ([.ref x0, .int x1])).length) Slot.unset).toArray = ls at hl ⊢
  have hl : lv_has ls 4 (List.map gq [(0, vR (some x0)), (1, vI x1)]) := hl
  exact t_X6_value_0 X hr hF _ _ _ _ hf rfl s.heap [] ls hW va_S.rf (lv_has_sub hl (lvsub_of _ _ [0, 1] rfl))
noncomputable def fX6R (Z : Nat → Nat) : Nat → Nat → gMem → Nat → Int32 → Option (Int32 × gMem)
  | 0 => fun _ _ _ _ => none
  | n + 1 => fun j M x0 x1 => if j = 0 then fr_X6_test Z (fX6R Z n) M x0 x1 else if j = 1 then fr_X6_both Z (fX6R Z n) M x0 x1 else if j = 2 then fr_X6_single Z (fX6R Z n) M x0 x1 else if j = 3 then fr_X6_comparedSum Z (fX6R Z n) M x0 x1 else if j = 4 then fr_X6_sum Z (fX6R Z n) M x0 x1 else if j = 5 then fr_X6_product Z (fX6R Z n) M x0 x1 else if j = 6 then fr_X6_value Z (fX6R Z n) M x0 x1 else none
theorem mX6R (l : Launch) {D : va_G} {cy : Nat → ClassId} {B : Nat} {H0 : Heap} {Z : Nat → Nat} : ∀ n : Nat, hX6R l D cy B H0 Z n (fX6R Z n)
  | 0 => ⟨fun M M1 r x0 x1 h => by simp [fX6R] at h, fun M M1 r x0 x1 h => by simp [fX6R] at h, fun M M1 r x0 x1 h => by simp [fX6R] at h, fun M M1 r x0 x1 h => by simp [fX6R] at h, fun M M1 r x0 x1 h => by simp [fX6R] at h, fun M M1 r x0 x1 h => by simp [fX6R] at h, fun M M1 r x0 x1 h => by simp [fX6R] at h⟩
  | n + 1 => ⟨fun M M1 r x0 x1 h => mr_X6_test l (mX6R l n) (by simpa [fX6R] using h), fun M M1 r x0 x1 h => mr_X6_both l (mX6R l n) (by simpa [fX6R] using h), fun M M1 r x0 x1 h => mr_X6_single l (mX6R l n) (by simpa [fX6R] using h), fun M M1 r x0 x1 h => mr_X6_comparedSum l (mX6R l n) (by simpa [fX6R] using h), fun M M1 r x0 x1 h => mr_X6_sum l (mX6R l n) (by simpa [fX6R] using h), fun M M1 r x0 x1 h => mr_X6_product l (mX6R l n) (by simpa [fX6R] using h), fun M M1 r x0 x1 h => mr_X6_value l (mX6R l n) (by simpa [fX6R] using h)⟩
noncomputable def f_X6_test (Z : Nat → Nat) (M : gMem) (x0 : Nat) (x1 : Int32) : Option (Int32 × gMem) := fX6R Z 64 0 M x0 x1
abbrev rX6_test : Room := { frames := 66, cells := 0, slots := 0, locals := 2604 }
theorem m_X6_test (l : Launch) {D : va_G} {cy : Nat → ClassId} {B : Nat} {H0 : Heap} {Z : Nat → Nat} {M M1 : gMem} {x0 : Nat} {x1 : Int32} {r : Int32} (hf : f_X6_test Z M x0 x1 = some (r, M1)) : Met l yX6_test wsX6_test rX6_test (va_Pc (Value.ref x0 :: List.map gv [vI x1]) (gPre D cy B H0 (gSt Z B H0) M)) (gQ D cy B H0 (some (vI r)) M1) 0 0 (gA B) := (mX6R l 64).1 _ _ _ _ _ hf
noncomputable def f_X6_both (Z : Nat → Nat) (M : gMem) (x0 : Nat) (x1 : Int32) : Option (Int32 × gMem) := fX6R Z 64 1 M x0 x1
abbrev rX6_both : Room := { frames := 66, cells := 0, slots := 0, locals := 2604 }
theorem m_X6_both (l : Launch) {D : va_G} {cy : Nat → ClassId} {B : Nat} {H0 : Heap} {Z : Nat → Nat} {M M1 : gMem} {x0 : Nat} {x1 : Int32} {r : Int32} (hf : f_X6_both Z M x0 x1 = some (r, M1)) : Met l yX6_both wsX6_both rX6_both (va_Pc (Value.ref x0 :: List.map gv [vI x1]) (gPre D cy B H0 (gSt Z B H0) M)) (gQ D cy B H0 (some (vI r)) M1) 0 0 (gA B) := (mX6R l 64).2.1 _ _ _ _ _ hf
noncomputable def f_X6_single (Z : Nat → Nat) (M : gMem) (x0 : Nat) (x1 : Int32) : Option (Int32 × gMem) := fX6R Z 64 2 M x0 x1
abbrev rX6_single : Room := { frames := 66, cells := 0, slots := 0, locals := 2604 }
theorem m_X6_single (l : Launch) {D : va_G} {cy : Nat → ClassId} {B : Nat} {H0 : Heap} {Z : Nat → Nat} {M M1 : gMem} {x0 : Nat} {x1 : Int32} {r : Int32} (hf : f_X6_single Z M x0 x1 = some (r, M1)) : Met l yX6_single wsX6_single rX6_single (va_Pc (Value.ref x0 :: List.map gv [vI x1]) (gPre D cy B H0 (gSt Z B H0) M)) (gQ D cy B H0 (some (vI r)) M1) 0 0 (gA B) := (mX6R l 64).2.2.1 _ _ _ _ _ hf
noncomputable def f_X6_comparedSum (Z : Nat → Nat) (M : gMem) (x0 : Nat) (x1 : Int32) : Option (Int32 × gMem) := fX6R Z 64 3 M x0 x1
abbrev rX6_comparedSum : Room := { frames := 66, cells := 0, slots := 0, locals := 2604 }
theorem m_X6_comparedSum (l : Launch) {D : va_G} {cy : Nat → ClassId} {B : Nat} {H0 : Heap} {Z : Nat → Nat} {M M1 : gMem} {x0 : Nat} {x1 : Int32} {r : Int32} (hf : f_X6_comparedSum Z M x0 x1 = some (r, M1)) : Met l yX6_comparedSum wsX6_comparedSum rX6_comparedSum (va_Pc (Value.ref x0 :: List.map gv [vI x1]) (gPre D cy B H0 (gSt Z B H0) M)) (gQ D cy B H0 (some (vI r)) M1) 0 0 (gA B) := (mX6R l 64).2.2.2.1 _ _ _ _ _ hf
noncomputable def f_X6_sum (Z : Nat → Nat) (M : gMem) (x0 : Nat) (x1 : Int32) : Option (Int32 × gMem) := fX6R Z 64 4 M x0 x1
abbrev rX6_sum : Room := { frames := 66, cells := 0, slots := 0, locals := 2604 }
theorem m_X6_sum (l : Launch) {D : va_G} {cy : Nat → ClassId} {B : Nat} {H0 : Heap} {Z : Nat → Nat} {M M1 : gMem} {x0 : Nat} {x1 : Int32} {r : Int32} (hf : f_X6_sum Z M x0 x1 = some (r, M1)) : Met l yX6_sum wsX6_sum rX6_sum (va_Pc (Value.ref x0 :: List.map gv [vI x1]) (gPre D cy B H0 (gSt Z B H0) M)) (gQ D cy B H0 (some (vI r)) M1) 0 0 (gA B) := (mX6R l 64).2.2.2.2.1 _ _ _ _ _ hf
noncomputable def f_X6_product (Z : Nat → Nat) (M : gMem) (x0 : Nat) (x1 : Int32) : Option (Int32 × gMem) := fX6R Z 64 5 M x0 x1
abbrev rX6_product : Room := { frames := 66, cells := 0, slots := 0, locals := 2604 }
theorem m_X6_product (l : Launch) {D : va_G} {cy : Nat → ClassId} {B : Nat} {H0 : Heap} {Z : Nat → Nat} {M M1 : gMem} {x0 : Nat} {x1 : Int32} {r : Int32} (hf : f_X6_product Z M x0 x1 = some (r, M1)) : Met l yX6_product wsX6_product rX6_product (va_Pc (Value.ref x0 :: List.map gv [vI x1]) (gPre D cy B H0 (gSt Z B H0) M)) (gQ D cy B H0 (some (vI r)) M1) 0 0 (gA B) := (mX6R l 64).2.2.2.2.2.1 _ _ _ _ _ hf
noncomputable def f_X6_value (Z : Nat → Nat) (M : gMem) (x0 : Nat) (x1 : Int32) : Option (Int32 × gMem) := fX6R Z 64 6 M x0 x1
abbrev rX6_value : Room := { frames := 66, cells := 0, slots := 0, locals := 2604 }
theorem m_X6_value (l : Launch) {D : va_G} {cy : Nat → ClassId} {B : Nat} {H0 : Heap} {Z : Nat → Nat} {M M1 : gMem} {x0 : Nat} {x1 : Int32} {r : Int32} (hf : f_X6_value Z M x0 x1 = some (r, M1)) : Met l yX6_value wsX6_value rX6_value (va_Pc (Value.ref x0 :: List.map gv [vI x1]) (gPre D cy B H0 (gSt Z B H0) M)) (gQ D cy B H0 (some (vI r)) M1) 0 0 (gA B) := (mX6R l 64).2.2.2.2.2.2 _ _ _ _ _ hf
end
