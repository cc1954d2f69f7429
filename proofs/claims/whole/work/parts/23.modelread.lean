section
variable {p : Program} {l : Launch} {e : Env} {s : State} {m : MethodId} {args : Array Value} {below : List Frame} {meth : Method} {c : Code} {D : va_G} {cy : Nat → ClassId} {B : Nat} {H0 : Heap} {Z : Nat → Nat}
/-! ## TideLotsModel.isGroundLine()Z -/
theorem dX14_isGroundLine_0 : decode cX14_isGroundLine 0 = .ok (.aload_n 0, 1) := by decide +kernel
theorem dX14_isGroundLine_1 : decode cX14_isGroundLine 1 = .ok (.dup, 1) := by decide +kernel
theorem dX14_isGroundLine_2 : decode cX14_isGroundLine 2 = .ok (.getfield 118, 3) := by decide +kernel
theorem dX14_isGroundLine_5 : decode cX14_isGroundLine 5 = .ok (.iconst 1, 1) := by decide +kernel
theorem dX14_isGroundLine_6 : decode cX14_isGroundLine 6 = .ok (.iadd, 1) := by decide +kernel
theorem dX14_isGroundLine_7 : decode cX14_isGroundLine 7 = .ok (.putfield 118, 3) := by decide +kernel
theorem dX14_isGroundLine_10 : decode cX14_isGroundLine 10 = .ok (.aload_n 0, 1) := by decide +kernel
theorem dX14_isGroundLine_11 : decode cX14_isGroundLine 11 = .ok (.bipush 40, 2) := by decide +kernel
theorem dX14_isGroundLine_13 : decode cX14_isGroundLine 13 = .ok (.iconst 1, 1) := by decide +kernel
theorem dX14_isGroundLine_14 : decode cX14_isGroundLine 14 = .ok (.invokevirtual 149, 3) := by decide +kernel
theorem dX14_isGroundLine_17 : decode cX14_isGroundLine 17 = .ok (.ifCond .eq 40, 3) := by decide +kernel
theorem dX14_isGroundLine_20 : decode cX14_isGroundLine 20 = .ok (.aload_n 0, 1) := by decide +kernel
theorem dX14_isGroundLine_21 : decode cX14_isGroundLine 21 = .ok (.iconst 1, 1) := by decide +kernel
theorem dX14_isGroundLine_22 : decode cX14_isGroundLine 22 = .ok (.invokevirtual 124, 3) := by decide +kernel
theorem dX14_isGroundLine_25 : decode cX14_isGroundLine 25 = .ok (.ifCond .eq 32, 3) := by decide +kernel
theorem dX14_isGroundLine_28 : decode cX14_isGroundLine 28 = .ok (.aload_n 0, 1) := by decide +kernel
theorem dX14_isGroundLine_29 : decode cX14_isGroundLine 29 = .ok (.bipush 41, 2) := by decide +kernel
theorem dX14_isGroundLine_31 : decode cX14_isGroundLine 31 = .ok (.iconst 5, 1) := by decide +kernel
theorem dX14_isGroundLine_32 : decode cX14_isGroundLine 32 = .ok (.invokevirtual 149, 3) := by decide +kernel
theorem dX14_isGroundLine_35 : decode cX14_isGroundLine 35 = .ok (.ifCond .eq 22, 3) := by decide +kernel
theorem dX14_isGroundLine_38 : decode cX14_isGroundLine 38 = .ok (.aload_n 0, 1) := by decide +kernel
theorem dX14_isGroundLine_39 : decode cX14_isGroundLine 39 = .ok (.iconst 2, 1) := by decide +kernel
theorem dX14_isGroundLine_40 : decode cX14_isGroundLine 40 = .ok (.invokevirtual 124, 3) := by decide +kernel
theorem dX14_isGroundLine_43 : decode cX14_isGroundLine 43 = .ok (.ifCond .eq 14, 3) := by decide +kernel
theorem dX14_isGroundLine_46 : decode cX14_isGroundLine 46 = .ok (.aload_n 0, 1) := by decide +kernel
theorem dX14_isGroundLine_47 : decode cX14_isGroundLine 47 = .ok (.bipush 41, 2) := by decide +kernel
theorem dX14_isGroundLine_49 : decode cX14_isGroundLine 49 = .ok (.bipush 6, 2) := by decide +kernel
theorem dX14_isGroundLine_51 : decode cX14_isGroundLine 51 = .ok (.invokevirtual 149, 3) := by decide +kernel
theorem dX14_isGroundLine_54 : decode cX14_isGroundLine 54 = .ok (.ifCond .ne 5, 3) := by decide +kernel
theorem dX14_isGroundLine_57 : decode cX14_isGroundLine 57 = .ok (.iconst 0, 1) := by decide +kernel
theorem dX14_isGroundLine_58 : decode cX14_isGroundLine 58 = .ok (.ireturn, 1) := by decide +kernel
theorem dX14_isGroundLine_59 : decode cX14_isGroundLine 59 = .ok (.aload_n 0, 1) := by decide +kernel
theorem dX14_isGroundLine_60 : decode cX14_isGroundLine 60 = .ok (.bipush 44, 2) := by decide +kernel
theorem dX14_isGroundLine_62 : decode cX14_isGroundLine 62 = .ok (.invokevirtual 145, 3) := by decide +kernel
theorem dX14_isGroundLine_65 : decode cX14_isGroundLine 65 = .ok (.ifCond .eq 16, 3) := by decide +kernel
theorem dX14_isGroundLine_68 : decode cX14_isGroundLine 68 = .ok (.aload_n 0, 1) := by decide +kernel
theorem dX14_isGroundLine_69 : decode cX14_isGroundLine 69 = .ok (.bipush 41, 2) := by decide +kernel
theorem dX14_isGroundLine_71 : decode cX14_isGroundLine 71 = .ok (.bipush 6, 2) := by decide +kernel
theorem dX14_isGroundLine_73 : decode cX14_isGroundLine 73 = .ok (.invokevirtual 149, 3) := by decide +kernel
theorem dX14_isGroundLine_76 : decode cX14_isGroundLine 76 = .ok (.ifCond .ne (-17), 3) := by decide +kernel
theorem dX14_isGroundLine_79 : decode cX14_isGroundLine 79 = .ok (.iconst 0, 1) := by decide +kernel
theorem dX14_isGroundLine_80 : decode cX14_isGroundLine 80 = .ok (.ireturn, 1) := by decide +kernel
theorem dX14_isGroundLine_81 : decode cX14_isGroundLine 81 = .ok (.iconst 1, 1) := by decide +kernel
theorem dX14_isGroundLine_82 : decode cX14_isGroundLine 82 = .ok (.ireturn, 1) := by decide +kernel
set_option maxRecDepth 20000 in
theorem ggX14_isGroundLine_X14_eatSign : GoodIn wsX14_isGroundLine wsX14_eatSign := goodIn_r _ [20, 8, 9, 10, 5, 11, 1, 12, 13, 14, 15, 16, 21, 22, 23, 24, 25, 26, 27, 28, 29, 30, 31, 32, 33, 34, 35] (by decide +kernel) (by decide +kernel)
set_option maxRecDepth 20000 in
theorem gX14_isGroundLine_X14_eatSign : GoodIn wsX14_isGroundLine (wsV RX14 145 RX14 yX14_eatSign wsX14_eatSign) := goodIn_app (goodIn_of _ (by decide +kernel)) ggX14_isGroundLine_X14_eatSign
set_option maxRecDepth 20000 in
theorem ggX14_isGroundLine_X14_eatAs : GoodIn wsX14_isGroundLine wsX14_eatAs := goodIn_r _ [6, 7, 1, 8, 9, 10, 5, 11, 12, 13, 14, 15, 16, 21, 22, 23, 24, 25, 26, 27, 28, 29, 30, 31, 32, 33, 34, 35] (by decide +kernel) (by decide +kernel)
set_option maxRecDepth 20000 in
theorem gX14_isGroundLine_X14_eatAs : GoodIn wsX14_isGroundLine (wsV RX14 149 RX14 yX14_eatAs wsX14_eatAs) := goodIn_app (goodIn_of _ (by decide +kernel)) ggX14_isGroundLine_X14_eatAs
set_option maxRecDepth 20000 in
theorem ggX14_isGroundLine_X14_eat : GoodIn wsX14_isGroundLine wsX14_eat := goodIn_r _ [11, 1, 12, 13, 14, 5, 15, 16, 21, 22, 23, 24, 25, 26, 27, 28, 29, 30, 31, 32, 33, 34, 35] (by decide +kernel) (by decide +kernel)
set_option maxRecDepth 20000 in
theorem gX14_isGroundLine_X14_eat : GoodIn wsX14_isGroundLine (wsV RX14 124 RX14 yX14_eat wsX14_eat) := goodIn_app (goodIn_of _ (by decide +kernel)) ggX14_isGroundLine_X14_eat
theorem k_X14_isGroundLine_f118 : Cond.fieldLink RX14 118 "TideLotsModel" "token" "I" ∈ wsX14_isGroundLine := by decide +kernel
theorem i_X14_isGroundLine_X14 : ∀ w ∈ u_ws RX14 TX14 15, w ∈ wsX14_isGroundLine := by decide +kernel
abbrev rX14_isGroundLine : Room := { frames := 3, cells := 0, slots := 0, locals := 64 }
noncomputable def bb_X14_isGroundLine_59 (M : gMem) (x0 : Nat) : Option ((gMem) ⊕ (Int32 × gMem)) :=
  ck (mT M x0 = 13) <| bd (f_X14_eatSign M x0 ((44 : Int32))) fun r1 M1 => (if r1 = 0 then oI (some ((1 : Int32), M1)) else ck (mT M1 x0 = 13) <| bd (f_X14_eatAs M1 x0 ((41 : Int32)) ((6 : Int32))) fun r4 M4 => (if r4 = 0 then oI (some ((0 : Int32), M4)) else some (.inl M4)))
noncomputable def lp_X14_isGroundLine_59 (M : gMem) (x0 : Nat) : Option (Int32 × gMem) :=
  lp (fun (q : gMem) => bb_X14_isGroundLine_59 q x0) M
noncomputable def b_X14_isGroundLine_57 (M : gMem)  : Option (Int32 × gMem) :=
  some ((0 : Int32), M)
noncomputable def b_X14_isGroundLine_0 (M : gMem) (x0 : Nat) : Option (Int32 × gMem) :=
  ck (mT M x0 = 13) <| lw (wI M x0 9 (((mI M x0 9) + (1 : Int32)))) fun M8 => bd (f_X14_eatAs M8 x0 ((40 : Int32)) ((1 : Int32))) fun r10 M10 => (if r10 = 0 then b_X14_isGroundLine_57 M10  else ck (mT M10 x0 = 13) <| bd (f_X14_eat M10 x0 ((1 : Int32))) fun r11 M11 => (if r11 = 0 then b_X14_isGroundLine_57 M11  else ck (mT M11 x0 = 13) <| bd (f_X14_eatAs M11 x0 ((41 : Int32)) ((5 : Int32))) fun r13 M13 => (if r13 = 0 then b_X14_isGroundLine_57 M13  else ck (mT M13 x0 = 13) <| bd (f_X14_eat M13 x0 ((2 : Int32))) fun r15 M15 => (if r15 = 0 then b_X14_isGroundLine_57 M15  else ck (mT M15 x0 = 13) <| bd (f_X14_eatAs M15 x0 ((41 : Int32)) ((6 : Int32))) fun r17 M17 => (if r17 = 0 then b_X14_isGroundLine_57 M17  else lp_X14_isGroundLine_59 M17 x0)))))
noncomputable def f_X14_isGroundLine (M : gMem) (x0 : Nat) : Option (Int32 × gMem) :=
  b_X14_isGroundLine_0 M x0
set_option maxHeartbeats 4000000 in
set_option maxRecDepth 100000 in
theorem tb_X14_isGroundLine_59 (X : gX p s m args meth c D cy B (gSt Z B H0) RX14 cX14_isGroundLine wsX14_isGroundLine 1) (hr : meth.sig.returnType = (some .boolean)) {Q : State → Prop} : ∀ (M : gMem) (x0 : Nat) (z : (gMem) ⊕ (Int32 × gMem)), bb_X14_isGroundLine_59 M x0 = some z → (Sum.elim (fun (q : gMem) => gGo p l e rX14_isGroundLine s m args below meth c D cy B H0 1 0 0 Q 59 [(0, vR (some x0))] [] q) (fun (r : Int32 × gMem) => Q = gMQ below D cy B H0 args s 0 0 (some (vI r.1)) r.2)) z → gGo p l e rX14_isGroundLine s m args below meth c D cy B H0 1 0 0 Q 59 [(0, vR (some x0))] [] M := by
  intro M x0 z hf hK
  unfold bb_X14_isGroundLine_59 at hf
  refine g_aload_n X dX14_isGroundLine_59 rfl rfl ?_
  refine g_bipush (v := (44 : Int32)) X dX14_isGroundLine_60 (by decide) ?_
  obtain ⟨hT2, hf⟩ := ck_e hf
  obtain ⟨r1, M1, hq1, hf⟩ := bd_e hf
  refine g_callV (ci := 12) (b := x0) (As := [vI (44 : Int32)]) (st := []) (v := some (vI r1)) (M1 := M1) X (m_X14_eatSign l hq1) (cwV 1 X.2.2.1 gX14_isGroundLine_X14_eatSign rfl rfl rfl (by decide +kernel) ⟨Nat.le_of_ble_eq_true rfl, Nat.le_of_ble_eq_true rfl⟩) rfl rfl rfl hT2 (by decide) rfl (Nat.le_of_ble_eq_true rfl) dX14_isGroundLine_62 ⟨by decide, by decide⟩ ?_
  refine g_if_eq (tgt := 81) X dX14_isGroundLine_65 (by decide) (fun hc => ?_) (fun hc => ?_)
  · have hf := ife_t hc hf
    refine g_iconst (v := (1 : Int32)) X dX14_isGroundLine_81 (by decide) ?_
    obtain ⟨w3, hw3, hz3⟩ := oI_e hf
    subst hz3
    have hf := hw3
    cases hf
    refine g_eqQ hK ?_
    exact g_zret X hr (gnb (Or.inr rfl)) dX14_isGroundLine_82
  · have hf := ife_f hc hf
    refine g_aload_n X dX14_isGroundLine_68 rfl rfl ?_
    refine g_bipush (v := (41 : Int32)) X dX14_isGroundLine_69 (by decide) ?_
    refine g_bipush (v := (6 : Int32)) X dX14_isGroundLine_71 (by decide) ?_
    obtain ⟨hT5, hf⟩ := ck_e hf
    obtain ⟨r4, M4, hq4, hf⟩ := bd_e hf
    refine g_callV (ci := 12) (b := x0) (As := [vI (41 : Int32), vI (6 : Int32)]) (st := []) (v := some (vI r4)) (M1 := M4) X (m_X14_eatAs l hq4) (cwV 2 X.2.2.1 gX14_isGroundLine_X14_eatAs rfl rfl rfl (by decide +kernel) ⟨Nat.le_of_ble_eq_true rfl, Nat.le_of_ble_eq_true rfl⟩) rfl rfl rfl hT5 (by decide) rfl (Nat.le_of_ble_eq_true rfl) dX14_isGroundLine_73 ⟨by decide, by decide⟩ ?_
    refine g_if_ne (tgt := 59) X dX14_isGroundLine_76 (by decide) (fun hc => ?_) (fun hc => ?_)
    · have hf := ife_f hc hf
      cases hf
      refine g_sub (lvsub_of _ _ [0] rfl) ?_
      exact hK
    · have hf := ife_t hc hf
      refine g_iconst (v := (0 : Int32)) X dX14_isGroundLine_79 (by decide) ?_
      obtain ⟨w6, hw6, hz6⟩ := oI_e hf
      subst hz6
      have hf := hw6
      cases hf
      refine g_eqQ hK ?_
      exact g_zret X hr (gnb (Or.inl rfl)) dX14_isGroundLine_80
set_option maxHeartbeats 4000000 in
set_option maxRecDepth 100000 in
theorem tl_X14_isGroundLine_59 (X : gX p s m args meth c D cy B (gSt Z B H0) RX14 cX14_isGroundLine wsX14_isGroundLine 1) (hr : meth.sig.returnType = (some .boolean)) {Q : State → Prop} : ∀ (M : gMem) (x0 : Nat) (z : Int32 × gMem), lp_X14_isGroundLine_59 M x0 = some z → (fun (r : Int32 × gMem) => Q = gMQ below D cy B H0 args s 0 0 (some (vI r.1)) r.2) z → gGo p l e rX14_isGroundLine s m args below meth c D cy B H0 1 0 0 Q 59 [(0, vR (some x0))] [] M := by
  intro M x0 z hf hK
  refine lp_ind (P := (fun (q : gMem) (z : Int32 × gMem) => (fun (r : Int32 × gMem) => Q = gMQ below D cy B H0 args s 0 0 (some (vI r.1)) r.2) z → gGo p l e rX14_isGroundLine s m args below meth c D cy B H0 1 0 0 Q 59 [(0, vR (some x0))] [] q)) (fun q z hq => ?_) _ _ hf hK
  intro hK
  obtain ⟨w, hw, hm⟩ := hq
  refine tb_X14_isGroundLine_59 X hr _ _ w hw ?_
  cases w with
  | inl a => exact hm hK
  | inr b => cases hm; exact hK
set_option maxHeartbeats 4000000 in
set_option maxRecDepth 100000 in
theorem t_X14_isGroundLine_57 (X : gX p s m args meth c D cy B (gSt Z B H0) RX14 cX14_isGroundLine wsX14_isGroundLine 1) (hr : meth.sig.returnType = (some .boolean)) {Q : State → Prop} : ∀ (M : gMem)  (z : Int32 × gMem), b_X14_isGroundLine_57 M  = some z → (fun (r : Int32 × gMem) => Q = gMQ below D cy B H0 args s 0 0 (some (vI r.1)) r.2) z → gGo p l e rX14_isGroundLine s m args below meth c D cy B H0 1 0 0 Q 57 [] [] M := by
  intro M  z hf hK
  unfold b_X14_isGroundLine_57 at hf
  refine g_iconst (v := (0 : Int32)) X dX14_isGroundLine_57 (by decide) ?_
  cases hf
  refine g_eqQ hK ?_
  exact g_zret X hr (gnb (Or.inl rfl)) dX14_isGroundLine_58
set_option maxHeartbeats 4000000 in
set_option maxRecDepth 100000 in
theorem t_X14_isGroundLine_0 (X : gX p s m args meth c D cy B (gSt Z B H0) RX14 cX14_isGroundLine wsX14_isGroundLine 1) (hr : meth.sig.returnType = (some .boolean)) {Q : State → Prop} : ∀ (M : gMem) (x0 : Nat) (z : Int32 × gMem), b_X14_isGroundLine_0 M x0 = some z → (fun (r : Int32 × gMem) => Q = gMQ below D cy B H0 args s 0 0 (some (vI r.1)) r.2) z → gGo p l e rX14_isGroundLine s m args below meth c D cy B H0 1 0 0 Q 0 [(0, vR (some x0))] [] M := by
  intro M x0 z hf hK
  unfold b_X14_isGroundLine_0 at hf
  refine g_aload_n X dX14_isGroundLine_0 rfl rfl ?_
  refine g_dup X dX14_isGroundLine_1 rfl ?_
  obtain ⟨hT7, hf⟩ := ck_e hf
  refine g_get (ci := 12) (v := vI (mI M x0 9)) 9 X cdX14 i_X14_isGroundLine_X14 (by decide) k_X14_isGroundLine_f118 rfl dX14_isGroundLine_2 rfl hT7 rfl ?_
  refine g_iconst (v := (1 : Int32)) X dX14_isGroundLine_5 (by decide) ?_
  refine g_iadd X dX14_isGroundLine_6 ?_
  refine g_putI (ci := 12) 9 X cdX14 i_X14_isGroundLine_X14 (by decide) k_X14_isGroundLine_f118 rfl dX14_isGroundLine_7 rfl hT7 (Or.inl rfl) rfl rfl rfl ?_
  obtain ⟨M8, hM8, hf⟩ := lw_e hf
  rw [← hM8]
  have hT9 : mT M8 x0 = 13 := by rw [hM8]; exact hT7
  refine g_aload_n X dX14_isGroundLine_10 rfl rfl ?_
  refine g_bipush (v := (40 : Int32)) X dX14_isGroundLine_11 (by decide) ?_
  refine g_iconst (v := (1 : Int32)) X dX14_isGroundLine_13 (by decide) ?_
  obtain ⟨r10, M10, hq10, hf⟩ := bd_e hf
  refine g_callV (ci := 12) (b := x0) (As := [vI (40 : Int32), vI (1 : Int32)]) (st := []) (v := some (vI r10)) (M1 := M10) X (m_X14_eatAs l hq10) (cwV 2 X.2.2.1 gX14_isGroundLine_X14_eatAs rfl rfl rfl (by decide +kernel) ⟨Nat.le_of_ble_eq_true rfl, Nat.le_of_ble_eq_true rfl⟩) rfl rfl rfl hT9 (by decide) rfl (Nat.le_of_ble_eq_true rfl) dX14_isGroundLine_14 ⟨by decide, by decide⟩ ?_
  refine g_if_eq (tgt := 57) X dX14_isGroundLine_17 (by decide) (fun hc => ?_) (fun hc => ?_)
  · have hf := ife_t hc hf
    refine g_sub (lvsub_of _ _ [] rfl) ?_
    exact t_X14_isGroundLine_57 X hr _  _ hf hK
  · have hf := ife_f hc hf
    refine g_aload_n X dX14_isGroundLine_20 rfl rfl ?_
    refine g_iconst (v := (1 : Int32)) X dX14_isGroundLine_21 (by decide) ?_
    obtain ⟨hT12, hf⟩ := ck_e hf
    obtain ⟨r11, M11, hq11, hf⟩ := bd_e hf
    refine g_callV (ci := 12) (b := x0) (As := [vI (1 : Int32)]) (st := []) (v := some (vI r11)) (M1 := M11) X (m_X14_eat l hq11) (cwV 1 X.2.2.1 gX14_isGroundLine_X14_eat rfl rfl rfl (by decide +kernel) ⟨Nat.le_of_ble_eq_true rfl, Nat.le_of_ble_eq_true rfl⟩) rfl rfl rfl hT12 (by decide) rfl (Nat.le_of_ble_eq_true rfl) dX14_isGroundLine_22 ⟨by decide, by decide⟩ ?_
    refine g_if_eq (tgt := 57) X dX14_isGroundLine_25 (by decide) (fun hc => ?_) (fun hc => ?_)
    · have hf := ife_t hc hf
      refine g_sub (lvsub_of _ _ [] rfl) ?_
      exact t_X14_isGroundLine_57 X hr _  _ hf hK
    · have hf := ife_f hc hf
      refine g_aload_n X dX14_isGroundLine_28 rfl rfl ?_
      refine g_bipush (v := (41 : Int32)) X dX14_isGroundLine_29 (by decide) ?_
      refine g_iconst (v := (5 : Int32)) X dX14_isGroundLine_31 (by decide) ?_
      obtain ⟨hT14, hf⟩ := ck_e hf
      obtain ⟨r13, M13, hq13, hf⟩ := bd_e hf
      refine g_callV (ci := 12) (b := x0) (As := [vI (41 : Int32), vI (5 : Int32)]) (st := []) (v := some (vI r13)) (M1 := M13) X (m_X14_eatAs l hq13) (cwV 2 X.2.2.1 gX14_isGroundLine_X14_eatAs rfl rfl rfl (by decide +kernel) ⟨Nat.le_of_ble_eq_true rfl, Nat.le_of_ble_eq_true rfl⟩) rfl rfl rfl hT14 (by decide) rfl (Nat.le_of_ble_eq_true rfl) dX14_isGroundLine_32 ⟨by decide, by decide⟩ ?_
      refine g_if_eq (tgt := 57) X dX14_isGroundLine_35 (by decide) (fun hc => ?_) (fun hc => ?_)
      · have hf := ife_t hc hf
        refine g_sub (lvsub_of _ _ [] rfl) ?_
        exact t_X14_isGroundLine_57 X hr _  _ hf hK
      · have hf := ife_f hc hf
        refine g_aload_n X dX14_isGroundLine_38 rfl rfl ?_
        refine g_iconst (v := (2 : Int32)) X dX14_isGroundLine_39 (by decide) ?_
        obtain ⟨hT16, hf⟩ := ck_e hf
        obtain ⟨r15, M15, hq15, hf⟩ := bd_e hf
        refine g_callV (ci := 12) (b := x0) (As := [vI (2 : Int32)]) (st := []) (v := some (vI r15)) (M1 := M15) X (m_X14_eat l hq15) (cwV 1 X.2.2.1 gX14_isGroundLine_X14_eat rfl rfl rfl (by decide +kernel) ⟨Nat.le_of_ble_eq_true rfl, Nat.le_of_ble_eq_true rfl⟩) rfl rfl rfl hT16 (by decide) rfl (Nat.le_of_ble_eq_true rfl) dX14_isGroundLine_40 ⟨by decide, by decide⟩ ?_
        refine g_if_eq (tgt := 57) X dX14_isGroundLine_43 (by decide) (fun hc => ?_) (fun hc => ?_)
        · have hf := ife_t hc hf
          refine g_sub (lvsub_of _ _ [] rfl) ?_
          exact t_X14_isGroundLine_57 X hr _  _ hf hK
        · have hf := ife_f hc hf
          refine g_aload_n X dX14_isGroundLine_46 rfl rfl ?_
          refine g_bipush (v := (41 : Int32)) X dX14_isGroundLine_47 (by decide) ?_
          refine g_bipush (v := (6 : Int32)) X dX14_isGroundLine_49 (by decide) ?_
          obtain ⟨hT18, hf⟩ := ck_e hf
          obtain ⟨r17, M17, hq17, hf⟩ := bd_e hf
          refine g_callV (ci := 12) (b := x0) (As := [vI (41 : Int32), vI (6 : Int32)]) (st := []) (v := some (vI r17)) (M1 := M17) X (m_X14_eatAs l hq17) (cwV 2 X.2.2.1 gX14_isGroundLine_X14_eatAs rfl rfl rfl (by decide +kernel) ⟨Nat.le_of_ble_eq_true rfl, Nat.le_of_ble_eq_true rfl⟩) rfl rfl rfl hT18 (by decide) rfl (Nat.le_of_ble_eq_true rfl) dX14_isGroundLine_51 ⟨by decide, by decide⟩ ?_
          refine g_if_ne (tgt := 59) X dX14_isGroundLine_54 (by decide) (fun hc => ?_) (fun hc => ?_)
          · have hf := ife_f hc hf
            refine g_sub (lvsub_of _ _ [0] rfl) ?_
            exact tl_X14_isGroundLine_59 X hr _ _ _ hf hK
          · have hf := ife_t hc hf
            refine g_sub (lvsub_of _ _ [] rfl) ?_
            exact t_X14_isGroundLine_57 X hr _  _ hf hK
set_option maxHeartbeats 4000000 in
set_option maxRecDepth 100000 in
theorem m_X14_isGroundLine (l : Launch) {D : va_G} {cy : Nat → ClassId} {B : Nat} {H0 : Heap} {Z : Nat → Nat} {M M1 : gMem} {x0 : Nat} {r : Int32} (hf : f_X14_isGroundLine M x0 = some (r, M1)) : Met l yX14_isGroundLine wsX14_isGroundLine rX14_isGroundLine (va_Pc (Value.ref x0 :: List.map gv []) (gPre D cy B H0 (gSt Z B H0) M)) (gQ D cy B H0 (some (vI r)) M1) 0 0 (gA B) := by
  refine Met.ofW (cc := cX14_isGroundLine) (maxL := 1) (ret := (some .boolean)) (by decide) rfl ?_
  intro p e s m args below meth c s₁ Bd hml hv
  obtain ⟨rfl, hW, hKK, hFs⟩ := hv
  have X : gX p s m _ meth c D cy B (gSt Z B H0) RX14 cX14_isGroundLine wsX14_isGroundLine 1 := ⟨Bd.exec, Bd.bytes, atoms_spec (ws := wsX14_isGroundLine) Bd.pre, findClass_of_methodNamed Bd.named, hml, hKK, by rw [hW.1]; exact hW.2.1, Bd.notSynchronized, hFs⟩
  have hr := Bd.returns
  have hl := lv_entry ([.ref x0]) (n := 1) (Nat.le_of_ble_eq_true rfl)
  show W p l e rX14_isGroundLine s m _ below meth c s.heap [] 0 0 _ (entryFrame m ([.ref x0] : List Value).toArray 1)
  rw [lg_entry_eq]
  generalize (lg_sl ([.ref x0]) ++ List.replicate (1 - (lg_sl ([.ref x0])).length) Slot.unset).toArray = ls at hl ⊢
  have hl : lv_has ls 1 (List.map gq [(0, vR (some x0))]) := hl
  exact t_X14_isGroundLine_0 X hr _ _ _ hf rfl s.heap [] ls hW va_S.rf (lv_has_sub hl (lvsub_of _ _ [0] rfl))
/-! ## TideLotsModel.isFisherLine()Z -/
theorem dX14_isFisherLine_0 : decode cX14_isFisherLine 0 = .ok (.aload_n 0, 1) := by decide +kernel
theorem dX14_isFisherLine_1 : decode cX14_isFisherLine 1 = .ok (.dup, 1) := by decide +kernel
theorem dX14_isFisherLine_2 : decode cX14_isFisherLine 2 = .ok (.getfield 118, 3) := by decide +kernel
theorem dX14_isFisherLine_5 : decode cX14_isFisherLine 5 = .ok (.iconst 1, 1) := by decide +kernel
theorem dX14_isFisherLine_6 : decode cX14_isFisherLine 6 = .ok (.iadd, 1) := by decide +kernel
theorem dX14_isFisherLine_7 : decode cX14_isFisherLine 7 = .ok (.putfield 118, 3) := by decide +kernel
theorem dX14_isFisherLine_10 : decode cX14_isFisherLine 10 = .ok (.aload_n 0, 1) := by decide +kernel
theorem dX14_isFisherLine_11 : decode cX14_isFisherLine 11 = .ok (.bipush 40, 2) := by decide +kernel
theorem dX14_isFisherLine_13 : decode cX14_isFisherLine 13 = .ok (.iconst 2, 1) := by decide +kernel
theorem dX14_isFisherLine_14 : decode cX14_isFisherLine 14 = .ok (.invokevirtual 149, 3) := by decide +kernel
theorem dX14_isFisherLine_17 : decode cX14_isFisherLine 17 = .ok (.ifCond .eq 65, 3) := by decide +kernel
theorem dX14_isFisherLine_20 : decode cX14_isFisherLine 20 = .ok (.aload_n 0, 1) := by decide +kernel
theorem dX14_isFisherLine_21 : decode cX14_isFisherLine 21 = .ok (.iconst 4, 1) := by decide +kernel
theorem dX14_isFisherLine_22 : decode cX14_isFisherLine 22 = .ok (.invokevirtual 124, 3) := by decide +kernel
theorem dX14_isFisherLine_25 : decode cX14_isFisherLine 25 = .ok (.ifCond .eq 57, 3) := by decide +kernel
theorem dX14_isFisherLine_28 : decode cX14_isFisherLine 28 = .ok (.aload_n 0, 1) := by decide +kernel
theorem dX14_isFisherLine_29 : decode cX14_isFisherLine 29 = .ok (.bipush 41, 2) := by decide +kernel
theorem dX14_isFisherLine_31 : decode cX14_isFisherLine 31 = .ok (.bipush 7, 2) := by decide +kernel
theorem dX14_isFisherLine_33 : decode cX14_isFisherLine 33 = .ok (.invokevirtual 149, 3) := by decide +kernel
theorem dX14_isFisherLine_36 : decode cX14_isFisherLine 36 = .ok (.ifCond .eq 46, 3) := by decide +kernel
theorem dX14_isFisherLine_39 : decode cX14_isFisherLine 39 = .ok (.aload_n 0, 1) := by decide +kernel
theorem dX14_isFisherLine_40 : decode cX14_isFisherLine 40 = .ok (.iconst 5, 1) := by decide +kernel
theorem dX14_isFisherLine_41 : decode cX14_isFisherLine 41 = .ok (.invokevirtual 124, 3) := by decide +kernel
theorem dX14_isFisherLine_44 : decode cX14_isFisherLine 44 = .ok (.ifCond .eq 38, 3) := by decide +kernel
theorem dX14_isFisherLine_47 : decode cX14_isFisherLine 47 = .ok (.aload_n 0, 1) := by decide +kernel
theorem dX14_isFisherLine_48 : decode cX14_isFisherLine 48 = .ok (.bipush 41, 2) := by decide +kernel
theorem dX14_isFisherLine_50 : decode cX14_isFisherLine 50 = .ok (.bipush 8, 2) := by decide +kernel
theorem dX14_isFisherLine_52 : decode cX14_isFisherLine 52 = .ok (.invokevirtual 149, 3) := by decide +kernel
theorem dX14_isFisherLine_55 : decode cX14_isFisherLine 55 = .ok (.ifCond .eq 27, 3) := by decide +kernel
theorem dX14_isFisherLine_58 : decode cX14_isFisherLine 58 = .ok (.aload_n 0, 1) := by decide +kernel
theorem dX14_isFisherLine_59 : decode cX14_isFisherLine 59 = .ok (.bipush 6, 2) := by decide +kernel
theorem dX14_isFisherLine_61 : decode cX14_isFisherLine 61 = .ok (.invokevirtual 124, 3) := by decide +kernel
theorem dX14_isFisherLine_64 : decode cX14_isFisherLine 64 = .ok (.ifCond .eq 18, 3) := by decide +kernel
theorem dX14_isFisherLine_67 : decode cX14_isFisherLine 67 = .ok (.aload_n 0, 1) := by decide +kernel
theorem dX14_isFisherLine_68 : decode cX14_isFisherLine 68 = .ok (.bipush 41, 2) := by decide +kernel
theorem dX14_isFisherLine_70 : decode cX14_isFisherLine 70 = .ok (.bipush 9, 2) := by decide +kernel
theorem dX14_isFisherLine_72 : decode cX14_isFisherLine 72 = .ok (.invokevirtual 149, 3) := by decide +kernel
theorem dX14_isFisherLine_75 : decode cX14_isFisherLine 75 = .ok (.ifCond .eq 7, 3) := by decide +kernel
theorem dX14_isFisherLine_78 : decode cX14_isFisherLine 78 = .ok (.iconst 1, 1) := by decide +kernel
theorem dX14_isFisherLine_79 : decode cX14_isFisherLine 79 = .ok (.goto 4, 3) := by decide +kernel
theorem dX14_isFisherLine_82 : decode cX14_isFisherLine 82 = .ok (.iconst 0, 1) := by decide +kernel
theorem dX14_isFisherLine_83 : decode cX14_isFisherLine 83 = .ok (.ireturn, 1) := by decide +kernel
set_option maxRecDepth 20000 in
theorem ggX14_isFisherLine_X14_eatAs : GoodIn wsX14_isFisherLine wsX14_eatAs := goodIn_r _ [6, 7, 1, 8, 9, 10, 5, 11, 12, 13, 14, 15, 16, 17, 18, 19, 20, 21, 22, 23, 24, 25, 26, 27, 28, 29, 30, 31] (by decide +kernel) (by decide +kernel)
set_option maxRecDepth 20000 in
theorem gX14_isFisherLine_X14_eatAs : GoodIn wsX14_isFisherLine (wsV RX14 149 RX14 yX14_eatAs wsX14_eatAs) := goodIn_app (goodIn_of _ (by decide +kernel)) ggX14_isFisherLine_X14_eatAs
set_option maxRecDepth 20000 in
theorem ggX14_isFisherLine_X14_eat : GoodIn wsX14_isFisherLine wsX14_eat := goodIn_r _ [11, 1, 12, 13, 14, 5, 15, 16, 17, 18, 19, 20, 21, 22, 23, 24, 25, 26, 27, 28, 29, 30, 31] (by decide +kernel) (by decide +kernel)
set_option maxRecDepth 20000 in
theorem gX14_isFisherLine_X14_eat : GoodIn wsX14_isFisherLine (wsV RX14 124 RX14 yX14_eat wsX14_eat) := goodIn_app (goodIn_of _ (by decide +kernel)) ggX14_isFisherLine_X14_eat
theorem k_X14_isFisherLine_f118 : Cond.fieldLink RX14 118 "TideLotsModel" "token" "I" ∈ wsX14_isFisherLine := by decide +kernel
theorem i_X14_isFisherLine_X14 : ∀ w ∈ u_ws RX14 TX14 15, w ∈ wsX14_isFisherLine := by decide +kernel
abbrev rX14_isFisherLine : Room := { frames := 3, cells := 0, slots := 0, locals := 64 }
noncomputable def b_X14_isFisherLine_83 (M : gMem) (s0 : Int32) : Option (Int32 × gMem) :=
  ck (s0 = 0 ∨ s0 = 1) <| some (s0, M)
noncomputable def b_X14_isFisherLine_82 (M : gMem)  : Option (Int32 × gMem) :=
  b_X14_isFisherLine_83 M ((0 : Int32))
noncomputable def b_X14_isFisherLine_0 (M : gMem) (x0 : Nat) : Option (Int32 × gMem) :=
  ck (mT M x0 = 13) <| lw (wI M x0 9 (((mI M x0 9) + (1 : Int32)))) fun M3 => bd (f_X14_eatAs M3 x0 ((40 : Int32)) ((2 : Int32))) fun r5 M5 => (if r5 = 0 then b_X14_isFisherLine_82 M5  else ck (mT M5 x0 = 13) <| bd (f_X14_eat M5 x0 ((4 : Int32))) fun r6 M6 => (if r6 = 0 then b_X14_isFisherLine_82 M6  else ck (mT M6 x0 = 13) <| bd (f_X14_eatAs M6 x0 ((41 : Int32)) ((7 : Int32))) fun r8 M8 => (if r8 = 0 then b_X14_isFisherLine_82 M8  else ck (mT M8 x0 = 13) <| bd (f_X14_eat M8 x0 ((5 : Int32))) fun r10 M10 => (if r10 = 0 then b_X14_isFisherLine_82 M10  else ck (mT M10 x0 = 13) <| bd (f_X14_eatAs M10 x0 ((41 : Int32)) ((8 : Int32))) fun r12 M12 => (if r12 = 0 then b_X14_isFisherLine_82 M12  else ck (mT M12 x0 = 13) <| bd (f_X14_eat M12 x0 ((6 : Int32))) fun r14 M14 => (if r14 = 0 then b_X14_isFisherLine_82 M14  else ck (mT M14 x0 = 13) <| bd (f_X14_eatAs M14 x0 ((41 : Int32)) ((9 : Int32))) fun r16 M16 => (if r16 = 0 then b_X14_isFisherLine_82 M16  else b_X14_isFisherLine_83 M16 ((1 : Int32)))))))))
noncomputable def f_X14_isFisherLine (M : gMem) (x0 : Nat) : Option (Int32 × gMem) :=
  b_X14_isFisherLine_0 M x0
set_option maxHeartbeats 4000000 in
set_option maxRecDepth 100000 in
theorem t_X14_isFisherLine_83 (X : gX p s m args meth c D cy B (gSt Z B H0) RX14 cX14_isFisherLine wsX14_isFisherLine 1) (hr : meth.sig.returnType = (some .boolean)) {Q : State → Prop} : ∀ (M : gMem) (s0 : Int32) (z : Int32 × gMem), b_X14_isFisherLine_83 M s0 = some z → (fun (r : Int32 × gMem) => Q = gMQ below D cy B H0 args s 0 0 (some (vI r.1)) r.2) z → gGo p l e rX14_isFisherLine s m args below meth c D cy B H0 1 0 0 Q 83 [] [vI s0] M := by
  intro M s0 z hf hK
  unfold b_X14_isFisherLine_83 at hf
  obtain ⟨hg1, hf⟩ := ck_e hf
  cases hf
  refine g_eqQ hK ?_
  exact g_zret X hr (gnb hg1) dX14_isFisherLine_83
set_option maxHeartbeats 4000000 in
set_option maxRecDepth 100000 in
theorem t_X14_isFisherLine_82 (X : gX p s m args meth c D cy B (gSt Z B H0) RX14 cX14_isFisherLine wsX14_isFisherLine 1) (hr : meth.sig.returnType = (some .boolean)) {Q : State → Prop} : ∀ (M : gMem)  (z : Int32 × gMem), b_X14_isFisherLine_82 M  = some z → (fun (r : Int32 × gMem) => Q = gMQ below D cy B H0 args s 0 0 (some (vI r.1)) r.2) z → gGo p l e rX14_isFisherLine s m args below meth c D cy B H0 1 0 0 Q 82 [] [] M := by
  intro M  z hf hK
  unfold b_X14_isFisherLine_82 at hf
  refine g_iconst (v := (0 : Int32)) X dX14_isFisherLine_82 (by decide) ?_
  refine g_sub (lvsub_of _ _ [] rfl) ?_
  exact t_X14_isFisherLine_83 X hr _ _ _ hf hK
set_option maxHeartbeats 4000000 in
set_option maxRecDepth 100000 in
theorem t_X14_isFisherLine_0 (X : gX p s m args meth c D cy B (gSt Z B H0) RX14 cX14_isFisherLine wsX14_isFisherLine 1) (hr : meth.sig.returnType = (some .boolean)) {Q : State → Prop} : ∀ (M : gMem) (x0 : Nat) (z : Int32 × gMem), b_X14_isFisherLine_0 M x0 = some z → (fun (r : Int32 × gMem) => Q = gMQ below D cy B H0 args s 0 0 (some (vI r.1)) r.2) z → gGo p l e rX14_isFisherLine s m args below meth c D cy B H0 1 0 0 Q 0 [(0, vR (some x0))] [] M := by
  intro M x0 z hf hK
  unfold b_X14_isFisherLine_0 at hf
  refine g_aload_n X dX14_isFisherLine_0 rfl rfl ?_
  refine g_dup X dX14_isFisherLine_1 rfl ?_
  obtain ⟨hT2, hf⟩ := ck_e hf
  refine g_get (ci := 12) (v := vI (mI M x0 9)) 9 X cdX14 i_X14_isFisherLine_X14 (by decide) k_X14_isFisherLine_f118 rfl dX14_isFisherLine_2 rfl hT2 rfl ?_
  refine g_iconst (v := (1 : Int32)) X dX14_isFisherLine_5 (by decide) ?_
  refine g_iadd X dX14_isFisherLine_6 ?_
  refine g_putI (ci := 12) 9 X cdX14 i_X14_isFisherLine_X14 (by decide) k_X14_isFisherLine_f118 rfl dX14_isFisherLine_7 rfl hT2 (Or.inl rfl) rfl rfl rfl ?_
  obtain ⟨M3, hM3, hf⟩ := lw_e hf
  rw [← hM3]
  have hT4 : mT M3 x0 = 13 := by rw [hM3]; exact hT2
  refine g_aload_n X dX14_isFisherLine_10 rfl rfl ?_
  refine g_bipush (v := (40 : Int32)) X dX14_isFisherLine_11 (by decide) ?_
  refine g_iconst (v := (2 : Int32)) X dX14_isFisherLine_13 (by decide) ?_
  obtain ⟨r5, M5, hq5, hf⟩ := bd_e hf
  refine g_callV (ci := 12) (b := x0) (As := [vI (40 : Int32), vI (2 : Int32)]) (st := []) (v := some (vI r5)) (M1 := M5) X (m_X14_eatAs l hq5) (cwV 2 X.2.2.1 gX14_isFisherLine_X14_eatAs rfl rfl rfl (by decide +kernel) ⟨Nat.le_of_ble_eq_true rfl, Nat.le_of_ble_eq_true rfl⟩) rfl rfl rfl hT4 (by decide) rfl (Nat.le_of_ble_eq_true rfl) dX14_isFisherLine_14 ⟨by decide, by decide⟩ ?_
  refine g_if_eq (tgt := 82) X dX14_isFisherLine_17 (by decide) (fun hc => ?_) (fun hc => ?_)
  · have hf := ife_t hc hf
    refine g_sub (lvsub_of _ _ [] rfl) ?_
    exact t_X14_isFisherLine_82 X hr _  _ hf hK
  · have hf := ife_f hc hf
    refine g_aload_n X dX14_isFisherLine_20 rfl rfl ?_
    refine g_iconst (v := (4 : Int32)) X dX14_isFisherLine_21 (by decide) ?_
    obtain ⟨hT7, hf⟩ := ck_e hf
    obtain ⟨r6, M6, hq6, hf⟩ := bd_e hf
    refine g_callV (ci := 12) (b := x0) (As := [vI (4 : Int32)]) (st := []) (v := some (vI r6)) (M1 := M6) X (m_X14_eat l hq6) (cwV 1 X.2.2.1 gX14_isFisherLine_X14_eat rfl rfl rfl (by decide +kernel) ⟨Nat.le_of_ble_eq_true rfl, Nat.le_of_ble_eq_true rfl⟩) rfl rfl rfl hT7 (by decide) rfl (Nat.le_of_ble_eq_true rfl) dX14_isFisherLine_22 ⟨by decide, by decide⟩ ?_
    refine g_if_eq (tgt := 82) X dX14_isFisherLine_25 (by decide) (fun hc => ?_) (fun hc => ?_)
    · have hf := ife_t hc hf
      refine g_sub (lvsub_of _ _ [] rfl) ?_
      exact t_X14_isFisherLine_82 X hr _  _ hf hK
    · have hf := ife_f hc hf
      refine g_aload_n X dX14_isFisherLine_28 rfl rfl ?_
      refine g_bipush (v := (41 : Int32)) X dX14_isFisherLine_29 (by decide) ?_
      refine g_bipush (v := (7 : Int32)) X dX14_isFisherLine_31 (by decide) ?_
      obtain ⟨hT9, hf⟩ := ck_e hf
      obtain ⟨r8, M8, hq8, hf⟩ := bd_e hf
      refine g_callV (ci := 12) (b := x0) (As := [vI (41 : Int32), vI (7 : Int32)]) (st := []) (v := some (vI r8)) (M1 := M8) X (m_X14_eatAs l hq8) (cwV 2 X.2.2.1 gX14_isFisherLine_X14_eatAs rfl rfl rfl (by decide +kernel) ⟨Nat.le_of_ble_eq_true rfl, Nat.le_of_ble_eq_true rfl⟩) rfl rfl rfl hT9 (by decide) rfl (Nat.le_of_ble_eq_true rfl) dX14_isFisherLine_33 ⟨by decide, by decide⟩ ?_
      refine g_if_eq (tgt := 82) X dX14_isFisherLine_36 (by decide) (fun hc => ?_) (fun hc => ?_)
      · have hf := ife_t hc hf
        refine g_sub (lvsub_of _ _ [] rfl) ?_
        exact t_X14_isFisherLine_82 X hr _  _ hf hK
      · have hf := ife_f hc hf
        refine g_aload_n X dX14_isFisherLine_39 rfl rfl ?_
        refine g_iconst (v := (5 : Int32)) X dX14_isFisherLine_40 (by decide) ?_
        obtain ⟨hT11, hf⟩ := ck_e hf
        obtain ⟨r10, M10, hq10, hf⟩ := bd_e hf
        refine g_callV (ci := 12) (b := x0) (As := [vI (5 : Int32)]) (st := []) (v := some (vI r10)) (M1 := M10) X (m_X14_eat l hq10) (cwV 1 X.2.2.1 gX14_isFisherLine_X14_eat rfl rfl rfl (by decide +kernel) ⟨Nat.le_of_ble_eq_true rfl, Nat.le_of_ble_eq_true rfl⟩) rfl rfl rfl hT11 (by decide) rfl (Nat.le_of_ble_eq_true rfl) dX14_isFisherLine_41 ⟨by decide, by decide⟩ ?_
        refine g_if_eq (tgt := 82) X dX14_isFisherLine_44 (by decide) (fun hc => ?_) (fun hc => ?_)
        · have hf := ife_t hc hf
          refine g_sub (lvsub_of _ _ [] rfl) ?_
          exact t_X14_isFisherLine_82 X hr _  _ hf hK
        · have hf := ife_f hc hf
          refine g_aload_n X dX14_isFisherLine_47 rfl rfl ?_
          refine g_bipush (v := (41 : Int32)) X dX14_isFisherLine_48 (by decide) ?_
          refine g_bipush (v := (8 : Int32)) X dX14_isFisherLine_50 (by decide) ?_
          obtain ⟨hT13, hf⟩ := ck_e hf
          obtain ⟨r12, M12, hq12, hf⟩ := bd_e hf
          refine g_callV (ci := 12) (b := x0) (As := [vI (41 : Int32), vI (8 : Int32)]) (st := []) (v := some (vI r12)) (M1 := M12) X (m_X14_eatAs l hq12) (cwV 2 X.2.2.1 gX14_isFisherLine_X14_eatAs rfl rfl rfl (by decide +kernel) ⟨Nat.le_of_ble_eq_true rfl, Nat.le_of_ble_eq_true rfl⟩) rfl rfl rfl hT13 (by decide) rfl (Nat.le_of_ble_eq_true rfl) dX14_isFisherLine_52 ⟨by decide, by decide⟩ ?_
          refine g_if_eq (tgt := 82) X dX14_isFisherLine_55 (by decide) (fun hc => ?_) (fun hc => ?_)
          · have hf := ife_t hc hf
            refine g_sub (lvsub_of _ _ [] rfl) ?_
            exact t_X14_isFisherLine_82 X hr _  _ hf hK
          · have hf := ife_f hc hf
            refine g_aload_n X dX14_isFisherLine_58 rfl rfl ?_
            refine g_bipush (v := (6 : Int32)) X dX14_isFisherLine_59 (by decide) ?_
            obtain ⟨hT15, hf⟩ := ck_e hf
            obtain ⟨r14, M14, hq14, hf⟩ := bd_e hf
            refine g_callV (ci := 12) (b := x0) (As := [vI (6 : Int32)]) (st := []) (v := some (vI r14)) (M1 := M14) X (m_X14_eat l hq14) (cwV 1 X.2.2.1 gX14_isFisherLine_X14_eat rfl rfl rfl (by decide +kernel) ⟨Nat.le_of_ble_eq_true rfl, Nat.le_of_ble_eq_true rfl⟩) rfl rfl rfl hT15 (by decide) rfl (Nat.le_of_ble_eq_true rfl) dX14_isFisherLine_61 ⟨by decide, by decide⟩ ?_
            refine g_if_eq (tgt := 82) X dX14_isFisherLine_64 (by decide) (fun hc => ?_) (fun hc => ?_)
            · have hf := ife_t hc hf
              refine g_sub (lvsub_of _ _ [] rfl) ?_
              exact t_X14_isFisherLine_82 X hr _  _ hf hK
            · have hf := ife_f hc hf
              refine g_aload_n X dX14_isFisherLine_67 rfl rfl ?_
              refine g_bipush (v := (41 : Int32)) X dX14_isFisherLine_68 (by decide) ?_
              refine g_bipush (v := (9 : Int32)) X dX14_isFisherLine_70 (by decide) ?_
              obtain ⟨hT17, hf⟩ := ck_e hf
              obtain ⟨r16, M16, hq16, hf⟩ := bd_e hf
              refine g_callV (ci := 12) (b := x0) (As := [vI (41 : Int32), vI (9 : Int32)]) (st := []) (v := some (vI r16)) (M1 := M16) X (m_X14_eatAs l hq16) (cwV 2 X.2.2.1 gX14_isFisherLine_X14_eatAs rfl rfl rfl (by decide +kernel) ⟨Nat.le_of_ble_eq_true rfl, Nat.le_of_ble_eq_true rfl⟩) rfl rfl rfl hT17 (by decide) rfl (Nat.le_of_ble_eq_true rfl) dX14_isFisherLine_72 ⟨by decide, by decide⟩ ?_
              refine g_if_eq (tgt := 82) X dX14_isFisherLine_75 (by decide) (fun hc => ?_) (fun hc => ?_)
              · have hf := ife_t hc hf
                refine g_sub (lvsub_of _ _ [] rfl) ?_
                exact t_X14_isFisherLine_82 X hr _  _ hf hK
              · have hf := ife_f hc hf
                refine g_iconst (v := (1 : Int32)) X dX14_isFisherLine_78 (by decide) ?_
                refine g_goto (tgt := 83) X dX14_isFisherLine_79 (by decide) ?_
                refine g_sub (lvsub_of _ _ [] rfl) ?_
                exact t_X14_isFisherLine_83 X hr _ _ _ hf hK
set_option maxHeartbeats 4000000 in
set_option maxRecDepth 100000 in
theorem m_X14_isFisherLine (l : Launch) {D : va_G} {cy : Nat → ClassId} {B : Nat} {H0 : Heap} {Z : Nat → Nat} {M M1 : gMem} {x0 : Nat} {r : Int32} (hf : f_X14_isFisherLine M x0 = some (r, M1)) : Met l yX14_isFisherLine wsX14_isFisherLine rX14_isFisherLine (va_Pc (Value.ref x0 :: List.map gv []) (gPre D cy B H0 (gSt Z B H0) M)) (gQ D cy B H0 (some (vI r)) M1) 0 0 (gA B) := by
  refine Met.ofW (cc := cX14_isFisherLine) (maxL := 1) (ret := (some .boolean)) (by decide) rfl ?_
  intro p e s m args below meth c s₁ Bd hml hv
  obtain ⟨rfl, hW, hKK, hFs⟩ := hv
  have X : gX p s m _ meth c D cy B (gSt Z B H0) RX14 cX14_isFisherLine wsX14_isFisherLine 1 := ⟨Bd.exec, Bd.bytes, atoms_spec (ws := wsX14_isFisherLine) Bd.pre, findClass_of_methodNamed Bd.named, hml, hKK, by rw [hW.1]; exact hW.2.1, Bd.notSynchronized, hFs⟩
  have hr := Bd.returns
  have hl := lv_entry ([.ref x0]) (n := 1) (Nat.le_of_ble_eq_true rfl)
  show W p l e rX14_isFisherLine s m _ below meth c s.heap [] 0 0 _ (entryFrame m ([.ref x0] : List Value).toArray 1)
  rw [lg_entry_eq]
  generalize (lg_sl ([.ref x0]) ++ List.replicate (1 - (lg_sl ([.ref x0])).length) Slot.unset).toArray = ls at hl ⊢
  have hl : lv_has ls 1 (List.map gq [(0, vR (some x0))]) := hl
  exact t_X14_isFisherLine_0 X hr _ _ _ hf rfl s.heap [] ls hW va_S.rf (lv_has_sub hl (lvsub_of _ _ [0] rfl))
/-! ## TideLotsModel.isGoLine()Z -/
theorem dX14_isGoLine_0 : decode cX14_isGoLine 0 = .ok (.aload_n 0, 1) := by decide +kernel
theorem dX14_isGoLine_1 : decode cX14_isGoLine 1 = .ok (.getfield 26, 3) := by decide +kernel
theorem dX14_isGoLine_4 : decode cX14_isGoLine 4 = .ok (.aload_n 0, 1) := by decide +kernel
theorem dX14_isGoLine_5 : decode cX14_isGoLine 5 = .ok (.getfield 118, 3) := by decide +kernel
theorem dX14_isGoLine_8 : decode cX14_isGoLine 8 = .ok (.iconst 4, 1) := by decide +kernel
theorem dX14_isGoLine_9 : decode cX14_isGoLine 9 = .ok (.iastore, 1) := by decide +kernel
theorem dX14_isGoLine_10 : decode cX14_isGoLine 10 = .ok (.aload_n 0, 1) := by decide +kernel
theorem dX14_isGoLine_11 : decode cX14_isGoLine 11 = .ok (.dup, 1) := by decide +kernel
theorem dX14_isGoLine_12 : decode cX14_isGoLine 12 = .ok (.getfield 118, 3) := by decide +kernel
theorem dX14_isGoLine_15 : decode cX14_isGoLine 15 = .ok (.iconst 1, 1) := by decide +kernel
theorem dX14_isGoLine_16 : decode cX14_isGoLine 16 = .ok (.iadd, 1) := by decide +kernel
theorem dX14_isGoLine_17 : decode cX14_isGoLine 17 = .ok (.putfield 118, 3) := by decide +kernel
theorem dX14_isGoLine_20 : decode cX14_isGoLine 20 = .ok (.aload_n 0, 1) := by decide +kernel
theorem dX14_isGoLine_21 : decode cX14_isGoLine 21 = .ok (.getfield 39, 3) := by decide +kernel
theorem dX14_isGoLine_24 : decode cX14_isGoLine 24 = .ok (.getfield 153, 3) := by decide +kernel
theorem dX14_isGoLine_27 : decode cX14_isGoLine 27 = .ok (.bipush 24, 2) := by decide +kernel
theorem dX14_isGoLine_29 : decode cX14_isGoLine 29 = .ok (.invokestatic 70, 3) := by decide +kernel
theorem dX14_isGoLine_32 : decode cX14_isGoLine 32 = .ok (.istore_n 1, 1) := by decide +kernel
theorem dX14_isGoLine_33 : decode cX14_isGoLine 33 = .ok (.aload_n 0, 1) := by decide +kernel
theorem dX14_isGoLine_34 : decode cX14_isGoLine 34 = .ok (.getfield 39, 3) := by decide +kernel
theorem dX14_isGoLine_37 : decode cX14_isGoLine 37 = .ok (.dup, 1) := by decide +kernel
theorem dX14_isGoLine_38 : decode cX14_isGoLine 38 = .ok (.getfield 153, 3) := by decide +kernel
theorem dX14_isGoLine_41 : decode cX14_isGoLine 41 = .ok (.iconst 1, 1) := by decide +kernel
theorem dX14_isGoLine_42 : decode cX14_isGoLine 42 = .ok (.iadd, 1) := by decide +kernel
theorem dX14_isGoLine_43 : decode cX14_isGoLine 43 = .ok (.putfield 153, 3) := by decide +kernel
theorem dX14_isGoLine_46 : decode cX14_isGoLine 46 = .ok (.aload_n 0, 1) := by decide +kernel
theorem dX14_isGoLine_47 : decode cX14_isGoLine 47 = .ok (.getfield 39, 3) := by decide +kernel
theorem dX14_isGoLine_50 : decode cX14_isGoLine 50 = .ok (.getfield 156, 3) := by decide +kernel
theorem dX14_isGoLine_53 : decode cX14_isGoLine 53 = .ok (.iload_n 1, 1) := by decide +kernel
theorem dX14_isGoLine_54 : decode cX14_isGoLine 54 = .ok (.aload_n 0, 1) := by decide +kernel
theorem dX14_isGoLine_55 : decode cX14_isGoLine 55 = .ok (.getfield 39, 3) := by decide +kernel
theorem dX14_isGoLine_58 : decode cX14_isGoLine 58 = .ok (.getfield 130, 3) := by decide +kernel
theorem dX14_isGoLine_61 : decode cX14_isGoLine 61 = .ok (.iastore, 1) := by decide +kernel
theorem dX14_isGoLine_62 : decode cX14_isGoLine 62 = .ok (.aload_n 0, 1) := by decide +kernel
theorem dX14_isGoLine_63 : decode cX14_isGoLine 63 = .ok (.bipush 40, 2) := by decide +kernel
theorem dX14_isGoLine_65 : decode cX14_isGoLine 65 = .ok (.bipush 10, 2) := by decide +kernel
theorem dX14_isGoLine_67 : decode cX14_isGoLine 67 = .ok (.invokevirtual 149, 3) := by decide +kernel
theorem dX14_isGoLine_70 : decode cX14_isGoLine 70 = .ok (.ifCond .eq 39, 3) := by decide +kernel
theorem dX14_isGoLine_73 : decode cX14_isGoLine 73 = .ok (.aload_n 0, 1) := by decide +kernel
theorem dX14_isGoLine_74 : decode cX14_isGoLine 74 = .ok (.bipush 8, 2) := by decide +kernel
theorem dX14_isGoLine_76 : decode cX14_isGoLine 76 = .ok (.invokevirtual 124, 3) := by decide +kernel
theorem dX14_isGoLine_79 : decode cX14_isGoLine 79 = .ok (.ifCond .eq 30, 3) := by decide +kernel
theorem dX14_isGoLine_82 : decode cX14_isGoLine 82 = .ok (.aload_n 0, 1) := by decide +kernel
theorem dX14_isGoLine_83 : decode cX14_isGoLine 83 = .ok (.bipush 40, 2) := by decide +kernel
theorem dX14_isGoLine_85 : decode cX14_isGoLine 85 = .ok (.bipush 11, 2) := by decide +kernel
theorem dX14_isGoLine_87 : decode cX14_isGoLine 87 = .ok (.invokevirtual 149, 3) := by decide +kernel
theorem dX14_isGoLine_90 : decode cX14_isGoLine 90 = .ok (.ifCond .eq 19, 3) := by decide +kernel
theorem dX14_isGoLine_93 : decode cX14_isGoLine 93 = .ok (.aload_n 0, 1) := by decide +kernel
theorem dX14_isGoLine_94 : decode cX14_isGoLine 94 = .ok (.bipush 9, 2) := by decide +kernel
theorem dX14_isGoLine_96 : decode cX14_isGoLine 96 = .ok (.invokevirtual 124, 3) := by decide +kernel
theorem dX14_isGoLine_99 : decode cX14_isGoLine 99 = .ok (.ifCond .eq 12, 3) := by decide +kernel
theorem dX14_isGoLine_102 : decode cX14_isGoLine 102 = .ok (.aload_n 0, 1) := by decide +kernel
theorem dX14_isGoLine_103 : decode cX14_isGoLine 103 = .ok (.invokevirtual 159, 3) := by decide +kernel
theorem dX14_isGoLine_106 : decode cX14_isGoLine 106 = .ok (.ifCond .ne 5, 3) := by decide +kernel
theorem dX14_isGoLine_109 : decode cX14_isGoLine 109 = .ok (.iconst 0, 1) := by decide +kernel
theorem dX14_isGoLine_110 : decode cX14_isGoLine 110 = .ok (.ireturn, 1) := by decide +kernel
theorem dX14_isGoLine_111 : decode cX14_isGoLine 111 = .ok (.aload_n 0, 1) := by decide +kernel
theorem dX14_isGoLine_112 : decode cX14_isGoLine 112 = .ok (.getfield 39, 3) := by decide +kernel
theorem dX14_isGoLine_115 : decode cX14_isGoLine 115 = .ok (.getfield 162, 3) := by decide +kernel
theorem dX14_isGoLine_118 : decode cX14_isGoLine 118 = .ok (.iload_n 1, 1) := by decide +kernel
theorem dX14_isGoLine_119 : decode cX14_isGoLine 119 = .ok (.aload_n 0, 1) := by decide +kernel
theorem dX14_isGoLine_120 : decode cX14_isGoLine 120 = .ok (.getfield 39, 3) := by decide +kernel
theorem dX14_isGoLine_123 : decode cX14_isGoLine 123 = .ok (.getfield 130, 3) := by decide +kernel
theorem dX14_isGoLine_126 : decode cX14_isGoLine 126 = .ok (.iastore, 1) := by decide +kernel
theorem dX14_isGoLine_127 : decode cX14_isGoLine 127 = .ok (.iconst 1, 1) := by decide +kernel
theorem dX14_isGoLine_128 : decode cX14_isGoLine 128 = .ok (.ireturn, 1) := by decide +kernel
set_option maxRecDepth 20000 in
theorem ggX14_isGoLine_X14_eatAs : GoodIn wsX14_isGoLine wsX14_eatAs := goodIn_r _ [12, 1, 2, 13, 14, 15, 11, 16, 17, 18, 19, 20, 21, 74, 75, 76, 77, 78, 79, 80, 81, 82, 83, 84, 85, 86, 87, 88] (by decide +kernel) (by decide +kernel)
set_option maxRecDepth 20000 in
theorem gX14_isGoLine_X14_eatAs : GoodIn wsX14_isGoLine (wsV RX14 149 RX14 yX14_eatAs wsX14_eatAs) := goodIn_app (goodIn_of _ (by decide +kernel)) ggX14_isGoLine_X14_eatAs
set_option maxRecDepth 20000 in
theorem ggX14_isGoLine_X14_eat : GoodIn wsX14_isGoLine wsX14_eat := goodIn_r _ [16, 2, 17, 18, 19, 11, 20, 21, 74, 75, 76, 77, 78, 79, 80, 81, 82, 83, 84, 85, 86, 87, 88] (by decide +kernel) (by decide +kernel)
set_option maxRecDepth 20000 in
theorem gX14_isGoLine_X14_eat : GoodIn wsX14_isGoLine (wsV RX14 124 RX14 yX14_eat wsX14_eat) := goodIn_app (goodIn_of _ (by decide +kernel)) ggX14_isGoLine_X14_eat
set_option maxRecDepth 20000 in
theorem ggX14_isGoLine_X14_isTest : GoodIn wsX14_isGoLine wsX14_isTest := goodIn_r _ [25, 26, 27, 28, 11, 13, 14, 15, 16, 2, 17, 18, 19, 20, 21, 29, 30, 31, 32, 3, 33, 34, 35, 36, 37, 38, 39, 40, 41, 42, 43, 44, 45, 46, 22, 23, 24, 47, 48, 49, 50, 51, 52, 53, 54, 8, 9, 10, 12, 1, 55, 56, 57, 58, 59, 60, 61, 62, 63, 64, 65, 66, 67, 68, 69, 70, 71, 72, 73, 74, 75, 76, 77, 78, 79, 80, 81, 82, 83, 84, 85, 86, 87, 88, 89, 90, 91, 92, 93, 94, 95, 96, 97, 98, 99, 100, 101, 102, 103, 104, 105, 106, 107, 108, 109, 110, 111, 112, 113] (by decide +kernel) (by decide +kernel)
set_option maxRecDepth 20000 in
theorem gX14_isGoLine_X14_isTest : GoodIn wsX14_isGoLine (wsV RX14 159 RX14 yX14_isTest wsX14_isTest) := goodIn_app (goodIn_of _ (by decide +kernel)) ggX14_isGoLine_X14_isTest
theorem k_X14_isGoLine_f39 : Cond.fieldLink RX14 39 "TideLotsModel" "reading" "LTideLotsModel$Told;" ∈ wsX14_isGoLine := by decide +kernel
theorem i_X14_isGoLine_X14 : ∀ w ∈ u_ws RX14 TX14 15, w ∈ wsX14_isGoLine := by decide +kernel
theorem kn_X14_162 : Cond.fieldLinkNest "TideLotsModel" (162 : Nat) "TideLotsModel$Told" "tested" "[I" "TideLotsModel" ∈ gNs := by decide +kernel
theorem i_X14_isGoLine_X13 : ∀ w ∈ u_ws RX13 TX13 25, w ∈ wsX14_isGoLine := by decide +kernel
theorem k_X14_isGoLine_f26 : Cond.fieldLink RX14 26 "TideLotsModel" "role" "[I" ∈ wsX14_isGoLine := by decide +kernel
theorem k_X14_isGoLine_f118 : Cond.fieldLink RX14 118 "TideLotsModel" "token" "I" ∈ wsX14_isGoLine := by decide +kernel
theorem kn_X14_153 : Cond.fieldLinkNest "TideLotsModel" (153 : Nat) "TideLotsModel$Told" "lines" "I" "TideLotsModel" ∈ gNs := by decide +kernel
theorem k_X14_isGoLine_m70 : Cond.methodLink RX14 70 Lib.Math.min.name ∈ wsX14_isGoLine := by decide +kernel
theorem k_X14_isGoLine_mmins : Cond.static Lib.Math.min.name ∈ wsX14_isGoLine := by decide +kernel
theorem k_X14_isGoLine_mi : Cond.initialized "java/lang/Math" ∈ wsX14_isGoLine := by decide +kernel
theorem k_X14_isGoLine_mminc : Cond.code Lib.Math.min.name Lib.Math.min.code 2 (some .int) ∈ wsX14_isGoLine := by decide +kernel
theorem kn_X14_156 : Cond.fieldLinkNest "TideLotsModel" (156 : Nat) "TideLotsModel$Told" "test" "[I" "TideLotsModel" ∈ gNs := by decide +kernel
abbrev rX14_isGoLine : Room := { frames := 69, cells := 0, slots := 0, locals := 2665 }
noncomputable def b_X14_isGoLine_111 (M : gMem) (x0 : Nat) (x1 : Int32) : Option (Int32 × gMem) :=
  ck (mT M x0 = 13) <| dr ((mR M x0 12)) fun a2 => ck (mT M a2 = 12) <| dr ((mR M a2 18)) fun a4 => ck (mT M a4 = 20) <| ck (inb x1 (mL M a4)) <| lw (wI M a4 x1.toNatClampNeg ((mI M a2 22))) fun M7 => some ((1 : Int32), M7)
noncomputable def b_X14_isGoLine_109 (M : gMem)  : Option (Int32 × gMem) :=
  some ((0 : Int32), M)
noncomputable def b_X14_isGoLine_0 (M : gMem) (x0 : Nat) : Option (Int32 × gMem) :=
  ck (mT M x0 = 13) <| dr ((mR M x0 7)) fun a12 => ck (mT M a12 = 20) <| ck (inb (mI M x0 9) (mL M a12)) <| lw (wI M a12 ((mI M x0 9)).toNatClampNeg ((4 : Int32))) fun M15 => lw (wI M15 x0 9 (((mI M15 x0 9) + (1 : Int32)))) fun M18 => dr ((mR M18 x0 12)) fun a21 => ck (mT M18 a21 = 12) <| lw (wI M18 a21 15 (((mI M18 a21 15) + (1 : Int32)))) fun M23 => dr ((mR M23 x0 12)) fun a27 => ck (mT M23 a27 = 12) <| dr ((mR M23 a27 17)) fun a29 => ck (mT M23 a29 = 20) <| ck (inb (imin ((mI M18 a21 15)) ((24 : Int32))) (mL M23 a29)) <| lw (wI M23 a29 ((imin ((mI M18 a21 15)) ((24 : Int32)))).toNatClampNeg ((mI M23 a27 22))) fun M32 => bd (f_X14_eatAs M32 x0 ((40 : Int32)) ((10 : Int32))) fun r38 M38 => (if r38 = 0 then b_X14_isGoLine_109 M38  else ck (mT M38 x0 = 13) <| bd (f_X14_eat M38 x0 ((8 : Int32))) fun r39 M39 => (if r39 = 0 then b_X14_isGoLine_109 M39  else ck (mT M39 x0 = 13) <| bd (f_X14_eatAs M39 x0 ((40 : Int32)) ((11 : Int32))) fun r41 M41 => (if r41 = 0 then b_X14_isGoLine_109 M41  else ck (mT M41 x0 = 13) <| bd (f_X14_eat M41 x0 ((9 : Int32))) fun r43 M43 => (if r43 = 0 then b_X14_isGoLine_111 M43 x0 ((imin ((mI M18 a21 15)) ((24 : Int32)))) else ck (mT M43 x0 = 13) <| bd (f_X14_isTest M43 x0) fun r45 M45 => (if r45 = 0 then b_X14_isGoLine_109 M45  else b_X14_isGoLine_111 M45 x0 ((imin ((mI M18 a21 15)) ((24 : Int32)))))))))
noncomputable def f_X14_isGoLine (M : gMem) (x0 : Nat) : Option (Int32 × gMem) :=
  b_X14_isGoLine_0 M x0
set_option maxHeartbeats 4000000 in
set_option maxRecDepth 100000 in
theorem t_X14_isGoLine_111 (X : gX p s m args meth c D cy B (gSt Z B H0) RX14 cX14_isGoLine wsX14_isGoLine 2) (hr : meth.sig.returnType = (some .boolean)) {Q : State → Prop} : ∀ (M : gMem) (x0 : Nat) (x1 : Int32) (z : Int32 × gMem), b_X14_isGoLine_111 M x0 x1 = some z → (fun (r : Int32 × gMem) => Q = gMQ below D cy B H0 args s 0 0 (some (vI r.1)) r.2) z → gGo p l e rX14_isGoLine s m args below meth c D cy B H0 2 0 0 Q 111 [(0, vR (some x0)), (1, vI x1)] [] M := by
  intro M x0 x1 z hf hK
  unfold b_X14_isGoLine_111 at hf
  refine g_aload_n X dX14_isGoLine_111 rfl rfl ?_
  obtain ⟨hT1, hf⟩ := ck_e hf
  refine g_get (ci := 12) (v := vR (mR M x0 12)) 12 X cdX14 i_X14_isGoLine_X14 (by decide) k_X14_isGoLine_f39 rfl dX14_isGoLine_112 rfl hT1 rfl ?_
  obtain ⟨a2, ha2, hf⟩ := dr_e hf
  obtain ⟨hT3, hf⟩ := ck_e hf
  refine g_getN (ci := 11) (w := vR (mR M a2 18)) 18 X cdX13 i_X14_isGoLine_X13 (by decide) (gNw X _ kn_X14_162) rfl dX14_isGoLine_115 ha2 hT3 rfl ?_
  refine g_iload_n X dX14_isGoLine_118 rfl rfl ?_
  refine g_aload_n X dX14_isGoLine_119 rfl rfl ?_
  refine g_get (ci := 12) (v := vR (mR M x0 12)) 12 X cdX14 i_X14_isGoLine_X14 (by decide) k_X14_isGoLine_f39 rfl dX14_isGoLine_120 rfl hT1 rfl ?_
  refine g_getN (ci := 11) (w := vI (mI M a2 22)) 22 X cdX13 i_X14_isGoLine_X13 (by decide) (gNw X _ kn_X14_130) rfl dX14_isGoLine_123 ha2 hT3 rfl ?_
  obtain ⟨a4, ha4, hf⟩ := dr_e hf
  obtain ⟨hT5, hf⟩ := ck_e hf
  obtain ⟨hg6, hf⟩ := ck_e hf
  refine g_iast X dX14_isGoLine_126 ha4 hT5 hg6 ?_
  obtain ⟨M7, hM7, hf⟩ := lw_e hf
  rw [← hM7]
  have hT8 : mT M7 x0 = 13 := by rw [hM7]; exact hT1
  have hT9 : mT M7 a2 = 12 := by rw [hM7]; exact hT3
  have hT10 : mT M7 a4 = 20 := by rw [hM7]; exact hT5
  refine g_iconst (v := (1 : Int32)) X dX14_isGoLine_127 (by decide) ?_
  cases hf
  refine g_eqQ hK ?_
  exact g_zret X hr (gnb (Or.inr rfl)) dX14_isGoLine_128
set_option maxHeartbeats 4000000 in
set_option maxRecDepth 100000 in
theorem t_X14_isGoLine_109 (X : gX p s m args meth c D cy B (gSt Z B H0) RX14 cX14_isGoLine wsX14_isGoLine 2) (hr : meth.sig.returnType = (some .boolean)) {Q : State → Prop} : ∀ (M : gMem)  (z : Int32 × gMem), b_X14_isGoLine_109 M  = some z → (fun (r : Int32 × gMem) => Q = gMQ below D cy B H0 args s 0 0 (some (vI r.1)) r.2) z → gGo p l e rX14_isGoLine s m args below meth c D cy B H0 2 0 0 Q 109 [] [] M := by
  intro M  z hf hK
  unfold b_X14_isGoLine_109 at hf
  refine g_iconst (v := (0 : Int32)) X dX14_isGoLine_109 (by decide) ?_
  cases hf
  refine g_eqQ hK ?_
  exact g_zret X hr (gnb (Or.inl rfl)) dX14_isGoLine_110
set_option maxHeartbeats 4000000 in
set_option maxRecDepth 100000 in
theorem t_X14_isGoLine_0 (X : gX p s m args meth c D cy B (gSt Z B H0) RX14 cX14_isGoLine wsX14_isGoLine 2) (hr : meth.sig.returnType = (some .boolean)) {Q : State → Prop} : ∀ (M : gMem) (x0 : Nat) (z : Int32 × gMem), b_X14_isGoLine_0 M x0 = some z → (fun (r : Int32 × gMem) => Q = gMQ below D cy B H0 args s 0 0 (some (vI r.1)) r.2) z → gGo p l e rX14_isGoLine s m args below meth c D cy B H0 2 0 0 Q 0 [(0, vR (some x0))] [] M := by
  intro M x0 z hf hK
  unfold b_X14_isGoLine_0 at hf
  refine g_aload_n X dX14_isGoLine_0 rfl rfl ?_
  obtain ⟨hT11, hf⟩ := ck_e hf
  refine g_get (ci := 12) (v := vR (mR M x0 7)) 7 X cdX14 i_X14_isGoLine_X14 (by decide) k_X14_isGoLine_f26 rfl dX14_isGoLine_1 rfl hT11 rfl ?_
  refine g_aload_n X dX14_isGoLine_4 rfl rfl ?_
  refine g_get (ci := 12) (v := vI (mI M x0 9)) 9 X cdX14 i_X14_isGoLine_X14 (by decide) k_X14_isGoLine_f118 rfl dX14_isGoLine_5 rfl hT11 rfl ?_
  refine g_iconst (v := (4 : Int32)) X dX14_isGoLine_8 (by decide) ?_
  obtain ⟨a12, ha12, hf⟩ := dr_e hf
  obtain ⟨hT13, hf⟩ := ck_e hf
  obtain ⟨hg14, hf⟩ := ck_e hf
  refine g_iast X dX14_isGoLine_9 ha12 hT13 hg14 ?_
  obtain ⟨M15, hM15, hf⟩ := lw_e hf
  rw [← hM15]
  have hT16 : mT M15 x0 = 13 := by rw [hM15]; exact hT11
  have hT17 : mT M15 a12 = 20 := by rw [hM15]; exact hT13
  refine g_aload_n X dX14_isGoLine_10 rfl rfl ?_
  refine g_dup X dX14_isGoLine_11 rfl ?_
  refine g_get (ci := 12) (v := vI (mI M15 x0 9)) 9 X cdX14 i_X14_isGoLine_X14 (by decide) k_X14_isGoLine_f118 rfl dX14_isGoLine_12 rfl hT16 rfl ?_
  refine g_iconst (v := (1 : Int32)) X dX14_isGoLine_15 (by decide) ?_
  refine g_iadd X dX14_isGoLine_16 ?_
  refine g_putI (ci := 12) 9 X cdX14 i_X14_isGoLine_X14 (by decide) k_X14_isGoLine_f118 rfl dX14_isGoLine_17 rfl hT16 (Or.inl rfl) rfl rfl rfl ?_
  obtain ⟨M18, hM18, hf⟩ := lw_e hf
  rw [← hM18]
  have hT19 : mT M18 x0 = 13 := by rw [hM18]; exact hT16
  have hT20 : mT M18 a12 = 20 := by rw [hM18]; exact hT17
  refine g_aload_n X dX14_isGoLine_20 rfl rfl ?_
  refine g_get (ci := 12) (v := vR (mR M18 x0 12)) 12 X cdX14 i_X14_isGoLine_X14 (by decide) k_X14_isGoLine_f39 rfl dX14_isGoLine_21 rfl hT19 rfl ?_
  obtain ⟨a21, ha21, hf⟩ := dr_e hf
  obtain ⟨hT22, hf⟩ := ck_e hf
  refine g_getN (ci := 11) (w := vI (mI M18 a21 15)) 15 X cdX13 i_X14_isGoLine_X13 (by decide) (gNw X _ kn_X14_153) rfl dX14_isGoLine_24 ha21 hT22 rfl ?_
  refine g_bipush (v := (24 : Int32)) X dX14_isGoLine_27 (by decide) ?_
  refine g_min X k_X14_isGoLine_m70 k_X14_isGoLine_mmins k_X14_isGoLine_mi k_X14_isGoLine_mminc (Nat.le_of_ble_eq_true rfl) (Nat.le_of_ble_eq_true rfl) ⟨by decide, by decide⟩ dX14_isGoLine_29 ?_
  refine g_istore_n (lv' := [(1, vI (imin ((mI M18 a21 15)) ((24 : Int32)))), (0, vR (some x0))]) X dX14_isGoLine_32 rfl (by decide) rfl ?_
  refine g_aload_n X dX14_isGoLine_33 rfl rfl ?_
  refine g_get (ci := 12) (v := vR (mR M18 x0 12)) 12 X cdX14 i_X14_isGoLine_X14 (by decide) k_X14_isGoLine_f39 rfl dX14_isGoLine_34 rfl hT19 rfl ?_
  refine g_dup X dX14_isGoLine_37 rfl ?_
  refine g_getN (ci := 11) (w := vI (mI M18 a21 15)) 15 X cdX13 i_X14_isGoLine_X13 (by decide) (gNw X _ kn_X14_153) rfl dX14_isGoLine_38 ha21 hT22 rfl ?_
  refine g_iconst (v := (1 : Int32)) X dX14_isGoLine_41 (by decide) ?_
  refine g_iadd X dX14_isGoLine_42 ?_
  refine g_putIN (ci := 11) 15 X cdX13 i_X14_isGoLine_X13 (by decide) (gNw X _ kn_X14_153) rfl dX14_isGoLine_43 ha21 hT22 rfl rfl rfl rfl ?_
  obtain ⟨M23, hM23, hf⟩ := lw_e hf
  rw [← hM23]
  have hT24 : mT M23 x0 = 13 := by rw [hM23]; exact hT19
  have hT25 : mT M23 a12 = 20 := by rw [hM23]; exact hT20
  have hT26 : mT M23 a21 = 12 := by rw [hM23]; exact hT22
  refine g_aload_n X dX14_isGoLine_46 rfl rfl ?_
  refine g_get (ci := 12) (v := vR (mR M23 x0 12)) 12 X cdX14 i_X14_isGoLine_X14 (by decide) k_X14_isGoLine_f39 rfl dX14_isGoLine_47 rfl hT24 rfl ?_
  obtain ⟨a27, ha27, hf⟩ := dr_e hf
  obtain ⟨hT28, hf⟩ := ck_e hf
  refine g_getN (ci := 11) (w := vR (mR M23 a27 17)) 17 X cdX13 i_X14_isGoLine_X13 (by decide) (gNw X _ kn_X14_156) rfl dX14_isGoLine_50 ha27 hT28 rfl ?_
  refine g_iload_n X dX14_isGoLine_53 rfl rfl ?_
  refine g_aload_n X dX14_isGoLine_54 rfl rfl ?_
  refine g_get (ci := 12) (v := vR (mR M23 x0 12)) 12 X cdX14 i_X14_isGoLine_X14 (by decide) k_X14_isGoLine_f39 rfl dX14_isGoLine_55 rfl hT24 rfl ?_
  refine g_getN (ci := 11) (w := vI (mI M23 a27 22)) 22 X cdX13 i_X14_isGoLine_X13 (by decide) (gNw X _ kn_X14_130) rfl dX14_isGoLine_58 ha27 hT28 rfl ?_
  obtain ⟨a29, ha29, hf⟩ := dr_e hf
  obtain ⟨hT30, hf⟩ := ck_e hf
  obtain ⟨hg31, hf⟩ := ck_e hf
  refine g_iast X dX14_isGoLine_61 ha29 hT30 hg31 ?_
  obtain ⟨M32, hM32, hf⟩ := lw_e hf
  rw [← hM32]
  have hT33 : mT M32 x0 = 13 := by rw [hM32]; exact hT24
  have hT34 : mT M32 a12 = 20 := by rw [hM32]; exact hT25
  have hT35 : mT M32 a21 = 12 := by rw [hM32]; exact hT26
  have hT36 : mT M32 a27 = 12 := by rw [hM32]; exact hT28
  have hT37 : mT M32 a29 = 20 := by rw [hM32]; exact hT30
  refine g_aload_n X dX14_isGoLine_62 rfl rfl ?_
  refine g_bipush (v := (40 : Int32)) X dX14_isGoLine_63 (by decide) ?_
  refine g_bipush (v := (10 : Int32)) X dX14_isGoLine_65 (by decide) ?_
  obtain ⟨r38, M38, hq38, hf⟩ := bd_e hf
  refine g_callV (ci := 12) (b := x0) (As := [vI (40 : Int32), vI (10 : Int32)]) (st := []) (v := some (vI r38)) (M1 := M38) X (m_X14_eatAs l hq38) (cwV 2 X.2.2.1 gX14_isGoLine_X14_eatAs rfl rfl rfl (by decide +kernel) ⟨Nat.le_of_ble_eq_true rfl, Nat.le_of_ble_eq_true rfl⟩) rfl rfl rfl hT33 (by decide) rfl (Nat.le_of_ble_eq_true rfl) dX14_isGoLine_67 ⟨by decide, by decide⟩ ?_
  refine g_if_eq (tgt := 109) X dX14_isGoLine_70 (by decide) (fun hc => ?_) (fun hc => ?_)
  · have hf := ife_t hc hf
    refine g_sub (lvsub_of _ _ [] rfl) ?_
    exact t_X14_isGoLine_109 X hr _  _ hf hK
  · have hf := ife_f hc hf
    refine g_aload_n X dX14_isGoLine_73 rfl rfl ?_
    refine g_bipush (v := (8 : Int32)) X dX14_isGoLine_74 (by decide) ?_
    obtain ⟨hT40, hf⟩ := ck_e hf
    obtain ⟨r39, M39, hq39, hf⟩ := bd_e hf
    refine g_callV (ci := 12) (b := x0) (As := [vI (8 : Int32)]) (st := []) (v := some (vI r39)) (M1 := M39) X (m_X14_eat l hq39) (cwV 1 X.2.2.1 gX14_isGoLine_X14_eat rfl rfl rfl (by decide +kernel) ⟨Nat.le_of_ble_eq_true rfl, Nat.le_of_ble_eq_true rfl⟩) rfl rfl rfl hT40 (by decide) rfl (Nat.le_of_ble_eq_true rfl) dX14_isGoLine_76 ⟨by decide, by decide⟩ ?_
    refine g_if_eq (tgt := 109) X dX14_isGoLine_79 (by decide) (fun hc => ?_) (fun hc => ?_)
    · have hf := ife_t hc hf
      refine g_sub (lvsub_of _ _ [] rfl) ?_
      exact t_X14_isGoLine_109 X hr _  _ hf hK
    · have hf := ife_f hc hf
      refine g_aload_n X dX14_isGoLine_82 rfl rfl ?_
      refine g_bipush (v := (40 : Int32)) X dX14_isGoLine_83 (by decide) ?_
      refine g_bipush (v := (11 : Int32)) X dX14_isGoLine_85 (by decide) ?_
      obtain ⟨hT42, hf⟩ := ck_e hf
      obtain ⟨r41, M41, hq41, hf⟩ := bd_e hf
      refine g_callV (ci := 12) (b := x0) (As := [vI (40 : Int32), vI (11 : Int32)]) (st := []) (v := some (vI r41)) (M1 := M41) X (m_X14_eatAs l hq41) (cwV 2 X.2.2.1 gX14_isGoLine_X14_eatAs rfl rfl rfl (by decide +kernel) ⟨Nat.le_of_ble_eq_true rfl, Nat.le_of_ble_eq_true rfl⟩) rfl rfl rfl hT42 (by decide) rfl (Nat.le_of_ble_eq_true rfl) dX14_isGoLine_87 ⟨by decide, by decide⟩ ?_
      refine g_if_eq (tgt := 109) X dX14_isGoLine_90 (by decide) (fun hc => ?_) (fun hc => ?_)
      · have hf := ife_t hc hf
        refine g_sub (lvsub_of _ _ [] rfl) ?_
        exact t_X14_isGoLine_109 X hr _  _ hf hK
      · have hf := ife_f hc hf
        refine g_aload_n X dX14_isGoLine_93 rfl rfl ?_
        refine g_bipush (v := (9 : Int32)) X dX14_isGoLine_94 (by decide) ?_
        obtain ⟨hT44, hf⟩ := ck_e hf
        obtain ⟨r43, M43, hq43, hf⟩ := bd_e hf
        refine g_callV (ci := 12) (b := x0) (As := [vI (9 : Int32)]) (st := []) (v := some (vI r43)) (M1 := M43) X (m_X14_eat l hq43) (cwV 1 X.2.2.1 gX14_isGoLine_X14_eat rfl rfl rfl (by decide +kernel) ⟨Nat.le_of_ble_eq_true rfl, Nat.le_of_ble_eq_true rfl⟩) rfl rfl rfl hT44 (by decide) rfl (Nat.le_of_ble_eq_true rfl) dX14_isGoLine_96 ⟨by decide, by decide⟩ ?_
        refine g_if_eq (tgt := 111) X dX14_isGoLine_99 (by decide) (fun hc => ?_) (fun hc => ?_)
        · have hf := ife_t hc hf
          refine g_sub (lvsub_of _ _ [1, 0] rfl) ?_
          exact t_X14_isGoLine_111 X hr _ _ _ _ hf hK
        · have hf := ife_f hc hf
          refine g_aload_n X dX14_isGoLine_102 rfl rfl ?_
          obtain ⟨hT46, hf⟩ := ck_e hf
          obtain ⟨r45, M45, hq45, hf⟩ := bd_e hf
          refine g_callV (ci := 12) (b := x0) (As := []) (st := []) (v := some (vI r45)) (M1 := M45) X (m_X14_isTest l hq45) (cwV 0 X.2.2.1 gX14_isGoLine_X14_isTest rfl rfl rfl (by decide +kernel) ⟨Nat.le_of_ble_eq_true rfl, Nat.le_of_ble_eq_true rfl⟩) rfl rfl rfl hT46 (by decide) rfl (Nat.le_of_ble_eq_true rfl) dX14_isGoLine_103 ⟨by decide, by decide⟩ ?_
          refine g_if_ne (tgt := 111) X dX14_isGoLine_106 (by decide) (fun hc => ?_) (fun hc => ?_)
          · have hf := ife_f hc hf
            refine g_sub (lvsub_of _ _ [1, 0] rfl) ?_
            exact t_X14_isGoLine_111 X hr _ _ _ _ hf hK
          · have hf := ife_t hc hf
            refine g_sub (lvsub_of _ _ [] rfl) ?_
            exact t_X14_isGoLine_109 X hr _  _ hf hK
set_option maxHeartbeats 4000000 in
set_option maxRecDepth 100000 in
theorem m_X14_isGoLine (l : Launch) {D : va_G} {cy : Nat → ClassId} {B : Nat} {H0 : Heap} {Z : Nat → Nat} {M M1 : gMem} {x0 : Nat} {r : Int32} (hf : f_X14_isGoLine M x0 = some (r, M1)) : Met l yX14_isGoLine wsX14_isGoLine rX14_isGoLine (va_Pc (Value.ref x0 :: List.map gv []) (gPre D cy B H0 (gSt Z B H0) M)) (gQ D cy B H0 (some (vI r)) M1) 0 0 (gA B) := by
  refine Met.ofW (cc := cX14_isGoLine) (maxL := 2) (ret := (some .boolean)) (by decide) rfl ?_
  intro p e s m args below meth c s₁ Bd hml hv
  obtain ⟨rfl, hW, hKK, hFs⟩ := hv
  have X : gX p s m _ meth c D cy B (gSt Z B H0) RX14 cX14_isGoLine wsX14_isGoLine 2 := ⟨Bd.exec, Bd.bytes, atoms_spec (ws := wsX14_isGoLine) Bd.pre, findClass_of_methodNamed Bd.named, hml, hKK, by rw [hW.1]; exact hW.2.1, Bd.notSynchronized, hFs⟩
  have hr := Bd.returns
  have hl := lv_entry ([.ref x0]) (n := 2) (Nat.le_of_ble_eq_true rfl)
  show W p l e rX14_isGoLine s m _ below meth c s.heap [] 0 0 _ (entryFrame m ([.ref x0] : List Value).toArray 2)
  rw [lg_entry_eq]
  generalize (lg_sl ([.ref x0]) ++ List.replicate (2 - (lg_sl ([.ref x0])).length) Slot.unset).toArray = ls at hl ⊢
  have hl : lv_has ls 2 (List.map gq [(0, vR (some x0))]) := hl
  exact t_X14_isGoLine_0 X hr _ _ _ hf rfl s.heap [] ls hW va_S.rf (lv_has_sub hl (lvsub_of _ _ [0] rfl))
/-! ## TideLotsModel.isPactLine()Z -/
theorem dX14_isPactLine_0 : decode cX14_isPactLine 0 = .ok (.aload_n 0, 1) := by decide +kernel
theorem dX14_isPactLine_1 : decode cX14_isPactLine 1 = .ok (.dup, 1) := by decide +kernel
theorem dX14_isPactLine_2 : decode cX14_isPactLine 2 = .ok (.getfield 118, 3) := by decide +kernel
theorem dX14_isPactLine_5 : decode cX14_isPactLine 5 = .ok (.iconst 1, 1) := by decide +kernel
theorem dX14_isPactLine_6 : decode cX14_isPactLine 6 = .ok (.iadd, 1) := by decide +kernel
theorem dX14_isPactLine_7 : decode cX14_isPactLine 7 = .ok (.putfield 118, 3) := by decide +kernel
theorem dX14_isPactLine_10 : decode cX14_isPactLine 10 = .ok (.aload_n 0, 1) := by decide +kernel
theorem dX14_isPactLine_11 : decode cX14_isPactLine 11 = .ok (.getfield 39, 3) := by decide +kernel
theorem dX14_isPactLine_14 : decode cX14_isPactLine 14 = .ok (.getfield 165, 3) := by decide +kernel
theorem dX14_isPactLine_17 : decode cX14_isPactLine 17 = .ok (.bipush 6, 2) := by decide +kernel
theorem dX14_isPactLine_19 : decode cX14_isPactLine 19 = .ok (.invokestatic 70, 3) := by decide +kernel
theorem dX14_isPactLine_22 : decode cX14_isPactLine 22 = .ok (.istore_n 1, 1) := by decide +kernel
theorem dX14_isPactLine_23 : decode cX14_isPactLine 23 = .ok (.aload_n 0, 1) := by decide +kernel
theorem dX14_isPactLine_24 : decode cX14_isPactLine 24 = .ok (.getfield 39, 3) := by decide +kernel
theorem dX14_isPactLine_27 : decode cX14_isPactLine 27 = .ok (.dup, 1) := by decide +kernel
theorem dX14_isPactLine_28 : decode cX14_isPactLine 28 = .ok (.getfield 165, 3) := by decide +kernel
theorem dX14_isPactLine_31 : decode cX14_isPactLine 31 = .ok (.iconst 1, 1) := by decide +kernel
theorem dX14_isPactLine_32 : decode cX14_isPactLine 32 = .ok (.iadd, 1) := by decide +kernel
theorem dX14_isPactLine_33 : decode cX14_isPactLine 33 = .ok (.putfield 165, 3) := by decide +kernel
theorem dX14_isPactLine_36 : decode cX14_isPactLine 36 = .ok (.aload_n 0, 1) := by decide +kernel
theorem dX14_isPactLine_37 : decode cX14_isPactLine 37 = .ok (.getfield 39, 3) := by decide +kernel
theorem dX14_isPactLine_40 : decode cX14_isPactLine 40 = .ok (.getfield 168, 3) := by decide +kernel
theorem dX14_isPactLine_43 : decode cX14_isPactLine 43 = .ok (.iload_n 1, 1) := by decide +kernel
theorem dX14_isPactLine_44 : decode cX14_isPactLine 44 = .ok (.aload_n 0, 1) := by decide +kernel
theorem dX14_isPactLine_45 : decode cX14_isPactLine 45 = .ok (.getfield 39, 3) := by decide +kernel
theorem dX14_isPactLine_48 : decode cX14_isPactLine 48 = .ok (.getfield 130, 3) := by decide +kernel
theorem dX14_isPactLine_51 : decode cX14_isPactLine 51 = .ok (.iastore, 1) := by decide +kernel
theorem dX14_isPactLine_52 : decode cX14_isPactLine 52 = .ok (.aload_n 0, 1) := by decide +kernel
theorem dX14_isPactLine_53 : decode cX14_isPactLine 53 = .ok (.bipush 40, 2) := by decide +kernel
theorem dX14_isPactLine_55 : decode cX14_isPactLine 55 = .ok (.iconst 3, 1) := by decide +kernel
theorem dX14_isPactLine_56 : decode cX14_isPactLine 56 = .ok (.invokevirtual 149, 3) := by decide +kernel
theorem dX14_isPactLine_59 : decode cX14_isPactLine 59 = .ok (.ifCond .eq 23, 3) := by decide +kernel
theorem dX14_isPactLine_62 : decode cX14_isPactLine 62 = .ok (.aload_n 0, 1) := by decide +kernel
theorem dX14_isPactLine_63 : decode cX14_isPactLine 63 = .ok (.bipush 11, 2) := by decide +kernel
theorem dX14_isPactLine_65 : decode cX14_isPactLine 65 = .ok (.invokevirtual 124, 3) := by decide +kernel
theorem dX14_isPactLine_68 : decode cX14_isPactLine 68 = .ok (.ifCond .eq 14, 3) := by decide +kernel
theorem dX14_isPactLine_71 : decode cX14_isPactLine 71 = .ok (.aload_n 0, 1) := by decide +kernel
theorem dX14_isPactLine_72 : decode cX14_isPactLine 72 = .ok (.bipush 40, 2) := by decide +kernel
theorem dX14_isPactLine_74 : decode cX14_isPactLine 74 = .ok (.bipush 12, 2) := by decide +kernel
theorem dX14_isPactLine_76 : decode cX14_isPactLine 76 = .ok (.invokevirtual 149, 3) := by decide +kernel
theorem dX14_isPactLine_79 : decode cX14_isPactLine 79 = .ok (.ifCond .ne 5, 3) := by decide +kernel
theorem dX14_isPactLine_82 : decode cX14_isPactLine 82 = .ok (.iconst 0, 1) := by decide +kernel
theorem dX14_isPactLine_83 : decode cX14_isPactLine 83 = .ok (.ireturn, 1) := by decide +kernel
theorem dX14_isPactLine_84 : decode cX14_isPactLine 84 = .ok (.aload_n 0, 1) := by decide +kernel
theorem dX14_isPactLine_85 : decode cX14_isPactLine 85 = .ok (.bipush 44, 2) := by decide +kernel
theorem dX14_isPactLine_87 : decode cX14_isPactLine 87 = .ok (.invokevirtual 145, 3) := by decide +kernel
theorem dX14_isPactLine_90 : decode cX14_isPactLine 90 = .ok (.ifCond .eq 16, 3) := by decide +kernel
theorem dX14_isPactLine_93 : decode cX14_isPactLine 93 = .ok (.aload_n 0, 1) := by decide +kernel
theorem dX14_isPactLine_94 : decode cX14_isPactLine 94 = .ok (.bipush 40, 2) := by decide +kernel
theorem dX14_isPactLine_96 : decode cX14_isPactLine 96 = .ok (.bipush 12, 2) := by decide +kernel
theorem dX14_isPactLine_98 : decode cX14_isPactLine 98 = .ok (.invokevirtual 149, 3) := by decide +kernel
theorem dX14_isPactLine_101 : decode cX14_isPactLine 101 = .ok (.ifCond .ne (-17), 3) := by decide +kernel
theorem dX14_isPactLine_104 : decode cX14_isPactLine 104 = .ok (.iconst 0, 1) := by decide +kernel
theorem dX14_isPactLine_105 : decode cX14_isPactLine 105 = .ok (.ireturn, 1) := by decide +kernel
theorem dX14_isPactLine_106 : decode cX14_isPactLine 106 = .ok (.aload_n 0, 1) := by decide +kernel
theorem dX14_isPactLine_107 : decode cX14_isPactLine 107 = .ok (.bipush 12, 2) := by decide +kernel
theorem dX14_isPactLine_109 : decode cX14_isPactLine 109 = .ok (.invokevirtual 124, 3) := by decide +kernel
theorem dX14_isPactLine_112 : decode cX14_isPactLine 112 = .ok (.ifCond .eq 5, 3) := by decide +kernel
theorem dX14_isPactLine_115 : decode cX14_isPactLine 115 = .ok (.iconst 1, 1) := by decide +kernel
theorem dX14_isPactLine_116 : decode cX14_isPactLine 116 = .ok (.ireturn, 1) := by decide +kernel
theorem dX14_isPactLine_117 : decode cX14_isPactLine 117 = .ok (.aload_n 0, 1) := by decide +kernel
theorem dX14_isPactLine_118 : decode cX14_isPactLine 118 = .ok (.bipush 13, 2) := by decide +kernel
theorem dX14_isPactLine_120 : decode cX14_isPactLine 120 = .ok (.invokevirtual 124, 3) := by decide +kernel
theorem dX14_isPactLine_123 : decode cX14_isPactLine 123 = .ok (.ifCond .eq 30, 3) := by decide +kernel
theorem dX14_isPactLine_126 : decode cX14_isPactLine 126 = .ok (.aload_n 0, 1) := by decide +kernel
theorem dX14_isPactLine_127 : decode cX14_isPactLine 127 = .ok (.bipush 40, 2) := by decide +kernel
theorem dX14_isPactLine_129 : decode cX14_isPactLine 129 = .ok (.bipush 13, 2) := by decide +kernel
theorem dX14_isPactLine_131 : decode cX14_isPactLine 131 = .ok (.invokevirtual 149, 3) := by decide +kernel
theorem dX14_isPactLine_134 : decode cX14_isPactLine 134 = .ok (.ifCond .eq 19, 3) := by decide +kernel
theorem dX14_isPactLine_137 : decode cX14_isPactLine 137 = .ok (.aload_n 0, 1) := by decide +kernel
theorem dX14_isPactLine_138 : decode cX14_isPactLine 138 = .ok (.bipush 14, 2) := by decide +kernel
theorem dX14_isPactLine_140 : decode cX14_isPactLine 140 = .ok (.invokevirtual 124, 3) := by decide +kernel
theorem dX14_isPactLine_143 : decode cX14_isPactLine 143 = .ok (.ifCond .eq 10, 3) := by decide +kernel
theorem dX14_isPactLine_146 : decode cX14_isPactLine 146 = .ok (.aload_n 0, 1) := by decide +kernel
theorem dX14_isPactLine_147 : decode cX14_isPactLine 147 = .ok (.invokevirtual 171, 3) := by decide +kernel
theorem dX14_isPactLine_150 : decode cX14_isPactLine 150 = .ok (.ifCond .ne 5, 3) := by decide +kernel
theorem dX14_isPactLine_153 : decode cX14_isPactLine 153 = .ok (.iconst 0, 1) := by decide +kernel
theorem dX14_isPactLine_154 : decode cX14_isPactLine 154 = .ok (.ireturn, 1) := by decide +kernel
theorem dX14_isPactLine_155 : decode cX14_isPactLine 155 = .ok (.aload_n 0, 1) := by decide +kernel
theorem dX14_isPactLine_156 : decode cX14_isPactLine 156 = .ok (.getfield 39, 3) := by decide +kernel
theorem dX14_isPactLine_159 : decode cX14_isPactLine 159 = .ok (.getfield 174, 3) := by decide +kernel
theorem dX14_isPactLine_162 : decode cX14_isPactLine 162 = .ok (.iload_n 1, 1) := by decide +kernel
theorem dX14_isPactLine_163 : decode cX14_isPactLine 163 = .ok (.aload_n 0, 1) := by decide +kernel
theorem dX14_isPactLine_164 : decode cX14_isPactLine 164 = .ok (.getfield 39, 3) := by decide +kernel
theorem dX14_isPactLine_167 : decode cX14_isPactLine 167 = .ok (.getfield 130, 3) := by decide +kernel
theorem dX14_isPactLine_170 : decode cX14_isPactLine 170 = .ok (.iastore, 1) := by decide +kernel
theorem dX14_isPactLine_171 : decode cX14_isPactLine 171 = .ok (.iconst 1, 1) := by decide +kernel
theorem dX14_isPactLine_172 : decode cX14_isPactLine 172 = .ok (.ireturn, 1) := by decide +kernel
set_option maxRecDepth 20000 in
theorem ggX14_isPactLine_X14_eatSign : GoodIn wsX14_isPactLine wsX14_eatSign := goodIn_r _ [25, 13, 14, 15, 10, 16, 1, 17, 18, 19, 20, 21, 62, 63, 64, 65, 66, 67, 68, 69, 70, 71, 72, 73, 74, 75, 76] (by decide +kernel) (by decide +kernel)
set_option maxRecDepth 20000 in
theorem gX14_isPactLine_X14_eatSign : GoodIn wsX14_isPactLine (wsV RX14 145 RX14 yX14_eatSign wsX14_eatSign) := goodIn_app (goodIn_of _ (by decide +kernel)) ggX14_isPactLine_X14_eatSign
set_option maxRecDepth 20000 in
theorem ggX14_isPactLine_X14_eat : GoodIn wsX14_isPactLine wsX14_eat := goodIn_r _ [16, 1, 17, 18, 19, 10, 20, 21, 62, 63, 64, 65, 66, 67, 68, 69, 70, 71, 72, 73, 74, 75, 76] (by decide +kernel) (by decide +kernel)
set_option maxRecDepth 20000 in
theorem gX14_isPactLine_X14_eat : GoodIn wsX14_isPactLine (wsV RX14 124 RX14 yX14_eat wsX14_eat) := goodIn_app (goodIn_of _ (by decide +kernel)) ggX14_isPactLine_X14_eat
set_option maxRecDepth 20000 in
theorem ggX14_isPactLine_X14_eatAs : GoodIn wsX14_isPactLine wsX14_eatAs := goodIn_r _ [11, 12, 1, 13, 14, 15, 10, 16, 17, 18, 19, 20, 21, 62, 63, 64, 65, 66, 67, 68, 69, 70, 71, 72, 73, 74, 75, 76] (by decide +kernel) (by decide +kernel)
set_option maxRecDepth 20000 in
theorem gX14_isPactLine_X14_eatAs : GoodIn wsX14_isPactLine (wsV RX14 149 RX14 yX14_eatAs wsX14_eatAs) := goodIn_app (goodIn_of _ (by decide +kernel)) ggX14_isPactLine_X14_eatAs
set_option maxRecDepth 20000 in
theorem ggX14_isPactLine_X14_isSum : GoodIn wsX14_isPactLine wsX14_isSum := goodIn_r _ [29, 1, 30, 31, 32, 10, 33, 34, 35, 36, 21, 37, 38, 39, 40, 2, 41, 42, 43, 44, 45, 46, 17, 18, 19, 20, 47, 48, 49, 50, 51, 52, 53, 54, 55, 56, 57, 7, 8, 9, 11, 12, 13, 14, 15, 16, 58, 59, 60, 61, 26, 27, 28, 22, 23, 24, 25, 62, 63, 64, 65, 66, 67, 68, 69, 70, 71, 72, 73, 74, 75, 76, 77, 78, 79, 80, 81, 82, 83, 84, 85, 86, 87, 88, 89, 90, 91, 92, 93, 94, 95, 96, 97, 98, 99, 100, 101] (by decide +kernel) (by decide +kernel)
set_option maxRecDepth 20000 in
theorem gX14_isPactLine_X14_isSum : GoodIn wsX14_isPactLine (wsV RX14 171 RX14 yX14_isSum wsX14_isSum) := goodIn_app (goodIn_of _ (by decide +kernel)) ggX14_isPactLine_X14_isSum
theorem k_X14_isPactLine_f39 : Cond.fieldLink RX14 39 "TideLotsModel" "reading" "LTideLotsModel$Told;" ∈ wsX14_isPactLine := by decide +kernel
theorem i_X14_isPactLine_X14 : ∀ w ∈ u_ws RX14 TX14 15, w ∈ wsX14_isPactLine := by decide +kernel
theorem kn_X14_174 : Cond.fieldLinkNest "TideLotsModel" (174 : Nat) "TideLotsModel$Told" "summed" "[I" "TideLotsModel" ∈ gNs := by decide +kernel
theorem i_X14_isPactLine_X13 : ∀ w ∈ u_ws RX13 TX13 25, w ∈ wsX14_isPactLine := by decide +kernel
theorem k_X14_isPactLine_f118 : Cond.fieldLink RX14 118 "TideLotsModel" "token" "I" ∈ wsX14_isPactLine := by decide +kernel
theorem kn_X14_165 : Cond.fieldLinkNest "TideLotsModel" (165 : Nat) "TideLotsModel$Told" "bonds" "I" "TideLotsModel" ∈ gNs := by decide +kernel
theorem k_X14_isPactLine_m70 : Cond.methodLink RX14 70 Lib.Math.min.name ∈ wsX14_isPactLine := by decide +kernel
theorem k_X14_isPactLine_mmins : Cond.static Lib.Math.min.name ∈ wsX14_isPactLine := by decide +kernel
theorem k_X14_isPactLine_mi : Cond.initialized "java/lang/Math" ∈ wsX14_isPactLine := by decide +kernel
theorem k_X14_isPactLine_mminc : Cond.code Lib.Math.min.name Lib.Math.min.code 2 (some .int) ∈ wsX14_isPactLine := by decide +kernel
theorem kn_X14_168 : Cond.fieldLinkNest "TideLotsModel" (168 : Nat) "TideLotsModel$Told" "sum" "[I" "TideLotsModel" ∈ gNs := by decide +kernel
abbrev rX14_isPactLine : Room := { frames := 69, cells := 0, slots := 0, locals := 2666 }
noncomputable def b_X14_isPactLine_153 (M : gMem)  : Option (Int32 × gMem) :=
  some ((0 : Int32), M)
noncomputable def bb_X14_isPactLine_84 (M : gMem) (x0 : Nat) (x1 : Int32) : Option ((gMem) ⊕ (Int32 × gMem)) :=
  ck (mT M x0 = 13) <| bd (f_X14_eatSign M x0 ((44 : Int32))) fun r1 M1 => (if r1 = 0 then ck (mT M1 x0 = 13) <| bd (f_X14_eat M1 x0 ((12 : Int32))) fun r3 M3 => (if r3 = 0 then ck (mT M3 x0 = 13) <| bd (f_X14_eat M3 x0 ((13 : Int32))) fun r5 M5 => (if r5 = 0 then oI (b_X14_isPactLine_153 M5 ) else ck (mT M5 x0 = 13) <| bd (f_X14_eatAs M5 x0 ((40 : Int32)) ((13 : Int32))) fun r8 M8 => (if r8 = 0 then oI (b_X14_isPactLine_153 M8 ) else ck (mT M8 x0 = 13) <| bd (f_X14_eat M8 x0 ((14 : Int32))) fun r11 M11 => (if r11 = 0 then oI (b_X14_isPactLine_153 M11 ) else ck (mT M11 x0 = 13) <| bd (f_X14_isSum M11 x0) fun r14 M14 => (if r14 = 0 then oI (b_X14_isPactLine_153 M14 ) else ck (mT M14 x0 = 13) <| dr ((mR M14 x0 12)) fun a17 => ck (mT M14 a17 = 12) <| dr ((mR M14 a17 20)) fun a19 => ck (mT M14 a19 = 20) <| ck (inb x1 (mL M14 a19)) <| lw (wI M14 a19 x1.toNatClampNeg ((mI M14 a17 22))) fun M22 => oI (some ((1 : Int32), M22)))))) else oI (some ((1 : Int32), M3))) else ck (mT M1 x0 = 13) <| bd (f_X14_eatAs M1 x0 ((40 : Int32)) ((12 : Int32))) fun r29 M29 => (if r29 = 0 then oI (some ((0 : Int32), M29)) else some (.inl M29)))
noncomputable def lp_X14_isPactLine_84 (M : gMem) (x0 : Nat) (x1 : Int32) : Option (Int32 × gMem) :=
  lp (fun (q : gMem) => bb_X14_isPactLine_84 q x0 x1) M
noncomputable def b_X14_isPactLine_82 (M : gMem)  : Option (Int32 × gMem) :=
  some ((0 : Int32), M)
noncomputable def b_X14_isPactLine_0 (M : gMem) (x0 : Nat) : Option (Int32 × gMem) :=
  ck (mT M x0 = 13) <| lw (wI M x0 9 (((mI M x0 9) + (1 : Int32)))) fun M33 => dr ((mR M33 x0 12)) fun a35 => ck (mT M33 a35 = 12) <| lw (wI M33 a35 16 (((mI M33 a35 16) + (1 : Int32)))) fun M37 => dr ((mR M37 x0 12)) fun a40 => ck (mT M37 a40 = 12) <| dr ((mR M37 a40 19)) fun a42 => ck (mT M37 a42 = 20) <| ck (inb (imin ((mI M33 a35 16)) ((6 : Int32))) (mL M37 a42)) <| lw (wI M37 a42 ((imin ((mI M33 a35 16)) ((6 : Int32)))).toNatClampNeg ((mI M37 a40 22))) fun M45 => bd (f_X14_eatAs M45 x0 ((40 : Int32)) ((3 : Int32))) fun r50 M50 => (if r50 = 0 then b_X14_isPactLine_82 M50  else ck (mT M50 x0 = 13) <| bd (f_X14_eat M50 x0 ((11 : Int32))) fun r51 M51 => (if r51 = 0 then b_X14_isPactLine_82 M51  else ck (mT M51 x0 = 13) <| bd (f_X14_eatAs M51 x0 ((40 : Int32)) ((12 : Int32))) fun r53 M53 => (if r53 = 0 then b_X14_isPactLine_82 M53  else lp_X14_isPactLine_84 M53 x0 ((imin ((mI M33 a35 16)) ((6 : Int32)))))))
noncomputable def f_X14_isPactLine (M : gMem) (x0 : Nat) : Option (Int32 × gMem) :=
  b_X14_isPactLine_0 M x0
set_option maxHeartbeats 4000000 in
set_option maxRecDepth 100000 in
theorem t_X14_isPactLine_153 (X : gX p s m args meth c D cy B (gSt Z B H0) RX14 cX14_isPactLine wsX14_isPactLine 2) (hr : meth.sig.returnType = (some .boolean)) {Q : State → Prop} : ∀ (M : gMem)  (z : Int32 × gMem), b_X14_isPactLine_153 M  = some z → (fun (r : Int32 × gMem) => Q = gMQ below D cy B H0 args s 0 0 (some (vI r.1)) r.2) z → gGo p l e rX14_isPactLine s m args below meth c D cy B H0 2 0 0 Q 153 [] [] M := by
  intro M  z hf hK
  unfold b_X14_isPactLine_153 at hf
  refine g_iconst (v := (0 : Int32)) X dX14_isPactLine_153 (by decide) ?_
  cases hf
  refine g_eqQ hK ?_
  exact g_zret X hr (gnb (Or.inl rfl)) dX14_isPactLine_154
set_option maxHeartbeats 4000000 in
set_option maxRecDepth 100000 in
theorem tb_X14_isPactLine_84 (X : gX p s m args meth c D cy B (gSt Z B H0) RX14 cX14_isPactLine wsX14_isPactLine 2) (hr : meth.sig.returnType = (some .boolean)) {Q : State → Prop} : ∀ (M : gMem) (x0 : Nat) (x1 : Int32) (z : (gMem) ⊕ (Int32 × gMem)), bb_X14_isPactLine_84 M x0 x1 = some z → (Sum.elim (fun (q : gMem) => gGo p l e rX14_isPactLine s m args below meth c D cy B H0 2 0 0 Q 84 [(0, vR (some x0)), (1, vI x1)] [] q) (fun (r : Int32 × gMem) => Q = gMQ below D cy B H0 args s 0 0 (some (vI r.1)) r.2)) z → gGo p l e rX14_isPactLine s m args below meth c D cy B H0 2 0 0 Q 84 [(0, vR (some x0)), (1, vI x1)] [] M := by
  intro M x0 x1 z hf hK
  unfold bb_X14_isPactLine_84 at hf
  refine g_aload_n X dX14_isPactLine_84 rfl rfl ?_
  refine g_bipush (v := (44 : Int32)) X dX14_isPactLine_85 (by decide) ?_
  obtain ⟨hT2, hf⟩ := ck_e hf
  obtain ⟨r1, M1, hq1, hf⟩ := bd_e hf
  refine g_callV (ci := 12) (b := x0) (As := [vI (44 : Int32)]) (st := []) (v := some (vI r1)) (M1 := M1) X (m_X14_eatSign l hq1) (cwV 1 X.2.2.1 gX14_isPactLine_X14_eatSign rfl rfl rfl (by decide +kernel) ⟨Nat.le_of_ble_eq_true rfl, Nat.le_of_ble_eq_true rfl⟩) rfl rfl rfl hT2 (by decide) rfl (Nat.le_of_ble_eq_true rfl) dX14_isPactLine_87 ⟨by decide, by decide⟩ ?_
  refine g_if_eq (tgt := 106) X dX14_isPactLine_90 (by decide) (fun hc => ?_) (fun hc => ?_)
  · have hf := ife_t hc hf
    refine g_aload_n X dX14_isPactLine_106 rfl rfl ?_
    refine g_bipush (v := (12 : Int32)) X dX14_isPactLine_107 (by decide) ?_
    obtain ⟨hT4, hf⟩ := ck_e hf
    obtain ⟨r3, M3, hq3, hf⟩ := bd_e hf
    refine g_callV (ci := 12) (b := x0) (As := [vI (12 : Int32)]) (st := []) (v := some (vI r3)) (M1 := M3) X (m_X14_eat l hq3) (cwV 1 X.2.2.1 gX14_isPactLine_X14_eat rfl rfl rfl (by decide +kernel) ⟨Nat.le_of_ble_eq_true rfl, Nat.le_of_ble_eq_true rfl⟩) rfl rfl rfl hT4 (by decide) rfl (Nat.le_of_ble_eq_true rfl) dX14_isPactLine_109 ⟨by decide, by decide⟩ ?_
    refine g_if_eq (tgt := 117) X dX14_isPactLine_112 (by decide) (fun hc => ?_) (fun hc => ?_)
    · have hf := ife_t hc hf
      refine g_aload_n X dX14_isPactLine_117 rfl rfl ?_
      refine g_bipush (v := (13 : Int32)) X dX14_isPactLine_118 (by decide) ?_
      obtain ⟨hT6, hf⟩ := ck_e hf
      obtain ⟨r5, M5, hq5, hf⟩ := bd_e hf
      refine g_callV (ci := 12) (b := x0) (As := [vI (13 : Int32)]) (st := []) (v := some (vI r5)) (M1 := M5) X (m_X14_eat l hq5) (cwV 1 X.2.2.1 gX14_isPactLine_X14_eat rfl rfl rfl (by decide +kernel) ⟨Nat.le_of_ble_eq_true rfl, Nat.le_of_ble_eq_true rfl⟩) rfl rfl rfl hT6 (by decide) rfl (Nat.le_of_ble_eq_true rfl) dX14_isPactLine_120 ⟨by decide, by decide⟩ ?_
      refine g_if_eq (tgt := 153) X dX14_isPactLine_123 (by decide) (fun hc => ?_) (fun hc => ?_)
      · have hf := ife_t hc hf
        obtain ⟨w7, hw7, hz7⟩ := oI_e hf
        subst hz7
        have hf := hw7
        refine g_sub (lvsub_of _ _ [] rfl) ?_
        exact t_X14_isPactLine_153 X hr _  _ hf hK
      · have hf := ife_f hc hf
        refine g_aload_n X dX14_isPactLine_126 rfl rfl ?_
        refine g_bipush (v := (40 : Int32)) X dX14_isPactLine_127 (by decide) ?_
        refine g_bipush (v := (13 : Int32)) X dX14_isPactLine_129 (by decide) ?_
        obtain ⟨hT9, hf⟩ := ck_e hf
        obtain ⟨r8, M8, hq8, hf⟩ := bd_e hf
        refine g_callV (ci := 12) (b := x0) (As := [vI (40 : Int32), vI (13 : Int32)]) (st := []) (v := some (vI r8)) (M1 := M8) X (m_X14_eatAs l hq8) (cwV 2 X.2.2.1 gX14_isPactLine_X14_eatAs rfl rfl rfl (by decide +kernel) ⟨Nat.le_of_ble_eq_true rfl, Nat.le_of_ble_eq_true rfl⟩) rfl rfl rfl hT9 (by decide) rfl (Nat.le_of_ble_eq_true rfl) dX14_isPactLine_131 ⟨by decide, by decide⟩ ?_
        refine g_if_eq (tgt := 153) X dX14_isPactLine_134 (by decide) (fun hc => ?_) (fun hc => ?_)
        · have hf := ife_t hc hf
          obtain ⟨w10, hw10, hz10⟩ := oI_e hf
          subst hz10
          have hf := hw10
          refine g_sub (lvsub_of _ _ [] rfl) ?_
          exact t_X14_isPactLine_153 X hr _  _ hf hK
        · have hf := ife_f hc hf
          refine g_aload_n X dX14_isPactLine_137 rfl rfl ?_
          refine g_bipush (v := (14 : Int32)) X dX14_isPactLine_138 (by decide) ?_
          obtain ⟨hT12, hf⟩ := ck_e hf
          obtain ⟨r11, M11, hq11, hf⟩ := bd_e hf
          refine g_callV (ci := 12) (b := x0) (As := [vI (14 : Int32)]) (st := []) (v := some (vI r11)) (M1 := M11) X (m_X14_eat l hq11) (cwV 1 X.2.2.1 gX14_isPactLine_X14_eat rfl rfl rfl (by decide +kernel) ⟨Nat.le_of_ble_eq_true rfl, Nat.le_of_ble_eq_true rfl⟩) rfl rfl rfl hT12 (by decide) rfl (Nat.le_of_ble_eq_true rfl) dX14_isPactLine_140 ⟨by decide, by decide⟩ ?_
          refine g_if_eq (tgt := 153) X dX14_isPactLine_143 (by decide) (fun hc => ?_) (fun hc => ?_)
          · have hf := ife_t hc hf
            obtain ⟨w13, hw13, hz13⟩ := oI_e hf
            subst hz13
            have hf := hw13
            refine g_sub (lvsub_of _ _ [] rfl) ?_
            exact t_X14_isPactLine_153 X hr _  _ hf hK
          · have hf := ife_f hc hf
            refine g_aload_n X dX14_isPactLine_146 rfl rfl ?_
            obtain ⟨hT15, hf⟩ := ck_e hf
            obtain ⟨r14, M14, hq14, hf⟩ := bd_e hf
            refine g_callV (ci := 12) (b := x0) (As := []) (st := []) (v := some (vI r14)) (M1 := M14) X (m_X14_isSum l hq14) (cwV 0 X.2.2.1 gX14_isPactLine_X14_isSum rfl rfl rfl (by decide +kernel) ⟨Nat.le_of_ble_eq_true rfl, Nat.le_of_ble_eq_true rfl⟩) rfl rfl rfl hT15 (by decide) rfl (Nat.le_of_ble_eq_true rfl) dX14_isPactLine_147 ⟨by decide, by decide⟩ ?_
            refine g_if_ne (tgt := 155) X dX14_isPactLine_150 (by decide) (fun hc => ?_) (fun hc => ?_)
            · have hf := ife_f hc hf
              refine g_aload_n X dX14_isPactLine_155 rfl rfl ?_
              obtain ⟨hT16, hf⟩ := ck_e hf
              refine g_get (ci := 12) (v := vR (mR M14 x0 12)) 12 X cdX14 i_X14_isPactLine_X14 (by decide) k_X14_isPactLine_f39 rfl dX14_isPactLine_156 rfl hT16 rfl ?_
              obtain ⟨a17, ha17, hf⟩ := dr_e hf
              obtain ⟨hT18, hf⟩ := ck_e hf
              refine g_getN (ci := 11) (w := vR (mR M14 a17 20)) 20 X cdX13 i_X14_isPactLine_X13 (by decide) (gNw X _ kn_X14_174) rfl dX14_isPactLine_159 ha17 hT18 rfl ?_
              refine g_iload_n X dX14_isPactLine_162 rfl rfl ?_
              refine g_aload_n X dX14_isPactLine_163 rfl rfl ?_
              refine g_get (ci := 12) (v := vR (mR M14 x0 12)) 12 X cdX14 i_X14_isPactLine_X14 (by decide) k_X14_isPactLine_f39 rfl dX14_isPactLine_164 rfl hT16 rfl ?_
              refine g_getN (ci := 11) (w := vI (mI M14 a17 22)) 22 X cdX13 i_X14_isPactLine_X13 (by decide) (gNw X _ kn_X14_130) rfl dX14_isPactLine_167 ha17 hT18 rfl ?_
              obtain ⟨a19, ha19, hf⟩ := dr_e hf
              obtain ⟨hT20, hf⟩ := ck_e hf
              obtain ⟨hg21, hf⟩ := ck_e hf
              refine g_iast X dX14_isPactLine_170 ha19 hT20 hg21 ?_
              obtain ⟨M22, hM22, hf⟩ := lw_e hf
              rw [← hM22]
              have hT23 : mT M22 x0 = 13 := by rw [hM22]; exact hT16
              have hT24 : mT M22 a17 = 12 := by rw [hM22]; exact hT18
              have hT25 : mT M22 a19 = 20 := by rw [hM22]; exact hT20
              refine g_iconst (v := (1 : Int32)) X dX14_isPactLine_171 (by decide) ?_
              obtain ⟨w26, hw26, hz26⟩ := oI_e hf
              subst hz26
              have hf := hw26
              cases hf
              refine g_eqQ hK ?_
              exact g_zret X hr (gnb (Or.inr rfl)) dX14_isPactLine_172
            · have hf := ife_t hc hf
              obtain ⟨w27, hw27, hz27⟩ := oI_e hf
              subst hz27
              have hf := hw27
              refine g_sub (lvsub_of _ _ [] rfl) ?_
              exact t_X14_isPactLine_153 X hr _  _ hf hK
    · have hf := ife_f hc hf
      refine g_iconst (v := (1 : Int32)) X dX14_isPactLine_115 (by decide) ?_
      obtain ⟨w28, hw28, hz28⟩ := oI_e hf
      subst hz28
      have hf := hw28
      cases hf
      refine g_eqQ hK ?_
      exact g_zret X hr (gnb (Or.inr rfl)) dX14_isPactLine_116
  · have hf := ife_f hc hf
    refine g_aload_n X dX14_isPactLine_93 rfl rfl ?_
    refine g_bipush (v := (40 : Int32)) X dX14_isPactLine_94 (by decide) ?_
    refine g_bipush (v := (12 : Int32)) X dX14_isPactLine_96 (by decide) ?_
    obtain ⟨hT30, hf⟩ := ck_e hf
    obtain ⟨r29, M29, hq29, hf⟩ := bd_e hf
    refine g_callV (ci := 12) (b := x0) (As := [vI (40 : Int32), vI (12 : Int32)]) (st := []) (v := some (vI r29)) (M1 := M29) X (m_X14_eatAs l hq29) (cwV 2 X.2.2.1 gX14_isPactLine_X14_eatAs rfl rfl rfl (by decide +kernel) ⟨Nat.le_of_ble_eq_true rfl, Nat.le_of_ble_eq_true rfl⟩) rfl rfl rfl hT30 (by decide) rfl (Nat.le_of_ble_eq_true rfl) dX14_isPactLine_98 ⟨by decide, by decide⟩ ?_
    refine g_if_ne (tgt := 84) X dX14_isPactLine_101 (by decide) (fun hc => ?_) (fun hc => ?_)
    · have hf := ife_f hc hf
      cases hf
      refine g_sub (lvsub_of _ _ [0, 1] rfl) ?_
      exact hK
    · have hf := ife_t hc hf
      refine g_iconst (v := (0 : Int32)) X dX14_isPactLine_104 (by decide) ?_
      obtain ⟨w31, hw31, hz31⟩ := oI_e hf
      subst hz31
      have hf := hw31
      cases hf
      refine g_eqQ hK ?_
      exact g_zret X hr (gnb (Or.inl rfl)) dX14_isPactLine_105
set_option maxHeartbeats 4000000 in
set_option maxRecDepth 100000 in
theorem tl_X14_isPactLine_84 (X : gX p s m args meth c D cy B (gSt Z B H0) RX14 cX14_isPactLine wsX14_isPactLine 2) (hr : meth.sig.returnType = (some .boolean)) {Q : State → Prop} : ∀ (M : gMem) (x0 : Nat) (x1 : Int32) (z : Int32 × gMem), lp_X14_isPactLine_84 M x0 x1 = some z → (fun (r : Int32 × gMem) => Q = gMQ below D cy B H0 args s 0 0 (some (vI r.1)) r.2) z → gGo p l e rX14_isPactLine s m args below meth c D cy B H0 2 0 0 Q 84 [(0, vR (some x0)), (1, vI x1)] [] M := by
  intro M x0 x1 z hf hK
  refine lp_ind (P := (fun (q : gMem) (z : Int32 × gMem) => (fun (r : Int32 × gMem) => Q = gMQ below D cy B H0 args s 0 0 (some (vI r.1)) r.2) z → gGo p l e rX14_isPactLine s m args below meth c D cy B H0 2 0 0 Q 84 [(0, vR (some x0)), (1, vI x1)] [] q)) (fun q z hq => ?_) _ _ hf hK
  intro hK
  obtain ⟨w, hw, hm⟩ := hq
  refine tb_X14_isPactLine_84 X hr _ _ _ w hw ?_
  cases w with
  | inl a => exact hm hK
  | inr b => cases hm; exact hK
set_option maxHeartbeats 4000000 in
set_option maxRecDepth 100000 in
theorem t_X14_isPactLine_82 (X : gX p s m args meth c D cy B (gSt Z B H0) RX14 cX14_isPactLine wsX14_isPactLine 2) (hr : meth.sig.returnType = (some .boolean)) {Q : State → Prop} : ∀ (M : gMem)  (z : Int32 × gMem), b_X14_isPactLine_82 M  = some z → (fun (r : Int32 × gMem) => Q = gMQ below D cy B H0 args s 0 0 (some (vI r.1)) r.2) z → gGo p l e rX14_isPactLine s m args below meth c D cy B H0 2 0 0 Q 82 [] [] M := by
  intro M  z hf hK
  unfold b_X14_isPactLine_82 at hf
  refine g_iconst (v := (0 : Int32)) X dX14_isPactLine_82 (by decide) ?_
  cases hf
  refine g_eqQ hK ?_
  exact g_zret X hr (gnb (Or.inl rfl)) dX14_isPactLine_83
set_option maxHeartbeats 4000000 in
set_option maxRecDepth 100000 in
theorem t_X14_isPactLine_0 (X : gX p s m args meth c D cy B (gSt Z B H0) RX14 cX14_isPactLine wsX14_isPactLine 2) (hr : meth.sig.returnType = (some .boolean)) {Q : State → Prop} : ∀ (M : gMem) (x0 : Nat) (z : Int32 × gMem), b_X14_isPactLine_0 M x0 = some z → (fun (r : Int32 × gMem) => Q = gMQ below D cy B H0 args s 0 0 (some (vI r.1)) r.2) z → gGo p l e rX14_isPactLine s m args below meth c D cy B H0 2 0 0 Q 0 [(0, vR (some x0))] [] M := by
  intro M x0 z hf hK
  unfold b_X14_isPactLine_0 at hf
  refine g_aload_n X dX14_isPactLine_0 rfl rfl ?_
  refine g_dup X dX14_isPactLine_1 rfl ?_
  obtain ⟨hT32, hf⟩ := ck_e hf
  refine g_get (ci := 12) (v := vI (mI M x0 9)) 9 X cdX14 i_X14_isPactLine_X14 (by decide) k_X14_isPactLine_f118 rfl dX14_isPactLine_2 rfl hT32 rfl ?_
  refine g_iconst (v := (1 : Int32)) X dX14_isPactLine_5 (by decide) ?_
  refine g_iadd X dX14_isPactLine_6 ?_
  refine g_putI (ci := 12) 9 X cdX14 i_X14_isPactLine_X14 (by decide) k_X14_isPactLine_f118 rfl dX14_isPactLine_7 rfl hT32 (Or.inl rfl) rfl rfl rfl ?_
  obtain ⟨M33, hM33, hf⟩ := lw_e hf
  rw [← hM33]
  have hT34 : mT M33 x0 = 13 := by rw [hM33]; exact hT32
  refine g_aload_n X dX14_isPactLine_10 rfl rfl ?_
  refine g_get (ci := 12) (v := vR (mR M33 x0 12)) 12 X cdX14 i_X14_isPactLine_X14 (by decide) k_X14_isPactLine_f39 rfl dX14_isPactLine_11 rfl hT34 rfl ?_
  obtain ⟨a35, ha35, hf⟩ := dr_e hf
  obtain ⟨hT36, hf⟩ := ck_e hf
  refine g_getN (ci := 11) (w := vI (mI M33 a35 16)) 16 X cdX13 i_X14_isPactLine_X13 (by decide) (gNw X _ kn_X14_165) rfl dX14_isPactLine_14 ha35 hT36 rfl ?_
  refine g_bipush (v := (6 : Int32)) X dX14_isPactLine_17 (by decide) ?_
  refine g_min X k_X14_isPactLine_m70 k_X14_isPactLine_mmins k_X14_isPactLine_mi k_X14_isPactLine_mminc (Nat.le_of_ble_eq_true rfl) (Nat.le_of_ble_eq_true rfl) ⟨by decide, by decide⟩ dX14_isPactLine_19 ?_
  refine g_istore_n (lv' := [(1, vI (imin ((mI M33 a35 16)) ((6 : Int32)))), (0, vR (some x0))]) X dX14_isPactLine_22 rfl (by decide) rfl ?_
  refine g_aload_n X dX14_isPactLine_23 rfl rfl ?_
  refine g_get (ci := 12) (v := vR (mR M33 x0 12)) 12 X cdX14 i_X14_isPactLine_X14 (by decide) k_X14_isPactLine_f39 rfl dX14_isPactLine_24 rfl hT34 rfl ?_
  refine g_dup X dX14_isPactLine_27 rfl ?_
  refine g_getN (ci := 11) (w := vI (mI M33 a35 16)) 16 X cdX13 i_X14_isPactLine_X13 (by decide) (gNw X _ kn_X14_165) rfl dX14_isPactLine_28 ha35 hT36 rfl ?_
  refine g_iconst (v := (1 : Int32)) X dX14_isPactLine_31 (by decide) ?_
  refine g_iadd X dX14_isPactLine_32 ?_
  refine g_putIN (ci := 11) 16 X cdX13 i_X14_isPactLine_X13 (by decide) (gNw X _ kn_X14_165) rfl dX14_isPactLine_33 ha35 hT36 rfl rfl rfl rfl ?_
  obtain ⟨M37, hM37, hf⟩ := lw_e hf
  rw [← hM37]
  have hT38 : mT M37 x0 = 13 := by rw [hM37]; exact hT34
  have hT39 : mT M37 a35 = 12 := by rw [hM37]; exact hT36
  refine g_aload_n X dX14_isPactLine_36 rfl rfl ?_
  refine g_get (ci := 12) (v := vR (mR M37 x0 12)) 12 X cdX14 i_X14_isPactLine_X14 (by decide) k_X14_isPactLine_f39 rfl dX14_isPactLine_37 rfl hT38 rfl ?_
  obtain ⟨a40, ha40, hf⟩ := dr_e hf
  obtain ⟨hT41, hf⟩ := ck_e hf
  refine g_getN (ci := 11) (w := vR (mR M37 a40 19)) 19 X cdX13 i_X14_isPactLine_X13 (by decide) (gNw X _ kn_X14_168) rfl dX14_isPactLine_40 ha40 hT41 rfl ?_
  refine g_iload_n X dX14_isPactLine_43 rfl rfl ?_
  refine g_aload_n X dX14_isPactLine_44 rfl rfl ?_
  refine g_get (ci := 12) (v := vR (mR M37 x0 12)) 12 X cdX14 i_X14_isPactLine_X14 (by decide) k_X14_isPactLine_f39 rfl dX14_isPactLine_45 rfl hT38 rfl ?_
  refine g_getN (ci := 11) (w := vI (mI M37 a40 22)) 22 X cdX13 i_X14_isPactLine_X13 (by decide) (gNw X _ kn_X14_130) rfl dX14_isPactLine_48 ha40 hT41 rfl ?_
  obtain ⟨a42, ha42, hf⟩ := dr_e hf
  obtain ⟨hT43, hf⟩ := ck_e hf
  obtain ⟨hg44, hf⟩ := ck_e hf
  refine g_iast X dX14_isPactLine_51 ha42 hT43 hg44 ?_
  obtain ⟨M45, hM45, hf⟩ := lw_e hf
  rw [← hM45]
  have hT46 : mT M45 x0 = 13 := by rw [hM45]; exact hT38
  have hT47 : mT M45 a35 = 12 := by rw [hM45]; exact hT39
  have hT48 : mT M45 a40 = 12 := by rw [hM45]; exact hT41
  have hT49 : mT M45 a42 = 20 := by rw [hM45]; exact hT43
  refine g_aload_n X dX14_isPactLine_52 rfl rfl ?_
  refine g_bipush (v := (40 : Int32)) X dX14_isPactLine_53 (by decide) ?_
  refine g_iconst (v := (3 : Int32)) X dX14_isPactLine_55 (by decide) ?_
  obtain ⟨r50, M50, hq50, hf⟩ := bd_e hf
  refine g_callV (ci := 12) (b := x0) (As := [vI (40 : Int32), vI (3 : Int32)]) (st := []) (v := some (vI r50)) (M1 := M50) X (m_X14_eatAs l hq50) (cwV 2 X.2.2.1 gX14_isPactLine_X14_eatAs rfl rfl rfl (by decide +kernel) ⟨Nat.le_of_ble_eq_true rfl, Nat.le_of_ble_eq_true rfl⟩) rfl rfl rfl hT46 (by decide) rfl (Nat.le_of_ble_eq_true rfl) dX14_isPactLine_56 ⟨by decide, by decide⟩ ?_
  refine g_if_eq (tgt := 82) X dX14_isPactLine_59 (by decide) (fun hc => ?_) (fun hc => ?_)
  · have hf := ife_t hc hf
    refine g_sub (lvsub_of _ _ [] rfl) ?_
    exact t_X14_isPactLine_82 X hr _  _ hf hK
  · have hf := ife_f hc hf
    refine g_aload_n X dX14_isPactLine_62 rfl rfl ?_
    refine g_bipush (v := (11 : Int32)) X dX14_isPactLine_63 (by decide) ?_
    obtain ⟨hT52, hf⟩ := ck_e hf
    obtain ⟨r51, M51, hq51, hf⟩ := bd_e hf
    refine g_callV (ci := 12) (b := x0) (As := [vI (11 : Int32)]) (st := []) (v := some (vI r51)) (M1 := M51) X (m_X14_eat l hq51) (cwV 1 X.2.2.1 gX14_isPactLine_X14_eat rfl rfl rfl (by decide +kernel) ⟨Nat.le_of_ble_eq_true rfl, Nat.le_of_ble_eq_true rfl⟩) rfl rfl rfl hT52 (by decide) rfl (Nat.le_of_ble_eq_true rfl) dX14_isPactLine_65 ⟨by decide, by decide⟩ ?_
    refine g_if_eq (tgt := 82) X dX14_isPactLine_68 (by decide) (fun hc => ?_) (fun hc => ?_)
    · have hf := ife_t hc hf
      refine g_sub (lvsub_of _ _ [] rfl) ?_
      exact t_X14_isPactLine_82 X hr _  _ hf hK
    · have hf := ife_f hc hf
      refine g_aload_n X dX14_isPactLine_71 rfl rfl ?_
      refine g_bipush (v := (40 : Int32)) X dX14_isPactLine_72 (by decide) ?_
      refine g_bipush (v := (12 : Int32)) X dX14_isPactLine_74 (by decide) ?_
      obtain ⟨hT54, hf⟩ := ck_e hf
      obtain ⟨r53, M53, hq53, hf⟩ := bd_e hf
      refine g_callV (ci := 12) (b := x0) (As := [vI (40 : Int32), vI (12 : Int32)]) (st := []) (v := some (vI r53)) (M1 := M53) X (m_X14_eatAs l hq53) (cwV 2 X.2.2.1 gX14_isPactLine_X14_eatAs rfl rfl rfl (by decide +kernel) ⟨Nat.le_of_ble_eq_true rfl, Nat.le_of_ble_eq_true rfl⟩) rfl rfl rfl hT54 (by decide) rfl (Nat.le_of_ble_eq_true rfl) dX14_isPactLine_76 ⟨by decide, by decide⟩ ?_
      refine g_if_ne (tgt := 84) X dX14_isPactLine_79 (by decide) (fun hc => ?_) (fun hc => ?_)
      · have hf := ife_f hc hf
        refine g_sub (lvsub_of _ _ [1, 0] rfl) ?_
        exact tl_X14_isPactLine_84 X hr _ _ _ _ hf hK
      · have hf := ife_t hc hf
        refine g_sub (lvsub_of _ _ [] rfl) ?_
        exact t_X14_isPactLine_82 X hr _  _ hf hK
set_option maxHeartbeats 4000000 in
set_option maxRecDepth 100000 in
theorem m_X14_isPactLine (l : Launch) {D : va_G} {cy : Nat → ClassId} {B : Nat} {H0 : Heap} {Z : Nat → Nat} {M M1 : gMem} {x0 : Nat} {r : Int32} (hf : f_X14_isPactLine M x0 = some (r, M1)) : Met l yX14_isPactLine wsX14_isPactLine rX14_isPactLine (va_Pc (Value.ref x0 :: List.map gv []) (gPre D cy B H0 (gSt Z B H0) M)) (gQ D cy B H0 (some (vI r)) M1) 0 0 (gA B) := by
  refine Met.ofW (cc := cX14_isPactLine) (maxL := 2) (ret := (some .boolean)) (by decide) rfl ?_
  intro p e s m args below meth c s₁ Bd hml hv
  obtain ⟨rfl, hW, hKK, hFs⟩ := hv
  have X : gX p s m _ meth c D cy B (gSt Z B H0) RX14 cX14_isPactLine wsX14_isPactLine 2 := ⟨Bd.exec, Bd.bytes, atoms_spec (ws := wsX14_isPactLine) Bd.pre, findClass_of_methodNamed Bd.named, hml, hKK, by rw [hW.1]; exact hW.2.1, Bd.notSynchronized, hFs⟩
  have hr := Bd.returns
  have hl := lv_entry ([.ref x0]) (n := 2) (Nat.le_of_ble_eq_true rfl)
  show W p l e rX14_isPactLine s m _ below meth c s.heap [] 0 0 _ (entryFrame m ([.ref x0] : List Value).toArray 2)
  rw [lg_entry_eq]
  generalize (lg_sl ([.ref x0]) ++ List.replicate (2 - (lg_sl ([.ref x0])).length) Slot.unset).toArray = ls at hl ⊢
  have hl : lv_has ls 2 (List.map gq [(0, vR (some x0))]) := hl
  exact t_X14_isPactLine_0 X hr _ _ _ hf rfl s.heap [] ls hW va_S.rf (lv_has_sub hl (lvsub_of _ _ [0] rfl))
/-! ## TideLotsModel.isText()Z -/
theorem dX14_isText_0 : decode cX14_isText 0 = .ok (.aload_n 0, 1) := by decide +kernel
theorem dX14_isText_1 : decode cX14_isText 1 = .ok (.sipush 900, 3) := by decide +kernel
theorem dX14_isText_4 : decode cX14_isText 4 = .ok (.invokevirtual 121, 3) := by decide +kernel
theorem dX14_isText_7 : decode cX14_isText 7 = .ok (.ifCond .ne 89, 3) := by decide +kernel
theorem dX14_isText_10 : decode cX14_isText 10 = .ok (.aload_n 0, 1) := by decide +kernel
theorem dX14_isText_11 : decode cX14_isText 11 = .ok (.iconst 0, 1) := by decide +kernel
theorem dX14_isText_12 : decode cX14_isText 12 = .ok (.invokevirtual 121, 3) := by decide +kernel
theorem dX14_isText_15 : decode cX14_isText 15 = .ok (.ifCond .eq 10, 3) := by decide +kernel
theorem dX14_isText_18 : decode cX14_isText 18 = .ok (.aload_n 0, 1) := by decide +kernel
theorem dX14_isText_19 : decode cX14_isText 19 = .ok (.invokevirtual 132, 3) := by decide +kernel
theorem dX14_isText_22 : decode cX14_isText 22 = .ok (.goto 55, 3) := by decide +kernel
theorem dX14_isText_25 : decode cX14_isText 25 = .ok (.aload_n 0, 1) := by decide +kernel
theorem dX14_isText_26 : decode cX14_isText 26 = .ok (.iconst 3, 1) := by decide +kernel
theorem dX14_isText_27 : decode cX14_isText 27 = .ok (.invokevirtual 121, 3) := by decide +kernel
theorem dX14_isText_30 : decode cX14_isText 30 = .ok (.ifCond .eq 10, 3) := by decide +kernel
theorem dX14_isText_33 : decode cX14_isText 33 = .ok (.aload_n 0, 1) := by decide +kernel
theorem dX14_isText_34 : decode cX14_isText 34 = .ok (.invokevirtual 136, 3) := by decide +kernel
theorem dX14_isText_37 : decode cX14_isText 37 = .ok (.goto 40, 3) := by decide +kernel
theorem dX14_isText_40 : decode cX14_isText 40 = .ok (.aload_n 0, 1) := by decide +kernel
theorem dX14_isText_41 : decode cX14_isText 41 = .ok (.bipush 7, 2) := by decide +kernel
theorem dX14_isText_43 : decode cX14_isText 43 = .ok (.invokevirtual 121, 3) := by decide +kernel
theorem dX14_isText_46 : decode cX14_isText 46 = .ok (.ifCond .eq 10, 3) := by decide +kernel
theorem dX14_isText_49 : decode cX14_isText 49 = .ok (.aload_n 0, 1) := by decide +kernel
theorem dX14_isText_50 : decode cX14_isText 50 = .ok (.invokevirtual 139, 3) := by decide +kernel
theorem dX14_isText_53 : decode cX14_isText 53 = .ok (.goto 24, 3) := by decide +kernel
theorem dX14_isText_56 : decode cX14_isText 56 = .ok (.aload_n 0, 1) := by decide +kernel
theorem dX14_isText_57 : decode cX14_isText 57 = .ok (.bipush 10, 2) := by decide +kernel
theorem dX14_isText_59 : decode cX14_isText 59 = .ok (.invokevirtual 121, 3) := by decide +kernel
theorem dX14_isText_62 : decode cX14_isText 62 = .ok (.ifCond .eq 14, 3) := by decide +kernel
theorem dX14_isText_65 : decode cX14_isText 65 = .ok (.aload_n 0, 1) := by decide +kernel
theorem dX14_isText_66 : decode cX14_isText 66 = .ok (.invokevirtual 142, 3) := by decide +kernel
theorem dX14_isText_69 : decode cX14_isText 69 = .ok (.ifCond .eq 7, 3) := by decide +kernel
theorem dX14_isText_72 : decode cX14_isText 72 = .ok (.iconst 1, 1) := by decide +kernel
theorem dX14_isText_73 : decode cX14_isText 73 = .ok (.goto 4, 3) := by decide +kernel
theorem dX14_isText_76 : decode cX14_isText 76 = .ok (.iconst 0, 1) := by decide +kernel
theorem dX14_isText_77 : decode cX14_isText 77 = .ok (.istore_n 1, 1) := by decide +kernel
theorem dX14_isText_78 : decode cX14_isText 78 = .ok (.iload_n 1, 1) := by decide +kernel
theorem dX14_isText_79 : decode cX14_isText 79 = .ok (.ifCond .eq 12, 3) := by decide +kernel
theorem dX14_isText_82 : decode cX14_isText 82 = .ok (.aload_n 0, 1) := by decide +kernel
theorem dX14_isText_83 : decode cX14_isText 83 = .ok (.bipush 59, 2) := by decide +kernel
theorem dX14_isText_85 : decode cX14_isText 85 = .ok (.invokevirtual 145, 3) := by decide +kernel
theorem dX14_isText_88 : decode cX14_isText 88 = .ok (.ifCond .ne 5, 3) := by decide +kernel
theorem dX14_isText_91 : decode cX14_isText 91 = .ok (.iconst 0, 1) := by decide +kernel
theorem dX14_isText_92 : decode cX14_isText 92 = .ok (.ireturn, 1) := by decide +kernel
theorem dX14_isText_93 : decode cX14_isText 93 = .ok (.goto (-93), 3) := by decide +kernel
theorem dX14_isText_96 : decode cX14_isText 96 = .ok (.iconst 1, 1) := by decide +kernel
theorem dX14_isText_97 : decode cX14_isText 97 = .ok (.ireturn, 1) := by decide +kernel
set_option maxRecDepth 20000 in
theorem ggX14_isText_X14_eatSign : GoodIn wsX14_isText wsX14_eatSign := goodIn_r _ [24, 17, 18, 19, 4, 20, 7, 1, 2, 3, 5, 6, 90, 91, 92, 93, 94, 95, 96, 97, 98, 99, 100, 101, 102, 103, 104] (by decide +kernel) (by decide +kernel)
set_option maxRecDepth 20000 in
theorem gX14_isText_X14_eatSign : GoodIn wsX14_isText (wsV RX14 145 RX14 yX14_eatSign wsX14_eatSign) := goodIn_app (goodIn_of _ (by decide +kernel)) ggX14_isText_X14_eatSign
set_option maxRecDepth 20000 in
theorem ggX14_isText_X14_is : GoodIn wsX14_isText wsX14_is := goodIn_r _ [5, 6, 7, 90, 91, 92, 93, 94, 95, 96, 97, 98, 99, 100, 101, 102, 103, 104] (by decide +kernel) (by decide +kernel)
set_option maxRecDepth 20000 in
theorem gX14_isText_X14_is : GoodIn wsX14_isText (wsV RX14 121 RX14 yX14_is wsX14_is) := goodIn_app (goodIn_of _ (by decide +kernel)) ggX14_isText_X14_is
set_option maxRecDepth 20000 in
theorem ggX14_isText_X14_isPactLine : GoodIn wsX14_isText wsX14_isPactLine := goodIn_r _ [89, 7, 33, 34, 35, 36, 37, 12, 13, 14, 4, 15, 16, 17, 18, 19, 20, 1, 2, 3, 5, 6, 21, 22, 23, 24, 67, 68, 69, 70, 71, 72, 73, 59, 60, 61, 62, 45, 46, 47, 48, 74, 75, 76, 77, 78, 54, 79, 80, 81, 82, 83, 84, 85, 63, 64, 65, 66, 55, 56, 57, 58, 90, 91, 92, 93, 94, 95, 96, 97, 98, 99, 100, 101, 102, 103, 104, 105, 106, 107, 108, 109, 110, 111, 112, 113, 114, 115, 116, 117, 118, 119, 120, 121, 122, 123, 124, 125, 126, 127, 128, 129] (by decide +kernel) (by decide +kernel)
set_option maxRecDepth 20000 in
theorem gX14_isText_X14_isPactLine : GoodIn wsX14_isText (wsV RX14 142 RX14 yX14_isPactLine wsX14_isPactLine) := goodIn_app (goodIn_of _ (by decide +kernel)) ggX14_isText_X14_isPactLine
set_option maxRecDepth 20000 in
theorem ggX14_isText_X14_isGoLine : GoodIn wsX14_isText wsX14_isGoLine := goodIn_r _ [32, 16, 7, 33, 34, 35, 36, 37, 12, 13, 14, 4, 15, 17, 18, 19, 20, 1, 2, 3, 5, 6, 38, 39, 40, 41, 42, 43, 44, 45, 46, 47, 48, 49, 50, 51, 52, 53, 54, 55, 56, 57, 58, 59, 60, 61, 62, 21, 22, 23, 24, 63, 64, 65, 66, 67, 68, 69, 70, 71, 72, 73, 74, 75, 76, 77, 78, 79, 80, 81, 82, 83, 84, 85, 90, 91, 92, 93, 94, 95, 96, 97, 98, 99, 100, 101, 102, 103, 104, 105, 106, 107, 108, 109, 110, 111, 112, 113, 114, 115, 116, 117, 118, 119, 120, 121, 122, 123, 124, 125, 126, 127, 128, 129] (by decide +kernel) (by decide +kernel)
set_option maxRecDepth 20000 in
theorem gX14_isText_X14_isGoLine : GoodIn wsX14_isText (wsV RX14 139 RX14 yX14_isGoLine wsX14_isGoLine) := goodIn_app (goodIn_of _ (by decide +kernel)) ggX14_isText_X14_isGoLine
set_option maxRecDepth 20000 in
theorem ggX14_isText_X14_isFisherLine : GoodIn wsX14_isText wsX14_isFisherLine := goodIn_r _ [28, 7, 12, 13, 14, 4, 15, 16, 17, 18, 19, 20, 1, 2, 3, 5, 6, 90, 91, 92, 93, 94, 95, 96, 97, 98, 99, 100, 101, 102, 103, 104] (by decide +kernel) (by decide +kernel)
set_option maxRecDepth 20000 in
theorem gX14_isText_X14_isFisherLine : GoodIn wsX14_isText (wsV RX14 136 RX14 yX14_isFisherLine wsX14_isFisherLine) := goodIn_app (goodIn_of _ (by decide +kernel)) ggX14_isText_X14_isFisherLine
set_option maxRecDepth 20000 in
theorem ggX14_isText_X14_isGroundLine : GoodIn wsX14_isText wsX14_isGroundLine := goodIn_r _ [11, 7, 12, 13, 14, 4, 15, 16, 17, 18, 19, 20, 1, 2, 3, 5, 6, 21, 22, 23, 24, 90, 91, 92, 93, 94, 95, 96, 97, 98, 99, 100, 101, 102, 103, 104] (by decide +kernel) (by decide +kernel)
set_option maxRecDepth 20000 in
theorem gX14_isText_X14_isGroundLine : GoodIn wsX14_isText (wsV RX14 132 RX14 yX14_isGroundLine wsX14_isGroundLine) := goodIn_app (goodIn_of _ (by decide +kernel)) ggX14_isText_X14_isGroundLine
abbrev rX14_isText : Room := { frames := 70, cells := 0, slots := 0, locals := 2687 }
noncomputable def b_X14_isText_91 (M : gMem)  : Option (Int32 × gMem) :=
  some ((0 : Int32), M)
noncomputable def b_X14_isText_77 (M : gMem) (x0 : Nat) (s0 : Int32) : Option ((gMem) ⊕ (Int32 × gMem)) :=
  (if s0 = 0 then oI (b_X14_isText_91 M ) else ck (mT M x0 = 13) <| bd (f_X14_eatSign M x0 ((59 : Int32))) fun r2 M2 => (if r2 = 0 then oI (b_X14_isText_91 M2 ) else some (.inl M2)))
noncomputable def b_X14_isText_76 (M : gMem) (x0 : Nat) : Option ((gMem) ⊕ (Int32 × gMem)) :=
  b_X14_isText_77 M x0 ((0 : Int32))
noncomputable def bb_X14_isText_0 (M : gMem) (x0 : Nat) : Option ((gMem) ⊕ (Int32 × gMem)) :=
  ck (mT M x0 = 13) <| bd (f_X14_is M x0 ((900 : Int32))) fun r5 M5 => (if r5 = 0 then ck (mT M5 x0 = 13) <| bd (f_X14_is M5 x0 ((0 : Int32))) fun r8 M8 => (if r8 = 0 then ck (mT M8 x0 = 13) <| bd (f_X14_is M8 x0 ((3 : Int32))) fun r10 M10 => (if r10 = 0 then ck (mT M10 x0 = 13) <| bd (f_X14_is M10 x0 ((7 : Int32))) fun r12 M12 => (if r12 = 0 then ck (mT M12 x0 = 13) <| bd (f_X14_is M12 x0 ((10 : Int32))) fun r14 M14 => (if r14 = 0 then b_X14_isText_76 M14 x0 else ck (mT M14 x0 = 13) <| bd (f_X14_isPactLine M14 x0) fun r16 M16 => (if r16 = 0 then b_X14_isText_76 M16 x0 else b_X14_isText_77 M16 x0 ((1 : Int32)))) else ck (mT M12 x0 = 13) <| bd (f_X14_isGoLine M12 x0) fun r18 M18 => b_X14_isText_77 M18 x0 r18) else ck (mT M10 x0 = 13) <| bd (f_X14_isFisherLine M10 x0) fun r20 M20 => b_X14_isText_77 M20 x0 r20) else ck (mT M8 x0 = 13) <| bd (f_X14_isGroundLine M8 x0) fun r22 M22 => b_X14_isText_77 M22 x0 r22) else oI (some ((1 : Int32), M5)))
noncomputable def lp_X14_isText_0 (M : gMem) (x0 : Nat) : Option (Int32 × gMem) :=
  lp (fun (q : gMem) => bb_X14_isText_0 q x0) M
noncomputable def f_X14_isText (M : gMem) (x0 : Nat) : Option (Int32 × gMem) :=
  lp_X14_isText_0 M x0
set_option maxHeartbeats 4000000 in
set_option maxRecDepth 100000 in
theorem t_X14_isText_91 (X : gX p s m args meth c D cy B (gSt Z B H0) RX14 cX14_isText wsX14_isText 2) (hr : meth.sig.returnType = (some .boolean)) {Q : State → Prop} : ∀ (M : gMem)  (z : Int32 × gMem), b_X14_isText_91 M  = some z → (fun (r : Int32 × gMem) => Q = gMQ below D cy B H0 args s 0 0 (some (vI r.1)) r.2) z → gGo p l e rX14_isText s m args below meth c D cy B H0 2 0 0 Q 91 [] [] M := by
  intro M  z hf hK
  unfold b_X14_isText_91 at hf
  refine g_iconst (v := (0 : Int32)) X dX14_isText_91 (by decide) ?_
  cases hf
  refine g_eqQ hK ?_
  exact g_zret X hr (gnb (Or.inl rfl)) dX14_isText_92
set_option maxHeartbeats 4000000 in
set_option maxRecDepth 100000 in
theorem t_X14_isText_77 (X : gX p s m args meth c D cy B (gSt Z B H0) RX14 cX14_isText wsX14_isText 2) (hr : meth.sig.returnType = (some .boolean)) {Q : State → Prop} : ∀ (M : gMem) (x0 : Nat) (s0 : Int32) (z : (gMem) ⊕ (Int32 × gMem)), b_X14_isText_77 M x0 s0 = some z → (Sum.elim (fun (q : gMem) => gGo p l e rX14_isText s m args below meth c D cy B H0 2 0 0 Q 0 [(0, vR (some x0))] [] q) (fun (r : Int32 × gMem) => Q = gMQ below D cy B H0 args s 0 0 (some (vI r.1)) r.2)) z → gGo p l e rX14_isText s m args below meth c D cy B H0 2 0 0 Q 77 [(0, vR (some x0))] [vI s0] M := by
  intro M x0 s0 z hf hK
  unfold b_X14_isText_77 at hf
  refine g_istore_n (lv' := [(1, vI s0), (0, vR (some x0))]) X dX14_isText_77 rfl (by decide) rfl ?_
  refine g_iload_n X dX14_isText_78 rfl rfl ?_
  refine g_if_eq (tgt := 91) X dX14_isText_79 (by decide) (fun hc => ?_) (fun hc => ?_)
  · have hf := ife_t hc hf
    obtain ⟨w1, hw1, hz1⟩ := oI_e hf
    subst hz1
    have hf := hw1
    refine g_sub (lvsub_of _ _ [] rfl) ?_
    exact t_X14_isText_91 X hr _  _ hf hK
  · have hf := ife_f hc hf
    refine g_aload_n X dX14_isText_82 rfl rfl ?_
    refine g_bipush (v := (59 : Int32)) X dX14_isText_83 (by decide) ?_
    obtain ⟨hT3, hf⟩ := ck_e hf
    obtain ⟨r2, M2, hq2, hf⟩ := bd_e hf
    refine g_callV (ci := 12) (b := x0) (As := [vI (59 : Int32)]) (st := []) (v := some (vI r2)) (M1 := M2) X (m_X14_eatSign l hq2) (cwV 1 X.2.2.1 gX14_isText_X14_eatSign rfl rfl rfl (by decide +kernel) ⟨Nat.le_of_ble_eq_true rfl, Nat.le_of_ble_eq_true rfl⟩) rfl rfl rfl hT3 (by decide) rfl (Nat.le_of_ble_eq_true rfl) dX14_isText_85 ⟨by decide, by decide⟩ ?_
    refine g_if_ne (tgt := 93) X dX14_isText_88 (by decide) (fun hc => ?_) (fun hc => ?_)
    · have hf := ife_f hc hf
      refine g_goto (tgt := 0) X dX14_isText_93 (by decide) ?_
      cases hf
      refine g_sub (lvsub_of _ _ [1] rfl) ?_
      exact hK
    · have hf := ife_t hc hf
      obtain ⟨w4, hw4, hz4⟩ := oI_e hf
      subst hz4
      have hf := hw4
      refine g_sub (lvsub_of _ _ [] rfl) ?_
      exact t_X14_isText_91 X hr _  _ hf hK
set_option maxHeartbeats 4000000 in
set_option maxRecDepth 100000 in
theorem t_X14_isText_76 (X : gX p s m args meth c D cy B (gSt Z B H0) RX14 cX14_isText wsX14_isText 2) (hr : meth.sig.returnType = (some .boolean)) {Q : State → Prop} : ∀ (M : gMem) (x0 : Nat) (z : (gMem) ⊕ (Int32 × gMem)), b_X14_isText_76 M x0 = some z → (Sum.elim (fun (q : gMem) => gGo p l e rX14_isText s m args below meth c D cy B H0 2 0 0 Q 0 [(0, vR (some x0))] [] q) (fun (r : Int32 × gMem) => Q = gMQ below D cy B H0 args s 0 0 (some (vI r.1)) r.2)) z → gGo p l e rX14_isText s m args below meth c D cy B H0 2 0 0 Q 76 [(0, vR (some x0))] [] M := by
  intro M x0 z hf hK
  unfold b_X14_isText_76 at hf
  refine g_iconst (v := (0 : Int32)) X dX14_isText_76 (by decide) ?_
  refine g_sub (lvsub_of _ _ [0] rfl) ?_
  exact t_X14_isText_77 X hr _ _ _ _ hf hK
set_option maxHeartbeats 4000000 in
set_option maxRecDepth 100000 in
theorem tb_X14_isText_0 (X : gX p s m args meth c D cy B (gSt Z B H0) RX14 cX14_isText wsX14_isText 2) (hr : meth.sig.returnType = (some .boolean)) {Q : State → Prop} : ∀ (M : gMem) (x0 : Nat) (z : (gMem) ⊕ (Int32 × gMem)), bb_X14_isText_0 M x0 = some z → (Sum.elim (fun (q : gMem) => gGo p l e rX14_isText s m args below meth c D cy B H0 2 0 0 Q 0 [(0, vR (some x0))] [] q) (fun (r : Int32 × gMem) => Q = gMQ below D cy B H0 args s 0 0 (some (vI r.1)) r.2)) z → gGo p l e rX14_isText s m args below meth c D cy B H0 2 0 0 Q 0 [(0, vR (some x0))] [] M := by
  intro M x0 z hf hK
  unfold bb_X14_isText_0 at hf
  refine g_aload_n X dX14_isText_0 rfl rfl ?_
  refine g_sipush (v := (900 : Int32)) X dX14_isText_1 (by decide) ?_
  obtain ⟨hT6, hf⟩ := ck_e hf
  obtain ⟨r5, M5, hq5, hf⟩ := bd_e hf
  refine g_callV (ci := 12) (b := x0) (As := [vI (900 : Int32)]) (st := []) (v := some (vI r5)) (M1 := M5) X (m_X14_is l hq5) (cwV 1 X.2.2.1 gX14_isText_X14_is rfl rfl rfl (by decide +kernel) ⟨Nat.le_of_ble_eq_true rfl, Nat.le_of_ble_eq_true rfl⟩) rfl rfl rfl hT6 (by decide) rfl (Nat.le_of_ble_eq_true rfl) dX14_isText_4 ⟨by decide, by decide⟩ ?_
  refine g_if_ne (tgt := 96) X dX14_isText_7 (by decide) (fun hc => ?_) (fun hc => ?_)
  · have hf := ife_f hc hf
    refine g_iconst (v := (1 : Int32)) X dX14_isText_96 (by decide) ?_
    obtain ⟨w7, hw7, hz7⟩ := oI_e hf
    subst hz7
    have hf := hw7
    cases hf
    refine g_eqQ hK ?_
    exact g_zret X hr (gnb (Or.inr rfl)) dX14_isText_97
  · have hf := ife_t hc hf
    refine g_aload_n X dX14_isText_10 rfl rfl ?_
    refine g_iconst (v := (0 : Int32)) X dX14_isText_11 (by decide) ?_
    obtain ⟨hT9, hf⟩ := ck_e hf
    obtain ⟨r8, M8, hq8, hf⟩ := bd_e hf
    refine g_callV (ci := 12) (b := x0) (As := [vI (0 : Int32)]) (st := []) (v := some (vI r8)) (M1 := M8) X (m_X14_is l hq8) (cwV 1 X.2.2.1 gX14_isText_X14_is rfl rfl rfl (by decide +kernel) ⟨Nat.le_of_ble_eq_true rfl, Nat.le_of_ble_eq_true rfl⟩) rfl rfl rfl hT9 (by decide) rfl (Nat.le_of_ble_eq_true rfl) dX14_isText_12 ⟨by decide, by decide⟩ ?_
    refine g_if_eq (tgt := 25) X dX14_isText_15 (by decide) (fun hc => ?_) (fun hc => ?_)
    · have hf := ife_t hc hf
      refine g_aload_n X dX14_isText_25 rfl rfl ?_
      refine g_iconst (v := (3 : Int32)) X dX14_isText_26 (by decide) ?_
      obtain ⟨hT11, hf⟩ := ck_e hf
      obtain ⟨r10, M10, hq10, hf⟩ := bd_e hf
      refine g_callV (ci := 12) (b := x0) (As := [vI (3 : Int32)]) (st := []) (v := some (vI r10)) (M1 := M10) X (m_X14_is l hq10) (cwV 1 X.2.2.1 gX14_isText_X14_is rfl rfl rfl (by decide +kernel) ⟨Nat.le_of_ble_eq_true rfl, Nat.le_of_ble_eq_true rfl⟩) rfl rfl rfl hT11 (by decide) rfl (Nat.le_of_ble_eq_true rfl) dX14_isText_27 ⟨by decide, by decide⟩ ?_
      refine g_if_eq (tgt := 40) X dX14_isText_30 (by decide) (fun hc => ?_) (fun hc => ?_)
      · have hf := ife_t hc hf
        refine g_aload_n X dX14_isText_40 rfl rfl ?_
        refine g_bipush (v := (7 : Int32)) X dX14_isText_41 (by decide) ?_
        obtain ⟨hT13, hf⟩ := ck_e hf
        obtain ⟨r12, M12, hq12, hf⟩ := bd_e hf
        refine g_callV (ci := 12) (b := x0) (As := [vI (7 : Int32)]) (st := []) (v := some (vI r12)) (M1 := M12) X (m_X14_is l hq12) (cwV 1 X.2.2.1 gX14_isText_X14_is rfl rfl rfl (by decide +kernel) ⟨Nat.le_of_ble_eq_true rfl, Nat.le_of_ble_eq_true rfl⟩) rfl rfl rfl hT13 (by decide) rfl (Nat.le_of_ble_eq_true rfl) dX14_isText_43 ⟨by decide, by decide⟩ ?_
        refine g_if_eq (tgt := 56) X dX14_isText_46 (by decide) (fun hc => ?_) (fun hc => ?_)
        · have hf := ife_t hc hf
          refine g_aload_n X dX14_isText_56 rfl rfl ?_
          refine g_bipush (v := (10 : Int32)) X dX14_isText_57 (by decide) ?_
          obtain ⟨hT15, hf⟩ := ck_e hf
          obtain ⟨r14, M14, hq14, hf⟩ := bd_e hf
          refine g_callV (ci := 12) (b := x0) (As := [vI (10 : Int32)]) (st := []) (v := some (vI r14)) (M1 := M14) X (m_X14_is l hq14) (cwV 1 X.2.2.1 gX14_isText_X14_is rfl rfl rfl (by decide +kernel) ⟨Nat.le_of_ble_eq_true rfl, Nat.le_of_ble_eq_true rfl⟩) rfl rfl rfl hT15 (by decide) rfl (Nat.le_of_ble_eq_true rfl) dX14_isText_59 ⟨by decide, by decide⟩ ?_
          refine g_if_eq (tgt := 76) X dX14_isText_62 (by decide) (fun hc => ?_) (fun hc => ?_)
          · have hf := ife_t hc hf
            refine g_sub (lvsub_of _ _ [0] rfl) ?_
            exact t_X14_isText_76 X hr _ _ _ hf hK
          · have hf := ife_f hc hf
            refine g_aload_n X dX14_isText_65 rfl rfl ?_
            obtain ⟨hT17, hf⟩ := ck_e hf
            obtain ⟨r16, M16, hq16, hf⟩ := bd_e hf
            refine g_callV (ci := 12) (b := x0) (As := []) (st := []) (v := some (vI r16)) (M1 := M16) X (m_X14_isPactLine l hq16) (cwV 0 X.2.2.1 gX14_isText_X14_isPactLine rfl rfl rfl (by decide +kernel) ⟨Nat.le_of_ble_eq_true rfl, Nat.le_of_ble_eq_true rfl⟩) rfl rfl rfl hT17 (by decide) rfl (Nat.le_of_ble_eq_true rfl) dX14_isText_66 ⟨by decide, by decide⟩ ?_
            refine g_if_eq (tgt := 76) X dX14_isText_69 (by decide) (fun hc => ?_) (fun hc => ?_)
            · have hf := ife_t hc hf
              refine g_sub (lvsub_of _ _ [0] rfl) ?_
              exact t_X14_isText_76 X hr _ _ _ hf hK
            · have hf := ife_f hc hf
              refine g_iconst (v := (1 : Int32)) X dX14_isText_72 (by decide) ?_
              refine g_goto (tgt := 77) X dX14_isText_73 (by decide) ?_
              refine g_sub (lvsub_of _ _ [0] rfl) ?_
              exact t_X14_isText_77 X hr _ _ _ _ hf hK
        · have hf := ife_f hc hf
          refine g_aload_n X dX14_isText_49 rfl rfl ?_
          obtain ⟨hT19, hf⟩ := ck_e hf
          obtain ⟨r18, M18, hq18, hf⟩ := bd_e hf
          refine g_callV (ci := 12) (b := x0) (As := []) (st := []) (v := some (vI r18)) (M1 := M18) X (m_X14_isGoLine l hq18) (cwV 0 X.2.2.1 gX14_isText_X14_isGoLine rfl rfl rfl (by decide +kernel) ⟨Nat.le_of_ble_eq_true rfl, Nat.le_of_ble_eq_true rfl⟩) rfl rfl rfl hT19 (by decide) rfl (Nat.le_of_ble_eq_true rfl) dX14_isText_50 ⟨by decide, by decide⟩ ?_
          refine g_goto (tgt := 77) X dX14_isText_53 (by decide) ?_
          refine g_sub (lvsub_of _ _ [0] rfl) ?_
          exact t_X14_isText_77 X hr _ _ _ _ hf hK
      · have hf := ife_f hc hf
        refine g_aload_n X dX14_isText_33 rfl rfl ?_
        obtain ⟨hT21, hf⟩ := ck_e hf
        obtain ⟨r20, M20, hq20, hf⟩ := bd_e hf
        refine g_callV (ci := 12) (b := x0) (As := []) (st := []) (v := some (vI r20)) (M1 := M20) X (m_X14_isFisherLine l hq20) (cwV 0 X.2.2.1 gX14_isText_X14_isFisherLine rfl rfl rfl (by decide +kernel) ⟨Nat.le_of_ble_eq_true rfl, Nat.le_of_ble_eq_true rfl⟩) rfl rfl rfl hT21 (by decide) rfl (Nat.le_of_ble_eq_true rfl) dX14_isText_34 ⟨by decide, by decide⟩ ?_
        refine g_goto (tgt := 77) X dX14_isText_37 (by decide) ?_
        refine g_sub (lvsub_of _ _ [0] rfl) ?_
        exact t_X14_isText_77 X hr _ _ _ _ hf hK
    · have hf := ife_f hc hf
      refine g_aload_n X dX14_isText_18 rfl rfl ?_
      obtain ⟨hT23, hf⟩ := ck_e hf
      obtain ⟨r22, M22, hq22, hf⟩ := bd_e hf
      refine g_callV (ci := 12) (b := x0) (As := []) (st := []) (v := some (vI r22)) (M1 := M22) X (m_X14_isGroundLine l hq22) (cwV 0 X.2.2.1 gX14_isText_X14_isGroundLine rfl rfl rfl (by decide +kernel) ⟨Nat.le_of_ble_eq_true rfl, Nat.le_of_ble_eq_true rfl⟩) rfl rfl rfl hT23 (by decide) rfl (Nat.le_of_ble_eq_true rfl) dX14_isText_19 ⟨by decide, by decide⟩ ?_
      refine g_goto (tgt := 77) X dX14_isText_22 (by decide) ?_
      refine g_sub (lvsub_of _ _ [0] rfl) ?_
      exact t_X14_isText_77 X hr _ _ _ _ hf hK
set_option maxHeartbeats 4000000 in
set_option maxRecDepth 100000 in
theorem tl_X14_isText_0 (X : gX p s m args meth c D cy B (gSt Z B H0) RX14 cX14_isText wsX14_isText 2) (hr : meth.sig.returnType = (some .boolean)) {Q : State → Prop} : ∀ (M : gMem) (x0 : Nat) (z : Int32 × gMem), lp_X14_isText_0 M x0 = some z → (fun (r : Int32 × gMem) => Q = gMQ below D cy B H0 args s 0 0 (some (vI r.1)) r.2) z → gGo p l e rX14_isText s m args below meth c D cy B H0 2 0 0 Q 0 [(0, vR (some x0))] [] M := by
  intro M x0 z hf hK
  refine lp_ind (P := (fun (q : gMem) (z : Int32 × gMem) => (fun (r : Int32 × gMem) => Q = gMQ below D cy B H0 args s 0 0 (some (vI r.1)) r.2) z → gGo p l e rX14_isText s m args below meth c D cy B H0 2 0 0 Q 0 [(0, vR (some x0))] [] q)) (fun q z hq => ?_) _ _ hf hK
  intro hK
  obtain ⟨w, hw, hm⟩ := hq
  refine tb_X14_isText_0 X hr _ _ w hw ?_
  cases w with
  | inl a => exact hm hK
  | inr b => cases hm; exact hK
set_option maxHeartbeats 4000000 in
set_option maxRecDepth 100000 in
theorem m_X14_isText (l : Launch) {D : va_G} {cy : Nat → ClassId} {B : Nat} {H0 : Heap} {Z : Nat → Nat} {M M1 : gMem} {x0 : Nat} {r : Int32} (hf : f_X14_isText M x0 = some (r, M1)) : Met l yX14_isText wsX14_isText rX14_isText (va_Pc (Value.ref x0 :: List.map gv []) (gPre D cy B H0 (gSt Z B H0) M)) (gQ D cy B H0 (some (vI r)) M1) 0 0 (gA B) := by
  refine Met.ofW (cc := cX14_isText) (maxL := 2) (ret := (some .boolean)) (by decide) rfl ?_
  intro p e s m args below meth c s₁ Bd hml hv
  obtain ⟨rfl, hW, hKK, hFs⟩ := hv
  have X : gX p s m _ meth c D cy B (gSt Z B H0) RX14 cX14_isText wsX14_isText 2 := ⟨Bd.exec, Bd.bytes, atoms_spec (ws := wsX14_isText) Bd.pre, findClass_of_methodNamed Bd.named, hml, hKK, by rw [hW.1]; exact hW.2.1, Bd.notSynchronized, hFs⟩
  have hr := Bd.returns
  have hl := lv_entry ([.ref x0]) (n := 2) (Nat.le_of_ble_eq_true rfl)
  show W p l e rX14_isText s m _ below meth c s.heap [] 0 0 _ (entryFrame m ([.ref x0] : List Value).toArray 2)
  rw [lg_entry_eq]
  generalize (lg_sl ([.ref x0]) ++ List.replicate (2 - (lg_sl ([.ref x0])).length) Slot.unset).toArray = ls at hl ⊢
  have hl : lv_has ls 2 (List.map gq [(0, vR (some x0))]) := hl
  exact tl_X14_isText_0 X hr _ _ _ hf rfl s.heap [] ls hW va_S.rf (lv_has_sub hl (lvsub_of _ _ [0] rfl))
/-! ## TideLotsModel.isSame(II)Z -/
theorem dX14_isSame_0 : decode cX14_isSame 0 = .ok (.aload_n 0, 1) := by decide +kernel
theorem dX14_isSame_1 : decode cX14_isSame 1 = .ok (.getfield 23, 3) := by decide +kernel
theorem dX14_isSame_4 : decode cX14_isSame 4 = .ok (.iload_n 1, 1) := by decide +kernel
theorem dX14_isSame_5 : decode cX14_isSame 5 = .ok (.iaload, 1) := by decide +kernel
theorem dX14_isSame_6 : decode cX14_isSame 6 = .ok (.aload_n 0, 1) := by decide +kernel
theorem dX14_isSame_7 : decode cX14_isSame 7 = .ok (.getfield 23, 3) := by decide +kernel
theorem dX14_isSame_10 : decode cX14_isSame 10 = .ok (.iload_n 2, 1) := by decide +kernel
theorem dX14_isSame_11 : decode cX14_isSame 11 = .ok (.iaload, 1) := by decide +kernel
theorem dX14_isSame_12 : decode cX14_isSame 12 = .ok (.if_icmp .eq 5, 3) := by decide +kernel
theorem dX14_isSame_15 : decode cX14_isSame 15 = .ok (.iconst 0, 1) := by decide +kernel
theorem dX14_isSame_16 : decode cX14_isSame 16 = .ok (.ireturn, 1) := by decide +kernel
theorem dX14_isSame_17 : decode cX14_isSame 17 = .ok (.iconst 0, 1) := by decide +kernel
theorem dX14_isSame_18 : decode cX14_isSame 18 = .ok (.istore_n 3, 1) := by decide +kernel
theorem dX14_isSame_19 : decode cX14_isSame 19 = .ok (.iload_n 3, 1) := by decide +kernel
theorem dX14_isSame_20 : decode cX14_isSame 20 = .ok (.aload_n 0, 1) := by decide +kernel
theorem dX14_isSame_21 : decode cX14_isSame 21 = .ok (.getfield 23, 3) := by decide +kernel
theorem dX14_isSame_24 : decode cX14_isSame 24 = .ok (.iload_n 1, 1) := by decide +kernel
theorem dX14_isSame_25 : decode cX14_isSame 25 = .ok (.iaload, 1) := by decide +kernel
theorem dX14_isSame_26 : decode cX14_isSame 26 = .ok (.if_icmp .ge 40, 3) := by decide +kernel
theorem dX14_isSame_29 : decode cX14_isSame 29 = .ok (.aload_n 0, 1) := by decide +kernel
theorem dX14_isSame_30 : decode cX14_isSame 30 = .ok (.getfield 9, 3) := by decide +kernel
theorem dX14_isSame_33 : decode cX14_isSame 33 = .ok (.aload_n 0, 1) := by decide +kernel
theorem dX14_isSame_34 : decode cX14_isSame 34 = .ok (.getfield 20, 3) := by decide +kernel
theorem dX14_isSame_37 : decode cX14_isSame 37 = .ok (.iload_n 1, 1) := by decide +kernel
theorem dX14_isSame_38 : decode cX14_isSame 38 = .ok (.iaload, 1) := by decide +kernel
theorem dX14_isSame_39 : decode cX14_isSame 39 = .ok (.iload_n 3, 1) := by decide +kernel
theorem dX14_isSame_40 : decode cX14_isSame 40 = .ok (.iadd, 1) := by decide +kernel
theorem dX14_isSame_41 : decode cX14_isSame 41 = .ok (.iaload, 1) := by decide +kernel
theorem dX14_isSame_42 : decode cX14_isSame 42 = .ok (.aload_n 0, 1) := by decide +kernel
theorem dX14_isSame_43 : decode cX14_isSame 43 = .ok (.getfield 9, 3) := by decide +kernel
theorem dX14_isSame_46 : decode cX14_isSame 46 = .ok (.aload_n 0, 1) := by decide +kernel
theorem dX14_isSame_47 : decode cX14_isSame 47 = .ok (.getfield 20, 3) := by decide +kernel
theorem dX14_isSame_50 : decode cX14_isSame 50 = .ok (.iload_n 2, 1) := by decide +kernel
theorem dX14_isSame_51 : decode cX14_isSame 51 = .ok (.iaload, 1) := by decide +kernel
theorem dX14_isSame_52 : decode cX14_isSame 52 = .ok (.iload_n 3, 1) := by decide +kernel
theorem dX14_isSame_53 : decode cX14_isSame 53 = .ok (.iadd, 1) := by decide +kernel
theorem dX14_isSame_54 : decode cX14_isSame 54 = .ok (.iaload, 1) := by decide +kernel
theorem dX14_isSame_55 : decode cX14_isSame 55 = .ok (.if_icmp .eq 5, 3) := by decide +kernel
theorem dX14_isSame_58 : decode cX14_isSame 58 = .ok (.iconst 0, 1) := by decide +kernel
theorem dX14_isSame_59 : decode cX14_isSame 59 = .ok (.ireturn, 1) := by decide +kernel
theorem dX14_isSame_60 : decode cX14_isSame 60 = .ok (.iinc 3 1, 3) := by decide +kernel
theorem dX14_isSame_63 : decode cX14_isSame 63 = .ok (.goto (-44), 3) := by decide +kernel
theorem dX14_isSame_66 : decode cX14_isSame 66 = .ok (.iconst 1, 1) := by decide +kernel
theorem dX14_isSame_67 : decode cX14_isSame 67 = .ok (.ireturn, 1) := by decide +kernel
theorem k_X14_isSame_f23 : Cond.fieldLink RX14 23 "TideLotsModel" "many" "[I" ∈ wsX14_isSame := by decide +kernel
theorem i_X14_isSame_X14 : ∀ w ∈ u_ws RX14 TX14 15, w ∈ wsX14_isSame := by decide +kernel
theorem k_X14_isSame_f9 : Cond.fieldLink RX14 9 "TideLotsModel" "tape" "[I" ∈ wsX14_isSame := by decide +kernel
theorem k_X14_isSame_f20 : Cond.fieldLink RX14 20 "TideLotsModel" "from" "[I" ∈ wsX14_isSame := by decide +kernel
abbrev rX14_isSame : Room := { frames := 0, cells := 0, slots := 0, locals := 0 }
noncomputable def bb_X14_isSame_19 (M : gMem) (x0 : Nat) (x1 : Int32) (x2 : Int32) (x3 : Int32) : Option ((gMem × Int32) ⊕ (Int32 × gMem)) :=
  ck (mT M x0 = 13) <| dr ((mR M x0 6)) fun a2 => ck (mT M a2 = 20) <| ck (inb x1 (mL M a2)) <| (if (mI M a2 x1.toNatClampNeg) ≤ x3 then oI (some ((1 : Int32), M)) else dr ((mR M x0 5)) fun a6 => ck (mT M a6 = 20) <| ck (inb x1 (mL M a6)) <| dr ((mR M x0 1)) fun a9 => ck (mT M a9 = 20) <| ck (inb ((mI M a6 x1.toNatClampNeg) + x3) (mL M a9)) <| ck (inb x2 (mL M a6)) <| ck (inb ((mI M a6 x2.toNatClampNeg) + x3) (mL M a9)) <| (if (mI M a9 (((mI M a6 x1.toNatClampNeg) + x3)).toNatClampNeg) = (mI M a9 (((mI M a6 x2.toNatClampNeg) + x3)).toNatClampNeg) then some (.inl (M, (x3 + (1 : Int32)))) else oI (some ((0 : Int32), M))))
noncomputable def lp_X14_isSame_19 (M : gMem) (x0 : Nat) (x1 : Int32) (x2 : Int32) (x3 : Int32) : Option (Int32 × gMem) :=
  lp (fun (q : gMem × Int32) => bb_X14_isSame_19 q.1 x0 x1 x2 q.2) (M, x3)
noncomputable def b_X14_isSame_0 (M : gMem) (x0 : Nat) (x1 : Int32) (x2 : Int32) : Option (Int32 × gMem) :=
  ck (mT M x0 = 13) <| dr ((mR M x0 6)) fun a16 => ck (mT M a16 = 20) <| ck (inb x1 (mL M a16)) <| ck (inb x2 (mL M a16)) <| (if (mI M a16 x1.toNatClampNeg) = (mI M a16 x2.toNatClampNeg) then lp_X14_isSame_19 M x0 x1 x2 ((0 : Int32)) else some ((0 : Int32), M))
noncomputable def f_X14_isSame (M : gMem) (x0 : Nat) (x1 : Int32) (x2 : Int32) : Option (Int32 × gMem) :=
  b_X14_isSame_0 M x0 x1 x2
set_option maxHeartbeats 4000000 in
set_option maxRecDepth 100000 in
theorem tb_X14_isSame_19 (X : gX p s m args meth c D cy B (gSt Z B H0) RX14 cX14_isSame wsX14_isSame 4) (hr : meth.sig.returnType = (some .boolean)) {Q : State → Prop} : ∀ (M : gMem) (x0 : Nat) (x1 : Int32) (x2 : Int32) (x3 : Int32) (z : (gMem × Int32) ⊕ (Int32 × gMem)), bb_X14_isSame_19 M x0 x1 x2 x3 = some z → (Sum.elim (fun (q : gMem × Int32) => gGo p l e rX14_isSame s m args below meth c D cy B H0 4 0 0 Q 19 [(0, vR (some x0)), (1, vI x1), (2, vI x2), (3, vI q.2)] [] q.1) (fun (r : Int32 × gMem) => Q = gMQ below D cy B H0 args s 0 0 (some (vI r.1)) r.2)) z → gGo p l e rX14_isSame s m args below meth c D cy B H0 4 0 0 Q 19 [(0, vR (some x0)), (1, vI x1), (2, vI x2), (3, vI x3)] [] M := by
  intro M x0 x1 x2 x3 z hf hK
  unfold bb_X14_isSame_19 at hf
  refine g_iload_n X dX14_isSame_19 rfl rfl ?_
  refine g_aload_n X dX14_isSame_20 rfl rfl ?_
  obtain ⟨hT1, hf⟩ := ck_e hf
  refine g_get (ci := 12) (v := vR (mR M x0 6)) 6 X cdX14 i_X14_isSame_X14 (by decide) k_X14_isSame_f23 rfl dX14_isSame_21 rfl hT1 rfl ?_
  refine g_iload_n X dX14_isSame_24 rfl rfl ?_
  obtain ⟨a2, ha2, hf⟩ := dr_e hf
  obtain ⟨hT3, hf⟩ := ck_e hf
  obtain ⟨hg4, hf⟩ := ck_e hf
  refine g_iald X dX14_isSame_25 ha2 hT3 hg4 ?_
  refine g_icmp_ge (tgt := 66) X dX14_isSame_26 (by decide) (fun hc => ?_) (fun hc => ?_)
  · have hf := ife_t hc hf
    refine g_iconst (v := (1 : Int32)) X dX14_isSame_66 (by decide) ?_
    obtain ⟨w5, hw5, hz5⟩ := oI_e hf
    subst hz5
    have hf := hw5
    cases hf
    refine g_eqQ hK ?_
    exact g_zret X hr (gnb (Or.inr rfl)) dX14_isSame_67
  · have hf := ife_f hc hf
    refine g_aload_n X dX14_isSame_29 rfl rfl ?_
    refine g_get (ci := 12) (v := vR (mR M x0 1)) 1 X cdX14 i_X14_isSame_X14 (by decide) k_X14_isSame_f9 rfl dX14_isSame_30 rfl hT1 rfl ?_
    refine g_aload_n X dX14_isSame_33 rfl rfl ?_
    refine g_get (ci := 12) (v := vR (mR M x0 5)) 5 X cdX14 i_X14_isSame_X14 (by decide) k_X14_isSame_f20 rfl dX14_isSame_34 rfl hT1 rfl ?_
    refine g_iload_n X dX14_isSame_37 rfl rfl ?_
    obtain ⟨a6, ha6, hf⟩ := dr_e hf
    obtain ⟨hT7, hf⟩ := ck_e hf
    obtain ⟨hg8, hf⟩ := ck_e hf
    refine g_iald X dX14_isSame_38 ha6 hT7 hg8 ?_
    refine g_iload_n X dX14_isSame_39 rfl rfl ?_
    refine g_iadd X dX14_isSame_40 ?_
    obtain ⟨a9, ha9, hf⟩ := dr_e hf
    obtain ⟨hT10, hf⟩ := ck_e hf
    obtain ⟨hg11, hf⟩ := ck_e hf
    refine g_iald X dX14_isSame_41 ha9 hT10 hg11 ?_
    refine g_aload_n X dX14_isSame_42 rfl rfl ?_
    refine g_get (ci := 12) (v := vR (mR M x0 1)) 1 X cdX14 i_X14_isSame_X14 (by decide) k_X14_isSame_f9 rfl dX14_isSame_43 rfl hT1 rfl ?_
    refine g_aload_n X dX14_isSame_46 rfl rfl ?_
    refine g_get (ci := 12) (v := vR (mR M x0 5)) 5 X cdX14 i_X14_isSame_X14 (by decide) k_X14_isSame_f20 rfl dX14_isSame_47 rfl hT1 rfl ?_
    refine g_iload_n X dX14_isSame_50 rfl rfl ?_
    obtain ⟨hg12, hf⟩ := ck_e hf
    refine g_iald X dX14_isSame_51 ha6 hT7 hg12 ?_
    refine g_iload_n X dX14_isSame_52 rfl rfl ?_
    refine g_iadd X dX14_isSame_53 ?_
    obtain ⟨hg13, hf⟩ := ck_e hf
    refine g_iald X dX14_isSame_54 ha9 hT10 hg13 ?_
    refine g_icmp_eq (tgt := 60) X dX14_isSame_55 (by decide) (fun hc => ?_) (fun hc => ?_)
    · have hf := ife_t hc hf
      refine g_iinc (v := (1 : Int32)) (lv' := [(3, vI (x3 + (1 : Int32))), (0, vR (some x0)), (1, vI x1), (2, vI x2)]) X dX14_isSame_60 rfl (by decide) (by decide) rfl ?_
      refine g_goto (tgt := 19) X dX14_isSame_63 (by decide) ?_
      cases hf
      refine g_sub (lvsub_of _ _ [1, 2, 3, 0] rfl) ?_
      exact hK
    · have hf := ife_f hc hf
      refine g_iconst (v := (0 : Int32)) X dX14_isSame_58 (by decide) ?_
      obtain ⟨w14, hw14, hz14⟩ := oI_e hf
      subst hz14
      have hf := hw14
      cases hf
      refine g_eqQ hK ?_
      exact g_zret X hr (gnb (Or.inl rfl)) dX14_isSame_59
set_option maxHeartbeats 4000000 in
set_option maxRecDepth 100000 in
theorem tl_X14_isSame_19 (X : gX p s m args meth c D cy B (gSt Z B H0) RX14 cX14_isSame wsX14_isSame 4) (hr : meth.sig.returnType = (some .boolean)) {Q : State → Prop} : ∀ (M : gMem) (x0 : Nat) (x1 : Int32) (x2 : Int32) (x3 : Int32) (z : Int32 × gMem), lp_X14_isSame_19 M x0 x1 x2 x3 = some z → (fun (r : Int32 × gMem) => Q = gMQ below D cy B H0 args s 0 0 (some (vI r.1)) r.2) z → gGo p l e rX14_isSame s m args below meth c D cy B H0 4 0 0 Q 19 [(0, vR (some x0)), (1, vI x1), (2, vI x2), (3, vI x3)] [] M := by
  intro M x0 x1 x2 x3 z hf hK
  refine lp_ind (P := (fun (q : gMem × Int32) (z : Int32 × gMem) => (fun (r : Int32 × gMem) => Q = gMQ below D cy B H0 args s 0 0 (some (vI r.1)) r.2) z → gGo p l e rX14_isSame s m args below meth c D cy B H0 4 0 0 Q 19 [(0, vR (some x0)), (1, vI x1), (2, vI x2), (3, vI q.2)] [] q.1)) (fun q z hq => ?_) _ _ hf hK
  intro hK
  obtain ⟨w, hw, hm⟩ := hq
  refine tb_X14_isSame_19 X hr _ _ _ _ _ w hw ?_
  cases w with
  | inl a => exact hm hK
  | inr b => cases hm; exact hK
set_option maxHeartbeats 4000000 in
set_option maxRecDepth 100000 in
theorem t_X14_isSame_0 (X : gX p s m args meth c D cy B (gSt Z B H0) RX14 cX14_isSame wsX14_isSame 4) (hr : meth.sig.returnType = (some .boolean)) {Q : State → Prop} : ∀ (M : gMem) (x0 : Nat) (x1 : Int32) (x2 : Int32) (z : Int32 × gMem), b_X14_isSame_0 M x0 x1 x2 = some z → (fun (r : Int32 × gMem) => Q = gMQ below D cy B H0 args s 0 0 (some (vI r.1)) r.2) z → gGo p l e rX14_isSame s m args below meth c D cy B H0 4 0 0 Q 0 [(0, vR (some x0)), (1, vI x1), (2, vI x2)] [] M := by
  intro M x0 x1 x2 z hf hK
  unfold b_X14_isSame_0 at hf
  refine g_aload_n X dX14_isSame_0 rfl rfl ?_
  obtain ⟨hT15, hf⟩ := ck_e hf
  refine g_get (ci := 12) (v := vR (mR M x0 6)) 6 X cdX14 i_X14_isSame_X14 (by decide) k_X14_isSame_f23 rfl dX14_isSame_1 rfl hT15 rfl ?_
  refine g_iload_n X dX14_isSame_4 rfl rfl ?_
  obtain ⟨a16, ha16, hf⟩ := dr_e hf
  obtain ⟨hT17, hf⟩ := ck_e hf
  obtain ⟨hg18, hf⟩ := ck_e hf
  refine g_iald X dX14_isSame_5 ha16 hT17 hg18 ?_
  refine g_aload_n X dX14_isSame_6 rfl rfl ?_
  refine g_get (ci := 12) (v := vR (mR M x0 6)) 6 X cdX14 i_X14_isSame_X14 (by decide) k_X14_isSame_f23 rfl dX14_isSame_7 rfl hT15 rfl ?_
  refine g_iload_n X dX14_isSame_10 rfl rfl ?_
  obtain ⟨hg19, hf⟩ := ck_e hf
  refine g_iald X dX14_isSame_11 ha16 hT17 hg19 ?_
  refine g_icmp_eq (tgt := 17) X dX14_isSame_12 (by decide) (fun hc => ?_) (fun hc => ?_)
  · have hf := ife_t hc hf
    refine g_iconst (v := (0 : Int32)) X dX14_isSame_17 (by decide) ?_
    refine g_istore_n (lv' := [(3, vI (0 : Int32)), (0, vR (some x0)), (1, vI x1), (2, vI x2)]) X dX14_isSame_18 rfl (by decide) rfl ?_
    refine g_sub (lvsub_of _ _ [1, 2, 3, 0] rfl) ?_
    exact tl_X14_isSame_19 X hr _ _ _ _ _ _ hf hK
  · have hf := ife_f hc hf
    refine g_iconst (v := (0 : Int32)) X dX14_isSame_15 (by decide) ?_
    cases hf
    refine g_eqQ hK ?_
    exact g_zret X hr (gnb (Or.inl rfl)) dX14_isSame_16
set_option maxHeartbeats 4000000 in
set_option maxRecDepth 100000 in
theorem m_X14_isSame (l : Launch) {D : va_G} {cy : Nat → ClassId} {B : Nat} {H0 : Heap} {Z : Nat → Nat} {M M1 : gMem} {x0 : Nat} {x1 : Int32} {x2 : Int32} {r : Int32} (hf : f_X14_isSame M x0 x1 x2 = some (r, M1)) : Met l yX14_isSame wsX14_isSame rX14_isSame (va_Pc (Value.ref x0 :: List.map gv [vI x1, vI x2]) (gPre D cy B H0 (gSt Z B H0) M)) (gQ D cy B H0 (some (vI r)) M1) 0 0 (gA B) := by
  refine Met.ofW (cc := cX14_isSame) (maxL := 4) (ret := (some .boolean)) (by decide) rfl ?_
  intro p e s m args below meth c s₁ Bd hml hv
  obtain ⟨rfl, hW, hKK, hFs⟩ := hv
  have X : gX p s m _ meth c D cy B (gSt Z B H0) RX14 cX14_isSame wsX14_isSame 4 := ⟨Bd.exec, Bd.bytes, atoms_spec (ws := wsX14_isSame) Bd.pre, findClass_of_methodNamed Bd.named, hml, hKK, by rw [hW.1]; exact hW.2.1, Bd.notSynchronized, hFs⟩
  have hr := Bd.returns
  have hl := lv_entry ([.ref x0, .int x1, .int x2]) (n := 4) (Nat.le_of_ble_eq_true rfl)
  show W p l e rX14_isSame s m _ below meth c s.heap [] 0 0 _ (entryFrame m ([.ref x0, .int x1, .int x2] : List Value).toArray 4)
  rw [lg_entry_eq]
  generalize (lg_sl ([.ref x0, .int x1, .int x2]) ++ List.replicate (4 - (lg_sl ([.ref x0, .int x1, .int x2])).length) Slot.unset).toArray = ls at hl ⊢
  have hl : lv_has ls 4 (List.map gq [(0, vR (some x0)), (1, vI x1), (2, vI x2)]) := hl
  exact t_X14_isSame_0 X hr _ _ _ _ _ hf rfl s.heap [] ls hW va_S.rf (lv_has_sub hl (lvsub_of _ _ [0, 1, 2] rfl))
/-! ## TideLotsModel.told(II)I -/
theorem dX14_told_0 : decode cX14_told 0 = .ok (.iconst 0, 1) := by decide +kernel
theorem dX14_told_1 : decode cX14_told 1 = .ok (.istore_n 3, 1) := by decide +kernel
theorem dX14_told_2 : decode cX14_told 2 = .ok (.iconst 0, 1) := by decide +kernel
theorem dX14_told_3 : decode cX14_told 3 = .ok (.istore 4, 2) := by decide +kernel
theorem dX14_told_5 : decode cX14_told 5 = .ok (.iload 4, 2) := by decide +kernel
theorem dX14_told_7 : decode cX14_told 7 = .ok (.iload_n 1, 1) := by decide +kernel
theorem dX14_told_8 : decode cX14_told 8 = .ok (.if_icmp .ge 38, 3) := by decide +kernel
theorem dX14_told_11 : decode cX14_told 11 = .ok (.aload_n 0, 1) := by decide +kernel
theorem dX14_told_12 : decode cX14_told 12 = .ok (.getfield 26, 3) := by decide +kernel
theorem dX14_told_15 : decode cX14_told 15 = .ok (.iload 4, 2) := by decide +kernel
theorem dX14_told_17 : decode cX14_told 17 = .ok (.iaload, 1) := by decide +kernel
theorem dX14_told_18 : decode cX14_told 18 = .ok (.iload_n 2, 1) := by decide +kernel
theorem dX14_told_19 : decode cX14_told 19 = .ok (.if_icmp .eq 6, 3) := by decide +kernel
theorem dX14_told_22 : decode cX14_told 22 = .ok (.goto 18, 3) := by decide +kernel
theorem dX14_told_25 : decode cX14_told 25 = .ok (.aload_n 0, 1) := by decide +kernel
theorem dX14_told_26 : decode cX14_told 26 = .ok (.iload 4, 2) := by decide +kernel
theorem dX14_told_28 : decode cX14_told 28 = .ok (.iload_n 1, 1) := by decide +kernel
theorem dX14_told_29 : decode cX14_told 29 = .ok (.invokevirtual 214, 3) := by decide +kernel
theorem dX14_told_32 : decode cX14_told 32 = .ok (.ifCond .eq 5, 3) := by decide +kernel
theorem dX14_told_35 : decode cX14_told 35 = .ok (.iload_n 3, 1) := by decide +kernel
theorem dX14_told_36 : decode cX14_told 36 = .ok (.ireturn, 1) := by decide +kernel
theorem dX14_told_37 : decode cX14_told 37 = .ok (.iinc 3 1, 3) := by decide +kernel
theorem dX14_told_40 : decode cX14_told 40 = .ok (.iinc 4 1, 3) := by decide +kernel
theorem dX14_told_43 : decode cX14_told 43 = .ok (.goto (-38), 3) := by decide +kernel
theorem dX14_told_46 : decode cX14_told 46 = .ok (.iconst (-1), 1) := by decide +kernel
theorem dX14_told_47 : decode cX14_told 47 = .ok (.ireturn, 1) := by decide +kernel
set_option maxRecDepth 20000 in
theorem ggX14_told_X14_isSame : GoodIn wsX14_told wsX14_isSame := goodIn_r _ [6, 7, 8, 9, 10, 11, 12, 13, 14, 15, 16, 17, 18, 19, 20, 21, 22, 23, 24] (by decide +kernel) (by decide +kernel)
set_option maxRecDepth 20000 in
theorem gX14_told_X14_isSame : GoodIn wsX14_told (wsV RX14 214 RX14 yX14_isSame wsX14_isSame) := goodIn_app (goodIn_of _ (by decide +kernel)) ggX14_told_X14_isSame
theorem k_X14_told_f26 : Cond.fieldLink RX14 26 "TideLotsModel" "role" "[I" ∈ wsX14_told := by decide +kernel
theorem i_X14_told_X14 : ∀ w ∈ u_ws RX14 TX14 15, w ∈ wsX14_told := by decide +kernel
abbrev rX14_told : Room := { frames := 1, cells := 0, slots := 0, locals := 23 }
noncomputable def b_X14_told_40 (M : gMem) (x0 : Nat) (x1 : Int32) (x2 : Int32) (x3 : Int32) (x4 : Int32) : Option ((gMem × Int32 × Int32) ⊕ (Int32 × gMem)) :=
  some (.inl (M, x3, (x4 + (1 : Int32))))
noncomputable def bb_X14_told_5 (M : gMem) (x0 : Nat) (x1 : Int32) (x2 : Int32) (x3 : Int32) (x4 : Int32) : Option ((gMem × Int32 × Int32) ⊕ (Int32 × gMem)) :=
  (if x1 ≤ x4 then oI (some ((-1 : Int32), M)) else ck (mT M x0 = 13) <| dr ((mR M x0 7)) fun a3 => ck (mT M a3 = 20) <| ck (inb x4 (mL M a3)) <| (if (mI M a3 x4.toNatClampNeg) = x2 then bd (f_X14_isSame M x0 x4 x1) fun r6 M6 => (if r6 = 0 then b_X14_told_40 M6 x0 x1 x2 ((x3 + (1 : Int32))) x4 else oI (some (x3, M6))) else b_X14_told_40 M x0 x1 x2 x3 x4))
noncomputable def lp_X14_told_5 (M : gMem) (x0 : Nat) (x1 : Int32) (x2 : Int32) (x3 : Int32) (x4 : Int32) : Option (Int32 × gMem) :=
  lp (fun (q : gMem × Int32 × Int32) => bb_X14_told_5 q.1 x0 x1 x2 q.2.1 q.2.2) (M, x3, x4)
noncomputable def b_X14_told_0 (M : gMem) (x0 : Nat) (x1 : Int32) (x2 : Int32) : Option (Int32 × gMem) :=
  lp_X14_told_5 M x0 x1 x2 ((0 : Int32)) ((0 : Int32))
noncomputable def f_X14_told (M : gMem) (x0 : Nat) (x1 : Int32) (x2 : Int32) : Option (Int32 × gMem) :=
  b_X14_told_0 M x0 x1 x2
set_option maxHeartbeats 4000000 in
set_option maxRecDepth 100000 in
theorem t_X14_told_40 (X : gX p s m args meth c D cy B (gSt Z B H0) RX14 cX14_told wsX14_told 5) (hr : meth.sig.returnType = (some .int)) {Q : State → Prop} : ∀ (M : gMem) (x0 : Nat) (x1 : Int32) (x2 : Int32) (x3 : Int32) (x4 : Int32) (z : (gMem × Int32 × Int32) ⊕ (Int32 × gMem)), b_X14_told_40 M x0 x1 x2 x3 x4 = some z → (Sum.elim (fun (q : gMem × Int32 × Int32) => gGo p l e rX14_told s m args below meth c D cy B H0 5 0 0 Q 5 [(0, vR (some x0)), (1, vI x1), (2, vI x2), (3, vI q.2.1), (4, vI q.2.2)] [] q.1) (fun (r : Int32 × gMem) => Q = gMQ below D cy B H0 args s 0 0 (some (vI r.1)) r.2)) z → gGo p l e rX14_told s m args below meth c D cy B H0 5 0 0 Q 40 [(0, vR (some x0)), (1, vI x1), (2, vI x2), (3, vI x3), (4, vI x4)] [] M := by
  intro M x0 x1 x2 x3 x4 z hf hK
  unfold b_X14_told_40 at hf
  refine g_iinc (v := (1 : Int32)) (lv' := [(4, vI (x4 + (1 : Int32))), (0, vR (some x0)), (1, vI x1), (2, vI x2), (3, vI x3)]) X dX14_told_40 rfl (by decide) (by decide) rfl ?_
  refine g_goto (tgt := 5) X dX14_told_43 (by decide) ?_
  cases hf
  refine g_sub (lvsub_of _ _ [1, 2, 3, 4, 0] rfl) ?_
  exact hK
set_option maxHeartbeats 4000000 in
set_option maxRecDepth 100000 in
theorem tb_X14_told_5 (X : gX p s m args meth c D cy B (gSt Z B H0) RX14 cX14_told wsX14_told 5) (hr : meth.sig.returnType = (some .int)) {Q : State → Prop} : ∀ (M : gMem) (x0 : Nat) (x1 : Int32) (x2 : Int32) (x3 : Int32) (x4 : Int32) (z : (gMem × Int32 × Int32) ⊕ (Int32 × gMem)), bb_X14_told_5 M x0 x1 x2 x3 x4 = some z → (Sum.elim (fun (q : gMem × Int32 × Int32) => gGo p l e rX14_told s m args below meth c D cy B H0 5 0 0 Q 5 [(0, vR (some x0)), (1, vI x1), (2, vI x2), (3, vI q.2.1), (4, vI q.2.2)] [] q.1) (fun (r : Int32 × gMem) => Q = gMQ below D cy B H0 args s 0 0 (some (vI r.1)) r.2)) z → gGo p l e rX14_told s m args below meth c D cy B H0 5 0 0 Q 5 [(0, vR (some x0)), (1, vI x1), (2, vI x2), (3, vI x3), (4, vI x4)] [] M := by
  intro M x0 x1 x2 x3 x4 z hf hK
  unfold bb_X14_told_5 at hf
  refine g_iload X dX14_told_5 rfl ?_
  refine g_iload_n X dX14_told_7 rfl rfl ?_
  refine g_icmp_ge (tgt := 46) X dX14_told_8 (by decide) (fun hc => ?_) (fun hc => ?_)
  · have hf := ife_t hc hf
    refine g_iconst (v := (-1 : Int32)) X dX14_told_46 (by decide) ?_
    obtain ⟨w1, hw1, hz1⟩ := oI_e hf
    subst hz1
    have hf := hw1
    cases hf
    refine g_eqQ hK ?_
    exact g_iret X hr dX14_told_47
  · have hf := ife_f hc hf
    refine g_aload_n X dX14_told_11 rfl rfl ?_
    obtain ⟨hT2, hf⟩ := ck_e hf
    refine g_get (ci := 12) (v := vR (mR M x0 7)) 7 X cdX14 i_X14_told_X14 (by decide) k_X14_told_f26 rfl dX14_told_12 rfl hT2 rfl ?_
    refine g_iload X dX14_told_15 rfl ?_
    obtain ⟨a3, ha3, hf⟩ := dr_e hf
    obtain ⟨hT4, hf⟩ := ck_e hf
    obtain ⟨hg5, hf⟩ := ck_e hf
    refine g_iald X dX14_told_17 ha3 hT4 hg5 ?_
    refine g_iload_n X dX14_told_18 rfl rfl ?_
    refine g_icmp_eq (tgt := 25) X dX14_told_19 (by decide) (fun hc => ?_) (fun hc => ?_)
    · have hf := ife_t hc hf
      refine g_aload_n X dX14_told_25 rfl rfl ?_
      refine g_iload X dX14_told_26 rfl ?_
      refine g_iload_n X dX14_told_28 rfl rfl ?_
      obtain ⟨r6, M6, hq6, hf⟩ := bd_e hf
      refine g_callV (ci := 12) (b := x0) (As := [vI x4, vI x1]) (st := []) (v := some (vI r6)) (M1 := M6) X (m_X14_isSame l hq6) (cwV 2 X.2.2.1 gX14_told_X14_isSame rfl rfl rfl (by decide +kernel) ⟨Nat.le_of_ble_eq_true rfl, Nat.le_of_ble_eq_true rfl⟩) rfl rfl rfl hT2 (by decide) rfl (Nat.le_of_ble_eq_true rfl) dX14_told_29 ⟨by decide, by decide⟩ ?_
      refine g_if_eq (tgt := 37) X dX14_told_32 (by decide) (fun hc => ?_) (fun hc => ?_)
      · have hf := ife_t hc hf
        refine g_iinc (v := (1 : Int32)) (lv' := [(3, vI (x3 + (1 : Int32))), (0, vR (some x0)), (1, vI x1), (2, vI x2), (4, vI x4)]) X dX14_told_37 rfl (by decide) (by decide) rfl ?_
        refine g_sub (lvsub_of _ _ [1, 2, 3, 0, 4] rfl) ?_
        exact t_X14_told_40 X hr _ _ _ _ _ _ _ hf hK
      · have hf := ife_f hc hf
        refine g_iload_n X dX14_told_35 rfl rfl ?_
        obtain ⟨w7, hw7, hz7⟩ := oI_e hf
        subst hz7
        have hf := hw7
        cases hf
        refine g_eqQ hK ?_
        exact g_iret X hr dX14_told_36
    · have hf := ife_f hc hf
      refine g_goto (tgt := 40) X dX14_told_22 (by decide) ?_
      refine g_sub (lvsub_of _ _ [0, 1, 2, 3, 4] rfl) ?_
      exact t_X14_told_40 X hr _ _ _ _ _ _ _ hf hK
set_option maxHeartbeats 4000000 in
set_option maxRecDepth 100000 in
theorem tl_X14_told_5 (X : gX p s m args meth c D cy B (gSt Z B H0) RX14 cX14_told wsX14_told 5) (hr : meth.sig.returnType = (some .int)) {Q : State → Prop} : ∀ (M : gMem) (x0 : Nat) (x1 : Int32) (x2 : Int32) (x3 : Int32) (x4 : Int32) (z : Int32 × gMem), lp_X14_told_5 M x0 x1 x2 x3 x4 = some z → (fun (r : Int32 × gMem) => Q = gMQ below D cy B H0 args s 0 0 (some (vI r.1)) r.2) z → gGo p l e rX14_told s m args below meth c D cy B H0 5 0 0 Q 5 [(0, vR (some x0)), (1, vI x1), (2, vI x2), (3, vI x3), (4, vI x4)] [] M := by
  intro M x0 x1 x2 x3 x4 z hf hK
  refine lp_ind (P := (fun (q : gMem × Int32 × Int32) (z : Int32 × gMem) => (fun (r : Int32 × gMem) => Q = gMQ below D cy B H0 args s 0 0 (some (vI r.1)) r.2) z → gGo p l e rX14_told s m args below meth c D cy B H0 5 0 0 Q 5 [(0, vR (some x0)), (1, vI x1), (2, vI x2), (3, vI q.2.1), (4, vI q.2.2)] [] q.1)) (fun q z hq => ?_) _ _ hf hK
  intro hK
  obtain ⟨w, hw, hm⟩ := hq
  refine tb_X14_told_5 X hr _ _ _ _ _ _ w hw ?_
  cases w with
  | inl a => exact hm hK
  | inr b => cases hm; exact hK
set_option maxHeartbeats 4000000 in
set_option maxRecDepth 100000 in
theorem t_X14_told_0 (X : gX p s m args meth c D cy B (gSt Z B H0) RX14 cX14_told wsX14_told 5) (hr : meth.sig.returnType = (some .int)) {Q : State → Prop} : ∀ (M : gMem) (x0 : Nat) (x1 : Int32) (x2 : Int32) (z : Int32 × gMem), b_X14_told_0 M x0 x1 x2 = some z → (fun (r : Int32 × gMem) => Q = gMQ below D cy B H0 args s 0 0 (some (vI r.1)) r.2) z → gGo p l e rX14_told s m args below meth c D cy B H0 5 0 0 Q 0 [(0, vR (some x0)), (1, vI x1), (2, vI x2)] [] M := by
  intro M x0 x1 x2 z hf hK
  unfold b_X14_told_0 at hf
  refine g_iconst (v := (0 : Int32)) X dX14_told_0 (by decide) ?_
  refine g_istore_n (lv' := [(3, vI (0 : Int32)), (0, vR (some x0)), (1, vI x1), (2, vI x2)]) X dX14_told_1 rfl (by decide) rfl ?_
  refine g_iconst (v := (0 : Int32)) X dX14_told_2 (by decide) ?_
  refine g_istore (lv' := [(4, vI (0 : Int32)), (3, vI (0 : Int32)), (0, vR (some x0)), (1, vI x1), (2, vI x2)]) X dX14_told_3 (by decide) rfl ?_
  refine g_sub (lvsub_of _ _ [2, 3, 4, 1, 0] rfl) ?_
  exact tl_X14_told_5 X hr _ _ _ _ _ _ _ hf hK
set_option maxHeartbeats 4000000 in
set_option maxRecDepth 100000 in
theorem m_X14_told (l : Launch) {D : va_G} {cy : Nat → ClassId} {B : Nat} {H0 : Heap} {Z : Nat → Nat} {M M1 : gMem} {x0 : Nat} {x1 : Int32} {x2 : Int32} {r : Int32} (hf : f_X14_told M x0 x1 x2 = some (r, M1)) : Met l yX14_told wsX14_told rX14_told (va_Pc (Value.ref x0 :: List.map gv [vI x1, vI x2]) (gPre D cy B H0 (gSt Z B H0) M)) (gQ D cy B H0 (some (vI r)) M1) 0 0 (gA B) := by
  refine Met.ofW (cc := cX14_told) (maxL := 5) (ret := (some .int)) (by decide) rfl ?_
  intro p e s m args below meth c s₁ Bd hml hv
  obtain ⟨rfl, hW, hKK, hFs⟩ := hv
  have X : gX p s m _ meth c D cy B (gSt Z B H0) RX14 cX14_told wsX14_told 5 := ⟨Bd.exec, Bd.bytes, atoms_spec (ws := wsX14_told) Bd.pre, findClass_of_methodNamed Bd.named, hml, hKK, by rw [hW.1]; exact hW.2.1, Bd.notSynchronized, hFs⟩
  have hr := Bd.returns
  have hl := lv_entry ([.ref x0, .int x1, .int x2]) (n := 5) (Nat.le_of_ble_eq_true rfl)
  show W p l e rX14_told s m _ below meth c s.heap [] 0 0 _ (entryFrame m ([.ref x0, .int x1, .int x2] : List Value).toArray 5)
  rw [lg_entry_eq]
  generalize (lg_sl ([.ref x0, .int x1, .int x2]) ++ List.replicate (5 - (lg_sl ([.ref x0, .int x1, .int x2])).length) Slot.unset).toArray = ls at hl ⊢
  have hl : lv_has ls 5 (List.map gq [(0, vR (some x0)), (1, vI x1), (2, vI x2)]) := hl
  exact t_X14_told_0 X hr _ _ _ _ _ hf rfl s.heap [] ls hW va_S.rf (lv_has_sub hl (lvsub_of _ _ [0, 1, 2] rfl))
/-! ## TideLotsModel.look(II)I -/
theorem dX14_look_0 : decode cX14_look 0 = .ok (.aload_n 0, 1) := by decide +kernel
theorem dX14_look_1 : decode cX14_look 1 = .ok (.getfield 29, 3) := by decide +kernel
theorem dX14_look_4 : decode cX14_look 4 = .ok (.iload_n 1, 1) := by decide +kernel
theorem dX14_look_5 : decode cX14_look 5 = .ok (.aload_n 0, 1) := by decide +kernel
theorem dX14_look_6 : decode cX14_look 6 = .ok (.iload_n 1, 1) := by decide +kernel
theorem dX14_look_7 : decode cX14_look 7 = .ok (.iload_n 2, 1) := by decide +kernel
theorem dX14_look_8 : decode cX14_look 8 = .ok (.invokevirtual 217, 3) := by decide +kernel
theorem dX14_look_11 : decode cX14_look 11 = .ok (.iastore, 1) := by decide +kernel
theorem dX14_look_12 : decode cX14_look 12 = .ok (.aload_n 0, 1) := by decide +kernel
theorem dX14_look_13 : decode cX14_look 13 = .ok (.getfield 29, 3) := by decide +kernel
theorem dX14_look_16 : decode cX14_look 16 = .ok (.iload_n 1, 1) := by decide +kernel
theorem dX14_look_17 : decode cX14_look 17 = .ok (.iaload, 1) := by decide +kernel
theorem dX14_look_18 : decode cX14_look 18 = .ok (.iconst (-1), 1) := by decide +kernel
theorem dX14_look_19 : decode cX14_look 19 = .ok (.if_icmp .ne 7, 3) := by decide +kernel
theorem dX14_look_22 : decode cX14_look 22 = .ok (.iconst 3, 1) := by decide +kernel
theorem dX14_look_23 : decode cX14_look 23 = .ok (.goto 4, 3) := by decide +kernel
theorem dX14_look_26 : decode cX14_look 26 = .ok (.iconst 0, 1) := by decide +kernel
theorem dX14_look_27 : decode cX14_look 27 = .ok (.ireturn, 1) := by decide +kernel
set_option maxRecDepth 20000 in
theorem ggX14_look_X14_told : GoodIn wsX14_look wsX14_told := goodIn_r _ [6, 7, 8, 9, 10, 5, 11, 12, 13, 14, 15, 16, 17, 18, 19, 20, 21, 22, 23, 24, 25, 26, 27, 28, 29] (by decide +kernel) (by decide +kernel)
set_option maxRecDepth 20000 in
theorem gX14_look_X14_told : GoodIn wsX14_look (wsV RX14 217 RX14 yX14_told wsX14_told) := goodIn_app (goodIn_of _ (by decide +kernel)) ggX14_look_X14_told
theorem k_X14_look_f29 : Cond.fieldLink RX14 29 "TideLotsModel" "meant" "[I" ∈ wsX14_look := by decide +kernel
theorem i_X14_look_X14 : ∀ w ∈ u_ws RX14 TX14 15, w ∈ wsX14_look := by decide +kernel
abbrev rX14_look : Room := { frames := 2, cells := 0, slots := 0, locals := 47 }
noncomputable def b_X14_look_27 (M : gMem) (s0 : Int32) : Option (Int32 × gMem) :=
  some (s0, M)
noncomputable def b_X14_look_0 (M : gMem) (x0 : Nat) (x1 : Int32) (x2 : Int32) : Option (Int32 × gMem) :=
  ck (mT M x0 = 13) <| bd (f_X14_told M x0 x1 x2) fun r2 M2 => dr ((mR M x0 8)) fun a3 => ck (mT M2 a3 = 20) <| ck (inb x1 (mL M2 a3)) <| lw (wI M2 a3 x1.toNatClampNeg r2) fun M6 => ck (mT M6 x0 = 13) <| dr ((mR M6 x0 8)) fun a9 => ck (mT M6 a9 = 20) <| ck (inb x1 (mL M6 a9)) <| (if (mI M6 a9 x1.toNatClampNeg) = (-1 : Int32) then b_X14_look_27 M6 ((3 : Int32)) else b_X14_look_27 M6 ((0 : Int32)))
noncomputable def f_X14_look (M : gMem) (x0 : Nat) (x1 : Int32) (x2 : Int32) : Option (Int32 × gMem) :=
  b_X14_look_0 M x0 x1 x2
set_option maxHeartbeats 4000000 in
set_option maxRecDepth 100000 in
theorem t_X14_look_27 (X : gX p s m args meth c D cy B (gSt Z B H0) RX14 cX14_look wsX14_look 3) (hr : meth.sig.returnType = (some .int)) {Q : State → Prop} : ∀ (M : gMem) (s0 : Int32) (z : Int32 × gMem), b_X14_look_27 M s0 = some z → (fun (r : Int32 × gMem) => Q = gMQ below D cy B H0 args s 0 0 (some (vI r.1)) r.2) z → gGo p l e rX14_look s m args below meth c D cy B H0 3 0 0 Q 27 [] [vI s0] M := by
  intro M s0 z hf hK
  unfold b_X14_look_27 at hf
  cases hf
  refine g_eqQ hK ?_
  exact g_iret X hr dX14_look_27
set_option maxHeartbeats 4000000 in
set_option maxRecDepth 100000 in
theorem t_X14_look_0 (X : gX p s m args meth c D cy B (gSt Z B H0) RX14 cX14_look wsX14_look 3) (hr : meth.sig.returnType = (some .int)) {Q : State → Prop} : ∀ (M : gMem) (x0 : Nat) (x1 : Int32) (x2 : Int32) (z : Int32 × gMem), b_X14_look_0 M x0 x1 x2 = some z → (fun (r : Int32 × gMem) => Q = gMQ below D cy B H0 args s 0 0 (some (vI r.1)) r.2) z → gGo p l e rX14_look s m args below meth c D cy B H0 3 0 0 Q 0 [(0, vR (some x0)), (1, vI x1), (2, vI x2)] [] M := by
  intro M x0 x1 x2 z hf hK
  unfold b_X14_look_0 at hf
  refine g_aload_n X dX14_look_0 rfl rfl ?_
  obtain ⟨hT1, hf⟩ := ck_e hf
  refine g_get (ci := 12) (v := vR (mR M x0 8)) 8 X cdX14 i_X14_look_X14 (by decide) k_X14_look_f29 rfl dX14_look_1 rfl hT1 rfl ?_
  refine g_iload_n X dX14_look_4 rfl rfl ?_
  refine g_aload_n X dX14_look_5 rfl rfl ?_
  refine g_iload_n X dX14_look_6 rfl rfl ?_
  refine g_iload_n X dX14_look_7 rfl rfl ?_
  obtain ⟨r2, M2, hq2, hf⟩ := bd_e hf
  refine g_callV (ci := 12) (b := x0) (As := [vI x1, vI x2]) (st := [vI x1, vR (mR M x0 8)]) (v := some (vI r2)) (M1 := M2) X (m_X14_told l hq2) (cwV 2 X.2.2.1 gX14_look_X14_told rfl rfl rfl (by decide +kernel) ⟨Nat.le_of_ble_eq_true rfl, Nat.le_of_ble_eq_true rfl⟩) rfl rfl rfl hT1 (by decide) rfl (Nat.le_of_ble_eq_true rfl) dX14_look_8 ⟨by decide, by decide⟩ ?_
  obtain ⟨a3, ha3, hf⟩ := dr_e hf
  obtain ⟨hT4, hf⟩ := ck_e hf
  obtain ⟨hg5, hf⟩ := ck_e hf
  refine g_iast X dX14_look_11 ha3 hT4 hg5 ?_
  obtain ⟨M6, hM6, hf⟩ := lw_e hf
  rw [← hM6]
  have hT7 : mT M6 a3 = 20 := by rw [hM6]; exact hT4
  refine g_aload_n X dX14_look_12 rfl rfl ?_
  obtain ⟨hT8, hf⟩ := ck_e hf
  refine g_get (ci := 12) (v := vR (mR M6 x0 8)) 8 X cdX14 i_X14_look_X14 (by decide) k_X14_look_f29 rfl dX14_look_13 rfl hT8 rfl ?_
  refine g_iload_n X dX14_look_16 rfl rfl ?_
  obtain ⟨a9, ha9, hf⟩ := dr_e hf
  obtain ⟨hT10, hf⟩ := ck_e hf
  obtain ⟨hg11, hf⟩ := ck_e hf
  refine g_iald X dX14_look_17 ha9 hT10 hg11 ?_
  refine g_iconst (v := (-1 : Int32)) X dX14_look_18 (by decide) ?_
  refine g_icmp_ne (tgt := 26) X dX14_look_19 (by decide) (fun hc => ?_) (fun hc => ?_)
  · have hf := ife_f hc hf
    refine g_iconst (v := (0 : Int32)) X dX14_look_26 (by decide) ?_
    refine g_sub (lvsub_of _ _ [] rfl) ?_
    exact t_X14_look_27 X hr _ _ _ hf hK
  · have hf := ife_t hc hf
    refine g_iconst (v := (3 : Int32)) X dX14_look_22 (by decide) ?_
    refine g_goto (tgt := 27) X dX14_look_23 (by decide) ?_
    refine g_sub (lvsub_of _ _ [] rfl) ?_
    exact t_X14_look_27 X hr _ _ _ hf hK
set_option maxHeartbeats 4000000 in
set_option maxRecDepth 100000 in
theorem m_X14_look (l : Launch) {D : va_G} {cy : Nat → ClassId} {B : Nat} {H0 : Heap} {Z : Nat → Nat} {M M1 : gMem} {x0 : Nat} {x1 : Int32} {x2 : Int32} {r : Int32} (hf : f_X14_look M x0 x1 x2 = some (r, M1)) : Met l yX14_look wsX14_look rX14_look (va_Pc (Value.ref x0 :: List.map gv [vI x1, vI x2]) (gPre D cy B H0 (gSt Z B H0) M)) (gQ D cy B H0 (some (vI r)) M1) 0 0 (gA B) := by
  refine Met.ofW (cc := cX14_look) (maxL := 3) (ret := (some .int)) (by decide) rfl ?_
  intro p e s m args below meth c s₁ Bd hml hv
  obtain ⟨rfl, hW, hKK, hFs⟩ := hv
  have X : gX p s m _ meth c D cy B (gSt Z B H0) RX14 cX14_look wsX14_look 3 := ⟨Bd.exec, Bd.bytes, atoms_spec (ws := wsX14_look) Bd.pre, findClass_of_methodNamed Bd.named, hml, hKK, by rw [hW.1]; exact hW.2.1, Bd.notSynchronized, hFs⟩
  have hr := Bd.returns
  have hl := lv_entry ([.ref x0, .int x1, .int x2]) (n := 3) (Nat.le_of_ble_eq_true rfl)
  show W p l e rX14_look s m _ below meth c s.heap [] 0 0 _ (entryFrame m ([.ref x0, .int x1, .int x2] : List Value).toArray 3)
  rw [lg_entry_eq]
  generalize (lg_sl ([.ref x0, .int x1, .int x2]) ++ List.replicate (3 - (lg_sl ([.ref x0, .int x1, .int x2])).length) Slot.unset).toArray = ls at hl ⊢
  have hl : lv_has ls 3 (List.map gq [(0, vR (some x0)), (1, vI x1), (2, vI x2)]) := hl
  exact t_X14_look_0 X hr _ _ _ _ _ hf rfl s.heap [] ls hW va_S.rf (lv_has_sub hl (lvsub_of _ _ [0, 1, 2] rfl))
/-! ## TideLotsModel.inRange(III)I -/
theorem dX14_inRange_0 : decode cX14_inRange 0 = .ok (.aload_n 0, 1) := by decide +kernel
theorem dX14_inRange_1 : decode cX14_inRange 1 = .ok (.iload_n 1, 1) := by decide +kernel
theorem dX14_inRange_2 : decode cX14_inRange 2 = .ok (.invokevirtual 211, 3) := by decide +kernel
theorem dX14_inRange_5 : decode cX14_inRange 5 = .ok (.iload_n 2, 1) := by decide +kernel
theorem dX14_inRange_6 : decode cX14_inRange 6 = .ok (.iload_n 3, 1) := by decide +kernel
theorem dX14_inRange_7 : decode cX14_inRange 7 = .ok (.invokestatic 63, 3) := by decide +kernel
theorem dX14_inRange_10 : decode cX14_inRange 10 = .ok (.ifCond .eq 7, 3) := by decide +kernel
theorem dX14_inRange_13 : decode cX14_inRange 13 = .ok (.iconst 0, 1) := by decide +kernel
theorem dX14_inRange_14 : decode cX14_inRange 14 = .ok (.goto 4, 3) := by decide +kernel
theorem dX14_inRange_17 : decode cX14_inRange 17 = .ok (.iconst 5, 1) := by decide +kernel
theorem dX14_inRange_18 : decode cX14_inRange 18 = .ok (.ireturn, 1) := by decide +kernel
set_option maxRecDepth 20000 in
theorem ggX14_inRange_X14_numberAt : GoodIn wsX14_inRange wsX14_numberAt := goodIn_r _ [5, 6, 7, 8, 12, 13, 14, 15, 16, 17, 18, 19, 20, 21, 22, 23, 24, 25, 26] (by decide +kernel) (by decide +kernel)
set_option maxRecDepth 20000 in
theorem gX14_inRange_X14_numberAt : GoodIn wsX14_inRange (wsV RX14 211 RX14 yX14_numberAt wsX14_numberAt) := goodIn_app (goodIn_of _ (by decide +kernel)) ggX14_inRange_X14_numberAt
set_option maxRecDepth 20000 in
theorem ggX14_inRange_X14_isIn : GoodIn wsX14_inRange wsX14_isIn := goodIn_r _ [11] (by decide +kernel) (by decide +kernel)
set_option maxRecDepth 20000 in
theorem gX14_inRange_X14_isIn : GoodIn wsX14_inRange (va_wsS RX14 63 yX14_isIn wsX14_isIn) := goodIn_app (goodIn_of _ (by decide +kernel)) ggX14_inRange_X14_isIn
abbrev rX14_inRange : Room := { frames := 1, cells := 0, slots := 0, locals := 23 }
noncomputable def b_X14_inRange_18 (M : gMem) (s0 : Int32) : Option (Int32 × gMem) :=
  some (s0, M)
noncomputable def b_X14_inRange_0 (M : gMem) (x0 : Nat) (x1 : Int32) (x2 : Int32) (x3 : Int32) : Option (Int32 × gMem) :=
  ck (mT M x0 = 13) <| bd (f_X14_numberAt M x0 x1) fun r1 M1 => bd (f_X14_isIn M1 r1 x2 x3) fun r3 M3 => (if r3 = 0 then b_X14_inRange_18 M3 ((5 : Int32)) else b_X14_inRange_18 M3 ((0 : Int32)))
noncomputable def f_X14_inRange (M : gMem) (x0 : Nat) (x1 : Int32) (x2 : Int32) (x3 : Int32) : Option (Int32 × gMem) :=
  b_X14_inRange_0 M x0 x1 x2 x3
set_option maxHeartbeats 4000000 in
set_option maxRecDepth 100000 in
theorem t_X14_inRange_18 (X : gX p s m args meth c D cy B (gSt Z B H0) RX14 cX14_inRange wsX14_inRange 4) (hr : meth.sig.returnType = (some .int)) {Q : State → Prop} : ∀ (M : gMem) (s0 : Int32) (z : Int32 × gMem), b_X14_inRange_18 M s0 = some z → (fun (r : Int32 × gMem) => Q = gMQ below D cy B H0 args s 0 0 (some (vI r.1)) r.2) z → gGo p l e rX14_inRange s m args below meth c D cy B H0 4 0 0 Q 18 [] [vI s0] M := by
  intro M s0 z hf hK
  unfold b_X14_inRange_18 at hf
  cases hf
  refine g_eqQ hK ?_
  exact g_iret X hr dX14_inRange_18
set_option maxHeartbeats 4000000 in
set_option maxRecDepth 100000 in
theorem t_X14_inRange_0 (X : gX p s m args meth c D cy B (gSt Z B H0) RX14 cX14_inRange wsX14_inRange 4) (hr : meth.sig.returnType = (some .int)) {Q : State → Prop} : ∀ (M : gMem) (x0 : Nat) (x1 : Int32) (x2 : Int32) (x3 : Int32) (z : Int32 × gMem), b_X14_inRange_0 M x0 x1 x2 x3 = some z → (fun (r : Int32 × gMem) => Q = gMQ below D cy B H0 args s 0 0 (some (vI r.1)) r.2) z → gGo p l e rX14_inRange s m args below meth c D cy B H0 4 0 0 Q 0 [(0, vR (some x0)), (1, vI x1), (2, vI x2), (3, vI x3)] [] M := by
  intro M x0 x1 x2 x3 z hf hK
  unfold b_X14_inRange_0 at hf
  refine g_aload_n X dX14_inRange_0 rfl rfl ?_
  refine g_iload_n X dX14_inRange_1 rfl rfl ?_
  obtain ⟨hT2, hf⟩ := ck_e hf
  obtain ⟨r1, M1, hq1, hf⟩ := bd_e hf
  refine g_callV (ci := 12) (b := x0) (As := [vI x1]) (st := []) (v := some (vI r1)) (M1 := M1) X (m_X14_numberAt l hq1) (cwV 1 X.2.2.1 gX14_inRange_X14_numberAt rfl rfl rfl (by decide +kernel) ⟨Nat.le_of_ble_eq_true rfl, Nat.le_of_ble_eq_true rfl⟩) rfl rfl rfl hT2 (by decide) rfl (Nat.le_of_ble_eq_true rfl) dX14_inRange_2 ⟨by decide, by decide⟩ ?_
  refine g_iload_n X dX14_inRange_5 rfl rfl ?_
  refine g_iload_n X dX14_inRange_6 rfl rfl ?_
  obtain ⟨r3, M3, hq3, hf⟩ := bd_e hf
  refine g_callS (As := [vI r1, vI x2, vI x3]) (st := []) (v := some (vI r3)) (M1 := M3) X (m_X14_isIn l hq3) (va_cwS 3 X.2.2.1 gX14_inRange_X14_isIn rfl rfl rfl (by decide +kernel) ⟨Nat.le_of_ble_eq_true rfl, Nat.le_of_ble_eq_true rfl⟩) rfl rfl (Nat.le_of_ble_eq_true rfl) dX14_inRange_7 ⟨by decide, by decide⟩ ?_
  refine g_if_eq (tgt := 17) X dX14_inRange_10 (by decide) (fun hc => ?_) (fun hc => ?_)
  · have hf := ife_t hc hf
    refine g_iconst (v := (5 : Int32)) X dX14_inRange_17 (by decide) ?_
    refine g_sub (lvsub_of _ _ [] rfl) ?_
    exact t_X14_inRange_18 X hr _ _ _ hf hK
  · have hf := ife_f hc hf
    refine g_iconst (v := (0 : Int32)) X dX14_inRange_13 (by decide) ?_
    refine g_goto (tgt := 18) X dX14_inRange_14 (by decide) ?_
    refine g_sub (lvsub_of _ _ [] rfl) ?_
    exact t_X14_inRange_18 X hr _ _ _ hf hK
set_option maxHeartbeats 4000000 in
set_option maxRecDepth 100000 in
theorem m_X14_inRange (l : Launch) {D : va_G} {cy : Nat → ClassId} {B : Nat} {H0 : Heap} {Z : Nat → Nat} {M M1 : gMem} {x0 : Nat} {x1 : Int32} {x2 : Int32} {x3 : Int32} {r : Int32} (hf : f_X14_inRange M x0 x1 x2 x3 = some (r, M1)) : Met l yX14_inRange wsX14_inRange rX14_inRange (va_Pc (Value.ref x0 :: List.map gv [vI x1, vI x2, vI x3]) (gPre D cy B H0 (gSt Z B H0) M)) (gQ D cy B H0 (some (vI r)) M1) 0 0 (gA B) := by
  refine Met.ofW (cc := cX14_inRange) (maxL := 4) (ret := (some .int)) (by decide) rfl ?_
  intro p e s m args below meth c s₁ Bd hml hv
  obtain ⟨rfl, hW, hKK, hFs⟩ := hv
  have X : gX p s m _ meth c D cy B (gSt Z B H0) RX14 cX14_inRange wsX14_inRange 4 := ⟨Bd.exec, Bd.bytes, atoms_spec (ws := wsX14_inRange) Bd.pre, findClass_of_methodNamed Bd.named, hml, hKK, by rw [hW.1]; exact hW.2.1, Bd.notSynchronized, hFs⟩
  have hr := Bd.returns
  have hl := lv_entry ([.ref x0, .int x1, .int x2, .int x3]) (n := 4) (Nat.le_of_ble_eq_true rfl)
  show W p l e rX14_inRange s m _ below meth c s.heap [] 0 0 _ (entryFrame m ([.ref x0, .int x1, .int x2, .int x3] : List Value).toArray 4)
  rw [lg_entry_eq]
  generalize (lg_sl ([.ref x0, .int x1, .int x2, .int x3]) ++ List.replicate (4 - (lg_sl ([.ref x0, .int x1, .int x2, .int x3])).length) Slot.unset).toArray = ls at hl ⊢
  have hl : lv_has ls 4 (List.map gq [(0, vR (some x0)), (1, vI x1), (2, vI x2), (3, vI x3)]) := hl
  exact t_X14_inRange_0 X hr _ _ _ _ _ _ hf rfl s.heap [] ls hW va_S.rf (lv_has_sub hl (lvsub_of _ _ [0, 1, 2, 3] rfl))
/-! ## TideLotsModel.member(I)I -/
theorem dX14_member_0 : decode cX14_member 0 = .ok (.aload_n 0, 1) := by decide +kernel
theorem dX14_member_1 : decode cX14_member 1 = .ok (.getfield 39, 3) := by decide +kernel
theorem dX14_member_4 : decode cX14_member 4 = .ok (.astore_n 2, 1) := by decide +kernel
theorem dX14_member_5 : decode cX14_member 5 = .ok (.aload_n 2, 1) := by decide +kernel
theorem dX14_member_6 : decode cX14_member 6 = .ok (.getfield 222, 3) := by decide +kernel
theorem dX14_member_9 : decode cX14_member 9 = .ok (.iconst 1, 1) := by decide +kernel
theorem dX14_member_10 : decode cX14_member 10 = .ok (.isub, 1) := by decide +kernel
theorem dX14_member_11 : decode cX14_member 11 = .ok (.istore_n 3, 1) := by decide +kernel
theorem dX14_member_12 : decode cX14_member 12 = .ok (.iconst 0, 1) := by decide +kernel
theorem dX14_member_13 : decode cX14_member 13 = .ok (.istore 4, 2) := by decide +kernel
theorem dX14_member_15 : decode cX14_member 15 = .ok (.iload 4, 2) := by decide +kernel
theorem dX14_member_17 : decode cX14_member 17 = .ok (.aload_n 2, 1) := by decide +kernel
theorem dX14_member_18 : decode cX14_member 18 = .ok (.getfield 262, 3) := by decide +kernel
theorem dX14_member_21 : decode cX14_member 21 = .ok (.iload_n 3, 1) := by decide +kernel
theorem dX14_member_22 : decode cX14_member 22 = .ok (.iaload, 1) := by decide +kernel
theorem dX14_member_23 : decode cX14_member 23 = .ok (.if_icmp .ge 28, 3) := by decide +kernel
theorem dX14_member_26 : decode cX14_member 26 = .ok (.aload_n 2, 1) := by decide +kernel
theorem dX14_member_27 : decode cX14_member 27 = .ok (.getfield 265, 3) := by decide +kernel
theorem dX14_member_30 : decode cX14_member 30 = .ok (.bipush 8, 2) := by decide +kernel
theorem dX14_member_32 : decode cX14_member 32 = .ok (.iload_n 3, 1) := by decide +kernel
theorem dX14_member_33 : decode cX14_member 33 = .ok (.imul, 1) := by decide +kernel
theorem dX14_member_34 : decode cX14_member 34 = .ok (.iload 4, 2) := by decide +kernel
theorem dX14_member_36 : decode cX14_member 36 = .ok (.iadd, 1) := by decide +kernel
theorem dX14_member_37 : decode cX14_member 37 = .ok (.iaload, 1) := by decide +kernel
theorem dX14_member_38 : decode cX14_member 38 = .ok (.iload_n 1, 1) := by decide +kernel
theorem dX14_member_39 : decode cX14_member 39 = .ok (.if_icmp .ne 6, 3) := by decide +kernel
theorem dX14_member_42 : decode cX14_member 42 = .ok (.bipush 6, 2) := by decide +kernel
theorem dX14_member_44 : decode cX14_member 44 = .ok (.ireturn, 1) := by decide +kernel
theorem dX14_member_45 : decode cX14_member 45 = .ok (.iinc 4 1, 3) := by decide +kernel
theorem dX14_member_48 : decode cX14_member 48 = .ok (.goto (-33), 3) := by decide +kernel
theorem dX14_member_51 : decode cX14_member 51 = .ok (.aload_n 2, 1) := by decide +kernel
theorem dX14_member_52 : decode cX14_member 52 = .ok (.getfield 265, 3) := by decide +kernel
theorem dX14_member_55 : decode cX14_member 55 = .ok (.bipush 8, 2) := by decide +kernel
theorem dX14_member_57 : decode cX14_member 57 = .ok (.iload_n 3, 1) := by decide +kernel
theorem dX14_member_58 : decode cX14_member 58 = .ok (.imul, 1) := by decide +kernel
theorem dX14_member_59 : decode cX14_member 59 = .ok (.aload_n 2, 1) := by decide +kernel
theorem dX14_member_60 : decode cX14_member 60 = .ok (.getfield 262, 3) := by decide +kernel
theorem dX14_member_63 : decode cX14_member 63 = .ok (.iload_n 3, 1) := by decide +kernel
theorem dX14_member_64 : decode cX14_member 64 = .ok (.iaload, 1) := by decide +kernel
theorem dX14_member_65 : decode cX14_member 65 = .ok (.iadd, 1) := by decide +kernel
theorem dX14_member_66 : decode cX14_member 66 = .ok (.iload_n 1, 1) := by decide +kernel
theorem dX14_member_67 : decode cX14_member 67 = .ok (.iastore, 1) := by decide +kernel
theorem dX14_member_68 : decode cX14_member 68 = .ok (.aload_n 2, 1) := by decide +kernel
theorem dX14_member_69 : decode cX14_member 69 = .ok (.getfield 262, 3) := by decide +kernel
theorem dX14_member_72 : decode cX14_member 72 = .ok (.iload_n 3, 1) := by decide +kernel
theorem dX14_member_73 : decode cX14_member 73 = .ok (.dup2, 1) := by decide +kernel
theorem dX14_member_74 : decode cX14_member 74 = .ok (.iaload, 1) := by decide +kernel
theorem dX14_member_75 : decode cX14_member 75 = .ok (.iconst 1, 1) := by decide +kernel
theorem dX14_member_76 : decode cX14_member 76 = .ok (.iadd, 1) := by decide +kernel
theorem dX14_member_77 : decode cX14_member 77 = .ok (.iastore, 1) := by decide +kernel
theorem dX14_member_78 : decode cX14_member 78 = .ok (.iconst 0, 1) := by decide +kernel
theorem dX14_member_79 : decode cX14_member 79 = .ok (.ireturn, 1) := by decide +kernel
theorem kn_X14_262 : Cond.fieldLinkNest "TideLotsModel" (262 : Nat) "TideLotsModel$Told" "members" "[I" "TideLotsModel" ∈ gNs := by decide +kernel
theorem i_X14_member_X13 : ∀ w ∈ u_ws RX13 TX13 25, w ∈ wsX14_member := by decide +kernel
theorem kn_X14_265 : Cond.fieldLinkNest "TideLotsModel" (265 : Nat) "TideLotsModel$Told" "member" "[I" "TideLotsModel" ∈ gNs := by decide +kernel
theorem k_X14_member_f39 : Cond.fieldLink RX14 39 "TideLotsModel" "reading" "LTideLotsModel$Told;" ∈ wsX14_member := by decide +kernel
theorem i_X14_member_X14 : ∀ w ∈ u_ws RX14 TX14 15, w ∈ wsX14_member := by decide +kernel
theorem kn_X14_222 : Cond.fieldLinkNest "TideLotsModel" (222 : Nat) "TideLotsModel$Told" "pacts" "I" "TideLotsModel" ∈ gNs := by decide +kernel
abbrev rX14_member : Room := { frames := 0, cells := 0, slots := 0, locals := 0 }
noncomputable def bb_X14_member_15 (M : gMem) (x1 : Int32) (x2 : Option Nat) (x3 : Int32) (x4 : Int32) : Option ((gMem × Int32) ⊕ (Int32 × gMem)) :=
  dr x2 fun a1 => ck (mT M a1 = 12) <| dr ((mR M a1 13)) fun a3 => ck (mT M a3 = 20) <| ck (inb x3 (mL M a3)) <| (if (mI M a3 x3.toNatClampNeg) ≤ x4 then ck (inb x3 (mL M a3)) <| dr ((mR M a1 14)) fun a7 => ck (mT M a7 = 20) <| ck (inb (((8 : Int32) * x3) + (mI M a3 x3.toNatClampNeg)) (mL M a7)) <| lw (wI M a7 ((((8 : Int32) * x3) + (mI M a3 x3.toNatClampNeg))).toNatClampNeg x1) fun M10 => dr ((mR M10 a1 13)) fun a14 => ck (mT M10 a14 = 20) <| ck (inb x3 (mL M10 a14)) <| ck (inb x3 (mL M10 a14)) <| lw (wI M10 a14 x3.toNatClampNeg (((mI M10 a14 x3.toNatClampNeg) + (1 : Int32)))) fun M18 => oI (some ((0 : Int32), M18)) else dr ((mR M a1 14)) fun a24 => ck (mT M a24 = 20) <| ck (inb (((8 : Int32) * x3) + x4) (mL M a24)) <| (if (mI M a24 ((((8 : Int32) * x3) + x4)).toNatClampNeg) = x1 then oI (some ((6 : Int32), M)) else some (.inl (M, (x4 + (1 : Int32))))))
noncomputable def lp_X14_member_15 (M : gMem) (x1 : Int32) (x2 : Option Nat) (x3 : Int32) (x4 : Int32) : Option (Int32 × gMem) :=
  lp (fun (q : gMem × Int32) => bb_X14_member_15 q.1 x1 x2 x3 q.2) (M, x4)
noncomputable def b_X14_member_0 (M : gMem) (x0 : Nat) (x1 : Int32) : Option (Int32 × gMem) :=
  ck (mT M x0 = 13) <| dr ((mR M x0 12)) fun a29 => ck (mT M a29 = 12) <| lp_X14_member_15 M x1 ((mR M x0 12)) (((mI M a29 11) - (1 : Int32))) ((0 : Int32))
noncomputable def f_X14_member (M : gMem) (x0 : Nat) (x1 : Int32) : Option (Int32 × gMem) :=
  b_X14_member_0 M x0 x1
set_option maxHeartbeats 4000000 in
set_option maxRecDepth 100000 in
theorem tb_X14_member_15 (X : gX p s m args meth c D cy B (gSt Z B H0) RX14 cX14_member wsX14_member 5) (hr : meth.sig.returnType = (some .int)) {Q : State → Prop} : ∀ (M : gMem) (x1 : Int32) (x2 : Option Nat) (x3 : Int32) (x4 : Int32) (z : (gMem × Int32) ⊕ (Int32 × gMem)), bb_X14_member_15 M x1 x2 x3 x4 = some z → (Sum.elim (fun (q : gMem × Int32) => gGo p l e rX14_member s m args below meth c D cy B H0 5 0 0 Q 15 [(1, vI x1), (2, vR x2), (3, vI x3), (4, vI q.2)] [] q.1) (fun (r : Int32 × gMem) => Q = gMQ below D cy B H0 args s 0 0 (some (vI r.1)) r.2)) z → gGo p l e rX14_member s m args below meth c D cy B H0 5 0 0 Q 15 [(1, vI x1), (2, vR x2), (3, vI x3), (4, vI x4)] [] M := by
  intro M x1 x2 x3 x4 z hf hK
  unfold bb_X14_member_15 at hf
  refine g_iload X dX14_member_15 rfl ?_
  refine g_aload_n X dX14_member_17 rfl rfl ?_
  obtain ⟨a1, ha1, hf⟩ := dr_e hf
  obtain ⟨hT2, hf⟩ := ck_e hf
  refine g_getN (ci := 11) (w := vR (mR M a1 13)) 13 X cdX13 i_X14_member_X13 (by decide) (gNw X _ kn_X14_262) rfl dX14_member_18 ha1 hT2 rfl ?_
  refine g_iload_n X dX14_member_21 rfl rfl ?_
  obtain ⟨a3, ha3, hf⟩ := dr_e hf
  obtain ⟨hT4, hf⟩ := ck_e hf
  obtain ⟨hg5, hf⟩ := ck_e hf
  refine g_iald X dX14_member_22 ha3 hT4 hg5 ?_
  refine g_icmp_ge (tgt := 51) X dX14_member_23 (by decide) (fun hc => ?_) (fun hc => ?_)
  · have hf := ife_t hc hf
    refine g_aload_n X dX14_member_51 rfl rfl ?_
    refine g_getN (ci := 11) (w := vR (mR M a1 14)) 14 X cdX13 i_X14_member_X13 (by decide) (gNw X _ kn_X14_265) rfl dX14_member_52 ha1 hT2 rfl ?_
    refine g_bipush (v := (8 : Int32)) X dX14_member_55 (by decide) ?_
    refine g_iload_n X dX14_member_57 rfl rfl ?_
    refine g_imul X dX14_member_58 ?_
    refine g_aload_n X dX14_member_59 rfl rfl ?_
    refine g_getN (ci := 11) (w := vR (mR M a1 13)) 13 X cdX13 i_X14_member_X13 (by decide) (gNw X _ kn_X14_262) rfl dX14_member_60 ha1 hT2 rfl ?_
    refine g_iload_n X dX14_member_63 rfl rfl ?_
    obtain ⟨hg6, hf⟩ := ck_e hf
    refine g_iald X dX14_member_64 ha3 hT4 hg6 ?_
    refine g_iadd X dX14_member_65 ?_
    refine g_iload_n X dX14_member_66 rfl rfl ?_
    obtain ⟨a7, ha7, hf⟩ := dr_e hf
    obtain ⟨hT8, hf⟩ := ck_e hf
    obtain ⟨hg9, hf⟩ := ck_e hf
    refine g_iast X dX14_member_67 ha7 hT8 hg9 ?_
    obtain ⟨M10, hM10, hf⟩ := lw_e hf
    rw [← hM10]
    have hT11 : mT M10 a1 = 12 := by rw [hM10]; exact hT2
    have hT12 : mT M10 a3 = 20 := by rw [hM10]; exact hT4
    have hT13 : mT M10 a7 = 20 := by rw [hM10]; exact hT8
    refine g_aload_n X dX14_member_68 rfl rfl ?_
    refine g_getN (ci := 11) (w := vR (mR M10 a1 13)) 13 X cdX13 i_X14_member_X13 (by decide) (gNw X _ kn_X14_262) rfl dX14_member_69 ha1 hT11 rfl ?_
    refine g_iload_n X dX14_member_72 rfl rfl ?_
    refine g_dup2 X dX14_member_73 rfl rfl ?_
    obtain ⟨a14, ha14, hf⟩ := dr_e hf
    obtain ⟨hT15, hf⟩ := ck_e hf
    obtain ⟨hg16, hf⟩ := ck_e hf
    refine g_iald X dX14_member_74 ha14 hT15 hg16 ?_
    refine g_iconst (v := (1 : Int32)) X dX14_member_75 (by decide) ?_
    refine g_iadd X dX14_member_76 ?_
    obtain ⟨hg17, hf⟩ := ck_e hf
    refine g_iast X dX14_member_77 ha14 hT15 hg17 ?_
    obtain ⟨M18, hM18, hf⟩ := lw_e hf
    rw [← hM18]
    have hT19 : mT M18 a1 = 12 := by rw [hM18]; exact hT11
    have hT20 : mT M18 a3 = 20 := by rw [hM18]; exact hT12
    have hT21 : mT M18 a7 = 20 := by rw [hM18]; exact hT13
    have hT22 : mT M18 a14 = 20 := by rw [hM18]; exact hT15
    refine g_iconst (v := (0 : Int32)) X dX14_member_78 (by decide) ?_
    obtain ⟨w23, hw23, hz23⟩ := oI_e hf
    subst hz23
    have hf := hw23
    cases hf
    refine g_eqQ hK ?_
    exact g_iret X hr dX14_member_79
  · have hf := ife_f hc hf
    refine g_aload_n X dX14_member_26 rfl rfl ?_
    refine g_getN (ci := 11) (w := vR (mR M a1 14)) 14 X cdX13 i_X14_member_X13 (by decide) (gNw X _ kn_X14_265) rfl dX14_member_27 ha1 hT2 rfl ?_
    refine g_bipush (v := (8 : Int32)) X dX14_member_30 (by decide) ?_
    refine g_iload_n X dX14_member_32 rfl rfl ?_
    refine g_imul X dX14_member_33 ?_
    refine g_iload X dX14_member_34 rfl ?_
    refine g_iadd X dX14_member_36 ?_
    obtain ⟨a24, ha24, hf⟩ := dr_e hf
    obtain ⟨hT25, hf⟩ := ck_e hf
    obtain ⟨hg26, hf⟩ := ck_e hf
    refine g_iald X dX14_member_37 ha24 hT25 hg26 ?_
    refine g_iload_n X dX14_member_38 rfl rfl ?_
    refine g_icmp_ne (tgt := 45) X dX14_member_39 (by decide) (fun hc => ?_) (fun hc => ?_)
    · have hf := ife_f hc hf
      refine g_iinc (v := (1 : Int32)) (lv' := [(4, vI (x4 + (1 : Int32))), (1, vI x1), (2, vR x2), (3, vI x3)]) X dX14_member_45 rfl (by decide) (by decide) rfl ?_
      refine g_goto (tgt := 15) X dX14_member_48 (by decide) ?_
      cases hf
      refine g_sub (lvsub_of _ _ [1, 2, 3, 0] rfl) ?_
      exact hK
    · have hf := ife_t hc hf
      refine g_bipush (v := (6 : Int32)) X dX14_member_42 (by decide) ?_
      obtain ⟨w27, hw27, hz27⟩ := oI_e hf
      subst hz27
      have hf := hw27
      cases hf
      refine g_eqQ hK ?_
      exact g_iret X hr dX14_member_44
set_option maxHeartbeats 4000000 in
set_option maxRecDepth 100000 in
theorem tl_X14_member_15 (X : gX p s m args meth c D cy B (gSt Z B H0) RX14 cX14_member wsX14_member 5) (hr : meth.sig.returnType = (some .int)) {Q : State → Prop} : ∀ (M : gMem) (x1 : Int32) (x2 : Option Nat) (x3 : Int32) (x4 : Int32) (z : Int32 × gMem), lp_X14_member_15 M x1 x2 x3 x4 = some z → (fun (r : Int32 × gMem) => Q = gMQ below D cy B H0 args s 0 0 (some (vI r.1)) r.2) z → gGo p l e rX14_member s m args below meth c D cy B H0 5 0 0 Q 15 [(1, vI x1), (2, vR x2), (3, vI x3), (4, vI x4)] [] M := by
  intro M x1 x2 x3 x4 z hf hK
  refine lp_ind (P := (fun (q : gMem × Int32) (z : Int32 × gMem) => (fun (r : Int32 × gMem) => Q = gMQ below D cy B H0 args s 0 0 (some (vI r.1)) r.2) z → gGo p l e rX14_member s m args below meth c D cy B H0 5 0 0 Q 15 [(1, vI x1), (2, vR x2), (3, vI x3), (4, vI q.2)] [] q.1)) (fun q z hq => ?_) _ _ hf hK
  intro hK
  obtain ⟨w, hw, hm⟩ := hq
  refine tb_X14_member_15 X hr _ _ _ _ _ w hw ?_
  cases w with
  | inl a => exact hm hK
  | inr b => cases hm; exact hK
set_option maxHeartbeats 4000000 in
set_option maxRecDepth 100000 in
theorem t_X14_member_0 (X : gX p s m args meth c D cy B (gSt Z B H0) RX14 cX14_member wsX14_member 5) (hr : meth.sig.returnType = (some .int)) {Q : State → Prop} : ∀ (M : gMem) (x0 : Nat) (x1 : Int32) (z : Int32 × gMem), b_X14_member_0 M x0 x1 = some z → (fun (r : Int32 × gMem) => Q = gMQ below D cy B H0 args s 0 0 (some (vI r.1)) r.2) z → gGo p l e rX14_member s m args below meth c D cy B H0 5 0 0 Q 0 [(0, vR (some x0)), (1, vI x1)] [] M := by
  intro M x0 x1 z hf hK
  unfold b_X14_member_0 at hf
  refine g_aload_n X dX14_member_0 rfl rfl ?_
  obtain ⟨hT28, hf⟩ := ck_e hf
  refine g_get (ci := 12) (v := vR (mR M x0 12)) 12 X cdX14 i_X14_member_X14 (by decide) k_X14_member_f39 rfl dX14_member_1 rfl hT28 rfl ?_
  refine g_astore_n (lv' := [(2, vR (mR M x0 12)), (0, vR (some x0)), (1, vI x1)]) X dX14_member_4 rfl (by decide) rfl ?_
  refine g_aload_n X dX14_member_5 rfl rfl ?_
  obtain ⟨a29, ha29, hf⟩ := dr_e hf
  obtain ⟨hT30, hf⟩ := ck_e hf
  refine g_getN (ci := 11) (w := vI (mI M a29 11)) 11 X cdX13 i_X14_member_X13 (by decide) (gNw X _ kn_X14_222) rfl dX14_member_6 ha29 hT30 rfl ?_
  refine g_iconst (v := (1 : Int32)) X dX14_member_9 (by decide) ?_
  refine g_isub X dX14_member_10 ?_
  refine g_istore_n (lv' := [(3, vI ((mI M a29 11) - (1 : Int32))), (2, vR (mR M x0 12)), (0, vR (some x0)), (1, vI x1)]) X dX14_member_11 rfl (by decide) rfl ?_
  refine g_iconst (v := (0 : Int32)) X dX14_member_12 (by decide) ?_
  refine g_istore (lv' := [(4, vI (0 : Int32)), (3, vI ((mI M a29 11) - (1 : Int32))), (2, vR (mR M x0 12)), (0, vR (some x0)), (1, vI x1)]) X dX14_member_13 (by decide) rfl ?_
  refine g_sub (lvsub_of _ _ [4, 2, 1, 0] rfl) ?_
  exact tl_X14_member_15 X hr _ _ _ _ _ _ hf hK
set_option maxHeartbeats 4000000 in
set_option maxRecDepth 100000 in
theorem m_X14_member (l : Launch) {D : va_G} {cy : Nat → ClassId} {B : Nat} {H0 : Heap} {Z : Nat → Nat} {M M1 : gMem} {x0 : Nat} {x1 : Int32} {r : Int32} (hf : f_X14_member M x0 x1 = some (r, M1)) : Met l yX14_member wsX14_member rX14_member (va_Pc (Value.ref x0 :: List.map gv [vI x1]) (gPre D cy B H0 (gSt Z B H0) M)) (gQ D cy B H0 (some (vI r)) M1) 0 0 (gA B) := by
  refine Met.ofW (cc := cX14_member) (maxL := 5) (ret := (some .int)) (by decide) rfl ?_
  intro p e s m args below meth c s₁ Bd hml hv
  obtain ⟨rfl, hW, hKK, hFs⟩ := hv
  have X : gX p s m _ meth c D cy B (gSt Z B H0) RX14 cX14_member wsX14_member 5 := ⟨Bd.exec, Bd.bytes, atoms_spec (ws := wsX14_member) Bd.pre, findClass_of_methodNamed Bd.named, hml, hKK, by rw [hW.1]; exact hW.2.1, Bd.notSynchronized, hFs⟩
  have hr := Bd.returns
  have hl := lv_entry ([.ref x0, .int x1]) (n := 5) (Nat.le_of_ble_eq_true rfl)
  show W p l e rX14_member s m _ below meth c s.heap [] 0 0 _ (entryFrame m ([.ref x0, .int x1] : List Value).toArray 5)
  rw [lg_entry_eq]
  generalize (lg_sl ([.ref x0, .int x1]) ++ List.replicate (5 - (lg_sl ([.ref x0, .int x1])).length) Slot.unset).toArray = ls at hl ⊢
  have hl : lv_has ls 5 (List.map gq [(0, vR (some x0)), (1, vI x1)]) := hl
  exact t_X14_member_0 X hr _ _ _ _ hf rfl s.heap [] ls hW va_S.rf (lv_has_sub hl (lvsub_of _ _ [0, 1] rfl))
/-! ## TideLotsModel.errorOf(I)I -/
theorem dX14_errorOf_0 : decode cX14_errorOf 0 = .ok (.aload_n 0, 1) := by decide +kernel
theorem dX14_errorOf_1 : decode cX14_errorOf 1 = .ok (.getfield 39, 3) := by decide +kernel
theorem dX14_errorOf_4 : decode cX14_errorOf 4 = .ok (.astore_n 2, 1) := by decide +kernel
theorem dX14_errorOf_5 : decode cX14_errorOf 5 = .ok (.aload_n 2, 1) := by decide +kernel
theorem dX14_errorOf_6 : decode cX14_errorOf 6 = .ok (.getfield 60, 3) := by decide +kernel
theorem dX14_errorOf_9 : decode cX14_errorOf 9 = .ok (.iconst 1, 1) := by decide +kernel
theorem dX14_errorOf_10 : decode cX14_errorOf 10 = .ok (.isub, 1) := by decide +kernel
theorem dX14_errorOf_11 : decode cX14_errorOf 11 = .ok (.istore_n 3, 1) := by decide +kernel
theorem dX14_errorOf_12 : decode cX14_errorOf 12 = .ok (.aload_n 2, 1) := by decide +kernel
theorem dX14_errorOf_13 : decode cX14_errorOf 13 = .ok (.getfield 67, 3) := by decide +kernel
theorem dX14_errorOf_16 : decode cX14_errorOf 16 = .ok (.iconst 1, 1) := by decide +kernel
theorem dX14_errorOf_17 : decode cX14_errorOf 17 = .ok (.isub, 1) := by decide +kernel
theorem dX14_errorOf_18 : decode cX14_errorOf 18 = .ok (.istore 4, 2) := by decide +kernel
theorem dX14_errorOf_20 : decode cX14_errorOf 20 = .ok (.aload_n 0, 1) := by decide +kernel
theorem dX14_errorOf_21 : decode cX14_errorOf 21 = .ok (.getfield 26, 3) := by decide +kernel
theorem dX14_errorOf_24 : decode cX14_errorOf 24 = .ok (.iload_n 1, 1) := by decide +kernel
theorem dX14_errorOf_25 : decode cX14_errorOf 25 = .ok (.iaload, 1) := by decide +kernel
theorem dX14_errorOf_26 : decode cX14_errorOf 26 = .ok (.tableswitch 473 1 15 #[74, 114, 149, 194, 217, 237, 284, 304, 325, 346, 374, 430, 402, 459, 466], 74) := by decide +kernel
theorem dX14_errorOf_100 : decode cX14_errorOf 100 = .ok (.aload_n 0, 1) := by decide +kernel
theorem dX14_errorOf_101 : decode cX14_errorOf 101 = .ok (.iload_n 1, 1) := by decide +kernel
theorem dX14_errorOf_102 : decode cX14_errorOf 102 = .ok (.iconst 1, 1) := by decide +kernel
theorem dX14_errorOf_103 : decode cX14_errorOf 103 = .ok (.invokevirtual 217, 3) := by decide +kernel
theorem dX14_errorOf_106 : decode cX14_errorOf 106 = .ok (.iconst (-1), 1) := by decide +kernel
theorem dX14_errorOf_107 : decode cX14_errorOf 107 = .ok (.if_icmp .eq 5, 3) := by decide +kernel
theorem dX14_errorOf_110 : decode cX14_errorOf 110 = .ok (.iconst 2, 1) := by decide +kernel
theorem dX14_errorOf_111 : decode cX14_errorOf 111 = .ok (.ireturn, 1) := by decide +kernel
theorem dX14_errorOf_112 : decode cX14_errorOf 112 = .ok (.aload_n 2, 1) := by decide +kernel
theorem dX14_errorOf_113 : decode cX14_errorOf 113 = .ok (.getfield 60, 3) := by decide +kernel
theorem dX14_errorOf_116 : decode cX14_errorOf 116 = .ok (.bipush 8, 2) := by decide +kernel
theorem dX14_errorOf_118 : decode cX14_errorOf 118 = .ok (.if_icmp .ne 5, 3) := by decide +kernel
theorem dX14_errorOf_121 : decode cX14_errorOf 121 = .ok (.iconst 4, 1) := by decide +kernel
theorem dX14_errorOf_122 : decode cX14_errorOf 122 = .ok (.ireturn, 1) := by decide +kernel
theorem dX14_errorOf_123 : decode cX14_errorOf 123 = .ok (.aload_n 2, 1) := by decide +kernel
theorem dX14_errorOf_124 : decode cX14_errorOf 124 = .ok (.dup, 1) := by decide +kernel
theorem dX14_errorOf_125 : decode cX14_errorOf 125 = .ok (.getfield 60, 3) := by decide +kernel
theorem dX14_errorOf_128 : decode cX14_errorOf 128 = .ok (.iconst 1, 1) := by decide +kernel
theorem dX14_errorOf_129 : decode cX14_errorOf 129 = .ok (.iadd, 1) := by decide +kernel
theorem dX14_errorOf_130 : decode cX14_errorOf 130 = .ok (.putfield 60, 3) := by decide +kernel
theorem dX14_errorOf_133 : decode cX14_errorOf 133 = .ok (.aload_n 2, 1) := by decide +kernel
theorem dX14_errorOf_134 : decode cX14_errorOf 134 = .ok (.iconst 0, 1) := by decide +kernel
theorem dX14_errorOf_135 : decode cX14_errorOf 135 = .ok (.putfield 219, 3) := by decide +kernel
theorem dX14_errorOf_138 : decode cX14_errorOf 138 = .ok (.iconst 0, 1) := by decide +kernel
theorem dX14_errorOf_139 : decode cX14_errorOf 139 = .ok (.ireturn, 1) := by decide +kernel
theorem dX14_errorOf_140 : decode cX14_errorOf 140 = .ok (.aload_n 0, 1) := by decide +kernel
theorem dX14_errorOf_141 : decode cX14_errorOf 141 = .ok (.iload_n 1, 1) := by decide +kernel
theorem dX14_errorOf_142 : decode cX14_errorOf 142 = .ok (.iconst 2, 1) := by decide +kernel
theorem dX14_errorOf_143 : decode cX14_errorOf 143 = .ok (.invokevirtual 217, 3) := by decide +kernel
theorem dX14_errorOf_146 : decode cX14_errorOf 146 = .ok (.iconst (-1), 1) := by decide +kernel
theorem dX14_errorOf_147 : decode cX14_errorOf 147 = .ok (.if_icmp .eq 5, 3) := by decide +kernel
theorem dX14_errorOf_150 : decode cX14_errorOf 150 = .ok (.iconst 2, 1) := by decide +kernel
theorem dX14_errorOf_151 : decode cX14_errorOf 151 = .ok (.ireturn, 1) := by decide +kernel
theorem dX14_errorOf_152 : decode cX14_errorOf 152 = .ok (.aload_n 2, 1) := by decide +kernel
theorem dX14_errorOf_153 : decode cX14_errorOf 153 = .ok (.getfield 67, 3) := by decide +kernel
theorem dX14_errorOf_156 : decode cX14_errorOf 156 = .ok (.bipush 8, 2) := by decide +kernel
theorem dX14_errorOf_158 : decode cX14_errorOf 158 = .ok (.if_icmp .ne 5, 3) := by decide +kernel
theorem dX14_errorOf_161 : decode cX14_errorOf 161 = .ok (.iconst 4, 1) := by decide +kernel
theorem dX14_errorOf_162 : decode cX14_errorOf 162 = .ok (.ireturn, 1) := by decide +kernel
theorem dX14_errorOf_163 : decode cX14_errorOf 163 = .ok (.aload_n 2, 1) := by decide +kernel
theorem dX14_errorOf_164 : decode cX14_errorOf 164 = .ok (.dup, 1) := by decide +kernel
theorem dX14_errorOf_165 : decode cX14_errorOf 165 = .ok (.getfield 67, 3) := by decide +kernel
theorem dX14_errorOf_168 : decode cX14_errorOf 168 = .ok (.iconst 1, 1) := by decide +kernel
theorem dX14_errorOf_169 : decode cX14_errorOf 169 = .ok (.iadd, 1) := by decide +kernel
theorem dX14_errorOf_170 : decode cX14_errorOf 170 = .ok (.putfield 67, 3) := by decide +kernel
theorem dX14_errorOf_173 : decode cX14_errorOf 173 = .ok (.iconst 0, 1) := by decide +kernel
theorem dX14_errorOf_174 : decode cX14_errorOf 174 = .ok (.ireturn, 1) := by decide +kernel
theorem dX14_errorOf_175 : decode cX14_errorOf 175 = .ok (.aload_n 0, 1) := by decide +kernel
theorem dX14_errorOf_176 : decode cX14_errorOf 176 = .ok (.iload_n 1, 1) := by decide +kernel
theorem dX14_errorOf_177 : decode cX14_errorOf 177 = .ok (.iconst 3, 1) := by decide +kernel
theorem dX14_errorOf_178 : decode cX14_errorOf 178 = .ok (.invokevirtual 217, 3) := by decide +kernel
theorem dX14_errorOf_181 : decode cX14_errorOf 181 = .ok (.iconst (-1), 1) := by decide +kernel
theorem dX14_errorOf_182 : decode cX14_errorOf 182 = .ok (.if_icmp .eq 5, 3) := by decide +kernel
theorem dX14_errorOf_185 : decode cX14_errorOf 185 = .ok (.iconst 2, 1) := by decide +kernel
theorem dX14_errorOf_186 : decode cX14_errorOf 186 = .ok (.ireturn, 1) := by decide +kernel
theorem dX14_errorOf_187 : decode cX14_errorOf 187 = .ok (.aload_n 2, 1) := by decide +kernel
theorem dX14_errorOf_188 : decode cX14_errorOf 188 = .ok (.getfield 222, 3) := by decide +kernel
theorem dX14_errorOf_191 : decode cX14_errorOf 191 = .ok (.bipush 6, 2) := by decide +kernel
theorem dX14_errorOf_193 : decode cX14_errorOf 193 = .ok (.if_icmp .ne 5, 3) := by decide +kernel
theorem dX14_errorOf_196 : decode cX14_errorOf 196 = .ok (.iconst 4, 1) := by decide +kernel
theorem dX14_errorOf_197 : decode cX14_errorOf 197 = .ok (.ireturn, 1) := by decide +kernel
theorem dX14_errorOf_198 : decode cX14_errorOf 198 = .ok (.aload_n 2, 1) := by decide +kernel
theorem dX14_errorOf_199 : decode cX14_errorOf 199 = .ok (.getfield 225, 3) := by decide +kernel
theorem dX14_errorOf_202 : decode cX14_errorOf 202 = .ok (.aload_n 2, 1) := by decide +kernel
theorem dX14_errorOf_203 : decode cX14_errorOf 203 = .ok (.getfield 222, 3) := by decide +kernel
theorem dX14_errorOf_206 : decode cX14_errorOf 206 = .ok (.iconst (-1), 1) := by decide +kernel
theorem dX14_errorOf_207 : decode cX14_errorOf 207 = .ok (.iastore, 1) := by decide +kernel
theorem dX14_errorOf_208 : decode cX14_errorOf 208 = .ok (.aload_n 2, 1) := by decide +kernel
theorem dX14_errorOf_209 : decode cX14_errorOf 209 = .ok (.dup, 1) := by decide +kernel
theorem dX14_errorOf_210 : decode cX14_errorOf 210 = .ok (.getfield 222, 3) := by decide +kernel
theorem dX14_errorOf_213 : decode cX14_errorOf 213 = .ok (.iconst 1, 1) := by decide +kernel
theorem dX14_errorOf_214 : decode cX14_errorOf 214 = .ok (.iadd, 1) := by decide +kernel
theorem dX14_errorOf_215 : decode cX14_errorOf 215 = .ok (.putfield 222, 3) := by decide +kernel
theorem dX14_errorOf_218 : decode cX14_errorOf 218 = .ok (.iconst 0, 1) := by decide +kernel
theorem dX14_errorOf_219 : decode cX14_errorOf 219 = .ok (.ireturn, 1) := by decide +kernel
theorem dX14_errorOf_220 : decode cX14_errorOf 220 = .ok (.aload_n 2, 1) := by decide +kernel
theorem dX14_errorOf_221 : decode cX14_errorOf 221 = .ok (.getfield 228, 3) := by decide +kernel
theorem dX14_errorOf_224 : decode cX14_errorOf 224 = .ok (.bipush 24, 2) := by decide +kernel
theorem dX14_errorOf_226 : decode cX14_errorOf 226 = .ok (.if_icmp .ne 5, 3) := by decide +kernel
theorem dX14_errorOf_229 : decode cX14_errorOf 229 = .ok (.iconst 4, 1) := by decide +kernel
theorem dX14_errorOf_230 : decode cX14_errorOf 230 = .ok (.ireturn, 1) := by decide +kernel
theorem dX14_errorOf_231 : decode cX14_errorOf 231 = .ok (.aload_n 2, 1) := by decide +kernel
theorem dX14_errorOf_232 : decode cX14_errorOf 232 = .ok (.dup, 1) := by decide +kernel
theorem dX14_errorOf_233 : decode cX14_errorOf 233 = .ok (.getfield 228, 3) := by decide +kernel
theorem dX14_errorOf_236 : decode cX14_errorOf 236 = .ok (.iconst 1, 1) := by decide +kernel
theorem dX14_errorOf_237 : decode cX14_errorOf 237 = .ok (.iadd, 1) := by decide +kernel
theorem dX14_errorOf_238 : decode cX14_errorOf 238 = .ok (.putfield 228, 3) := by decide +kernel
theorem dX14_errorOf_241 : decode cX14_errorOf 241 = .ok (.iconst 0, 1) := by decide +kernel
theorem dX14_errorOf_242 : decode cX14_errorOf 242 = .ok (.ireturn, 1) := by decide +kernel
theorem dX14_errorOf_243 : decode cX14_errorOf 243 = .ok (.aload_n 2, 1) := by decide +kernel
theorem dX14_errorOf_244 : decode cX14_errorOf 244 = .ok (.getfield 231, 3) := by decide +kernel
theorem dX14_errorOf_247 : decode cX14_errorOf 247 = .ok (.iload_n 3, 1) := by decide +kernel
theorem dX14_errorOf_248 : decode cX14_errorOf 248 = .ok (.aload_n 0, 1) := by decide +kernel
theorem dX14_errorOf_249 : decode cX14_errorOf 249 = .ok (.iload_n 1, 1) := by decide +kernel
theorem dX14_errorOf_250 : decode cX14_errorOf 250 = .ok (.invokevirtual 211, 3) := by decide +kernel
theorem dX14_errorOf_253 : decode cX14_errorOf 253 = .ok (.iastore, 1) := by decide +kernel
theorem dX14_errorOf_254 : decode cX14_errorOf 254 = .ok (.aload_n 0, 1) := by decide +kernel
theorem dX14_errorOf_255 : decode cX14_errorOf 255 = .ok (.iload_n 1, 1) := by decide +kernel
theorem dX14_errorOf_256 : decode cX14_errorOf 256 = .ok (.iconst 1, 1) := by decide +kernel
theorem dX14_errorOf_257 : decode cX14_errorOf 257 = .ok (.bipush 8, 2) := by decide +kernel
theorem dX14_errorOf_259 : decode cX14_errorOf 259 = .ok (.invokevirtual 234, 3) := by decide +kernel
theorem dX14_errorOf_262 : decode cX14_errorOf 262 = .ok (.ireturn, 1) := by decide +kernel
theorem dX14_errorOf_263 : decode cX14_errorOf 263 = .ok (.aload_n 2, 1) := by decide +kernel
theorem dX14_errorOf_264 : decode cX14_errorOf 264 = .ok (.getfield 219, 3) := by decide +kernel
theorem dX14_errorOf_267 : decode cX14_errorOf 267 = .ok (.iconst 5, 1) := by decide +kernel
theorem dX14_errorOf_268 : decode cX14_errorOf 268 = .ok (.if_icmp .ne 5, 3) := by decide +kernel
theorem dX14_errorOf_271 : decode cX14_errorOf 271 = .ok (.iconst 4, 1) := by decide +kernel
theorem dX14_errorOf_272 : decode cX14_errorOf 272 = .ok (.ireturn, 1) := by decide +kernel
theorem dX14_errorOf_273 : decode cX14_errorOf 273 = .ok (.aload_n 2, 1) := by decide +kernel
theorem dX14_errorOf_274 : decode cX14_errorOf 274 = .ok (.getfield 238, 3) := by decide +kernel
theorem dX14_errorOf_277 : decode cX14_errorOf 277 = .ok (.iconst 5, 1) := by decide +kernel
theorem dX14_errorOf_278 : decode cX14_errorOf 278 = .ok (.iload_n 3, 1) := by decide +kernel
theorem dX14_errorOf_279 : decode cX14_errorOf 279 = .ok (.imul, 1) := by decide +kernel
theorem dX14_errorOf_280 : decode cX14_errorOf 280 = .ok (.aload_n 2, 1) := by decide +kernel
theorem dX14_errorOf_281 : decode cX14_errorOf 281 = .ok (.getfield 219, 3) := by decide +kernel
theorem dX14_errorOf_284 : decode cX14_errorOf 284 = .ok (.iadd, 1) := by decide +kernel
theorem dX14_errorOf_285 : decode cX14_errorOf 285 = .ok (.aload_n 0, 1) := by decide +kernel
theorem dX14_errorOf_286 : decode cX14_errorOf 286 = .ok (.iload_n 1, 1) := by decide +kernel
theorem dX14_errorOf_287 : decode cX14_errorOf 287 = .ok (.invokevirtual 211, 3) := by decide +kernel
theorem dX14_errorOf_290 : decode cX14_errorOf 290 = .ok (.iastore, 1) := by decide +kernel
theorem dX14_errorOf_291 : decode cX14_errorOf 291 = .ok (.aload_n 2, 1) := by decide +kernel
theorem dX14_errorOf_292 : decode cX14_errorOf 292 = .ok (.dup, 1) := by decide +kernel
theorem dX14_errorOf_293 : decode cX14_errorOf 293 = .ok (.getfield 219, 3) := by decide +kernel
theorem dX14_errorOf_296 : decode cX14_errorOf 296 = .ok (.iconst 1, 1) := by decide +kernel
theorem dX14_errorOf_297 : decode cX14_errorOf 297 = .ok (.iadd, 1) := by decide +kernel
theorem dX14_errorOf_298 : decode cX14_errorOf 298 = .ok (.putfield 219, 3) := by decide +kernel
theorem dX14_errorOf_301 : decode cX14_errorOf 301 = .ok (.aload_n 0, 1) := by decide +kernel
theorem dX14_errorOf_302 : decode cX14_errorOf 302 = .ok (.iload_n 1, 1) := by decide +kernel
theorem dX14_errorOf_303 : decode cX14_errorOf 303 = .ok (.iconst 0, 1) := by decide +kernel
theorem dX14_errorOf_304 : decode cX14_errorOf 304 = .ok (.bipush 99, 2) := by decide +kernel
theorem dX14_errorOf_306 : decode cX14_errorOf 306 = .ok (.invokevirtual 234, 3) := by decide +kernel
theorem dX14_errorOf_309 : decode cX14_errorOf 309 = .ok (.ireturn, 1) := by decide +kernel
theorem dX14_errorOf_310 : decode cX14_errorOf 310 = .ok (.aload_n 2, 1) := by decide +kernel
theorem dX14_errorOf_311 : decode cX14_errorOf 311 = .ok (.getfield 241, 3) := by decide +kernel
theorem dX14_errorOf_314 : decode cX14_errorOf 314 = .ok (.iload 4, 2) := by decide +kernel
theorem dX14_errorOf_316 : decode cX14_errorOf 316 = .ok (.aload_n 0, 1) := by decide +kernel
theorem dX14_errorOf_317 : decode cX14_errorOf 317 = .ok (.iload_n 1, 1) := by decide +kernel
theorem dX14_errorOf_318 : decode cX14_errorOf 318 = .ok (.invokevirtual 211, 3) := by decide +kernel
theorem dX14_errorOf_321 : decode cX14_errorOf 321 = .ok (.iastore, 1) := by decide +kernel
theorem dX14_errorOf_322 : decode cX14_errorOf 322 = .ok (.aload_n 0, 1) := by decide +kernel
theorem dX14_errorOf_323 : decode cX14_errorOf 323 = .ok (.iload_n 1, 1) := by decide +kernel
theorem dX14_errorOf_324 : decode cX14_errorOf 324 = .ok (.iconst 1, 1) := by decide +kernel
theorem dX14_errorOf_325 : decode cX14_errorOf 325 = .ok (.iconst 5, 1) := by decide +kernel
theorem dX14_errorOf_326 : decode cX14_errorOf 326 = .ok (.invokevirtual 234, 3) := by decide +kernel
theorem dX14_errorOf_329 : decode cX14_errorOf 329 = .ok (.ireturn, 1) := by decide +kernel
theorem dX14_errorOf_330 : decode cX14_errorOf 330 = .ok (.aload_n 2, 1) := by decide +kernel
theorem dX14_errorOf_331 : decode cX14_errorOf 331 = .ok (.getfield 244, 3) := by decide +kernel
theorem dX14_errorOf_334 : decode cX14_errorOf 334 = .ok (.iload 4, 2) := by decide +kernel
theorem dX14_errorOf_336 : decode cX14_errorOf 336 = .ok (.aload_n 0, 1) := by decide +kernel
theorem dX14_errorOf_337 : decode cX14_errorOf 337 = .ok (.iload_n 1, 1) := by decide +kernel
theorem dX14_errorOf_338 : decode cX14_errorOf 338 = .ok (.invokevirtual 211, 3) := by decide +kernel
theorem dX14_errorOf_341 : decode cX14_errorOf 341 = .ok (.iastore, 1) := by decide +kernel
theorem dX14_errorOf_342 : decode cX14_errorOf 342 = .ok (.aload_n 0, 1) := by decide +kernel
theorem dX14_errorOf_343 : decode cX14_errorOf 343 = .ok (.iload_n 1, 1) := by decide +kernel
theorem dX14_errorOf_344 : decode cX14_errorOf 344 = .ok (.iconst 1, 1) := by decide +kernel
theorem dX14_errorOf_345 : decode cX14_errorOf 345 = .ok (.bipush 99, 2) := by decide +kernel
theorem dX14_errorOf_347 : decode cX14_errorOf 347 = .ok (.invokevirtual 234, 3) := by decide +kernel
theorem dX14_errorOf_350 : decode cX14_errorOf 350 = .ok (.ireturn, 1) := by decide +kernel
theorem dX14_errorOf_351 : decode cX14_errorOf 351 = .ok (.aload_n 2, 1) := by decide +kernel
theorem dX14_errorOf_352 : decode cX14_errorOf 352 = .ok (.getfield 247, 3) := by decide +kernel
theorem dX14_errorOf_355 : decode cX14_errorOf 355 = .ok (.iload 4, 2) := by decide +kernel
theorem dX14_errorOf_357 : decode cX14_errorOf 357 = .ok (.aload_n 0, 1) := by decide +kernel
theorem dX14_errorOf_358 : decode cX14_errorOf 358 = .ok (.iload_n 1, 1) := by decide +kernel
theorem dX14_errorOf_359 : decode cX14_errorOf 359 = .ok (.invokevirtual 211, 3) := by decide +kernel
theorem dX14_errorOf_362 : decode cX14_errorOf 362 = .ok (.iastore, 1) := by decide +kernel
theorem dX14_errorOf_363 : decode cX14_errorOf 363 = .ok (.aload_n 0, 1) := by decide +kernel
theorem dX14_errorOf_364 : decode cX14_errorOf 364 = .ok (.iload_n 1, 1) := by decide +kernel
theorem dX14_errorOf_365 : decode cX14_errorOf 365 = .ok (.iconst 1, 1) := by decide +kernel
theorem dX14_errorOf_366 : decode cX14_errorOf 366 = .ok (.bipush 40, 2) := by decide +kernel
theorem dX14_errorOf_368 : decode cX14_errorOf 368 = .ok (.invokevirtual 234, 3) := by decide +kernel
theorem dX14_errorOf_371 : decode cX14_errorOf 371 = .ok (.ireturn, 1) := by decide +kernel
theorem dX14_errorOf_372 : decode cX14_errorOf 372 = .ok (.aload_n 0, 1) := by decide +kernel
theorem dX14_errorOf_373 : decode cX14_errorOf 373 = .ok (.iload_n 1, 1) := by decide +kernel
theorem dX14_errorOf_374 : decode cX14_errorOf 374 = .ok (.iconst 2, 1) := by decide +kernel
theorem dX14_errorOf_375 : decode cX14_errorOf 375 = .ok (.invokevirtual 250, 3) := by decide +kernel
theorem dX14_errorOf_378 : decode cX14_errorOf 378 = .ok (.istore 5, 2) := by decide +kernel
theorem dX14_errorOf_380 : decode cX14_errorOf 380 = .ok (.aload_n 2, 1) := by decide +kernel
theorem dX14_errorOf_381 : decode cX14_errorOf 381 = .ok (.getfield 253, 3) := by decide +kernel
theorem dX14_errorOf_384 : decode cX14_errorOf 384 = .ok (.aload_n 2, 1) := by decide +kernel
theorem dX14_errorOf_385 : decode cX14_errorOf 385 = .ok (.getfield 228, 3) := by decide +kernel
theorem dX14_errorOf_388 : decode cX14_errorOf 388 = .ok (.iconst 1, 1) := by decide +kernel
theorem dX14_errorOf_389 : decode cX14_errorOf 389 = .ok (.isub, 1) := by decide +kernel
theorem dX14_errorOf_390 : decode cX14_errorOf 390 = .ok (.aload_n 0, 1) := by decide +kernel
theorem dX14_errorOf_391 : decode cX14_errorOf 391 = .ok (.getfield 29, 3) := by decide +kernel
theorem dX14_errorOf_394 : decode cX14_errorOf 394 = .ok (.iload_n 1, 1) := by decide +kernel
theorem dX14_errorOf_395 : decode cX14_errorOf 395 = .ok (.iaload, 1) := by decide +kernel
theorem dX14_errorOf_396 : decode cX14_errorOf 396 = .ok (.iastore, 1) := by decide +kernel
theorem dX14_errorOf_397 : decode cX14_errorOf 397 = .ok (.iload 5, 2) := by decide +kernel
theorem dX14_errorOf_399 : decode cX14_errorOf 399 = .ok (.ireturn, 1) := by decide +kernel
theorem dX14_errorOf_400 : decode cX14_errorOf 400 = .ok (.aload_n 0, 1) := by decide +kernel
theorem dX14_errorOf_401 : decode cX14_errorOf 401 = .ok (.iload_n 1, 1) := by decide +kernel
theorem dX14_errorOf_402 : decode cX14_errorOf 402 = .ok (.iconst 1, 1) := by decide +kernel
theorem dX14_errorOf_403 : decode cX14_errorOf 403 = .ok (.invokevirtual 250, 3) := by decide +kernel
theorem dX14_errorOf_406 : decode cX14_errorOf 406 = .ok (.istore 5, 2) := by decide +kernel
theorem dX14_errorOf_408 : decode cX14_errorOf 408 = .ok (.aload_n 2, 1) := by decide +kernel
theorem dX14_errorOf_409 : decode cX14_errorOf 409 = .ok (.getfield 256, 3) := by decide +kernel
theorem dX14_errorOf_412 : decode cX14_errorOf 412 = .ok (.aload_n 2, 1) := by decide +kernel
theorem dX14_errorOf_413 : decode cX14_errorOf 413 = .ok (.getfield 228, 3) := by decide +kernel
theorem dX14_errorOf_416 : decode cX14_errorOf 416 = .ok (.iconst 1, 1) := by decide +kernel
theorem dX14_errorOf_417 : decode cX14_errorOf 417 = .ok (.isub, 1) := by decide +kernel
theorem dX14_errorOf_418 : decode cX14_errorOf 418 = .ok (.aload_n 0, 1) := by decide +kernel
theorem dX14_errorOf_419 : decode cX14_errorOf 419 = .ok (.getfield 29, 3) := by decide +kernel
theorem dX14_errorOf_422 : decode cX14_errorOf 422 = .ok (.iload_n 1, 1) := by decide +kernel
theorem dX14_errorOf_423 : decode cX14_errorOf 423 = .ok (.iaload, 1) := by decide +kernel
theorem dX14_errorOf_424 : decode cX14_errorOf 424 = .ok (.iastore, 1) := by decide +kernel
theorem dX14_errorOf_425 : decode cX14_errorOf 425 = .ok (.iload 5, 2) := by decide +kernel
theorem dX14_errorOf_427 : decode cX14_errorOf 427 = .ok (.ireturn, 1) := by decide +kernel
theorem dX14_errorOf_428 : decode cX14_errorOf 428 = .ok (.aload_n 0, 1) := by decide +kernel
theorem dX14_errorOf_429 : decode cX14_errorOf 429 = .ok (.iload_n 1, 1) := by decide +kernel
theorem dX14_errorOf_430 : decode cX14_errorOf 430 = .ok (.iconst 1, 1) := by decide +kernel
theorem dX14_errorOf_431 : decode cX14_errorOf 431 = .ok (.invokevirtual 250, 3) := by decide +kernel
theorem dX14_errorOf_434 : decode cX14_errorOf 434 = .ok (.istore 5, 2) := by decide +kernel
theorem dX14_errorOf_436 : decode cX14_errorOf 436 = .ok (.aload_n 2, 1) := by decide +kernel
theorem dX14_errorOf_437 : decode cX14_errorOf 437 = .ok (.getfield 225, 3) := by decide +kernel
theorem dX14_errorOf_440 : decode cX14_errorOf 440 = .ok (.aload_n 2, 1) := by decide +kernel
theorem dX14_errorOf_441 : decode cX14_errorOf 441 = .ok (.getfield 222, 3) := by decide +kernel
theorem dX14_errorOf_444 : decode cX14_errorOf 444 = .ok (.iconst 1, 1) := by decide +kernel
theorem dX14_errorOf_445 : decode cX14_errorOf 445 = .ok (.isub, 1) := by decide +kernel
theorem dX14_errorOf_446 : decode cX14_errorOf 446 = .ok (.aload_n 0, 1) := by decide +kernel
theorem dX14_errorOf_447 : decode cX14_errorOf 447 = .ok (.getfield 29, 3) := by decide +kernel
theorem dX14_errorOf_450 : decode cX14_errorOf 450 = .ok (.iload_n 1, 1) := by decide +kernel
theorem dX14_errorOf_451 : decode cX14_errorOf 451 = .ok (.iaload, 1) := by decide +kernel
theorem dX14_errorOf_452 : decode cX14_errorOf 452 = .ok (.iastore, 1) := by decide +kernel
theorem dX14_errorOf_453 : decode cX14_errorOf 453 = .ok (.iload 5, 2) := by decide +kernel
theorem dX14_errorOf_455 : decode cX14_errorOf 455 = .ok (.ireturn, 1) := by decide +kernel
theorem dX14_errorOf_456 : decode cX14_errorOf 456 = .ok (.aload_n 0, 1) := by decide +kernel
theorem dX14_errorOf_457 : decode cX14_errorOf 457 = .ok (.iload_n 1, 1) := by decide +kernel
theorem dX14_errorOf_458 : decode cX14_errorOf 458 = .ok (.iconst 2, 1) := by decide +kernel
theorem dX14_errorOf_459 : decode cX14_errorOf 459 = .ok (.invokevirtual 250, 3) := by decide +kernel
theorem dX14_errorOf_462 : decode cX14_errorOf 462 = .ok (.istore 5, 2) := by decide +kernel
theorem dX14_errorOf_464 : decode cX14_errorOf 464 = .ok (.iload 5, 2) := by decide +kernel
theorem dX14_errorOf_466 : decode cX14_errorOf 466 = .ok (.ifCond .ne 16, 3) := by decide +kernel
theorem dX14_errorOf_469 : decode cX14_errorOf 469 = .ok (.aload_n 0, 1) := by decide +kernel
theorem dX14_errorOf_470 : decode cX14_errorOf 470 = .ok (.aload_n 0, 1) := by decide +kernel
theorem dX14_errorOf_471 : decode cX14_errorOf 471 = .ok (.getfield 29, 3) := by decide +kernel
theorem dX14_errorOf_474 : decode cX14_errorOf 474 = .ok (.iload_n 1, 1) := by decide +kernel
theorem dX14_errorOf_475 : decode cX14_errorOf 475 = .ok (.iaload, 1) := by decide +kernel
theorem dX14_errorOf_476 : decode cX14_errorOf 476 = .ok (.invokevirtual 259, 3) := by decide +kernel
theorem dX14_errorOf_479 : decode cX14_errorOf 479 = .ok (.goto 5, 3) := by decide +kernel
theorem dX14_errorOf_482 : decode cX14_errorOf 482 = .ok (.iload 5, 2) := by decide +kernel
theorem dX14_errorOf_484 : decode cX14_errorOf 484 = .ok (.ireturn, 1) := by decide +kernel
theorem dX14_errorOf_485 : decode cX14_errorOf 485 = .ok (.aload_n 0, 1) := by decide +kernel
theorem dX14_errorOf_486 : decode cX14_errorOf 486 = .ok (.iload_n 1, 1) := by decide +kernel
theorem dX14_errorOf_487 : decode cX14_errorOf 487 = .ok (.iconst 2, 1) := by decide +kernel
theorem dX14_errorOf_488 : decode cX14_errorOf 488 = .ok (.invokevirtual 250, 3) := by decide +kernel
theorem dX14_errorOf_491 : decode cX14_errorOf 491 = .ok (.ireturn, 1) := by decide +kernel
theorem dX14_errorOf_492 : decode cX14_errorOf 492 = .ok (.aload_n 0, 1) := by decide +kernel
theorem dX14_errorOf_493 : decode cX14_errorOf 493 = .ok (.iload_n 1, 1) := by decide +kernel
theorem dX14_errorOf_494 : decode cX14_errorOf 494 = .ok (.iconst 1, 1) := by decide +kernel
theorem dX14_errorOf_495 : decode cX14_errorOf 495 = .ok (.invokevirtual 250, 3) := by decide +kernel
theorem dX14_errorOf_498 : decode cX14_errorOf 498 = .ok (.ireturn, 1) := by decide +kernel
theorem dX14_errorOf_499 : decode cX14_errorOf 499 = .ok (.iconst 0, 1) := by decide +kernel
theorem dX14_errorOf_500 : decode cX14_errorOf 500 = .ok (.ireturn, 1) := by decide +kernel
set_option maxRecDepth 20000 in
theorem ggX14_errorOf_X14_told : GoodIn wsX14_errorOf wsX14_told := goodIn_r _ [8, 2, 9, 10, 11, 7, 12, 13, 14, 15, 35, 36, 37, 38, 39, 40, 41, 42, 43, 44, 45, 46, 47, 48, 49] (by decide +kernel) (by decide +kernel)
set_option maxRecDepth 20000 in
theorem gX14_errorOf_X14_told : GoodIn wsX14_errorOf (wsV RX14 217 RX14 yX14_told wsX14_told) := goodIn_app (goodIn_of _ (by decide +kernel)) ggX14_errorOf_X14_told
set_option maxRecDepth 20000 in
theorem ggX14_errorOf_X14_numberAt : GoodIn wsX14_errorOf wsX14_numberAt := goodIn_r _ [19, 13, 14, 15, 35, 36, 37, 38, 39, 40, 41, 42, 43, 44, 45, 46, 47, 48, 49] (by decide +kernel) (by decide +kernel)
set_option maxRecDepth 20000 in
theorem gX14_errorOf_X14_numberAt : GoodIn wsX14_errorOf (wsV RX14 211 RX14 yX14_numberAt wsX14_numberAt) := goodIn_app (goodIn_of _ (by decide +kernel)) ggX14_errorOf_X14_numberAt
set_option maxRecDepth 20000 in
theorem ggX14_errorOf_X14_inRange : GoodIn wsX14_errorOf wsX14_inRange := goodIn_r _ [23, 16, 17, 18, 7, 19, 13, 14, 15, 24, 25, 26, 35, 36, 37, 38, 39, 40, 41, 42, 43, 44, 45, 46, 47, 48, 49] (by decide +kernel) (by decide +kernel)
set_option maxRecDepth 20000 in
theorem gX14_errorOf_X14_inRange : GoodIn wsX14_errorOf (wsV RX14 234 RX14 yX14_inRange wsX14_inRange) := goodIn_app (goodIn_of _ (by decide +kernel)) ggX14_errorOf_X14_inRange
set_option maxRecDepth 20000 in
theorem ggX14_errorOf_X14_look : GoodIn wsX14_errorOf wsX14_look := goodIn_r _ [30, 3, 4, 5, 6, 7, 8, 2, 9, 10, 11, 12, 13, 14, 15, 35, 36, 37, 38, 39, 40, 41, 42, 43, 44, 45, 46, 47, 48, 49] (by decide +kernel) (by decide +kernel)
set_option maxRecDepth 20000 in
theorem gX14_errorOf_X14_look : GoodIn wsX14_errorOf (wsV RX14 250 RX14 yX14_look wsX14_look) := goodIn_app (goodIn_of _ (by decide +kernel)) ggX14_errorOf_X14_look
set_option maxRecDepth 20000 in
theorem ggX14_errorOf_X14_member : GoodIn wsX14_errorOf wsX14_member := goodIn_r _ [34, 1, 35, 36, 37, 38, 39, 40, 41, 42, 43, 44, 45, 46, 47, 48, 49, 50, 51, 52, 53, 54, 55, 56, 57, 58, 59, 60, 61, 62, 63, 64, 65, 66, 67, 68, 69, 70, 71, 72, 73, 74] (by decide +kernel) (by decide +kernel)
set_option maxRecDepth 20000 in
theorem gX14_errorOf_X14_member : GoodIn wsX14_errorOf (wsV RX14 259 RX14 yX14_member wsX14_member) := goodIn_app (goodIn_of _ (by decide +kernel)) ggX14_errorOf_X14_member
theorem k_X14_errorOf_f39 : Cond.fieldLink RX14 39 "TideLotsModel" "reading" "LTideLotsModel$Told;" ∈ wsX14_errorOf := by decide +kernel
theorem i_X14_errorOf_X14 : ∀ w ∈ u_ws RX14 TX14 15, w ∈ wsX14_errorOf := by decide +kernel
theorem i_X14_errorOf_X13 : ∀ w ∈ u_ws RX13 TX13 25, w ∈ wsX14_errorOf := by decide +kernel
theorem k_X14_errorOf_f26 : Cond.fieldLink RX14 26 "TideLotsModel" "role" "[I" ∈ wsX14_errorOf := by decide +kernel
theorem kn_X14_219 : Cond.fieldLinkNest "TideLotsModel" (219 : Nat) "TideLotsModel$Told" "sizes" "I" "TideLotsModel" ∈ gNs := by decide +kernel
theorem kn_X14_225 : Cond.fieldLinkNest "TideLotsModel" (225 : Nat) "TideLotsModel$Told" "spared" "[I" "TideLotsModel" ∈ gNs := by decide +kernel
theorem kn_X14_228 : Cond.fieldLinkNest "TideLotsModel" (228 : Nat) "TideLotsModel$Told" "goes" "I" "TideLotsModel" ∈ gNs := by decide +kernel
theorem kn_X14_231 : Cond.fieldLinkNest "TideLotsModel" (231 : Nat) "TideLotsModel$Told" "room" "[I" "TideLotsModel" ∈ gNs := by decide +kernel
theorem kn_X14_238 : Cond.fieldLinkNest "TideLotsModel" (238 : Nat) "TideLotsModel$Told" "fish" "[I" "TideLotsModel" ∈ gNs := by decide +kernel
theorem kn_X14_241 : Cond.fieldLinkNest "TideLotsModel" (241 : Nat) "TideLotsModel$Told" "mesh" "[I" "TideLotsModel" ∈ gNs := by decide +kernel
theorem kn_X14_244 : Cond.fieldLinkNest "TideLotsModel" (244 : Nat) "TideLotsModel$Told" "net" "[I" "TideLotsModel" ∈ gNs := by decide +kernel
theorem kn_X14_247 : Cond.fieldLinkNest "TideLotsModel" (247 : Nat) "TideLotsModel$Told" "hold" "[I" "TideLotsModel" ∈ gNs := by decide +kernel
theorem kn_X14_253 : Cond.fieldLinkNest "TideLotsModel" (253 : Nat) "TideLotsModel$Told" "goer" "[I" "TideLotsModel" ∈ gNs := by decide +kernel
theorem k_X14_errorOf_f29 : Cond.fieldLink RX14 29 "TideLotsModel" "meant" "[I" ∈ wsX14_errorOf := by decide +kernel
theorem kn_X14_256 : Cond.fieldLinkNest "TideLotsModel" (256 : Nat) "TideLotsModel$Told" "goal" "[I" "TideLotsModel" ∈ gNs := by decide +kernel
abbrev rX14_errorOf : Room := { frames := 3, cells := 0, slots := 0, locals := 69 }
noncomputable def b_X14_errorOf_484 (M : gMem) (s0 : Int32) : Option (Int32 × gMem) :=
  some (s0, M)
noncomputable def b_X14_errorOf_0 (M : gMem) (x0 : Nat) (x1 : Int32) : Option (Int32 × gMem) :=
  ck (mT M x0 = 13) <| dr ((mR M x0 12)) fun a2 => ck (mT M a2 = 12) <| dr ((mR M x0 7)) fun a4 => ck (mT M a4 = 20) <| ck (inb x1 (mL M a4)) <| (if (mI M a4 x1.toNatClampNeg) = (1 : Int32) then bd (f_X14_told M x0 x1 ((1 : Int32))) fun r8 M8 => (if r8 = (-1 : Int32) then ck (mT M8 a2 = 12) <| (if (mI M8 a2 0) = (8 : Int32) then some ((4 : Int32), M8) else lw (wI M8 a2 0 (((mI M8 a2 0) + (1 : Int32)))) fun M10 => lw (wI M10 a2 3 ((0 : Int32))) fun M12 => some ((0 : Int32), M12)) else some ((2 : Int32), M8)) else (if (mI M a4 x1.toNatClampNeg) = (2 : Int32) then bd (f_X14_told M x0 x1 ((2 : Int32))) fun r15 M15 => (if r15 = (-1 : Int32) then ck (mT M15 a2 = 12) <| (if (mI M15 a2 4) = (8 : Int32) then some ((4 : Int32), M15) else lw (wI M15 a2 4 (((mI M15 a2 4) + (1 : Int32)))) fun M17 => some ((0 : Int32), M17)) else some ((2 : Int32), M15)) else (if (mI M a4 x1.toNatClampNeg) = (3 : Int32) then bd (f_X14_told M x0 x1 ((3 : Int32))) fun r20 M20 => (if r20 = (-1 : Int32) then ck (mT M20 a2 = 12) <| (if (mI M20 a2 11) = (6 : Int32) then some ((4 : Int32), M20) else dr ((mR M20 a2 12)) fun a22 => ck (mT M20 a22 = 20) <| ck (inb (mI M20 a2 11) (mL M20 a22)) <| lw (wI M20 a22 ((mI M20 a2 11)).toNatClampNeg ((-1 : Int32))) fun M25 => lw (wI M25 a2 11 (((mI M25 a2 11) + (1 : Int32)))) fun M28 => some ((0 : Int32), M28)) else some ((2 : Int32), M20)) else (if (mI M a4 x1.toNatClampNeg) = (4 : Int32) then (if (mI M a2 8) = (24 : Int32) then some ((4 : Int32), M) else lw (wI M a2 8 (((mI M a2 8) + (1 : Int32)))) fun M32 => some ((0 : Int32), M32)) else (if (mI M a4 x1.toNatClampNeg) = (5 : Int32) then bd (f_X14_numberAt M x0 x1) fun r37 M37 => dr ((mR M a2 1)) fun a38 => ck (mT M37 a38 = 20) <| ck (inb ((mI M a2 0) - (1 : Int32)) (mL M37 a38)) <| lw (wI M37 a38 (((mI M a2 0) - (1 : Int32))).toNatClampNeg r37) fun M41 => ck (mT M41 x0 = 13) <| bd (f_X14_inRange M41 x0 x1 ((1 : Int32)) ((8 : Int32))) fun r43 M43 => some (r43, M43) else (if (mI M a4 x1.toNatClampNeg) = (6 : Int32) then (if (mI M a2 3) = (5 : Int32) then some ((4 : Int32), M) else bd (f_X14_numberAt M x0 x1) fun r46 M46 => dr ((mR M a2 2)) fun a47 => ck (mT M46 a47 = 20) <| ck (inb (((5 : Int32) * ((mI M a2 0) - (1 : Int32))) + (mI M a2 3)) (mL M46 a47)) <| lw (wI M46 a47 ((((5 : Int32) * ((mI M a2 0) - (1 : Int32))) + (mI M a2 3))).toNatClampNeg r46) fun M50 => ck (mT M50 a2 = 12) <| lw (wI M50 a2 3 (((mI M50 a2 3) + (1 : Int32)))) fun M53 => ck (mT M53 x0 = 13) <| bd (f_X14_inRange M53 x0 x1 ((0 : Int32)) ((99 : Int32))) fun r56 M56 => some (r56, M56)) else (if (mI M a4 x1.toNatClampNeg) = (7 : Int32) then bd (f_X14_numberAt M x0 x1) fun r59 M59 => dr ((mR M a2 5)) fun a60 => ck (mT M59 a60 = 20) <| ck (inb ((mI M a2 4) - (1 : Int32)) (mL M59 a60)) <| lw (wI M59 a60 (((mI M a2 4) - (1 : Int32))).toNatClampNeg r59) fun M63 => ck (mT M63 x0 = 13) <| bd (f_X14_inRange M63 x0 x1 ((1 : Int32)) ((5 : Int32))) fun r65 M65 => some (r65, M65) else (if (mI M a4 x1.toNatClampNeg) = (8 : Int32) then bd (f_X14_numberAt M x0 x1) fun r68 M68 => dr ((mR M a2 6)) fun a69 => ck (mT M68 a69 = 20) <| ck (inb ((mI M a2 4) - (1 : Int32)) (mL M68 a69)) <| lw (wI M68 a69 (((mI M a2 4) - (1 : Int32))).toNatClampNeg r68) fun M72 => ck (mT M72 x0 = 13) <| bd (f_X14_inRange M72 x0 x1 ((1 : Int32)) ((99 : Int32))) fun r74 M74 => some (r74, M74) else (if (mI M a4 x1.toNatClampNeg) = (9 : Int32) then bd (f_X14_numberAt M x0 x1) fun r77 M77 => dr ((mR M a2 7)) fun a78 => ck (mT M77 a78 = 20) <| ck (inb ((mI M a2 4) - (1 : Int32)) (mL M77 a78)) <| lw (wI M77 a78 (((mI M a2 4) - (1 : Int32))).toNatClampNeg r77) fun M81 => ck (mT M81 x0 = 13) <| bd (f_X14_inRange M81 x0 x1 ((1 : Int32)) ((40 : Int32))) fun r83 M83 => some (r83, M83) else (if (mI M a4 x1.toNatClampNeg) = (10 : Int32) then bd (f_X14_look M x0 x1 ((2 : Int32))) fun r86 M86 => ck (mT M86 a2 = 12) <| ck (mT M86 x0 = 13) <| dr ((mR M86 x0 8)) fun a89 => ck (mT M86 a89 = 20) <| ck (inb x1 (mL M86 a89)) <| dr ((mR M86 a2 9)) fun a92 => ck (mT M86 a92 = 20) <| ck (inb ((mI M86 a2 8) - (1 : Int32)) (mL M86 a92)) <| lw (wI M86 a92 (((mI M86 a2 8) - (1 : Int32))).toNatClampNeg ((mI M86 a89 x1.toNatClampNeg))) fun M95 => some (r86, M95) else (if (mI M a4 x1.toNatClampNeg) = (11 : Int32) then bd (f_X14_look M x0 x1 ((1 : Int32))) fun r101 M101 => ck (mT M101 a2 = 12) <| ck (mT M101 x0 = 13) <| dr ((mR M101 x0 8)) fun a104 => ck (mT M101 a104 = 20) <| ck (inb x1 (mL M101 a104)) <| dr ((mR M101 a2 10)) fun a107 => ck (mT M101 a107 = 20) <| ck (inb ((mI M101 a2 8) - (1 : Int32)) (mL M101 a107)) <| lw (wI M101 a107 (((mI M101 a2 8) - (1 : Int32))).toNatClampNeg ((mI M101 a104 x1.toNatClampNeg))) fun M110 => some (r101, M110) else (if (mI M a4 x1.toNatClampNeg) = (12 : Int32) then bd (f_X14_look M x0 x1 ((2 : Int32))) fun r116 M116 => (if r116 = 0 then ck (mT M116 x0 = 13) <| dr ((mR M116 x0 8)) fun a118 => ck (mT M116 a118 = 20) <| ck (inb x1 (mL M116 a118)) <| bd (f_X14_member M116 x0 ((mI M116 a118 x1.toNatClampNeg))) fun r121 M121 => b_X14_errorOf_484 M121 r121 else b_X14_errorOf_484 M116 r116) else (if (mI M a4 x1.toNatClampNeg) = (13 : Int32) then bd (f_X14_look M x0 x1 ((1 : Int32))) fun r123 M123 => ck (mT M123 a2 = 12) <| ck (mT M123 x0 = 13) <| dr ((mR M123 x0 8)) fun a126 => ck (mT M123 a126 = 20) <| ck (inb x1 (mL M123 a126)) <| dr ((mR M123 a2 12)) fun a129 => ck (mT M123 a129 = 20) <| ck (inb ((mI M123 a2 11) - (1 : Int32)) (mL M123 a129)) <| lw (wI M123 a129 (((mI M123 a2 11) - (1 : Int32))).toNatClampNeg ((mI M123 a126 x1.toNatClampNeg))) fun M132 => some (r123, M132) else (if (mI M a4 x1.toNatClampNeg) = (14 : Int32) then bd (f_X14_look M x0 x1 ((2 : Int32))) fun r138 M138 => some (r138, M138) else (if (mI M a4 x1.toNatClampNeg) = (15 : Int32) then bd (f_X14_look M x0 x1 ((1 : Int32))) fun r140 M140 => some (r140, M140) else some ((0 : Int32), M))))))))))))))))
noncomputable def f_X14_errorOf (M : gMem) (x0 : Nat) (x1 : Int32) : Option (Int32 × gMem) :=
  b_X14_errorOf_0 M x0 x1
set_option maxHeartbeats 4000000 in
set_option maxRecDepth 100000 in
theorem t_X14_errorOf_484 (X : gX p s m args meth c D cy B (gSt Z B H0) RX14 cX14_errorOf wsX14_errorOf 6) (hr : meth.sig.returnType = (some .int)) {Q : State → Prop} : ∀ (M : gMem) (s0 : Int32) (z : Int32 × gMem), b_X14_errorOf_484 M s0 = some z → (fun (r : Int32 × gMem) => Q = gMQ below D cy B H0 args s 0 0 (some (vI r.1)) r.2) z → gGo p l e rX14_errorOf s m args below meth c D cy B H0 6 0 0 Q 484 [] [vI s0] M := by
  intro M s0 z hf hK
  unfold b_X14_errorOf_484 at hf
  cases hf
  refine g_eqQ hK ?_
  exact g_iret X hr dX14_errorOf_484
set_option maxHeartbeats 4000000 in
set_option maxRecDepth 100000 in
theorem t_X14_errorOf_0 (X : gX p s m args meth c D cy B (gSt Z B H0) RX14 cX14_errorOf wsX14_errorOf 6) (hr : meth.sig.returnType = (some .int)) {Q : State → Prop} : ∀ (M : gMem) (x0 : Nat) (x1 : Int32) (z : Int32 × gMem), b_X14_errorOf_0 M x0 x1 = some z → (fun (r : Int32 × gMem) => Q = gMQ below D cy B H0 args s 0 0 (some (vI r.1)) r.2) z → gGo p l e rX14_errorOf s m args below meth c D cy B H0 6 0 0 Q 0 [(0, vR (some x0)), (1, vI x1)] [] M := by
  intro M x0 x1 z hf hK
  unfold b_X14_errorOf_0 at hf
  refine g_aload_n X dX14_errorOf_0 rfl rfl ?_
  obtain ⟨hT1, hf⟩ := ck_e hf
  refine g_get (ci := 12) (v := vR (mR M x0 12)) 12 X cdX14 i_X14_errorOf_X14 (by decide) k_X14_errorOf_f39 rfl dX14_errorOf_1 rfl hT1 rfl ?_
  refine g_astore_n (lv' := [(2, vR (mR M x0 12)), (0, vR (some x0)), (1, vI x1)]) X dX14_errorOf_4 rfl (by decide) rfl ?_
  refine g_aload_n X dX14_errorOf_5 rfl rfl ?_
  obtain ⟨a2, ha2, hf⟩ := dr_e hf
  obtain ⟨hT3, hf⟩ := ck_e hf
  refine g_getN (ci := 11) (w := vI (mI M a2 0)) 0 X cdX13 i_X14_errorOf_X13 (by decide) (gNw X _ kn_X14_60) rfl dX14_errorOf_6 ha2 hT3 rfl ?_
  refine g_iconst (v := (1 : Int32)) X dX14_errorOf_9 (by decide) ?_
  refine g_isub X dX14_errorOf_10 ?_
  refine g_istore_n (lv' := [(3, vI ((mI M a2 0) - (1 : Int32))), (2, vR (mR M x0 12)), (0, vR (some x0)), (1, vI x1)]) X dX14_errorOf_11 rfl (by decide) rfl ?_
  refine g_aload_n X dX14_errorOf_12 rfl rfl ?_
  refine g_getN (ci := 11) (w := vI (mI M a2 4)) 4 X cdX13 i_X14_errorOf_X13 (by decide) (gNw X _ kn_X14_67) rfl dX14_errorOf_13 ha2 hT3 rfl ?_
  refine g_iconst (v := (1 : Int32)) X dX14_errorOf_16 (by decide) ?_
  refine g_isub X dX14_errorOf_17 ?_
  refine g_istore (lv' := [(4, vI ((mI M a2 4) - (1 : Int32))), (3, vI ((mI M a2 0) - (1 : Int32))), (2, vR (mR M x0 12)), (0, vR (some x0)), (1, vI x1)]) X dX14_errorOf_18 (by decide) rfl ?_
  refine g_aload_n X dX14_errorOf_20 rfl rfl ?_
  refine g_get (ci := 12) (v := vR (mR M x0 7)) 7 X cdX14 i_X14_errorOf_X14 (by decide) k_X14_errorOf_f26 rfl dX14_errorOf_21 rfl hT1 rfl ?_
  refine g_iload_n X dX14_errorOf_24 rfl rfl ?_
  obtain ⟨a4, ha4, hf⟩ := dr_e hf
  obtain ⟨hT5, hf⟩ := ck_e hf
  obtain ⟨hg6, hf⟩ := ck_e hf
  refine g_iald X dX14_errorOf_25 ha4 hT5 hg6 ?_
  by_cases hs7 : (mI M a4 x1.toNatClampNeg) = (1 : Int32)
  · have hf := ife_t hs7 hf
    refine g_tabin (tgt := 100) X dX14_errorOf_26 hs7 (by decide) (by decide) rfl (by decide) ?_
    refine g_aload_n X dX14_errorOf_100 rfl rfl ?_
    refine g_iload_n X dX14_errorOf_101 rfl rfl ?_
    refine g_iconst (v := (1 : Int32)) X dX14_errorOf_102 (by decide) ?_
    obtain ⟨r8, M8, hq8, hf⟩ := bd_e hf
    refine g_callV (ci := 12) (b := x0) (As := [vI x1, vI (1 : Int32)]) (st := []) (v := some (vI r8)) (M1 := M8) X (m_X14_told l hq8) (cwV 2 X.2.2.1 gX14_errorOf_X14_told rfl rfl rfl (by decide +kernel) ⟨Nat.le_of_ble_eq_true rfl, Nat.le_of_ble_eq_true rfl⟩) rfl rfl rfl hT1 (by decide) rfl (Nat.le_of_ble_eq_true rfl) dX14_errorOf_103 ⟨by decide, by decide⟩ ?_
    refine g_iconst (v := (-1 : Int32)) X dX14_errorOf_106 (by decide) ?_
    refine g_icmp_eq (tgt := 112) X dX14_errorOf_107 (by decide) (fun hc => ?_) (fun hc => ?_)
    · have hf := ife_t hc hf
      refine g_aload_n X dX14_errorOf_112 rfl rfl ?_
      obtain ⟨hT9, hf⟩ := ck_e hf
      refine g_getN (ci := 11) (w := vI (mI M8 a2 0)) 0 X cdX13 i_X14_errorOf_X13 (by decide) (gNw X _ kn_X14_60) rfl dX14_errorOf_113 ha2 hT9 rfl ?_
      refine g_bipush (v := (8 : Int32)) X dX14_errorOf_116 (by decide) ?_
      refine g_icmp_ne (tgt := 123) X dX14_errorOf_118 (by decide) (fun hc => ?_) (fun hc => ?_)
      · have hf := ife_f hc hf
        refine g_aload_n X dX14_errorOf_123 rfl rfl ?_
        refine g_dup X dX14_errorOf_124 rfl ?_
        refine g_getN (ci := 11) (w := vI (mI M8 a2 0)) 0 X cdX13 i_X14_errorOf_X13 (by decide) (gNw X _ kn_X14_60) rfl dX14_errorOf_125 ha2 hT9 rfl ?_
        refine g_iconst (v := (1 : Int32)) X dX14_errorOf_128 (by decide) ?_
        refine g_iadd X dX14_errorOf_129 ?_
        refine g_putIN (ci := 11) 0 X cdX13 i_X14_errorOf_X13 (by decide) (gNw X _ kn_X14_60) rfl dX14_errorOf_130 ha2 hT9 rfl rfl rfl rfl ?_
        obtain ⟨M10, hM10, hf⟩ := lw_e hf
        rw [← hM10]
        have hT11 : mT M10 a2 = 12 := by rw [hM10]; exact hT9
        refine g_aload_n X dX14_errorOf_133 rfl rfl ?_
        refine g_iconst (v := (0 : Int32)) X dX14_errorOf_134 (by decide) ?_
        refine g_putIN (ci := 11) 3 X cdX13 i_X14_errorOf_X13 (by decide) (gNw X _ kn_X14_219) rfl dX14_errorOf_135 ha2 hT11 rfl rfl rfl rfl ?_
        obtain ⟨M12, hM12, hf⟩ := lw_e hf
        rw [← hM12]
        have hT13 : mT M12 a2 = 12 := by rw [hM12]; exact hT11
        refine g_iconst (v := (0 : Int32)) X dX14_errorOf_138 (by decide) ?_
        cases hf
        refine g_eqQ hK ?_
        exact g_iret X hr dX14_errorOf_139
      · have hf := ife_t hc hf
        refine g_iconst (v := (4 : Int32)) X dX14_errorOf_121 (by decide) ?_
        cases hf
        refine g_eqQ hK ?_
        exact g_iret X hr dX14_errorOf_122
    · have hf := ife_f hc hf
      refine g_iconst (v := (2 : Int32)) X dX14_errorOf_110 (by decide) ?_
      cases hf
      refine g_eqQ hK ?_
      exact g_iret X hr dX14_errorOf_111
  · have hf := ife_f hs7 hf
    by_cases hs14 : (mI M a4 x1.toNatClampNeg) = (2 : Int32)
    · have hf := ife_t hs14 hf
      refine g_tabin (tgt := 140) X dX14_errorOf_26 hs14 (by decide) (by decide) rfl (by decide) ?_
      refine g_aload_n X dX14_errorOf_140 rfl rfl ?_
      refine g_iload_n X dX14_errorOf_141 rfl rfl ?_
      refine g_iconst (v := (2 : Int32)) X dX14_errorOf_142 (by decide) ?_
      obtain ⟨r15, M15, hq15, hf⟩ := bd_e hf
      refine g_callV (ci := 12) (b := x0) (As := [vI x1, vI (2 : Int32)]) (st := []) (v := some (vI r15)) (M1 := M15) X (m_X14_told l hq15) (cwV 2 X.2.2.1 gX14_errorOf_X14_told rfl rfl rfl (by decide +kernel) ⟨Nat.le_of_ble_eq_true rfl, Nat.le_of_ble_eq_true rfl⟩) rfl rfl rfl hT1 (by decide) rfl (Nat.le_of_ble_eq_true rfl) dX14_errorOf_143 ⟨by decide, by decide⟩ ?_
      refine g_iconst (v := (-1 : Int32)) X dX14_errorOf_146 (by decide) ?_
      refine g_icmp_eq (tgt := 152) X dX14_errorOf_147 (by decide) (fun hc => ?_) (fun hc => ?_)
      · have hf := ife_t hc hf
        refine g_aload_n X dX14_errorOf_152 rfl rfl ?_
        obtain ⟨hT16, hf⟩ := ck_e hf
        refine g_getN (ci := 11) (w := vI (mI M15 a2 4)) 4 X cdX13 i_X14_errorOf_X13 (by decide) (gNw X _ kn_X14_67) rfl dX14_errorOf_153 ha2 hT16 rfl ?_
        refine g_bipush (v := (8 : Int32)) X dX14_errorOf_156 (by decide) ?_
        refine g_icmp_ne (tgt := 163) X dX14_errorOf_158 (by decide) (fun hc => ?_) (fun hc => ?_)
        · have hf := ife_f hc hf
          refine g_aload_n X dX14_errorOf_163 rfl rfl ?_
          refine g_dup X dX14_errorOf_164 rfl ?_
          refine g_getN (ci := 11) (w := vI (mI M15 a2 4)) 4 X cdX13 i_X14_errorOf_X13 (by decide) (gNw X _ kn_X14_67) rfl dX14_errorOf_165 ha2 hT16 rfl ?_
          refine g_iconst (v := (1 : Int32)) X dX14_errorOf_168 (by decide) ?_
          refine g_iadd X dX14_errorOf_169 ?_
          refine g_putIN (ci := 11) 4 X cdX13 i_X14_errorOf_X13 (by decide) (gNw X _ kn_X14_67) rfl dX14_errorOf_170 ha2 hT16 rfl rfl rfl rfl ?_
          obtain ⟨M17, hM17, hf⟩ := lw_e hf
          rw [← hM17]
          have hT18 : mT M17 a2 = 12 := by rw [hM17]; exact hT16
          refine g_iconst (v := (0 : Int32)) X dX14_errorOf_173 (by decide) ?_
          cases hf
          refine g_eqQ hK ?_
          exact g_iret X hr dX14_errorOf_174
        · have hf := ife_t hc hf
          refine g_iconst (v := (4 : Int32)) X dX14_errorOf_161 (by decide) ?_
          cases hf
          refine g_eqQ hK ?_
          exact g_iret X hr dX14_errorOf_162
      · have hf := ife_f hc hf
        refine g_iconst (v := (2 : Int32)) X dX14_errorOf_150 (by decide) ?_
        cases hf
        refine g_eqQ hK ?_
        exact g_iret X hr dX14_errorOf_151
    · have hf := ife_f hs14 hf
      by_cases hs19 : (mI M a4 x1.toNatClampNeg) = (3 : Int32)
      · have hf := ife_t hs19 hf
        refine g_tabin (tgt := 175) X dX14_errorOf_26 hs19 (by decide) (by decide) rfl (by decide) ?_
        refine g_aload_n X dX14_errorOf_175 rfl rfl ?_
        refine g_iload_n X dX14_errorOf_176 rfl rfl ?_
        refine g_iconst (v := (3 : Int32)) X dX14_errorOf_177 (by decide) ?_
        obtain ⟨r20, M20, hq20, hf⟩ := bd_e hf
        refine g_callV (ci := 12) (b := x0) (As := [vI x1, vI (3 : Int32)]) (st := []) (v := some (vI r20)) (M1 := M20) X (m_X14_told l hq20) (cwV 2 X.2.2.1 gX14_errorOf_X14_told rfl rfl rfl (by decide +kernel) ⟨Nat.le_of_ble_eq_true rfl, Nat.le_of_ble_eq_true rfl⟩) rfl rfl rfl hT1 (by decide) rfl (Nat.le_of_ble_eq_true rfl) dX14_errorOf_178 ⟨by decide, by decide⟩ ?_
        refine g_iconst (v := (-1 : Int32)) X dX14_errorOf_181 (by decide) ?_
        refine g_icmp_eq (tgt := 187) X dX14_errorOf_182 (by decide) (fun hc => ?_) (fun hc => ?_)
        · have hf := ife_t hc hf
          refine g_aload_n X dX14_errorOf_187 rfl rfl ?_
          obtain ⟨hT21, hf⟩ := ck_e hf
          refine g_getN (ci := 11) (w := vI (mI M20 a2 11)) 11 X cdX13 i_X14_errorOf_X13 (by decide) (gNw X _ kn_X14_222) rfl dX14_errorOf_188 ha2 hT21 rfl ?_
          refine g_bipush (v := (6 : Int32)) X dX14_errorOf_191 (by decide) ?_
          refine g_icmp_ne (tgt := 198) X dX14_errorOf_193 (by decide) (fun hc => ?_) (fun hc => ?_)
          · have hf := ife_f hc hf
            refine g_aload_n X dX14_errorOf_198 rfl rfl ?_
            refine g_getN (ci := 11) (w := vR (mR M20 a2 12)) 12 X cdX13 i_X14_errorOf_X13 (by decide) (gNw X _ kn_X14_225) rfl dX14_errorOf_199 ha2 hT21 rfl ?_
            refine g_aload_n X dX14_errorOf_202 rfl rfl ?_
            refine g_getN (ci := 11) (w := vI (mI M20 a2 11)) 11 X cdX13 i_X14_errorOf_X13 (by decide) (gNw X _ kn_X14_222) rfl dX14_errorOf_203 ha2 hT21 rfl ?_
            refine g_iconst (v := (-1 : Int32)) X dX14_errorOf_206 (by decide) ?_
            obtain ⟨a22, ha22, hf⟩ := dr_e hf
            obtain ⟨hT23, hf⟩ := ck_e hf
            obtain ⟨hg24, hf⟩ := ck_e hf
            refine g_iast X dX14_errorOf_207 ha22 hT23 hg24 ?_
            obtain ⟨M25, hM25, hf⟩ := lw_e hf
            rw [← hM25]
            have hT26 : mT M25 a2 = 12 := by rw [hM25]; exact hT21
            have hT27 : mT M25 a22 = 20 := by rw [hM25]; exact hT23
            refine g_aload_n X dX14_errorOf_208 rfl rfl ?_
            refine g_dup X dX14_errorOf_209 rfl ?_
            refine g_getN (ci := 11) (w := vI (mI M25 a2 11)) 11 X cdX13 i_X14_errorOf_X13 (by decide) (gNw X _ kn_X14_222) rfl dX14_errorOf_210 ha2 hT26 rfl ?_
            refine g_iconst (v := (1 : Int32)) X dX14_errorOf_213 (by decide) ?_
            refine g_iadd X dX14_errorOf_214 ?_
            refine g_putIN (ci := 11) 11 X cdX13 i_X14_errorOf_X13 (by decide) (gNw X _ kn_X14_222) rfl dX14_errorOf_215 ha2 hT26 rfl rfl rfl rfl ?_
            obtain ⟨M28, hM28, hf⟩ := lw_e hf
            rw [← hM28]
            have hT29 : mT M28 a2 = 12 := by rw [hM28]; exact hT26
            have hT30 : mT M28 a22 = 20 := by rw [hM28]; exact hT27
            refine g_iconst (v := (0 : Int32)) X dX14_errorOf_218 (by decide) ?_
            cases hf
            refine g_eqQ hK ?_
            exact g_iret X hr dX14_errorOf_219
          · have hf := ife_t hc hf
            refine g_iconst (v := (4 : Int32)) X dX14_errorOf_196 (by decide) ?_
            cases hf
            refine g_eqQ hK ?_
            exact g_iret X hr dX14_errorOf_197
        · have hf := ife_f hc hf
          refine g_iconst (v := (2 : Int32)) X dX14_errorOf_185 (by decide) ?_
          cases hf
          refine g_eqQ hK ?_
          exact g_iret X hr dX14_errorOf_186
      · have hf := ife_f hs19 hf
        by_cases hs31 : (mI M a4 x1.toNatClampNeg) = (4 : Int32)
        · have hf := ife_t hs31 hf
          refine g_tabin (tgt := 220) X dX14_errorOf_26 hs31 (by decide) (by decide) rfl (by decide) ?_
          refine g_aload_n X dX14_errorOf_220 rfl rfl ?_
          refine g_getN (ci := 11) (w := vI (mI M a2 8)) 8 X cdX13 i_X14_errorOf_X13 (by decide) (gNw X _ kn_X14_228) rfl dX14_errorOf_221 ha2 hT3 rfl ?_
          refine g_bipush (v := (24 : Int32)) X dX14_errorOf_224 (by decide) ?_
          refine g_icmp_ne (tgt := 231) X dX14_errorOf_226 (by decide) (fun hc => ?_) (fun hc => ?_)
          · have hf := ife_f hc hf
            refine g_aload_n X dX14_errorOf_231 rfl rfl ?_
            refine g_dup X dX14_errorOf_232 rfl ?_
            refine g_getN (ci := 11) (w := vI (mI M a2 8)) 8 X cdX13 i_X14_errorOf_X13 (by decide) (gNw X _ kn_X14_228) rfl dX14_errorOf_233 ha2 hT3 rfl ?_
            refine g_iconst (v := (1 : Int32)) X dX14_errorOf_236 (by decide) ?_
            refine g_iadd X dX14_errorOf_237 ?_
            refine g_putIN (ci := 11) 8 X cdX13 i_X14_errorOf_X13 (by decide) (gNw X _ kn_X14_228) rfl dX14_errorOf_238 ha2 hT3 rfl rfl rfl rfl ?_
            obtain ⟨M32, hM32, hf⟩ := lw_e hf
            rw [← hM32]
            have hT33 : mT M32 x0 = 13 := by rw [hM32]; exact hT1
            have hT34 : mT M32 a2 = 12 := by rw [hM32]; exact hT3
            have hT35 : mT M32 a4 = 20 := by rw [hM32]; exact hT5
            refine g_iconst (v := (0 : Int32)) X dX14_errorOf_241 (by decide) ?_
            cases hf
            refine g_eqQ hK ?_
            exact g_iret X hr dX14_errorOf_242
          · have hf := ife_t hc hf
            refine g_iconst (v := (4 : Int32)) X dX14_errorOf_229 (by decide) ?_
            cases hf
            refine g_eqQ hK ?_
            exact g_iret X hr dX14_errorOf_230
        · have hf := ife_f hs31 hf
          by_cases hs36 : (mI M a4 x1.toNatClampNeg) = (5 : Int32)
          · have hf := ife_t hs36 hf
            refine g_tabin (tgt := 243) X dX14_errorOf_26 hs36 (by decide) (by decide) rfl (by decide) ?_
            refine g_aload_n X dX14_errorOf_243 rfl rfl ?_
            refine g_getN (ci := 11) (w := vR (mR M a2 1)) 1 X cdX13 i_X14_errorOf_X13 (by decide) (gNw X _ kn_X14_231) rfl dX14_errorOf_244 ha2 hT3 rfl ?_
            refine g_iload_n X dX14_errorOf_247 rfl rfl ?_
            refine g_aload_n X dX14_errorOf_248 rfl rfl ?_
            refine g_iload_n X dX14_errorOf_249 rfl rfl ?_
            obtain ⟨r37, M37, hq37, hf⟩ := bd_e hf
            refine g_callV (ci := 12) (b := x0) (As := [vI x1]) (st := [vI ((mI M a2 0) - (1 : Int32)), vR (mR M a2 1)]) (v := some (vI r37)) (M1 := M37) X (m_X14_numberAt l hq37) (cwV 1 X.2.2.1 gX14_errorOf_X14_numberAt rfl rfl rfl (by decide +kernel) ⟨Nat.le_of_ble_eq_true rfl, Nat.le_of_ble_eq_true rfl⟩) rfl rfl rfl hT1 (by decide) rfl (Nat.le_of_ble_eq_true rfl) dX14_errorOf_250 ⟨by decide, by decide⟩ ?_
            obtain ⟨a38, ha38, hf⟩ := dr_e hf
            obtain ⟨hT39, hf⟩ := ck_e hf
            obtain ⟨hg40, hf⟩ := ck_e hf
            refine g_iast X dX14_errorOf_253 ha38 hT39 hg40 ?_
            obtain ⟨M41, hM41, hf⟩ := lw_e hf
            rw [← hM41]
            have hT42 : mT M41 a38 = 20 := by rw [hM41]; exact hT39
            refine g_aload_n X dX14_errorOf_254 rfl rfl ?_
            refine g_iload_n X dX14_errorOf_255 rfl rfl ?_
            refine g_iconst (v := (1 : Int32)) X dX14_errorOf_256 (by decide) ?_
            refine g_bipush (v := (8 : Int32)) X dX14_errorOf_257 (by decide) ?_
            obtain ⟨hT44, hf⟩ := ck_e hf
            obtain ⟨r43, M43, hq43, hf⟩ := bd_e hf
            refine g_callV (ci := 12) (b := x0) (As := [vI x1, vI (1 : Int32), vI (8 : Int32)]) (st := []) (v := some (vI r43)) (M1 := M43) X (m_X14_inRange l hq43) (cwV 3 X.2.2.1 gX14_errorOf_X14_inRange rfl rfl rfl (by decide +kernel) ⟨Nat.le_of_ble_eq_true rfl, Nat.le_of_ble_eq_true rfl⟩) rfl rfl rfl hT44 (by decide) rfl (Nat.le_of_ble_eq_true rfl) dX14_errorOf_259 ⟨by decide, by decide⟩ ?_
            cases hf
            refine g_eqQ hK ?_
            exact g_iret X hr dX14_errorOf_262
          · have hf := ife_f hs36 hf
            by_cases hs45 : (mI M a4 x1.toNatClampNeg) = (6 : Int32)
            · have hf := ife_t hs45 hf
              refine g_tabin (tgt := 263) X dX14_errorOf_26 hs45 (by decide) (by decide) rfl (by decide) ?_
              refine g_aload_n X dX14_errorOf_263 rfl rfl ?_
              refine g_getN (ci := 11) (w := vI (mI M a2 3)) 3 X cdX13 i_X14_errorOf_X13 (by decide) (gNw X _ kn_X14_219) rfl dX14_errorOf_264 ha2 hT3 rfl ?_
              refine g_iconst (v := (5 : Int32)) X dX14_errorOf_267 (by decide) ?_
              refine g_icmp_ne (tgt := 273) X dX14_errorOf_268 (by decide) (fun hc => ?_) (fun hc => ?_)
              · have hf := ife_f hc hf
                refine g_aload_n X dX14_errorOf_273 rfl rfl ?_
                refine g_getN (ci := 11) (w := vR (mR M a2 2)) 2 X cdX13 i_X14_errorOf_X13 (by decide) (gNw X _ kn_X14_238) rfl dX14_errorOf_274 ha2 hT3 rfl ?_
                refine g_iconst (v := (5 : Int32)) X dX14_errorOf_277 (by decide) ?_
                refine g_iload_n X dX14_errorOf_278 rfl rfl ?_
                refine g_imul X dX14_errorOf_279 ?_
                refine g_aload_n X dX14_errorOf_280 rfl rfl ?_
                refine g_getN (ci := 11) (w := vI (mI M a2 3)) 3 X cdX13 i_X14_errorOf_X13 (by decide) (gNw X _ kn_X14_219) rfl dX14_errorOf_281 ha2 hT3 rfl ?_
                refine g_iadd X dX14_errorOf_284 ?_
                refine g_aload_n X dX14_errorOf_285 rfl rfl ?_
                refine g_iload_n X dX14_errorOf_286 rfl rfl ?_
                obtain ⟨r46, M46, hq46, hf⟩ := bd_e hf
                refine g_callV (ci := 12) (b := x0) (As := [vI x1]) (st := [vI (((5 : Int32) * ((mI M a2 0) - (1 : Int32))) + (mI M a2 3)), vR (mR M a2 2)]) (v := some (vI r46)) (M1 := M46) X (m_X14_numberAt l hq46) (cwV 1 X.2.2.1 gX14_errorOf_X14_numberAt rfl rfl rfl (by decide +kernel) ⟨Nat.le_of_ble_eq_true rfl, Nat.le_of_ble_eq_true rfl⟩) rfl rfl rfl hT1 (by decide) rfl (Nat.le_of_ble_eq_true rfl) dX14_errorOf_287 ⟨by decide, by decide⟩ ?_
                obtain ⟨a47, ha47, hf⟩ := dr_e hf
                obtain ⟨hT48, hf⟩ := ck_e hf
                obtain ⟨hg49, hf⟩ := ck_e hf
                refine g_iast X dX14_errorOf_290 ha47 hT48 hg49 ?_
                obtain ⟨M50, hM50, hf⟩ := lw_e hf
                rw [← hM50]
                have hT51 : mT M50 a47 = 20 := by rw [hM50]; exact hT48
                refine g_aload_n X dX14_errorOf_291 rfl rfl ?_
                refine g_dup X dX14_errorOf_292 rfl ?_
                obtain ⟨hT52, hf⟩ := ck_e hf
                refine g_getN (ci := 11) (w := vI (mI M50 a2 3)) 3 X cdX13 i_X14_errorOf_X13 (by decide) (gNw X _ kn_X14_219) rfl dX14_errorOf_293 ha2 hT52 rfl ?_
                refine g_iconst (v := (1 : Int32)) X dX14_errorOf_296 (by decide) ?_
                refine g_iadd X dX14_errorOf_297 ?_
                refine g_putIN (ci := 11) 3 X cdX13 i_X14_errorOf_X13 (by decide) (gNw X _ kn_X14_219) rfl dX14_errorOf_298 ha2 hT52 rfl rfl rfl rfl ?_
                obtain ⟨M53, hM53, hf⟩ := lw_e hf
                rw [← hM53]
                have hT54 : mT M53 a47 = 20 := by rw [hM53]; exact hT51
                have hT55 : mT M53 a2 = 12 := by rw [hM53]; exact hT52
                refine g_aload_n X dX14_errorOf_301 rfl rfl ?_
                refine g_iload_n X dX14_errorOf_302 rfl rfl ?_
                refine g_iconst (v := (0 : Int32)) X dX14_errorOf_303 (by decide) ?_
                refine g_bipush (v := (99 : Int32)) X dX14_errorOf_304 (by decide) ?_
                obtain ⟨hT57, hf⟩ := ck_e hf
                obtain ⟨r56, M56, hq56, hf⟩ := bd_e hf
                refine g_callV (ci := 12) (b := x0) (As := [vI x1, vI (0 : Int32), vI (99 : Int32)]) (st := []) (v := some (vI r56)) (M1 := M56) X (m_X14_inRange l hq56) (cwV 3 X.2.2.1 gX14_errorOf_X14_inRange rfl rfl rfl (by decide +kernel) ⟨Nat.le_of_ble_eq_true rfl, Nat.le_of_ble_eq_true rfl⟩) rfl rfl rfl hT57 (by decide) rfl (Nat.le_of_ble_eq_true rfl) dX14_errorOf_306 ⟨by decide, by decide⟩ ?_
                cases hf
                refine g_eqQ hK ?_
                exact g_iret X hr dX14_errorOf_309
              · have hf := ife_t hc hf
                refine g_iconst (v := (4 : Int32)) X dX14_errorOf_271 (by decide) ?_
                cases hf
                refine g_eqQ hK ?_
                exact g_iret X hr dX14_errorOf_272
            · have hf := ife_f hs45 hf
              by_cases hs58 : (mI M a4 x1.toNatClampNeg) = (7 : Int32)
              · have hf := ife_t hs58 hf
                refine g_tabin (tgt := 310) X dX14_errorOf_26 hs58 (by decide) (by decide) rfl (by decide) ?_
                refine g_aload_n X dX14_errorOf_310 rfl rfl ?_
                refine g_getN (ci := 11) (w := vR (mR M a2 5)) 5 X cdX13 i_X14_errorOf_X13 (by decide) (gNw X _ kn_X14_241) rfl dX14_errorOf_311 ha2 hT3 rfl ?_
                refine g_iload X dX14_errorOf_314 rfl ?_
                refine g_aload_n X dX14_errorOf_316 rfl rfl ?_
                refine g_iload_n X dX14_errorOf_317 rfl rfl ?_
                obtain ⟨r59, M59, hq59, hf⟩ := bd_e hf
                refine g_callV (ci := 12) (b := x0) (As := [vI x1]) (st := [vI ((mI M a2 4) - (1 : Int32)), vR (mR M a2 5)]) (v := some (vI r59)) (M1 := M59) X (m_X14_numberAt l hq59) (cwV 1 X.2.2.1 gX14_errorOf_X14_numberAt rfl rfl rfl (by decide +kernel) ⟨Nat.le_of_ble_eq_true rfl, Nat.le_of_ble_eq_true rfl⟩) rfl rfl rfl hT1 (by decide) rfl (Nat.le_of_ble_eq_true rfl) dX14_errorOf_318 ⟨by decide, by decide⟩ ?_
                obtain ⟨a60, ha60, hf⟩ := dr_e hf
                obtain ⟨hT61, hf⟩ := ck_e hf
                obtain ⟨hg62, hf⟩ := ck_e hf
                refine g_iast X dX14_errorOf_321 ha60 hT61 hg62 ?_
                obtain ⟨M63, hM63, hf⟩ := lw_e hf
                rw [← hM63]
                have hT64 : mT M63 a60 = 20 := by rw [hM63]; exact hT61
                refine g_aload_n X dX14_errorOf_322 rfl rfl ?_
                refine g_iload_n X dX14_errorOf_323 rfl rfl ?_
                refine g_iconst (v := (1 : Int32)) X dX14_errorOf_324 (by decide) ?_
                refine g_iconst (v := (5 : Int32)) X dX14_errorOf_325 (by decide) ?_
                obtain ⟨hT66, hf⟩ := ck_e hf
                obtain ⟨r65, M65, hq65, hf⟩ := bd_e hf
                refine g_callV (ci := 12) (b := x0) (As := [vI x1, vI (1 : Int32), vI (5 : Int32)]) (st := []) (v := some (vI r65)) (M1 := M65) X (m_X14_inRange l hq65) (cwV 3 X.2.2.1 gX14_errorOf_X14_inRange rfl rfl rfl (by decide +kernel) ⟨Nat.le_of_ble_eq_true rfl, Nat.le_of_ble_eq_true rfl⟩) rfl rfl rfl hT66 (by decide) rfl (Nat.le_of_ble_eq_true rfl) dX14_errorOf_326 ⟨by decide, by decide⟩ ?_
                cases hf
                refine g_eqQ hK ?_
                exact g_iret X hr dX14_errorOf_329
              · have hf := ife_f hs58 hf
                by_cases hs67 : (mI M a4 x1.toNatClampNeg) = (8 : Int32)
                · have hf := ife_t hs67 hf
                  refine g_tabin (tgt := 330) X dX14_errorOf_26 hs67 (by decide) (by decide) rfl (by decide) ?_
                  refine g_aload_n X dX14_errorOf_330 rfl rfl ?_
                  refine g_getN (ci := 11) (w := vR (mR M a2 6)) 6 X cdX13 i_X14_errorOf_X13 (by decide) (gNw X _ kn_X14_244) rfl dX14_errorOf_331 ha2 hT3 rfl ?_
                  refine g_iload X dX14_errorOf_334 rfl ?_
                  refine g_aload_n X dX14_errorOf_336 rfl rfl ?_
                  refine g_iload_n X dX14_errorOf_337 rfl rfl ?_
                  obtain ⟨r68, M68, hq68, hf⟩ := bd_e hf
                  refine g_callV (ci := 12) (b := x0) (As := [vI x1]) (st := [vI ((mI M a2 4) - (1 : Int32)), vR (mR M a2 6)]) (v := some (vI r68)) (M1 := M68) X (m_X14_numberAt l hq68) (cwV 1 X.2.2.1 gX14_errorOf_X14_numberAt rfl rfl rfl (by decide +kernel) ⟨Nat.le_of_ble_eq_true rfl, Nat.le_of_ble_eq_true rfl⟩) rfl rfl rfl hT1 (by decide) rfl (Nat.le_of_ble_eq_true rfl) dX14_errorOf_338 ⟨by decide, by decide⟩ ?_
                  obtain ⟨a69, ha69, hf⟩ := dr_e hf
                  obtain ⟨hT70, hf⟩ := ck_e hf
                  obtain ⟨hg71, hf⟩ := ck_e hf
                  refine g_iast X dX14_errorOf_341 ha69 hT70 hg71 ?_
                  obtain ⟨M72, hM72, hf⟩ := lw_e hf
                  rw [← hM72]
                  have hT73 : mT M72 a69 = 20 := by rw [hM72]; exact hT70
                  refine g_aload_n X dX14_errorOf_342 rfl rfl ?_
                  refine g_iload_n X dX14_errorOf_343 rfl rfl ?_
                  refine g_iconst (v := (1 : Int32)) X dX14_errorOf_344 (by decide) ?_
                  refine g_bipush (v := (99 : Int32)) X dX14_errorOf_345 (by decide) ?_
                  obtain ⟨hT75, hf⟩ := ck_e hf
                  obtain ⟨r74, M74, hq74, hf⟩ := bd_e hf
                  refine g_callV (ci := 12) (b := x0) (As := [vI x1, vI (1 : Int32), vI (99 : Int32)]) (st := []) (v := some (vI r74)) (M1 := M74) X (m_X14_inRange l hq74) (cwV 3 X.2.2.1 gX14_errorOf_X14_inRange rfl rfl rfl (by decide +kernel) ⟨Nat.le_of_ble_eq_true rfl, Nat.le_of_ble_eq_true rfl⟩) rfl rfl rfl hT75 (by decide) rfl (Nat.le_of_ble_eq_true rfl) dX14_errorOf_347 ⟨by decide, by decide⟩ ?_
                  cases hf
                  refine g_eqQ hK ?_
                  exact g_iret X hr dX14_errorOf_350
                · have hf := ife_f hs67 hf
                  by_cases hs76 : (mI M a4 x1.toNatClampNeg) = (9 : Int32)
                  · have hf := ife_t hs76 hf
                    refine g_tabin (tgt := 351) X dX14_errorOf_26 hs76 (by decide) (by decide) rfl (by decide) ?_
                    refine g_aload_n X dX14_errorOf_351 rfl rfl ?_
                    refine g_getN (ci := 11) (w := vR (mR M a2 7)) 7 X cdX13 i_X14_errorOf_X13 (by decide) (gNw X _ kn_X14_247) rfl dX14_errorOf_352 ha2 hT3 rfl ?_
                    refine g_iload X dX14_errorOf_355 rfl ?_
                    refine g_aload_n X dX14_errorOf_357 rfl rfl ?_
                    refine g_iload_n X dX14_errorOf_358 rfl rfl ?_
                    obtain ⟨r77, M77, hq77, hf⟩ := bd_e hf
                    refine g_callV (ci := 12) (b := x0) (As := [vI x1]) (st := [vI ((mI M a2 4) - (1 : Int32)), vR (mR M a2 7)]) (v := some (vI r77)) (M1 := M77) X (m_X14_numberAt l hq77) (cwV 1 X.2.2.1 gX14_errorOf_X14_numberAt rfl rfl rfl (by decide +kernel) ⟨Nat.le_of_ble_eq_true rfl, Nat.le_of_ble_eq_true rfl⟩) rfl rfl rfl hT1 (by decide) rfl (Nat.le_of_ble_eq_true rfl) dX14_errorOf_359 ⟨by decide, by decide⟩ ?_
                    obtain ⟨a78, ha78, hf⟩ := dr_e hf
                    obtain ⟨hT79, hf⟩ := ck_e hf
                    obtain ⟨hg80, hf⟩ := ck_e hf
                    refine g_iast X dX14_errorOf_362 ha78 hT79 hg80 ?_
                    obtain ⟨M81, hM81, hf⟩ := lw_e hf
                    rw [← hM81]
                    have hT82 : mT M81 a78 = 20 := by rw [hM81]; exact hT79
                    refine g_aload_n X dX14_errorOf_363 rfl rfl ?_
                    refine g_iload_n X dX14_errorOf_364 rfl rfl ?_
                    refine g_iconst (v := (1 : Int32)) X dX14_errorOf_365 (by decide) ?_
                    refine g_bipush (v := (40 : Int32)) X dX14_errorOf_366 (by decide) ?_
                    obtain ⟨hT84, hf⟩ := ck_e hf
                    obtain ⟨r83, M83, hq83, hf⟩ := bd_e hf
                    refine g_callV (ci := 12) (b := x0) (As := [vI x1, vI (1 : Int32), vI (40 : Int32)]) (st := []) (v := some (vI r83)) (M1 := M83) X (m_X14_inRange l hq83) (cwV 3 X.2.2.1 gX14_errorOf_X14_inRange rfl rfl rfl (by decide +kernel) ⟨Nat.le_of_ble_eq_true rfl, Nat.le_of_ble_eq_true rfl⟩) rfl rfl rfl hT84 (by decide) rfl (Nat.le_of_ble_eq_true rfl) dX14_errorOf_368 ⟨by decide, by decide⟩ ?_
                    cases hf
                    refine g_eqQ hK ?_
                    exact g_iret X hr dX14_errorOf_371
                  · have hf := ife_f hs76 hf
                    by_cases hs85 : (mI M a4 x1.toNatClampNeg) = (10 : Int32)
                    · have hf := ife_t hs85 hf
                      refine g_tabin (tgt := 372) X dX14_errorOf_26 hs85 (by decide) (by decide) rfl (by decide) ?_
                      refine g_aload_n X dX14_errorOf_372 rfl rfl ?_
                      refine g_iload_n X dX14_errorOf_373 rfl rfl ?_
                      refine g_iconst (v := (2 : Int32)) X dX14_errorOf_374 (by decide) ?_
                      obtain ⟨r86, M86, hq86, hf⟩ := bd_e hf
                      refine g_callV (ci := 12) (b := x0) (As := [vI x1, vI (2 : Int32)]) (st := []) (v := some (vI r86)) (M1 := M86) X (m_X14_look l hq86) (cwV 2 X.2.2.1 gX14_errorOf_X14_look rfl rfl rfl (by decide +kernel) ⟨Nat.le_of_ble_eq_true rfl, Nat.le_of_ble_eq_true rfl⟩) rfl rfl rfl hT1 (by decide) rfl (Nat.le_of_ble_eq_true rfl) dX14_errorOf_375 ⟨by decide, by decide⟩ ?_
                      refine g_istore (lv' := [(5, vI r86), (4, vI ((mI M a2 4) - (1 : Int32))), (3, vI ((mI M a2 0) - (1 : Int32))), (2, vR (mR M x0 12)), (0, vR (some x0)), (1, vI x1)]) X dX14_errorOf_378 (by decide) rfl ?_
                      refine g_aload_n X dX14_errorOf_380 rfl rfl ?_
                      obtain ⟨hT87, hf⟩ := ck_e hf
                      refine g_getN (ci := 11) (w := vR (mR M86 a2 9)) 9 X cdX13 i_X14_errorOf_X13 (by decide) (gNw X _ kn_X14_253) rfl dX14_errorOf_381 ha2 hT87 rfl ?_
                      refine g_aload_n X dX14_errorOf_384 rfl rfl ?_
                      refine g_getN (ci := 11) (w := vI (mI M86 a2 8)) 8 X cdX13 i_X14_errorOf_X13 (by decide) (gNw X _ kn_X14_228) rfl dX14_errorOf_385 ha2 hT87 rfl ?_
                      refine g_iconst (v := (1 : Int32)) X dX14_errorOf_388 (by decide) ?_
                      refine g_isub X dX14_errorOf_389 ?_
                      refine g_aload_n X dX14_errorOf_390 rfl rfl ?_
                      obtain ⟨hT88, hf⟩ := ck_e hf
                      refine g_get (ci := 12) (v := vR (mR M86 x0 8)) 8 X cdX14 i_X14_errorOf_X14 (by decide) k_X14_errorOf_f29 rfl dX14_errorOf_391 rfl hT88 rfl ?_
                      refine g_iload_n X dX14_errorOf_394 rfl rfl ?_
                      obtain ⟨a89, ha89, hf⟩ := dr_e hf
                      obtain ⟨hT90, hf⟩ := ck_e hf
                      obtain ⟨hg91, hf⟩ := ck_e hf
                      refine g_iald X dX14_errorOf_395 ha89 hT90 hg91 ?_
                      obtain ⟨a92, ha92, hf⟩ := dr_e hf
                      obtain ⟨hT93, hf⟩ := ck_e hf
                      obtain ⟨hg94, hf⟩ := ck_e hf
                      refine g_iast X dX14_errorOf_396 ha92 hT93 hg94 ?_
                      obtain ⟨M95, hM95, hf⟩ := lw_e hf
                      rw [← hM95]
                      have hT96 : mT M95 a2 = 12 := by rw [hM95]; exact hT87
                      have hT97 : mT M95 x0 = 13 := by rw [hM95]; exact hT88
                      have hT98 : mT M95 a89 = 20 := by rw [hM95]; exact hT90
                      have hT99 : mT M95 a92 = 20 := by rw [hM95]; exact hT93
                      refine g_iload X dX14_errorOf_397 rfl ?_
                      cases hf
                      refine g_eqQ hK ?_
                      exact g_iret X hr dX14_errorOf_399
                    · have hf := ife_f hs85 hf
                      by_cases hs100 : (mI M a4 x1.toNatClampNeg) = (11 : Int32)
                      · have hf := ife_t hs100 hf
                        refine g_tabin (tgt := 400) X dX14_errorOf_26 hs100 (by decide) (by decide) rfl (by decide) ?_
                        refine g_aload_n X dX14_errorOf_400 rfl rfl ?_
                        refine g_iload_n X dX14_errorOf_401 rfl rfl ?_
                        refine g_iconst (v := (1 : Int32)) X dX14_errorOf_402 (by decide) ?_
                        obtain ⟨r101, M101, hq101, hf⟩ := bd_e hf
                        refine g_callV (ci := 12) (b := x0) (As := [vI x1, vI (1 : Int32)]) (st := []) (v := some (vI r101)) (M1 := M101) X (m_X14_look l hq101) (cwV 2 X.2.2.1 gX14_errorOf_X14_look rfl rfl rfl (by decide +kernel) ⟨Nat.le_of_ble_eq_true rfl, Nat.le_of_ble_eq_true rfl⟩) rfl rfl rfl hT1 (by decide) rfl (Nat.le_of_ble_eq_true rfl) dX14_errorOf_403 ⟨by decide, by decide⟩ ?_
                        refine g_istore (lv' := [(5, vI r101), (4, vI ((mI M a2 4) - (1 : Int32))), (3, vI ((mI M a2 0) - (1 : Int32))), (2, vR (mR M x0 12)), (0, vR (some x0)), (1, vI x1)]) X dX14_errorOf_406 (by decide) rfl ?_
                        refine g_aload_n X dX14_errorOf_408 rfl rfl ?_
                        obtain ⟨hT102, hf⟩ := ck_e hf
                        refine g_getN (ci := 11) (w := vR (mR M101 a2 10)) 10 X cdX13 i_X14_errorOf_X13 (by decide) (gNw X _ kn_X14_256) rfl dX14_errorOf_409 ha2 hT102 rfl ?_
                        refine g_aload_n X dX14_errorOf_412 rfl rfl ?_
                        refine g_getN (ci := 11) (w := vI (mI M101 a2 8)) 8 X cdX13 i_X14_errorOf_X13 (by decide) (gNw X _ kn_X14_228) rfl dX14_errorOf_413 ha2 hT102 rfl ?_
                        refine g_iconst (v := (1 : Int32)) X dX14_errorOf_416 (by decide) ?_
                        refine g_isub X dX14_errorOf_417 ?_
                        refine g_aload_n X dX14_errorOf_418 rfl rfl ?_
                        obtain ⟨hT103, hf⟩ := ck_e hf
                        refine g_get (ci := 12) (v := vR (mR M101 x0 8)) 8 X cdX14 i_X14_errorOf_X14 (by decide) k_X14_errorOf_f29 rfl dX14_errorOf_419 rfl hT103 rfl ?_
                        refine g_iload_n X dX14_errorOf_422 rfl rfl ?_
                        obtain ⟨a104, ha104, hf⟩ := dr_e hf
                        obtain ⟨hT105, hf⟩ := ck_e hf
                        obtain ⟨hg106, hf⟩ := ck_e hf
                        refine g_iald X dX14_errorOf_423 ha104 hT105 hg106 ?_
                        obtain ⟨a107, ha107, hf⟩ := dr_e hf
                        obtain ⟨hT108, hf⟩ := ck_e hf
                        obtain ⟨hg109, hf⟩ := ck_e hf
                        refine g_iast X dX14_errorOf_424 ha107 hT108 hg109 ?_
                        obtain ⟨M110, hM110, hf⟩ := lw_e hf
                        rw [← hM110]
                        have hT111 : mT M110 a2 = 12 := by rw [hM110]; exact hT102
                        have hT112 : mT M110 x0 = 13 := by rw [hM110]; exact hT103
                        have hT113 : mT M110 a104 = 20 := by rw [hM110]; exact hT105
                        have hT114 : mT M110 a107 = 20 := by rw [hM110]; exact hT108
                        refine g_iload X dX14_errorOf_425 rfl ?_
                        cases hf
                        refine g_eqQ hK ?_
                        exact g_iret X hr dX14_errorOf_427
                      · have hf := ife_f hs100 hf
                        by_cases hs115 : (mI M a4 x1.toNatClampNeg) = (12 : Int32)
                        · have hf := ife_t hs115 hf
                          refine g_tabin (tgt := 456) X dX14_errorOf_26 hs115 (by decide) (by decide) rfl (by decide) ?_
                          refine g_aload_n X dX14_errorOf_456 rfl rfl ?_
                          refine g_iload_n X dX14_errorOf_457 rfl rfl ?_
                          refine g_iconst (v := (2 : Int32)) X dX14_errorOf_458 (by decide) ?_
                          obtain ⟨r116, M116, hq116, hf⟩ := bd_e hf
                          refine g_callV (ci := 12) (b := x0) (As := [vI x1, vI (2 : Int32)]) (st := []) (v := some (vI r116)) (M1 := M116) X (m_X14_look l hq116) (cwV 2 X.2.2.1 gX14_errorOf_X14_look rfl rfl rfl (by decide +kernel) ⟨Nat.le_of_ble_eq_true rfl, Nat.le_of_ble_eq_true rfl⟩) rfl rfl rfl hT1 (by decide) rfl (Nat.le_of_ble_eq_true rfl) dX14_errorOf_459 ⟨by decide, by decide⟩ ?_
                          refine g_istore (lv' := [(5, vI r116), (4, vI ((mI M a2 4) - (1 : Int32))), (3, vI ((mI M a2 0) - (1 : Int32))), (2, vR (mR M x0 12)), (0, vR (some x0)), (1, vI x1)]) X dX14_errorOf_462 (by decide) rfl ?_
                          refine g_iload X dX14_errorOf_464 rfl ?_
                          refine g_if_ne (tgt := 482) X dX14_errorOf_466 (by decide) (fun hc => ?_) (fun hc => ?_)
                          · have hf := ife_f hc hf
                            refine g_iload X dX14_errorOf_482 rfl ?_
                            refine g_sub (lvsub_of _ _ [] rfl) ?_
                            exact t_X14_errorOf_484 X hr _ _ _ hf hK
                          · have hf := ife_t hc hf
                            refine g_aload_n X dX14_errorOf_469 rfl rfl ?_
                            refine g_aload_n X dX14_errorOf_470 rfl rfl ?_
                            obtain ⟨hT117, hf⟩ := ck_e hf
                            refine g_get (ci := 12) (v := vR (mR M116 x0 8)) 8 X cdX14 i_X14_errorOf_X14 (by decide) k_X14_errorOf_f29 rfl dX14_errorOf_471 rfl hT117 rfl ?_
                            refine g_iload_n X dX14_errorOf_474 rfl rfl ?_
                            obtain ⟨a118, ha118, hf⟩ := dr_e hf
                            obtain ⟨hT119, hf⟩ := ck_e hf
                            obtain ⟨hg120, hf⟩ := ck_e hf
                            refine g_iald X dX14_errorOf_475 ha118 hT119 hg120 ?_
                            obtain ⟨r121, M121, hq121, hf⟩ := bd_e hf
                            refine g_callV (ci := 12) (b := x0) (As := [vI (mI M116 a118 x1.toNatClampNeg)]) (st := []) (v := some (vI r121)) (M1 := M121) X (m_X14_member l hq121) (cwV 1 X.2.2.1 gX14_errorOf_X14_member rfl rfl rfl (by decide +kernel) ⟨Nat.le_of_ble_eq_true rfl, Nat.le_of_ble_eq_true rfl⟩) rfl rfl rfl hT117 (by decide) rfl (Nat.le_of_ble_eq_true rfl) dX14_errorOf_476 ⟨by decide, by decide⟩ ?_
                            refine g_goto (tgt := 484) X dX14_errorOf_479 (by decide) ?_
                            refine g_sub (lvsub_of _ _ [] rfl) ?_
                            exact t_X14_errorOf_484 X hr _ _ _ hf hK
                        · have hf := ife_f hs115 hf
                          by_cases hs122 : (mI M a4 x1.toNatClampNeg) = (13 : Int32)
                          · have hf := ife_t hs122 hf
                            refine g_tabin (tgt := 428) X dX14_errorOf_26 hs122 (by decide) (by decide) rfl (by decide) ?_
                            refine g_aload_n X dX14_errorOf_428 rfl rfl ?_
                            refine g_iload_n X dX14_errorOf_429 rfl rfl ?_
                            refine g_iconst (v := (1 : Int32)) X dX14_errorOf_430 (by decide) ?_
                            obtain ⟨r123, M123, hq123, hf⟩ := bd_e hf
                            refine g_callV (ci := 12) (b := x0) (As := [vI x1, vI (1 : Int32)]) (st := []) (v := some (vI r123)) (M1 := M123) X (m_X14_look l hq123) (cwV 2 X.2.2.1 gX14_errorOf_X14_look rfl rfl rfl (by decide +kernel) ⟨Nat.le_of_ble_eq_true rfl, Nat.le_of_ble_eq_true rfl⟩) rfl rfl rfl hT1 (by decide) rfl (Nat.le_of_ble_eq_true rfl) dX14_errorOf_431 ⟨by decide, by decide⟩ ?_
                            refine g_istore (lv' := [(5, vI r123), (4, vI ((mI M a2 4) - (1 : Int32))), (3, vI ((mI M a2 0) - (1 : Int32))), (2, vR (mR M x0 12)), (0, vR (some x0)), (1, vI x1)]) X dX14_errorOf_434 (by decide) rfl ?_
                            refine g_aload_n X dX14_errorOf_436 rfl rfl ?_
                            obtain ⟨hT124, hf⟩ := ck_e hf
                            refine g_getN (ci := 11) (w := vR (mR M123 a2 12)) 12 X cdX13 i_X14_errorOf_X13 (by decide) (gNw X _ kn_X14_225) rfl dX14_errorOf_437 ha2 hT124 rfl ?_
                            refine g_aload_n X dX14_errorOf_440 rfl rfl ?_
                            refine g_getN (ci := 11) (w := vI (mI M123 a2 11)) 11 X cdX13 i_X14_errorOf_X13 (by decide) (gNw X _ kn_X14_222) rfl dX14_errorOf_441 ha2 hT124 rfl ?_
                            refine g_iconst (v := (1 : Int32)) X dX14_errorOf_444 (by decide) ?_
                            refine g_isub X dX14_errorOf_445 ?_
                            refine g_aload_n X dX14_errorOf_446 rfl rfl ?_
                            obtain ⟨hT125, hf⟩ := ck_e hf
                            refine g_get (ci := 12) (v := vR (mR M123 x0 8)) 8 X cdX14 i_X14_errorOf_X14 (by decide) k_X14_errorOf_f29 rfl dX14_errorOf_447 rfl hT125 rfl ?_
                            refine g_iload_n X dX14_errorOf_450 rfl rfl ?_
                            obtain ⟨a126, ha126, hf⟩ := dr_e hf
                            obtain ⟨hT127, hf⟩ := ck_e hf
                            obtain ⟨hg128, hf⟩ := ck_e hf
                            refine g_iald X dX14_errorOf_451 ha126 hT127 hg128 ?_
                            obtain ⟨a129, ha129, hf⟩ := dr_e hf
                            obtain ⟨hT130, hf⟩ := ck_e hf
                            obtain ⟨hg131, hf⟩ := ck_e hf
                            refine g_iast X dX14_errorOf_452 ha129 hT130 hg131 ?_
                            obtain ⟨M132, hM132, hf⟩ := lw_e hf
                            rw [← hM132]
                            have hT133 : mT M132 a2 = 12 := by rw [hM132]; exact hT124
                            have hT134 : mT M132 x0 = 13 := by rw [hM132]; exact hT125
                            have hT135 : mT M132 a126 = 20 := by rw [hM132]; exact hT127
                            have hT136 : mT M132 a129 = 20 := by rw [hM132]; exact hT130
                            refine g_iload X dX14_errorOf_453 rfl ?_
                            cases hf
                            refine g_eqQ hK ?_
                            exact g_iret X hr dX14_errorOf_455
                          · have hf := ife_f hs122 hf
                            by_cases hs137 : (mI M a4 x1.toNatClampNeg) = (14 : Int32)
                            · have hf := ife_t hs137 hf
                              refine g_tabin (tgt := 485) X dX14_errorOf_26 hs137 (by decide) (by decide) rfl (by decide) ?_
                              refine g_aload_n X dX14_errorOf_485 rfl rfl ?_
                              refine g_iload_n X dX14_errorOf_486 rfl rfl ?_
                              refine g_iconst (v := (2 : Int32)) X dX14_errorOf_487 (by decide) ?_
                              obtain ⟨r138, M138, hq138, hf⟩ := bd_e hf
                              refine g_callV (ci := 12) (b := x0) (As := [vI x1, vI (2 : Int32)]) (st := []) (v := some (vI r138)) (M1 := M138) X (m_X14_look l hq138) (cwV 2 X.2.2.1 gX14_errorOf_X14_look rfl rfl rfl (by decide +kernel) ⟨Nat.le_of_ble_eq_true rfl, Nat.le_of_ble_eq_true rfl⟩) rfl rfl rfl hT1 (by decide) rfl (Nat.le_of_ble_eq_true rfl) dX14_errorOf_488 ⟨by decide, by decide⟩ ?_
                              cases hf
                              refine g_eqQ hK ?_
                              exact g_iret X hr dX14_errorOf_491
                            · have hf := ife_f hs137 hf
                              by_cases hs139 : (mI M a4 x1.toNatClampNeg) = (15 : Int32)
                              · have hf := ife_t hs139 hf
                                refine g_tabin (tgt := 492) X dX14_errorOf_26 hs139 (by decide) (by decide) rfl (by decide) ?_
                                refine g_aload_n X dX14_errorOf_492 rfl rfl ?_
                                refine g_iload_n X dX14_errorOf_493 rfl rfl ?_
                                refine g_iconst (v := (1 : Int32)) X dX14_errorOf_494 (by decide) ?_
                                obtain ⟨r140, M140, hq140, hf⟩ := bd_e hf
                                refine g_callV (ci := 12) (b := x0) (As := [vI x1, vI (1 : Int32)]) (st := []) (v := some (vI r140)) (M1 := M140) X (m_X14_look l hq140) (cwV 2 X.2.2.1 gX14_errorOf_X14_look rfl rfl rfl (by decide +kernel) ⟨Nat.le_of_ble_eq_true rfl, Nat.le_of_ble_eq_true rfl⟩) rfl rfl rfl hT1 (by decide) rfl (Nat.le_of_ble_eq_true rfl) dX14_errorOf_495 ⟨by decide, by decide⟩ ?_
                                cases hf
                                refine g_eqQ hK ?_
                                exact g_iret X hr dX14_errorOf_498
                              · have hf := ife_f hs139 hf
                                refine g_tabout (tgt := 499) X dX14_errorOf_26 (gtab_out 15 (1) (by decide) (by decide) (fun i hi => match i, hi with | 0, _ => fun e => hs7 (e.trans (by decide)) | 1, _ => fun e => hs14 (e.trans (by decide)) | 2, _ => fun e => hs19 (e.trans (by decide)) | 3, _ => fun e => hs31 (e.trans (by decide)) | 4, _ => fun e => hs36 (e.trans (by decide)) | 5, _ => fun e => hs45 (e.trans (by decide)) | 6, _ => fun e => hs58 (e.trans (by decide)) | 7, _ => fun e => hs67 (e.trans (by decide)) | 8, _ => fun e => hs76 (e.trans (by decide)) | 9, _ => fun e => hs85 (e.trans (by decide)) | 10, _ => fun e => hs100 (e.trans (by decide)) | 11, _ => fun e => hs115 (e.trans (by decide)) | 12, _ => fun e => hs122 (e.trans (by decide)) | 13, _ => fun e => hs137 (e.trans (by decide)) | 14, _ => fun e => hs139 (e.trans (by decide)) | i + 15, h => absurd h (by omega))) (by decide) ?_
                                refine g_iconst (v := (0 : Int32)) X dX14_errorOf_499 (by decide) ?_
                                cases hf
                                refine g_eqQ hK ?_
                                exact g_iret X hr dX14_errorOf_500
set_option maxHeartbeats 4000000 in
set_option maxRecDepth 100000 in
theorem m_X14_errorOf (l : Launch) {D : va_G} {cy : Nat → ClassId} {B : Nat} {H0 : Heap} {Z : Nat → Nat} {M M1 : gMem} {x0 : Nat} {x1 : Int32} {r : Int32} (hf : f_X14_errorOf M x0 x1 = some (r, M1)) : Met l yX14_errorOf wsX14_errorOf rX14_errorOf (va_Pc (Value.ref x0 :: List.map gv [vI x1]) (gPre D cy B H0 (gSt Z B H0) M)) (gQ D cy B H0 (some (vI r)) M1) 0 0 (gA B) := by
  refine Met.ofW (cc := cX14_errorOf) (maxL := 6) (ret := (some .int)) (by decide) rfl ?_
  intro p e s m args below meth c s₁ Bd hml hv
  obtain ⟨rfl, hW, hKK, hFs⟩ := hv
  have X : gX p s m _ meth c D cy B (gSt Z B H0) RX14 cX14_errorOf wsX14_errorOf 6 := ⟨Bd.exec, Bd.bytes, atoms_spec (ws := wsX14_errorOf) Bd.pre, findClass_of_methodNamed Bd.named, hml, hKK, by rw [hW.1]; exact hW.2.1, Bd.notSynchronized, hFs⟩
  have hr := Bd.returns
  have hl := lv_entry ([.ref x0, .int x1]) (n := 6) (Nat.le_of_ble_eq_true rfl)
  show W p l e rX14_errorOf s m _ below meth c s.heap [] 0 0 _ (entryFrame m ([.ref x0, .int x1] : List Value).toArray 6)
  rw [lg_entry_eq]
  generalize (lg_sl ([.ref x0, .int x1]) ++ List.replicate (6 - (lg_sl ([.ref x0, .int x1])).length) Slot.unset).toArray = ls at hl ⊢
  have hl : lv_has ls 6 (List.map gq [(0, vR (some x0)), (1, vI x1)]) := hl
  exact t_X14_errorOf_0 X hr _ _ _ _ hf rfl s.heap [] ls hW va_S.rf (lv_has_sub hl (lvsub_of _ _ [0, 1] rfl))
end
