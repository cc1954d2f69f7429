section
variable {p : Program} {l : Launch} {e : Env} {s : State} {m : MethodId} {args : Array Value} {below : List Frame} {meth : Method} {c : Code} {D : va_G} {cy : Nat → ClassId} {B : Nat} {H0 : Heap} {Z : Nat → Nat}
/-! ## TideLotsModel.isGroundLine()Z -/
theorem dX14_isGroundLine_0 : decode cX14_isGroundLine 0 = .ok (.aload_n 0, 1) := by decide +kernel
theorem dX14_isGroundLine_1 : decode cX14_isGroundLine 1 = .ok (.dup, 1) := by decide +kernel
theorem dX14_isGroundLine_2 : decode cX14_isGroundLine 2 = .ok (.getfield 118, 3) := by decide +kernel
theorem dX14_isGroundLine_5 : decode cX14_isGroundLine 5 = .ok (.iconst 1, 1) := by decide +kernel
theorem dX14_isGroundLine_6 : decode cX14_isGroundLine 6 = .ok (.iadd, 1) := by decide +kernel
theorem dX14_isGroundLine_7 : decode cX14_isGroundLine 7 = .ok (.putfield 118, 3) := by decide +kernel
theorem dX14_isGroundLine_10 : decode cX14_isGroundLine 10 = .ok (.aload_n 0, 1) := by decide +kernel
theorem dX14_isGroundLine_11 : decode cX14_isGroundLine 11 = .ok (.bipush 40, 2) := by decide +kernel
theorem dX14_isGroundLine_13 : decode cX14_isGroundLine 13 = .ok (.iconst 1, 1) := by decide +kernel
theorem dX14_isGroundLine_14 : decode cX14_isGroundLine 14 = .ok (.invokevirtual 149, 3) := by decide +kernel
theorem dX14_isGroundLine_17 : decode cX14_isGroundLine 17 = .ok (.ifCond .eq 40, 3) := by decide +kernel
theorem dX14_isGroundLine_20 : decode cX14_isGroundLine 20 = .ok (.aload_n 0, 1) := by decide +kernel
theorem dX14_isGroundLine_21 : decode cX14_isGroundLine 21 = .ok (.iconst 1, 1) := by decide +kernel
theorem dX14_isGroundLine_22 : decode cX14_isGroundLine 22 = .ok (.invokevirtual 124, 3) := by decide +kernel
theorem dX14_isGroundLine_25 : decode cX14_isGroundLine 25 = .ok (.ifCond .eq 32, 3) := by decide +kernel
theorem dX14_isGroundLine_28 : decode cX14_isGroundLine 28 = .ok (.aload_n 0, 1) := by decide +kernel
theorem dX14_isGroundLine_29 : decode cX14_isGroundLine 29 = .ok (.bipush 41, 2) := by decide +kernel
theorem dX14_isGroundLine_31 : decode cX14_isGroundLine 31 = .ok (.iconst 5, 1) := by decide +kernel
theorem dX14_isGroundLine_32 : decode cX14_isGroundLine 32 = .ok (.invokevirtual 149, 3) := by decide +kernel
theorem dX14_isGroundLine_35 : decode cX14_isGroundLine 35 = .ok (.ifCond .eq 22, 3) := by decide +kernel
theorem dX14_isGroundLine_38 : decode cX14_isGroundLine 38 = .ok (.aload_n 0, 1) := by decide +kernel
theorem dX14_isGroundLine_39 : decode cX14_isGroundLine 39 = .ok (.iconst 2, 1) := by decide +kernel
theorem dX14_isGroundLine_40 : decode cX14_isGroundLine 40 = .ok (.invokevirtual 124, 3) := by decide +kernel
theorem dX14_isGroundLine_43 : decode cX14_isGroundLine 43 = .ok (.ifCond .eq 14, 3) := by decide +kernel
theorem dX14_isGroundLine_46 : decode cX14_isGroundLine 46 = .ok (.aload_n 0, 1) := by decide +kernel
theorem dX14_isGroundLine_47 : decode cX14_isGroundLine 47 = .ok (.bipush 41, 2) := by decide +kernel
theorem dX14_isGroundLine_49 : decode cX14_isGroundLine 49 = .ok (.bipush 6, 2) := by decide +kernel
theorem dX14_isGroundLine_51 : decode cX14_isGroundLine 51 = .ok (.invokevirtual 149, 3) := by decide +kernel
theorem dX14_isGroundLine_54 : decode cX14_isGroundLine 54 = .ok (.ifCond .ne 5, 3) := by decide +kernel
theorem dX14_isGroundLine_57 : decode cX14_isGroundLine 57 = .ok (.iconst 0, 1) := by decide +kernel
theorem dX14_isGroundLine_58 : decode cX14_isGroundLine 58 = .ok (.ireturn, 1) := by decide +kernel
theorem dX14_isGroundLine_59 : decode cX14_isGroundLine 59 = .ok (.aload_n 0, 1) := by decide +kernel
theorem dX14_isGroundLine_60 : decode cX14_isGroundLine 60 = .ok (.bipush 44, 2) := by decide +kernel
theorem dX14_isGroundLine_62 : decode cX14_isGroundLine 62 = .ok (.invokevirtual 145, 3) := by decide +kernel
theorem dX14_isGroundLine_65 : decode cX14_isGroundLine 65 = .ok (.ifCond .eq 16, 3) := by decide +kernel
theorem dX14_isGroundLine_68 : decode cX14_isGroundLine 68 = .ok (.aload_n 0, 1) := by decide +kernel
theorem dX14_isGroundLine_69 : decode cX14_isGroundLine 69 = .ok (.bipush 41, 2) := by decide +kernel
theorem dX14_isGroundLine_71 : decode cX14_isGroundLine 71 = .ok (.bipush 6, 2) := by decide +kernel
theorem dX14_isGroundLine_73 : decode cX14_isGroundLine 73 = .ok (.invokevirtual 149, 3) := by decide +kernel
theorem dX14_isGroundLine_76 : decode cX14_isGroundLine 76 = .ok (.ifCond .ne (-17), 3) := by decide +kernel
theorem dX14_isGroundLine_79 : decode cX14_isGroundLine 79 = .ok (.iconst 0, 1) := by decide +kernel
theorem dX14_isGroundLine_80 : decode cX14_isGroundLine 80 = .ok (.ireturn, 1) := by decide +kernel
theorem dX14_isGroundLine_81 : decode cX14_isGroundLine 81 = .ok (.iconst 1, 1) := by decide +kernel
theorem dX14_isGroundLine_82 : decode cX14_isGroundLine 82 = .ok (.ireturn, 1) := by decide +kernel
set_option maxRecDepth 20000 in
theorem ggX14_isGroundLine_X14_eatSign : GoodIn wsX14_isGroundLine wsX14_eatSign := goodIn_r _ [20, 8, 9, 10, 5, 11, 1, 12, 13, 14, 15, 16, 21, 22, 23, 24, 25, 26, 27, 28, 29, 30, 31, 32, 33, 34, 35] (by decide +kernel) (by decide +kernel)
set_option maxRecDepth 20000 in
theorem gX14_isGroundLine_X14_eatSign : GoodIn wsX14_isGroundLine (wsV RX14 145 RX14 yX14_eatSign wsX14_eatSign) := goodIn_app (goodIn_of _ (by decide +kernel)) ggX14_isGroundLine_X14_eatSign
set_option maxRecDepth 20000 in
theorem ggX14_isGroundLine_X14_eatAs : GoodIn wsX14_isGroundLine wsX14_eatAs := goodIn_r _ [6, 7, 1, 8, 9, 10, 5, 11, 12, 13, 14, 15, 16, 21, 22, 23, 24, 25, 26, 27, 28, 29, 30, 31, 32, 33, 34, 35] (by decide +kernel) (by decide +kernel)
set_option maxRecDepth 20000 in
theorem gX14_isGroundLine_X14_eatAs : GoodIn wsX14_isGroundLine (wsV RX14 149 RX14 yX14_eatAs wsX14_eatAs) := goodIn_app (goodIn_of _ (by decide +kernel)) ggX14_isGroundLine_X14_eatAs
set_option maxRecDepth 20000 in
theorem ggX14_isGroundLine_X14_eat : GoodIn wsX14_isGroundLine wsX14_eat := goodIn_r _ [11, 1, 12, 13, 14, 5, 15, 16, 21, 22, 23, 24, 25, 26, 27, 28, 29, 30, 31, 32, 33, 34, 35] (by decide +kernel) (by decide +kernel)
set_option maxRecDepth 20000 in
theorem gX14_isGroundLine_X14_eat : GoodIn wsX14_isGroundLine (wsV RX14 124 RX14 yX14_eat wsX14_eat) := goodIn_app (goodIn_of _ (by decide +kernel)) ggX14_isGroundLine_X14_eat
theorem k_X14_isGroundLine_f118 : Cond.fieldLink RX14 118 "TideLotsModel" "token" "I" ∈ wsX14_isGroundLine := by decide +kernel
theorem i_X14_isGroundLine_X14 : ∀ w ∈ u_ws RX14 TX14 15, w ∈ wsX14_isGroundLine := by decide +kernel
abbrev rX14_isGroundLine : Room := { frames := 3, cells := 0, slots := 0, locals := 64 }
noncomputable def bb_X14_isGroundLine_59 (M : gMem) (x0 : Nat) : Option ((gMem) ⊕ (Int32 × gMem)) :=
  ck (mT M x0 = 13) <| bd (f_X14_eatSign M x0 ((44 : Int32))) fun r1 M1 => (if r1 = 0 then oI (some ((1 : Int32), M1)) else ck (mT M1 x0 = 13) <| bd (f_X14_eatAs M1 x0 ((41 : Int32)) ((6 : Int32))) fun r4 M4 => (if r4 = 0 then oI (some ((0 : Int32), M4)) else some (.inl M4)))
noncomputable def lp_X14_isGroundLine_59 (M : gMem) (x0 : Nat) : Option (Int32 × gMem) :=
  lp (fun (q : gMem) => bb_X14_isGroundLine_59 q x0) M
noncomputable def b_X14_isGroundLine_57 (M : gMem)  : Option (Int32 × gMem) :=
  some ((0 : Int32), M)
noncomputable def b_X14_isGroundLine_0 (M : gMem) (x0 : Nat) : Option (Int32 × gMem) :=
  ck (mT M x0 = 13) <| lw (wI M x0 9 (((mI M x0 9) + (1 : Int32)))) fun M8 => bd (f_X14_eatAs M8 x0 ((40 : Int32)) ((1 : Int32))) fun r10 M10 => (if r10 = 0 then b_X14_isGroundLine_57 M10  else ck (mT M10 x0 = 13) <| bd (f_X14_eat M10 x0 ((1 : Int32))) fun r11 M11 => (if r11 = 0 then b_X14_isGroundLine_57 M11  else ck (mT M11 x0 = 13) <| bd (f_X14_eatAs M11 x0 ((41 : Int32)) ((5 : Int32))) fun r13 M13 => (if r13 = 0 then b_X14_isGroundLine_57 M13  else ck (mT M13 x0 = 13) <| bd (f_X14_eat M13 x0 ((2 : Int32))) fun r15 M15 => (if r15 = 0 then b_X14_isGroundLine_57 M15  else ck (mT M15 x0 = 13) <| bd (f_X14_eatAs M15 x0 ((41 : Int32)) ((6 : Int32))) fun r17 M17 => (if r17 = 0 then b_X14_isGroundLine_57 M17  else lp_X14_isGroundLine_59 M17 x0)))))
noncomputable def f_X14_isGroundLine (M : gMem) (x0 : Nat) : Option (Int32 × gMem) :=
  b_X14_isGroundLine_0 M x0
set_option maxHeartbeats 4000000 in
set_option maxRecDepth 100000 in
theorem tb_X14_isGroundLine_59 (X : gX p s m args meth c D cy B (gSt Z B H0) RX14 cX14_isGroundLine wsX14_isGroundLine 1) (hr : meth.sig.returnType = (some .boolean)) {Q : State → Prop} : ∀ (M : gMem) (x0 : Nat) (z : (gMem) ⊕ (Int32 × gMem)), bb_X14_isGroundLine_59 M x0 = some z → (Sum.elim (fun (q : gMem) => gGo p l e rX14_isGroundLine s m args below meth c D cy B H0 1 0 0 Q 59 [(0, vR (some x0))] [] q) (fun (r : Int32 × gMem) => Q = gMQ below D cy B H0 args s 0 0 (some (vI r.1)) r.2)) z → gGo p l e rX14_isGroundLine s m args below meth c D cy B H0 1 0 0 Q 59 [(0, vR (some x0))] [] M := by
  intro M x0 z hf hK
  unfold bb_X14_isGroundLine_59 at hf
  refine g_aload_n X dX14_isGroundLine_59 rfl rfl ?_
  refine g_bipush (v := (44 : Int32)) X dX14_isGroundLine_60 (by decide) ?_
  obtain ⟨hT2, hf⟩ := ck_e hf
  obtain ⟨r1, M1, hq1, hf⟩ := bd_e hf
  refine g_callV (ci := 12) (b := x0) (As := [vI (44 : Int32)]) (st := []) (v := some (vI r1)) (M1 := M1) X (m_X14_eatSign l hq1) (cwV 1 X.2.2.1 gX14_isGroundLine_X14_eatSign rfl rfl rfl (by decide +kernel) ⟨Nat.le_of_ble_eq_true rfl, Nat.le_of_ble_eq_true rfl⟩) rfl rfl rfl hT2 (by decide) rfl (Nat.le_of_ble_eq_true rfl) dX14_isGroundLine_62 ⟨by decide, by decide⟩ ?_
  refine g_if_eq (tgt := 81) X dX14_isGroundLine_65 (by decide) (fun hc => ?_) (fun hc => ?_)
  · have hf := ife_t hc hf
    refine g_iconst (v := (1 : Int32)) X dX14_isGroundLine_81 (by decide) ?_
    obtain ⟨w3, hw3, hz3⟩ := oI_e hf
    subst hz3
    have hf := hw3
    cases hf
    refine g_eqQ hK ?_
    exact g_zret X hr (gnb (Or.inr rfl)) dX14_isGroundLine_82
  · have hf := ife_f hc hf
    refine g_aload_n X dX14_isGroundLine_68 rfl rfl ?_
    refine g_bipush (v := (41 : Int32)) X dX14_isGroundLine_69 (by decide) ?_
    refine g_bipush (v := (6 : Int32)) X dX14_isGroundLine_71 (by decide) ?_
    obtain ⟨hT5, hf⟩ := ck_e hf
    obtain ⟨r4, M4, hq4, hf⟩ := bd_e hf
    refine g_callV (ci := 12) (b := x0) (As := [vI (41 : Int32), vI (6 : Int32)]) (st := []) (v := some (vI r4)) (M1 := M4) X (m_X14_eatAs l hq4) (cwV 2 X.2.2.1 gX14_isGroundLine_X14_eatAs rfl rfl rfl (by decide +kernel) ⟨Nat.le_of_ble_eq_true rfl, Nat.le_of_ble_eq_true rfl⟩) rfl rfl rfl hT5 (by decide) rfl (Nat.le_of_ble_eq_true rfl) dX14_isGroundLine_73 ⟨by decide, by decide⟩ ?_
    refine g_if_ne (tgt := 59) X dX14_isGroundLine_76 (by decide) (fun hc => ?_) (fun hc => ?_)
    · have hf := ife_f hc hf
      cases hf
      refine g_sub (lvsub_of _ _ [0] rfl) ?_
      exact hK
    · have hf := ife_t hc hf
      refine g_iconst (v := (0 : Int32)) X dX14_isGroundLine_79 (by decide) ?_
      obtain ⟨w6, hw6, hz6⟩ := oI_e hf
      subst hz6
      have hf := hw6
      cases hf
      refine g_eqQ hK ?_
      exact g_zret X hr (gnb (Or.inl rfl)) dX14_isGroundLine_80
set_option maxHeartbeats 4000000 in
set_option maxRecDepth 100000 in
theorem tl_X14_isGroundLine_59 (X : gX p s m args meth c D cy B (gSt Z B H0) RX14 cX14_isGroundLine wsX14_isGroundLine 1) (hr : meth.sig.returnType = (some .boolean)) {Q : State → Prop} : ∀ (M : gMem) (x0 : Nat) (z : Int32 × gMem), lp_X14_isGroundLine_59 M x0 = some z → (fun (r : Int32 × gMem) => Q = gMQ below D cy B H0 args s 0 0 (some (vI r.1)) r.2) z → gGo p l e rX14_isGroundLine s m args below meth c D cy B H0 1 0 0 Q 59 [(0, vR (some x0))] [] M := by
  intro M x0 z hf hK
  refine lp_ind (P := (fun (q : gMem) (z : Int32 × gMem) => (fun (r : Int32 × gMem) => Q = gMQ below D cy B H0 args s 0 0 (some (vI r.1)) r.2) z → gGo p l e rX14_isGroundLine s m args below meth c D cy B H0 1 0 0 Q 59 [(0, vR (some x0))] [] q)) (fun q z hq => ?_) _ _ hf hK
  intro hK
  obtain ⟨w, hw, hm⟩ := hq
  refine tb_X14_isGroundLine_59 X hr _ _ w hw ?_
  cases w with
  | inl a => exact hm hK
  | inr b => cases hm; exact hK
set_option maxHeartbeats 4000000 in
set_option maxRecDepth 100000 in
theorem t_X14_isGroundLine_57 (X : gX p s m args meth c D cy B (gSt Z B H0) RX14 cX14_isGroundLine wsX14_isGroundLine 1) (hr : meth.sig.returnType = (some .boolean)) {Q : State → Prop} : ∀ (M : gMem)  (z : Int32 × gMem), b_X14_isGroundLine_57 M  = some z → (fun (r : Int32 × gMem) => Q = gMQ below D cy B H0 args s 0 0 (some (vI r.1)) r.2) z → gGo p l e rX14_isGroundLine s m args below meth c D cy B H0 1 0 0 Q 57 [] [] M := by
  intro M  z hf hK
  unfold b_X14_isGroundLine_57 at hf
  refine g_iconst (v := (0 : Int32)) X dX14_isGroundLine_57 (by decide) ?_
  cases hf
  refine g_eqQ hK ?_
  exact g_zret X hr (gnb (Or.inl rfl)) dX14_isGroundLine_58
set_option maxHeartbeats 4000000 in
set_option maxRecDepth 100000 in
theorem t_X14_isGroundLine_0 (X : gX p s m args meth c D cy B (gSt Z B H0) RX14 cX14_isGroundLine wsX14_isGroundLine 1) (hr : meth.sig.returnType = (some .boolean)) {Q : State → Prop} : ∀ (M : gMem) (x0 : Nat) (z : Int32 × gMem), b_X14_isGroundLine_0 M x0 = some z → (fun (r : Int32 × gMem) => Q = gMQ below D cy B H0 args s 0 0 (some (vI r.1)) r.2) z → gGo p l e rX14_isGroundLine s m args below meth c D cy B H0 1 0 0 Q 0 [(0, vR (some x0))] [] M := by
  intro M x0 z hf hK
  unfold b_X14_isGroundLine_0 at hf
  refine g_aload_n X dX14_isGroundLine_0 rfl rfl ?_
  refine g_dup X dX14_isGroundLine_1 rfl ?_
  obtain ⟨hT7, hf⟩ := ck_e hf
  refine g_get (ci := 12) (v := vI (mI M x0 9)) 9 X cdX14 i_X14_isGroundLine_X14 (by decide) k_X14_isGroundLine_f118 rfl dX14_isGroundLine_2 rfl hT7 rfl ?_
  refine g_iconst (v := (1 : Int32)) X dX14_isGroundLine_5 (by decide) ?_
  refine g_iadd X dX14_isGroundLine_6 ?_
  refine g_putI (ci := 12) 9 X cdX14 i_X14_isGroundLine_X14 (by decide) k_X14_isGroundLine_f118 rfl dX14_isGroundLine_7 rfl hT7 (Or.inl rfl) rfl rfl rfl ?_
  obtain ⟨M8, hM8, hf⟩ := lw_e hf
  rw [← hM8]
  have hT9 : mT M8 x0 = 13 := by rw [hM8]; exact hT7
  refine g_aload_n X dX14_isGroundLine_10 rfl rfl ?_
  refine g_bipush (v := (40 : Int32)) X dX14_isGroundLine_11 (by decide) ?_
  refine g_iconst (v := (1 : Int32)) X dX14_isGroundLine_13 (by decide) ?_
  obtain ⟨r10, M10, hq10, hf⟩ := bd_e hf
  refine g_callV (ci := 12) (b := x0) (As := [vI (40 : Int32), vI (1 : Int32)]) (st := []) (v := some (vI r10)) (M1 := M10) X (m_X14_eatAs l hq10) (cwV 2 X.2.2.1 gX14_isGroundLine_X14_eatAs rfl rfl rfl (by decide +kernel) ⟨Nat.le_of_ble_eq_true rfl, Nat.le_of_ble_eq_true rfl⟩) rfl rfl rfl hT9 (by decide) rfl (Nat.le_of_ble_eq_true rfl) dX14_isGroundLine_14 ⟨by decide, by decide⟩ ?_
  refine g_if_eq (tgt := 57) X dX14_isGroundLine_17 (by decide) (fun hc => ?_) (fun hc => ?_)
  · have hf := ife_t hc hf
    refine g_sub (lvsub_of _ _ [] rfl) ?_
    exact t_X14_isGroundLine_57 X hr _  _ hf hK
  · have hf := ife_f hc hf
    refine g_aload_n X dX14_isGroundLine_20 rfl rfl ?_
    refine g_iconst (v := (1 : Int32)) X dX14_isGroundLine_21 (by decide) ?_
    obtain ⟨hT12, hf⟩ := ck_e hf
    obtain ⟨r11, M11, hq11, hf⟩ := bd_e hf
    refine g_callV (ci := 12) (b := x0) (As := [vI (1 : Int32)]) (st := []) (v := some (vI r11)) (M1 := M11) X (m_X14_eat l hq11) (cwV 1 X.2.2.1 gX14_isGroundLine_X14_eat rfl rfl rfl (by decide +kernel) ⟨Nat.le_of_ble_eq_true rfl, Nat.le_of_ble_eq_true rfl⟩) rfl rfl rfl hT12 (by decide) rfl (Nat.le_of_ble_eq_true rfl) dX14_isGroundLine_22 ⟨by decide, by decide⟩ ?_
    refine g_if_eq (tgt := 57) X dX14_isGroundLine_25 (by decide) (fun hc => ?_) (fun hc => ?_)
    · have hf := ife_t hc hf
      refine g_sub (lvsub_of _ _ [] rfl) ?_
      exact t_X14_isGroundLine_57 X hr _  _ hf hK
    · have hf := ife_f hc hf
      refine g_aload_n X dX14_isGroundLine_28 rfl rfl ?_
      refine g_bipush (v := (41 : Int32)) X dX14_isGroundLine_29 (by decide) ?_
      refine g_iconst (v := (5 : Int32)) X dX14_isGroundLine_31 (by decide) ?_
      obtain ⟨hT14, hf⟩ := ck_e hf
      obtain ⟨r13, M13, hq13, hf⟩ := bd_e hf
      refine g_callV (ci := 12) (b := x0) (As := [vI (41 : Int32), vI (5 : Int32)]) (st := []) (v := some (vI r13)) (M1 := M13) X (m_X14_eatAs l hq13) (cwV 2 X.2.2.1 gX14_isGroundLine_X14_eatAs rfl rfl rfl (by decide +kernel) ⟨Nat.le_of_ble_eq_true rfl, Nat.le_of_ble_eq_true rfl⟩) rfl rfl rfl hT14 (by decide) rfl (Nat.le_of_ble_eq_true rfl) dX14_isGroundLine_32 ⟨by decide, by decide⟩ ?_
      refine g_if_eq (tgt := 57) X dX14_isGroundLine_35 (by decide) (fun hc => ?_) (fun hc => ?_)
      · have hf := ife_t hc hf
        refine g_sub (lvsub_of _ _ [] rfl) ?_
        exact t_X14_isGroundLine_57 X hr _  _ hf hK
      · have hf := ife_f hc hf
        refine g_aload_n X dX14_isGroundLine_38 rfl rfl ?_
        refine g_iconst (v := (2 : Int32)) X dX14_isGroundLine_39 (by decide) ?_
        obtain ⟨hT16, hf⟩ := ck_e hf
        obtain ⟨r15, M15, hq15, hf⟩ := bd_e hf
        refine g_callV (ci := 12) (b := x0) (As := [vI (2 : Int32)]) (st := []) (v := some (vI r15)) (M1 := M15) X (m_X14_eat l hq15) (cwV 1 X.2.2.1 gX14_isGroundLine_X14_eat rfl rfl rfl (by decide +kernel) ⟨Nat.le_of_ble_eq_true rfl, Nat.le_of_ble_eq_true rfl⟩) rfl rfl rfl hT16 (by decide) rfl (Nat.le_of_ble_eq_true rfl) dX14_isGroundLine_40 ⟨by decide, by decide⟩ ?_
        refine g_if_eq (tgt := 57) X dX14_isGroundLine_43 (by decide) (fun hc => ?_) (fun hc => ?_)
        · have hf := ife_t hc hf
          refine g_sub (lvsub_of _ _ [] rfl) ?_
          exact t_X14_isGroundLine_57 X hr _  _ hf hK
        · have hf := ife_f hc hf
          refine g_aload_n X dX14_isGroundLine_46 rfl rfl ?_
          refine g_bipush (v := (41 : Int32)) X dX14_isGroundLine_47 (by decide) ?_
          refine g_bipush (v := (6 : Int32)) X dX14_isGroundLine_49 (by decide) ?_
          obtain ⟨hT18, hf⟩ := ck_e hf
          obtain ⟨r17, M17, hq17, hf⟩ := bd_e hf
          refine g_callV (ci := 12) (b := x0) (As := [vI (41 : Int32), vI (6 : Int32)]) (st := []) (v := some (vI r17)) (M1 := M17) X (m_X14_eatAs l hq17) (cwV 2 X.2.2.1 gX14_isGroundLine_X14_eatAs rfl rfl rfl (by decide +kernel) ⟨Nat.le_of_ble_eq_true rfl, Nat.le_of_ble_eq_true rfl⟩) rfl rfl rfl hT18 (by decide) rfl (Nat.le_of_ble_eq_true rfl) dX14_isGroundLine_51 ⟨by decide, by decide⟩ ?_
          refine g_if_ne (tgt := 59) X dX14_isGroundLine_54 (by decide) (fun hc => ?_) (fun hc => ?_)
          · have hf := ife_f hc hf
            refine g_sub (lvsub_of _ _ [0] rfl) ?_
            exact tl_X14_isGroundLine_59 X hr _ _ _ hf hK
          · have hf := ife_t hc hf
            refine g_sub (lvsub_of _ _ [] rfl) ?_
            exact t_X14_isGroundLine_57 X hr _  _ hf hK
set_option maxHeartbeats 4000000 in
set_option maxRecDepth 100000 in
theorem m_X14_isGroundLine (l : Launch) {D : va_G} {cy : Nat → ClassId} {B : Nat} {H0 : Heap} {Z : Nat → Nat} {M M1 : gMem} {x0 : Nat} {r : Int32} (hf : f_X14_isGroundLine M x0 = some (r, M1)) : Met l yX14_isGroundLine wsX14_isGroundLine rX14_isGroundLine (va_Pc (Value.ref x0 :: List.map gv []) (gPre D cy B H0 (gSt Z B H0) M)) (gQ D cy B H0 (some (vI r)) M1) 0 0 (gA B) := by
  refine Met.ofW (cc := cX14_isGroundLine) (maxL := 1) (ret := (some .boolean)) (by decide) rfl ?_
  intro p e s m args below meth c s₁ Bd hml hv
  obtain ⟨rfl, hW, hKK, hFs⟩ := hv
  have X : gX p s m _ meth c D cy B (gSt Z B H0) RX14 cX14_isGroundLine wsX14_isGroundLine 1 := ⟨Bd.exec, Bd.bytes, atoms_spec (ws := wsX14_isGroundLine) Bd.pre, findClass_of_methodNamed Bd.named, hml, hKK, by rw [hW.1]; exact hW.2.1, Bd.notSynchronized, hFs⟩
  have hr := Bd.returns
  have hl := lv_entry ([.ref x0]) (n := 1) (Nat.le_of_ble_eq_true rfl)
  show W p l e rX14_isGroundLine s m _ below meth c s.heap [] 0 0 _ (entryFrame m ([.ref x0] : List Value).toArray 1)
  rw [lg_entry_eq]
  generalize (lg_sl ([.ref x0]) ++ List.replicate (1 - (lg_sl ([.ref x0])).length) Slot.unset).toArray = ls at hl ⊢
  have hl : lv_has ls 1 (List.map gq [(0, vR (some x0))]) := hl
  exact t_X14_isGroundLine_0 X hr _ _ _ hf rfl s.heap [] ls hW va_S.rf (lv_has_sub hl (lvsub_of _ _ [0] rfl))
/-! ## TideLotsModel.isFisherLine()Z -/
theorem dX14_isFisherLine_0 : decode cX14_isFisherLine 0 = .ok (.aload_n 0, 1) := by decide +kernel
theorem dX14_isFisherLine_1 : decode cX14_isFisherLine 1 = .ok (.dup, 1) := by decide +kernel
theorem dX14_isFisherLine_2 : decode cX14_isFisherLine 2 = .ok (.getfield 118, 3) := by decide +kernel
theorem dX14_isFisherLine_5 : decode cX14_isFisherLine 5 = .ok (.iconst 1, 1) := by decide +kernel
theorem dX14_isFisherLine_6 : decode cX14_isFisherLine 6 = .ok (.iadd, 1) := by decide +kernel
theorem dX14_isFisherLine_7 : decode cX14_isFisherLine 7 = .ok (.putfield 118, 3) := by decide +kernel
theorem dX14_isFisherLine_10 : decode cX14_isFisherLine 10 = .ok (.aload_n 0, 1) := by decide +kernel
theorem dX14_isFisherLine_11 : decode cX14_isFisherLine 11 = .ok (.bipush 40, 2) := by decide +kernel
theorem dX14_isFisherLine_13 : decode cX14_isFisherLine 13 = .ok (.iconst 2, 1) := by decide +kernel
theorem dX14_isFisherLine_14 : decode cX14_isFisherLine 14 = .ok (.invokevirtual 149, 3) := by decide +kernel
theorem dX14_isFisherLine_17 : decode cX14_isFisherLine 17 = .ok (.ifCond .eq 65, 3) := by decide +kernel
theorem dX14_isFisherLine_20 : decode cX14_isFisherLine 20 = .ok (.aload_n 0, 1) := by decide +kernel
theorem dX14_isFisherLine_21 : decode cX14_isFisherLine 21 = .ok (.iconst 4, 1) := by decide +kernel
theorem dX14_isFisherLine_22 : decode cX14_isFisherLine 22 = .ok (.invokevirtual 124, 3) := by decide +kernel
theorem dX14_isFisherLine_25 : decode cX14_isFisherLine 25 = .ok (.ifCond .eq 57, 3) := by decide +kernel
theorem dX14_isFisherLine_28 : decode cX14_isFisherLine 28 = .ok (.aload_n 0, 1) := by decide +kernel
theorem dX14_isFisherLine_29 : decode cX14_isFisherLine 29 = .ok (.bipush 41, 2) := by decide +kernel
theorem dX14_isFisherLine_31 : decode cX14_isFisherLine 31 = .ok (.bipush 7, 2) := by decide +kernel
theorem dX14_isFisherLine_33 : decode cX14_isFisherLine 33 = .ok (.invokevirtual 149, 3) := by decide +kernel
theorem dX14_isFisherLine_36 : decode cX14_isFisherLine 36 = .ok (.ifCond .eq 46, 3) := by decide +kernel
theorem dX14_isFisherLine_39 : decode cX14_isFisherLine 39 = .ok (.aload_n 0, 1) := by decide +kernel
theorem dX14_isFisherLine_40 : decode cX14_isFisherLine 40 = .ok (.iconst 5, 1) := by decide +kernel
theorem dX14_isFisherLine_41 : decode cX14_isFisherLine 41 = .ok (.invokevirtual 124, 3) := by decide +kernel
theorem dX14_isFisherLine_44 : decode cX14_isFisherLine 44 = .ok (.ifCond .eq 38, 3) := by decide +kernel
theorem dX14_isFisherLine_47 : decode cX14_isFisherLine 47 = .ok (.aload_n 0, 1) := by decide +kernel
theorem dX14_isFisherLine_48 : decode cX14_isFisherLine 48 = .ok (.bipush 41, 2) := by decide +kernel
theorem dX14_isFisherLine_50 : decode cX14_isFisherLine 50 = .ok (.bipush 8, 2) := by decide +kernel
theorem dX14_isFisherLine_52 : decode cX14_isFisherLine 52 = .ok (.invokevirtual 149, 3) := by decide +kernel
theorem dX14_isFisherLine_55 : decode cX14_isFisherLine 55 = .ok (.ifCond .eq 27, 3) := by decide +kernel
theorem dX14_isFisherLine_58 : decode cX14_isFisherLine 58 = .ok (.aload_n 0, 1) := by decide +kernel
theorem dX14_isFisherLine_59 : decode cX14_isFisherLine 59 = .ok (.bipush 6, 2) := by decide +kernel
theorem dX14_isFisherLine_61 : decode cX14_isFisherLine 61 = .ok (.invokevirtual 124, 3) := by decide +kernel
theorem dX14_isFisherLine_64 : decode cX14_isFisherLine 64 = .ok (.ifCond .eq 18, 3) := by decide +kernel
theorem dX14_isFisherLine_67 : decode cX14_isFisherLine 67 = .ok (.aload_n 0, 1) := by decide +kernel
theorem dX14_isFisherLine_68 : decode cX14_isFisherLine 68 = .ok (.bipush 41, 2) := by decide +kernel
theorem dX14_isFisherLine_70 : decode cX14_isFisherLine 70 = .ok (.bipush 9, 2) := by decide +kernel
theorem dX14_isFisherLine_72 : decode cX14_isFisherLine 72 = .ok (.invokevirtual 149, 3) := by decide +kernel
theorem dX14_isFisherLine_75 : decode cX14_isFisherLine 75 = .ok (.ifCond .eq 7, 3) := by decide +kernel
theorem dX14_isFisherLine_78 : decode cX14_isFisherLine 78 = .ok (.iconst 1, 1) := by decide +kernel
theorem dX14_isFisherLine_79 : decode cX14_isFisherLine 79 = .ok (.goto 4, 3) := by decide +kernel
theorem dX14_isFisherLine_82 : decode cX14_isFisherLine 82 = .ok (.iconst 0, 1) := by decide +kernel
theorem dX14_isFisherLine_83 : decode cX14_isFisherLine 83 = .ok (.ireturn, 1) := by decide +kernel
set_option maxRecDepth 20000 in
theorem ggX14_isFisherLine_X14_eatAs : GoodIn wsX14_isFisherLine wsX14_eatAs := goodIn_r _ [6, 7, 1, 8, 9, 10, 5, 11, 12, 13, 14, 15, 16, 17, 18, 19, 20, 21, 22, 23, 24, 25, 26, 27, 28, 29, 30, 31] (by decide +kernel) (by decide +kernel)
set_option maxRecDepth 20000 in
theorem gX14_isFisherLine_X14_eatAs : GoodIn wsX14_isFisherLine (wsV RX14 149 RX14 yX14_eatAs wsX14_eatAs) := goodIn_app (goodIn_of _ (by decide +kernel)) ggX14_isFisherLine_X14_eatAs
set_option maxRecDepth 20000 in
theorem ggX14_isFisherLine_X14_eat : GoodIn wsX14_isFisherLine wsX14_eat := goodIn_r _ [11, 1, 12, 13, 14, 5, 15, 16, 17, 18, 19, 20, 21, 22, 23, 24, 25, 26, 27, 28, 29, 30, 31] (by decide +kernel) (by decide +kernel)
set_option maxRecDepth 20000 in
theorem gX14_isFisherLine_X14_eat : GoodIn wsX14_isFisherLine (wsV RX14 124 RX14 yX14_eat wsX14_eat) := goodIn_app (goodIn_of _ (by decide +kernel)) ggX14_isFisherLine_X14_eat
theorem k_X14_isFisherLine_f118 : Cond.fieldLink RX14 118 "TideLotsModel" "token" "I" ∈ wsX14_isFisherLine := by decide +kernel
theorem i_X14_isFisherLine_X14 : ∀ w ∈ u_ws RX14 TX14 15, w ∈ wsX14_isFisherLine := by decide +kernel
abbrev rX14_isFisherLine : Room := { frames := 3, cells := 0, slots := 0, locals := 64 }
noncomputable def b_X14_isFisherLine_83 (M : gMem) (s0 : Int32) : Option (Int32 × gMem) :=
  ck (s0 = 0 ∨ s0 = 1) <| some (s0, M)
noncomputable def b_X14_isFisherLine_82 (M : gMem)  : Option (Int32 × gMem) :=
  b_X14_isFisherLine_83 M ((0 : Int32))
noncomputable def b_X14_isFisherLine_0 (M : gMem) (x0 : Nat) : Option (Int32 × gMem) :=
  ck (mT M x0 = 13) <| lw (wI M x0 9 (((mI M x0 9) + (1 : Int32)))) fun M3 => bd (f_X14_eatAs M3 x0 ((40 : Int32)) ((2 : Int32))) fun r5 M5 => (if r5 = 0 then b_X14_isFisherLine_82 M5  else ck (mT M5 x0 = 13) <| bd (f_X14_eat M5 x0 ((4 : Int32))) fun r6 M6 => (if r6 = 0 then b_X14_isFisherLine_82 M6  else ck (mT M6 x0 = 13) <| bd (f_X14_eatAs M6 x0 ((41 : Int32)) ((7 : Int32))) fun r8 M8 => (if r8 = 0 then b_X14_isFisherLine_82 M8  else ck (mT M8 x0 = 13) <| bd (f_X14_eat M8 x0 ((5 : Int32))) fun r10 M10 => (if r10 = 0 then b_X14_isFisherLine_82 M10  else ck (mT M10 x0 = 13) <| bd (f_X14_eatAs M10 x0 ((41 : Int32)) ((8 : Int32))) fun r12 M12 => (if r12 = 0 then b_X14_isFisherLine_82 M12  else ck (mT M12 x0 = 13) <| bd (f_X14_eat M12 x0 ((6 : Int32))) fun r14 M14 => (if r14 = 0 then b_X14_isFisherLine_82 M14  else ck (mT M14 x0 = 13) <| bd (f_X14_eatAs M14 x0 ((41 : Int32)) ((9 : Int32))) fun r16 M16 => (if r16 = 0 then b_X14_isFisherLine_82 M16  else b_X14_isFisherLine_83 M16 ((1 : Int32)))))))))
noncomputable def f_X14_isFisherLine (M : gMem) (x0 : Nat) : Option (Int32 × gMem) :=
  b_X14_isFisherLine_0 M x0
set_option maxHeartbeats 4000000 in
set_option maxRecDepth 100000 in
theorem t_X14_isFisherLine_83 (X : gX p s m args meth c D cy B (gSt Z B H0) RX14 cX14_isFisherLine wsX14_isFisherLine 1) (hr : meth.sig.returnType = (some .boolean)) {Q : State → Prop} : ∀ (M : gMem) (s0 : Int32) (z : Int32 × gMem), b_X14_isFisherLine_83 M s0 = some z → (fun (r : Int32 × gMem) => Q = gMQ below D cy B H0 args s 0 0 (some (vI r.1)) r.2) z → gGo p l e rX14_isFisherLine s m args below meth c D cy B H0 1 0 0 Q 83 [] [vI s0] M := by
  intro M s0 z hf hK
  unfold b_X14_isFisherLine_83 at hf
  obtain ⟨hg1, hf⟩ := ck_e hf
  cases hf
  refine g_eqQ hK ?_
  exact g_zret X hr (gnb hg1) dX14_isFisherLine_83
set_option maxHeartbeats 4000000 in
set_option maxRecDepth 100000 in
theorem t_X14_isFisherLine_82 (X : gX p s m args meth c D cy B (gSt Z B H0) RX14 cX14_isFisherLine wsX14_isFisherLine 1) (hr : meth.sig.returnType = (some .boolean)) {Q : State → Prop} : ∀ (M : gMem)  (z : Int32 × gMem), b_X14_isFisherLine_82 M  = some z → (fun (r : Int32 × gMem) => Q = gMQ below D cy B H0 args s 0 0 (some (vI r.1)) r.2) z → gGo p l e rX14_isFisherLine s m args below meth c D cy B H0 1 0 0 Q 82 [] [] M := by
  intro M  z hf hK
  unfold b_X14_isFisherLine_82 at hf
  refine g_iconst (v := (0 : Int32)) X dX14_isFisherLine_82 (by decide) ?_
  refine g_sub (lvsub_of _ _ [] rfl) ?_
  exact t_X14_isFisherLine_83 X hr _ _ _ hf hK
set_option maxHeartbeats 4000000 in
set_option maxRecDepth 100000 in
theorem t_X14_isFisherLine_0 (X : gX p s m args meth c D cy B (gSt Z B H0) RX14 cX14_isFisherLine wsX14_isFisherLine 1) (hr : meth.sig.returnType = (some .boolean)) {Q : State → Prop} : ∀ (M : gMem) (x0 : Nat) (z : Int32 × gMem), b_X14_isFisherLine_0 M x0 = some z → (fun (r : Int32 × gMem) => Q = gMQ below D cy B H0 args s 0 0 (some (vI r.1)) r.2) z → gGo p l e rX14_isFisherLine s m args below meth c D cy B H0 1 0 0 Q 0 [(0, vR (some x0))] [] M := by
  intro M x0 z hf hK
  unfold b_X14_isFisherLine_0 at hf
  refine g_aload_n X dX14_isFisherLine_0 rfl rfl ?_
  refine g_dup X dX14_isFisherLine_1 rfl ?_
  obtain ⟨hT2, hf⟩ := ck_e hf
  refine g_get (ci := 12) (v := vI (mI M x0 9)) 9 X cdX14 i_X14_isFisherLine_X14 (by decide) k_X14_isFisherLine_f118 rfl dX14_isFisherLine_2 rfl hT2 rfl ?_
  refine g_iconst (v := (1 : Int32)) X dX14_isFisherLine_5 (by decide) ?_
  refine g_iadd X dX14_isFisherLine_6 ?_
  refine g_putI (ci := 12) 9 X cdX14 i_X14_isFisherLine_X14 (by decide) k_X14_isFisherLine_f118 rfl dX14_isFisherLine_7 rfl hT2 (Or.inl rfl) rfl rfl rfl ?_
  obtain ⟨M3, hM3, hf⟩ := lw_e hf
  rw [← hM3]
  have hT4 : mT M3 x0 = 13 := by rw [hM3]; exact hT2
  refine g_aload_n X dX14_isFisherLine_10 rfl rfl ?_
  refine g_bipush (v := (40 : Int32)) X dX14_isFisherLine_11 (by decide) ?_
  refine g_iconst (v := (2 : Int32)) X dX14_isFisherLine_13 (by decide) ?_
  obtain ⟨r5, M5, hq5, hf⟩ := bd_e hf
  refine g_callV (ci := 12) (b := x0) (As := [vI (40 : Int32), vI (2 : Int32)]) (st := []) (v := some (vI r5)) (M1 := M5) X (m_X14_eatAs l hq5) (cwV 2 X.2.2.1 gX14_isFisherLine_X14_eatAs rfl rfl rfl (by decide +kernel) ⟨Nat.le_of_ble_eq_true rfl, Nat.le_of_ble_eq_true rfl⟩) rfl rfl rfl hT4 (by decide) rfl (Nat.le_of_ble_eq_true rfl) dX14_isFisherLine_14 ⟨by decide, by decide⟩ ?_
  refine g_if_eq (tgt := 82) X dX14_isFisherLine_17 (by decide) (fun hc => ?_) (fun hc => ?_)
  · have hf := ife_t hc hf
    refine g_sub (lvsub_of _ _ [] rfl) ?_
    exact t_X14_isFisherLine_82 X hr _  _ hf hK
  · have hf := ife_f hc hf
    refine g_aload_n X dX14_isFisherLine_20 rfl rfl ?_
    refine g_iconst (v := (4 : Int32)) X dX14_isFisherLine_21 (by decide) ?_
    obtain ⟨hT7, hf⟩ := ck_e hf
    obtain ⟨r6, M6, hq6, hf⟩ := bd_e hf
    refine g_callV (ci := 12) (b := x0) (As := [vI (4 : Int32)]) (st := []) (v := some (vI r6)) (M1 := M6) X (m_X14_eat l hq6) (cwV 1 X.2.2.1 gX14_isFisherLine_X14_eat rfl rfl rfl (by decide +kernel) ⟨Nat.le_of_ble_eq_true rfl, Nat.le_of_ble_eq_true rfl⟩) rfl rfl rfl hT7 (by decide) rfl (Nat.le_of_ble_eq_true rfl) dX14_isFisherLine_22 ⟨by decide, by decide⟩ ?_
    refine g_if_eq (tgt := 82) X dX14_isFisherLine_25 (by decide) (fun hc => ?_) (fun hc => ?_)
    · have hf := ife_t hc hf
      refine g_sub (lvsub_of _ _ [] rfl) ?_
      exact t_X14_isFisherLine_82 X hr _  _ hf hK
    · have hf := ife_f hc hf
      refine g_aload_n X dX14_isFisherLine_28 rfl rfl ?_
      refine g_bipush (v := (41 : Int32)) X dX14_isFisherLine_29 (by decide) ?_
      refine g_bipush (v := (7 : Int32)) X dX14_isFisherLine_31 (by decide) ?_
      obtain ⟨hT9, hf⟩ := ck_e hf
      obtain ⟨r8, M8, hq8, hf⟩ := bd_e hf
      refine g_callV (ci := 12) (b := x0) (As := [vI (41 : Int32), vI (7 : Int32)]) (st := []) (v := some (vI r8)) (M1 := M8) X (m_X14_eatAs l hq8) (cwV 2 X.2.2.1 gX14_isFisherLine_X14_eatAs rfl rfl rfl (by decide +kernel) ⟨Nat.le_of_ble_eq_true rfl, Nat.le_of_ble_eq_true rfl⟩) rfl rfl rfl hT9 (by decide) rfl (Nat.le_of_ble_eq_true rfl) dX14_isFisherLine_33 ⟨by decide, by decide⟩ ?_
      refine g_if_eq (tgt := 82) X dX14_isFisherLine_36 (by decide) (fun hc => ?_) (fun hc => ?_)
      · have hf := ife_t hc hf
        refine g_sub (lvsub_of _ _ [] rfl) ?_
        exact t_X14_isFisherLine_82 X hr _  _ hf hK
      · have hf := ife_f hc hf
        refine g_aload_n X dX14_isFisherLine_39 rfl rfl ?_
        refine g_iconst (v := (5 : Int32)) X dX14_isFisherLine_40 (by decide) ?_
        obtain ⟨hT11, hf⟩ := ck_e hf
        obtain ⟨r10, M10, hq10, hf⟩ := bd_e hf
        refine g_callV (ci := 12) (b := x0) (As := [vI (5 : Int32)]) (st := []) (v := some (vI r10)) (M1 := M10) X (m_X14_eat l hq10) (cwV 1 X.2.2.1 gX14_isFisherLine_X14_eat rfl rfl rfl (by decide +kernel) ⟨Nat.le_of_ble_eq_true rfl, Nat.le_of_ble_eq_true rfl⟩) rfl rfl rfl hT11 (by decide) rfl (Nat.le_of_ble_eq_true rfl) dX14_isFisherLine_41 ⟨by decide, by decide⟩ ?_
        refine g_if_eq (tgt := 82) X dX14_isFisherLine_44 (by decide) (fun hc => ?_) (fun hc => ?_)
        · have hf := ife_t hc hf
          refine g_sub (lvsub_of _ _ [] rfl) ?_
          exact t_X14_isFisherLine_82 X hr _  _ hf hK
        · have hf := ife_f hc hf
          refine g_aload_n X dX14_isFisherLine_47 rfl rfl ?_
          refine g_bipush (v := (41 : Int32)) X dX14_isFisherLine_48 (by decide) ?_
          refine g_bipush (v := (8 : Int32)) X dX14_isFisherLine_50 (by decide) ?_
          obtain ⟨hT13, hf⟩ := ck_e hf
          obtain ⟨r12, M12, hq12, hf⟩ := bd_e hf
          refine g_callV (ci := 12) (b := x0) (As := [vI (41 : Int32), vI (8 : Int32)]) (st := []) (v := some (vI r12)) (M1 := M12) X (m_X14_eatAs l hq12) (cwV 2 X.2.2.1 gX14_isFisherLine_X14_eatAs rfl rfl rfl (by decide +kernel) ⟨Nat.le_of_ble_eq_true rfl, Nat.le_of_ble_eq_true rfl⟩) rfl rfl rfl hT13 (by decide) rfl (Nat.le_of_ble_eq_true rfl) dX14_isFisherLine_52 ⟨by decide, by decide⟩ ?_
          refine g_if_eq (tgt := 82) X dX14_isFisherLine_55 (by decide) (fun hc => ?_) (fun hc => ?_)
          · have hf := ife_t hc hf
            refine g_sub (lvsub_of _ _ [] rfl) ?_
            exact t_X14_isFisherLine_82 X hr _  _ hf hK
          · have hf := ife_f hc hf
            refine g_aload_n X dX14_isFisherLine_58 rfl rfl ?_
            refine g_bipush (v := (6 : Int32)) X dX14_isFisherLine_59 (by decide) ?_
            obtain ⟨hT15, hf⟩ := ck_e hf
            obtain ⟨r14, M14, hq14, hf⟩ := bd_e hf
            refine g_callV (ci := 12) (b := x0) (As := [vI (6 : Int32)]) (st := []) (v := some (vI r14)) (M1 := M14) X (m_X14_eat l hq14) (cwV 1 X.2.2.1 gX14_isFisherLine_X14_eat rfl rfl rfl (by decide +kernel) ⟨Nat.le_of_ble_eq_true rfl, Nat.le_of_ble_eq_true rfl⟩) rfl rfl rfl hT15 (by decide) rfl (Nat.le_of_ble_eq_true rfl) dX14_isFisherLine_61 ⟨by decide, by decide⟩ ?_
            refine g_if_eq (tgt := 82) X dX14_isFisherLine_64 (by decide) (fun hc => ?_) (fun hc => ?_)
            · have hf := ife_t hc hf
              refine g_sub (lvsub_of _ _ [] rfl) ?_
              exact t_X14_isFisherLine_82 X hr _  _ hf hK
            · have hf := ife_f hc hf
              refine g_aload_n X dX14_isFisherLine_67 rfl rfl ?_
              refine g_bipush (v := (41 : Int32)) X dX14_isFisherLine_68 (by decide) ?_
              refine g_bipush (v := (9 : Int32)) X dX14_isFisherLine_70 (by decide) ?_
              obtain ⟨hT17, hf⟩ := ck_e hf
              obtain ⟨r16, M16, hq16, hf⟩ := bd_e hf
              refine g_callV (ci := 12) (b := x0) (As := [vI (41 : Int32), vI (9 : Int32)]) (st := []) (v := some (vI r16)) (M1 := M16) X (m_X14_eatAs l hq16) (cwV 2 X.2.2.1 gX14_isFisherLine_X14_eatAs rfl rfl rfl (by decide +kernel) ⟨Nat.le_of_ble_eq_true rfl, Nat.le_of_ble_eq_true rfl⟩) rfl rfl rfl hT17 (by decide) rfl (Nat.le_of_ble_eq_true rfl) dX14_isFisherLine_72 ⟨by decide, by decide⟩ ?_
              refine g_if_eq (tgt := 82) X dX14_isFisherLine_75 (by decide) (fun hc => ?_) (fun hc => ?_)
              · have hf := ife_t hc hf
                refine g_sub (lvsub_of _ _ [] rfl) ?_
                exact t_X14_isFisherLine_82 X hr _  _ hf hK
              · have hf := ife_f hc hf
                refine g_iconst (v := (1 : Int32)) X dX14_isFisherLine_78 (by decide) ?_
                refine g_goto (tgt := 83) X dX14_isFisherLine_79 (by decide) ?_
                refine g_sub (lvsub_of _ _ [] rfl) ?_
                exact t_X14_isFisherLine_83 X hr _ _ _ hf hK
set_option maxHeartbeats 4000000 in
set_option maxRecDepth 100000 in
theorem m_X14_isFisherLine (l : Launch) {D : va_G} {cy : Nat → ClassId} {B : Nat} {H0 : Heap} {Z : Nat → Nat} {M M1 : gMem} {x0 : Nat} {r : Int32} (hf : f_X14_isFisherLine M x0 = some (r, M1)) : Met l yX14_isFisherLine wsX14_isFisherLine rX14_isFisherLine (va_Pc (Value.ref x0 :: List.map gv []) (gPre D cy B H0 (gSt Z B H0) M)) (gQ D cy B H0 (some (vI r)) M1) 0 0 (gA B) := by
  refine Met.ofW (cc := cX14_isFisherLine) (maxL := 1) (ret := (some .boolean)) (by decide) rfl ?_
  intro p e s m args below meth c s₁ Bd hml hv
  obtain ⟨rfl, hW, hKK, hFs⟩ := hv
  have X : gX p s m _ meth c D cy B (gSt Z B H0) RX14 cX14_isFisherLine wsX14_isFisherLine 1 := ⟨Bd.exec, Bd.bytes, atoms_spec (ws := wsX14_isFisherLine) Bd.pre, findClass_of_methodNamed Bd.named, hml, hKK, by rw [hW.1]; exact hW.2.1, Bd.notSynchronized, hFs⟩
  have hr := Bd.returns
  have hl := lv_entry ([.ref x0]) (n := 1) (Nat.le_of_ble_eq_true rfl)
  show W p l e rX14_isFisherLine s m _ below meth c s.heap [] 0 0 _ (entryFrame m ([.ref x0] : List Value).toArray 1)
  rw [lg_entry_eq]
  generalize (lg_sl ([.ref x0]) ++ List.replicate (1 - (lg_sl ([.ref x0])).length) Slot.unset).toArray = ls at hl ⊢
  have hl : lv_has ls 1 (List.map gq [(0, vR (some x0))]) := hl
  exact t_X14_isFisherLine_0 X hr _ _ _ hf rfl s.heap [] ls hW va_S.rf (lv_has_sub hl (lvsub_of _ _ [0] rfl))
/-! ## TideLotsModel.isGoLine()Z -/
theorem dX14_isGoLine_0 : decode cX14_isGoLine 0 = .ok (.aload_n 0, 1) := by decide +kernel
theorem dX14_isGoLine_1 : decode cX14_isGoLine 1 = .ok (.getfield 26, 3) := by decide +kernel
theorem dX14_isGoLine_4 : decode cX14_isGoLine 4 = .ok (.aload_n 0, 1) := by decide +kernel
theorem dX14_isGoLine_5 : decode cX14_isGoLine 5 = .ok (.getfield 118, 3) := by decide +kernel
theorem dX14_isGoLine_8 : decode cX14_isGoLine 8 = .ok (.iconst 4, 1) := by decide +kernel
theorem dX14_isGoLine_9 : decode cX14_isGoLine 9 = .ok (.iastore, 1) := by decide +kernel
theorem dX14_isGoLine_10 : decode cX14_isGoLine 10 = .ok (.aload_n 0, 1) := by decide +kernel
theorem dX14_isGoLine_11 : decode cX14_isGoLine 11 = .ok (.dup, 1) := by decide +kernel
theorem dX14_isGoLine_12 : decode cX14_isGoLine 12 = .ok (.getfield 118, 3) := by decide +kernel
theorem dX14_isGoLine_15 : decode cX14_isGoLine 15 = .ok (.iconst 1, 1) := by decide +kernel
theorem dX14_isGoLine_16 : decode cX14_isGoLine 16 = .ok (.iadd, 1) := by decide +kernel
theorem dX14_isGoLine_17 : decode cX14_isGoLine 17 = .ok (.putfield 118, 3) := by decide +kernel
theorem dX14_isGoLine_20 : decode cX14_isGoLine 20 = .ok (.aload_n 0, 1) := by decide +kernel
theorem dX14_isGoLine_21 : decode cX14_isGoLine 21 = .ok (.getfield 39, 3) := by decide +kernel
theorem dX14_isGoLine_24 : decode cX14_isGoLine 24 = .ok (.getfield 153, 3) := by decide +kernel
theorem dX14_isGoLine_27 : decode cX14_isGoLine 27 = .ok (.bipush 24, 2) := by decide +kernel
theorem dX14_isGoLine_29 : decode cX14_isGoLine 29 = .ok (.invokestatic 70, 3) := by decide +kernel
theorem dX14_isGoLine_32 : decode cX14_isGoLine 32 = .ok (.istore_n 1, 1) := by decide +kernel
theorem dX14_isGoLine_33 : decode cX14_isGoLine 33 = .ok (.aload_n 0, 1) := by decide +kernel
theorem dX14_isGoLine_34 : decode cX14_isGoLine 34 = .ok (.getfield 39, 3) := by decide +kernel
theorem dX14_isGoLine_37 : decode cX14_isGoLine 37 = .ok (.dup, 1) := by decide +kernel
theorem dX14_isGoLine_38 : decode cX14_isGoLine 38 = .ok (.getfield 153, 3) := by decide +kernel
theorem dX14_isGoLine_41 : decode cX14_isGoLine 41 = .ok (.iconst 1, 1) := by decide +kernel
theorem dX14_isGoLine_42 : decode cX14_isGoLine 42 = .ok (.iadd, 1) := by decide +kernel
theorem dX14_isGoLine_43 : decode cX14_isGoLine 43 = .ok (.putfield 153, 3) := by decide +kernel
theorem dX14_isGoLine_46 : decode cX14_isGoLine 46 = .ok (.aload_n 0, 1) := by decide +kernel
theorem dX14_isGoLine_47 : decode cX14_isGoLine 47 = .ok (.getfield 39, 3) := by decide +kernel
theorem dX14_isGoLine_50 : decode cX14_isGoLine 50 = .ok (.getfield 156, 3) := by decide +kernel
theorem dX14_isGoLine_53 : decode cX14_isGoLine 53 = .ok (.iload_n 1, 1) := by decide +kernel
theorem dX14_isGoLine_54 : decode cX14_isGoLine 54 = .ok (.aload_n 0, 1) := by decide +kernel
theorem dX14_isGoLine_55 : decode cX14_isGoLine 55 = .ok (.getfield 39, 3) := by decide +kernel
theorem dX14_isGoLine_58 : decode cX14_isGoLine 58 = .ok (.getfield 130, 3) := by decide +kernel
theorem dX14_isGoLine_61 : decode cX14_isGoLine 61 = .ok (.iastore, 1) := by decide +kernel
theorem dX14_isGoLine_62 : decode cX14_isGoLine 62 = .ok (.aload_n 0, 1) := by decide +kernel
theorem dX14_isGoLine_63 : decode cX14_isGoLine 63 = .ok (.bipush 40, 2) := by decide +kernel
theorem dX14_isGoLine_65 : decode cX14_isGoLine 65 = .ok (.bipush 10, 2) := by decide +kernel
theorem dX14_isGoLine_67 : decode cX14_isGoLine 67 = .ok (.invokevirtual 149, 3) := by decide +kernel
theorem dX14_isGoLine_70 : decode cX14_isGoLine 70 = .ok (.ifCond .eq 39, 3) := by decide +kernel
theorem dX14_isGoLine_73 : decode cX14_isGoLine 73 = .ok (.aload_n 0, 1) := by decide +kernel
theorem dX14_isGoLine_74 : decode cX14_isGoLine 74 = .ok (.bipush 8, 2) := by decide +kernel
theorem dX14_isGoLine_76 : decode cX14_isGoLine 76 = .ok (.invokevirtual 124, 3) := by decide +kernel
theorem dX14_isGoLine_79 : decode cX14_isGoLine 79 = .ok (.ifCond .eq 30, 3) := by decide +kernel
theorem dX14_isGoLine_82 : decode cX14_isGoLine 82 = .ok (.aload_n 0, 1) := by decide +kernel
theorem dX14_isGoLine_83 : decode cX14_isGoLine 83 = .ok (.bipush 40, 2) := by decide +kernel
theorem dX14_isGoLine_85 : decode cX14_isGoLine 85 = .ok (.bipush 11, 2) := by decide +kernel
theorem dX14_isGoLine_87 : decode cX14_isGoLine 87 = .ok (.invokevirtual 149, 3) := by decide +kernel
theorem dX14_isGoLine_90 : decode cX14_isGoLine 90 = .ok (.ifCond .eq 19, 3) := by decide +kernel
theorem dX14_isGoLine_93 : decode cX14_isGoLine 93 = .ok (.aload_n 0, 1) := by decide +kernel
theorem dX14_isGoLine_94 : decode cX14_isGoLine 94 = .ok (.bipush 9, 2) := by decide +kernel
theorem dX14_isGoLine_96 : decode cX14_isGoLine 96 = .ok (.invokevirtual 124, 3) := by decide +kernel
theorem dX14_isGoLine_99 : decode cX14_isGoLine 99 = .ok (.ifCond .eq 12, 3) := by decide +kernel
theorem dX14_isGoLine_102 : decode cX14_isGoLine 102 = .ok (.aload_n 0, 1) := by decide +kernel
theorem dX14_isGoLine_103 : decode cX14_isGoLine 103 = .ok (.invokevirtual 159, 3) := by decide +kernel
theorem dX14_isGoLine_106 : decode cX14_isGoLine 106 = .ok (.ifCond .ne 5, 3) := by decide +kernel
theorem dX14_isGoLine_109 : decode cX14_isGoLine 109 = .ok (.iconst 0, 1) := by decide +kernel
theorem dX14_isGoLine_110 : decode cX14_isGoLine 110 = .ok (.ireturn, 1) := by decide +kernel
theorem dX14_isGoLine_111 : decode cX14_isGoLine 111 = .ok (.aload_n 0, 1) := by decide +kernel
theorem dX14_isGoLine_112 : decode cX14_isGoLine 112 = .ok (.getfield 39, 3) := by decide +kernel
theorem dX14_isGoLine_115 : decode cX14_isGoLine 115 = .ok (.getfield 162, 3) := by decide +kernel
theorem dX14_isGoLine_118 : decode cX14_isGoLine 118 = .ok (.iload_n 1, 1) := by decide +kernel
theorem dX14_isGoLine_119 : decode cX14_isGoLine 119 = .ok (.aload_n 0, 1) := by decide +kernel
theorem dX14_isGoLine_120 : decode cX14_isGoLine 120 = .ok (.getfield 39, 3) := by decide +kernel
theorem dX14_isGoLine_123 : decode cX14_isGoLine 123 = .ok (.getfield 130, 3) := by decide +kernel
theorem dX14_isGoLine_126 : decode cX14_isGoLine 126 = .ok (.iastore, 1) := by decide +kernel
theorem dX14_isGoLine_127 : decode cX14_isGoLine 127 = .ok (.iconst 1, 1) := by decide +kernel
theorem dX14_isGoLine_128 : decode cX14_isGoLine 128 = .ok (.ireturn, 1) := by decide +kernel
set_option maxRecDepth 20000 in
theorem ggX14_isGoLine_X14_eatAs : GoodIn wsX14_isGoLine wsX14_eatAs := goodIn_rr wsB_X14_isGoLine_in _ [(1, 11), (1, 0), (1, 1), (1, 12), (1, 13), (1, 14), (1, 10), (1, 15), (1, 16), (1, 17), (1, 18), (1, 19), (1, 20), (5, 0), (5, 1), (5, 2), (5, 3), (5, 4), (5, 5), (5, 6), (5, 7), (5, 8), (5, 9), (5, 10), (5, 11), (5, 12), (5, 13), (5, 14)] (by decide +kernel) (by decide +kernel)
set_option maxRecDepth 20000 in
theorem gX14_isGoLine_X14_eatAs : GoodIn wsX14_isGoLine (wsV RX14 149 RX14 yX14_eatAs wsX14_eatAs) := goodIn_app (goodIn_rr wsB_X14_isGoLine_in _ [(1, 7), (1, 8), (1, 9), (1, 10)] (by decide +kernel) (by decide +kernel)) ggX14_isGoLine_X14_eatAs
set_option maxRecDepth 20000 in
theorem ggX14_isGoLine_X14_eat : GoodIn wsX14_isGoLine wsX14_eat := goodIn_rr wsB_X14_isGoLine_in _ [(1, 15), (1, 1), (1, 16), (1, 17), (1, 18), (1, 10), (1, 19), (1, 20), (5, 0), (5, 1), (5, 2), (5, 3), (5, 4), (5, 5), (5, 6), (5, 7), (5, 8), (5, 9), (5, 10), (5, 11), (5, 12), (5, 13), (5, 14)] (by decide +kernel) (by decide +kernel)
set_option maxRecDepth 20000 in
theorem gX14_isGoLine_X14_eat : GoodIn wsX14_isGoLine (wsV RX14 124 RX14 yX14_eat wsX14_eat) := goodIn_app (goodIn_rr wsB_X14_isGoLine_in _ [(1, 12), (1, 13), (1, 14), (1, 10)] (by decide +kernel) (by decide +kernel)) ggX14_isGoLine_X14_eat
set_option maxRecDepth 20000 in
theorem ggX14_isGoLine_X14_isTest : GoodIn wsX14_isGoLine wsX14_isTest := goodIn_2 24 (goodIn_rr wsB_X14_isGoLine_in _ [(2, 0), (2, 1), (2, 2), (2, 3), (1, 10), (1, 12), (1, 13), (1, 14), (1, 15), (1, 1), (1, 16), (1, 17), (1, 18), (1, 19), (1, 20), (2, 4), (2, 5), (2, 6), (2, 7), (1, 2), (2, 8), (2, 9), (2, 10), (2, 11)] (by decide +kernel) (by decide +kernel)) (goodIn_2 24 (goodIn_rr wsB_X14_isGoLine_in _ [(2, 12), (2, 13), (2, 14), (2, 15), (2, 16), (2, 17), (2, 18), (2, 19), (2, 20), (2, 21), (1, 21), (1, 22), (1, 23), (2, 22), (2, 23), (3, 0), (3, 1), (3, 2), (3, 3), (3, 4), (3, 5), (1, 7), (1, 8), (1, 9)] (by decide +kernel) (by decide +kernel)) (goodIn_2 24 (goodIn_rr wsB_X14_isGoLine_in _ [(1, 11), (1, 0), (3, 6), (3, 7), (3, 8), (3, 9), (3, 10), (3, 11), (3, 12), (3, 13), (3, 14), (3, 15), (3, 16), (3, 17), (3, 18), (3, 19), (3, 20), (3, 21), (3, 22), (3, 23), (4, 0), (5, 0), (5, 1), (5, 2)] (by decide +kernel) (by decide +kernel)) (goodIn_2 24 (goodIn_rr wsB_X14_isGoLine_in _ [(5, 3), (5, 4), (5, 5), (5, 6), (5, 7), (5, 8), (5, 9), (5, 10), (5, 11), (5, 12), (5, 13), (5, 14), (6, 0), (6, 1), (6, 2), (6, 3), (6, 4), (6, 5), (6, 6), (6, 7), (6, 8), (6, 9), (6, 10), (6, 11)] (by decide +kernel) (by decide +kernel)) (goodIn_rr wsB_X14_isGoLine_in _ [(6, 12), (6, 13), (6, 14), (6, 15), (6, 16), (6, 17), (6, 18), (6, 19), (6, 20), (6, 21), (6, 22), (6, 23), (6, 24)] (by decide +kernel) (by decide +kernel)))))
set_option maxRecDepth 20000 in
theorem gX14_isGoLine_X14_isTest : GoodIn wsX14_isGoLine (wsV RX14 159 RX14 yX14_isTest wsX14_isTest) := goodIn_app (goodIn_rr wsB_X14_isGoLine_in _ [(1, 21), (1, 22), (1, 23), (1, 10)] (by decide +kernel) (by decide +kernel)) ggX14_isGoLine_X14_isTest
theorem k_X14_isGoLine_f39 : Cond.fieldLink RX14 39 "TideLotsModel" "reading" "LTideLotsModel$Told;" ∈ wsX14_isGoLine := by decide +kernel
theorem i_X14_isGoLine_X14 : ∀ w ∈ u_ws RX14 TX14 15, w ∈ wsX14_isGoLine := by decide +kernel
theorem kn_X14_162 : Cond.fieldLinkNest "TideLotsModel" (162 : Nat) "TideLotsModel$Told" "tested" "[I" "TideLotsModel" ∈ gNs := by decide +kernel
theorem i_X14_isGoLine_X13 : ∀ w ∈ u_ws RX13 TX13 25, w ∈ wsX14_isGoLine := by decide +kernel
theorem k_X14_isGoLine_f26 : Cond.fieldLink RX14 26 "TideLotsModel" "role" "[I" ∈ wsX14_isGoLine := by decide +kernel
theorem k_X14_isGoLine_f118 : Cond.fieldLink RX14 118 "TideLotsModel" "token" "I" ∈ wsX14_isGoLine := by decide +kernel
theorem kn_X14_153 : Cond.fieldLinkNest "TideLotsModel" (153 : Nat) "TideLotsModel$Told" "lines" "I" "TideLotsModel" ∈ gNs := by decide +kernel
theorem k_X14_isGoLine_m70 : Cond.methodLink RX14 70 Lib.Math.min.name ∈ wsX14_isGoLine := by decide +kernel
theorem k_X14_isGoLine_mmins : Cond.static Lib.Math.min.name ∈ wsX14_isGoLine := by decide +kernel
theorem k_X14_isGoLine_mi : Cond.initialized "java/lang/Math" ∈ wsX14_isGoLine := by decide +kernel
theorem k_X14_isGoLine_mminc : Cond.code Lib.Math.min.name Lib.Math.min.code 2 (some .int) ∈ wsX14_isGoLine := by decide +kernel
theorem kn_X14_156 : Cond.fieldLinkNest "TideLotsModel" (156 : Nat) "TideLotsModel$Told" "test" "[I" "TideLotsModel" ∈ gNs := by decide +kernel
abbrev rX14_isGoLine : Room := { frames := 69, cells := 0, slots := 0, locals := 2665 }
noncomputable def b_X14_isGoLine_111 (M : gMem) (x0 : Nat) (x1 : Int32) : Option (Int32 × gMem) :=
  ck (mT M x0 = 13) <| dr ((mR M x0 12)) fun a2 => ck (mT M a2 = 12) <| dr ((mR M a2 18)) fun a4 => ck (mT M a4 = 20) <| ck (inb x1 (mL M a4)) <| lw (wI M a4 x1.toNatClampNeg ((mI M a2 22))) fun M7 => some ((1 : Int32), M7)
noncomputable def b_X14_isGoLine_109 (M : gMem)  : Option (Int32 × gMem) :=
  some ((0 : Int32), M)
noncomputable def b_X14_isGoLine_0 (M : gMem) (x0 : Nat) : Option (Int32 × gMem) :=
  ck (mT M x0 = 13) <| dr ((mR M x0 7)) fun a12 => ck (mT M a12 = 20) <| ck (inb (mI M x0 9) (mL M a12)) <| lw (wI M a12 ((mI M x0 9)).toNatClampNeg ((4 : Int32))) fun M15 => lw (wI M15 x0 9 (((mI M15 x0 9) + (1 : Int32)))) fun M18 => dr ((mR M18 x0 12)) fun a21 => ck (mT M18 a21 = 12) <| lw (wI M18 a21 15 (((mI M18 a21 15) + (1 : Int32)))) fun M23 => dr ((mR M23 x0 12)) fun a27 => ck (mT M23 a27 = 12) <| dr ((mR M23 a27 17)) fun a29 => ck (mT M23 a29 = 20) <| ck (inb (imin ((mI M18 a21 15)) ((24 : Int32))) (mL M23 a29)) <| lw (wI M23 a29 ((imin ((mI M18 a21 15)) ((24 : Int32)))).toNatClampNeg ((mI M23 a27 22))) fun M32 => bd (f_X14_eatAs M32 x0 ((40 : Int32)) ((10 : Int32))) fun r38 M38 => (if r38 = 0 then b_X14_isGoLine_109 M38  else ck (mT M38 x0 = 13) <| bd (f_X14_eat M38 x0 ((8 : Int32))) fun r39 M39 => (if r39 = 0 then b_X14_isGoLine_109 M39  else ck (mT M39 x0 = 13) <| bd (f_X14_eatAs M39 x0 ((40 : Int32)) ((11 : Int32))) fun r41 M41 => (if r41 = 0 then b_X14_isGoLine_109 M41  else ck (mT M41 x0 = 13) <| bd (f_X14_eat M41 x0 ((9 : Int32))) fun r43 M43 => (if r43 = 0 then b_X14_isGoLine_111 M43 x0 ((imin ((mI M18 a21 15)) ((24 : Int32)))) else ck (mT M43 x0 = 13) <| bd (f_X14_isTest M43 x0) fun r45 M45 => (if r45 = 0 then b_X14_isGoLine_109 M45  else b_X14_isGoLine_111 M45 x0 ((imin ((mI M18 a21 15)) ((24 : Int32)))))))))
noncomputable def f_X14_isGoLine (M : gMem) (x0 : Nat) : Option (Int32 × gMem) :=
  b_X14_isGoLine_0 M x0
set_option maxHeartbeats 4000000 in
set_option maxRecDepth 100000 in
theorem t_X14_isGoLine_111 (X : gX p s m args meth c D cy B (gSt Z B H0) RX14 cX14_isGoLine wsX14_isGoLine 2) (hr : meth.sig.returnType = (some .boolean)) {Q : State → Prop} : ∀ (M : gMem) (x0 : Nat) (x1 : Int32) (z : Int32 × gMem), b_X14_isGoLine_111 M x0 x1 = some z → (fun (r : Int32 × gMem) => Q = gMQ below D cy B H0 args s 0 0 (some (vI r.1)) r.2) z → gGo p l e rX14_isGoLine s m args below meth c D cy B H0 2 0 0 Q 111 [(0, vR (some x0)), (1, vI x1)] [] M := by
  intro M x0 x1 z hf hK
  unfold b_X14_isGoLine_111 at hf
  refine g_aload_n X dX14_isGoLine_111 rfl rfl ?_
  obtain ⟨hT1, hf⟩ := ck_e hf
  refine g_get (ci := 12) (v := vR (mR M x0 12)) 12 X cdX14 i_X14_isGoLine_X14 (by decide) k_X14_isGoLine_f39 rfl dX14_isGoLine_112 rfl hT1 rfl ?_
  obtain ⟨a2, ha2, hf⟩ := dr_e hf
  obtain ⟨hT3, hf⟩ := ck_e hf
  refine g_getN (ci := 11) (w := vR (mR M a2 18)) 18 X cdX13 i_X14_isGoLine_X13 (by decide) (gNw X _ kn_X14_162) rfl dX14_isGoLine_115 ha2 hT3 rfl ?_
  refine g_iload_n X dX14_isGoLine_118 rfl rfl ?_
  refine g_aload_n X dX14_isGoLine_119 rfl rfl ?_
  refine g_get (ci := 12) (v := vR (mR M x0 12)) 12 X cdX14 i_X14_isGoLine_X14 (by decide) k_X14_isGoLine_f39 rfl dX14_isGoLine_120 rfl hT1 rfl ?_
  refine g_getN (ci := 11) (w := vI (mI M a2 22)) 22 X cdX13 i_X14_isGoLine_X13 (by decide) (gNw X _ kn_X14_130) rfl dX14_isGoLine_123 ha2 hT3 rfl ?_
  obtain ⟨a4, ha4, hf⟩ := dr_e hf
  obtain ⟨hT5, hf⟩ := ck_e hf
  obtain ⟨hg6, hf⟩ := ck_e hf
  refine g_iast X dX14_isGoLine_126 ha4 hT5 hg6 ?_
  obtain ⟨M7, hM7, hf⟩ := lw_e hf
  rw [← hM7]
  have hT8 : mT M7 x0 = 13 := by rw [hM7]; exact hT1
  have hT9 : mT M7 a2 = 12 := by rw [hM7]; exact hT3
  have hT10 : mT M7 a4 = 20 := by rw [hM7]; exact hT5
  refine g_iconst (v := (1 : Int32)) X dX14_isGoLine_127 (by decide) ?_
  cases hf
  refine g_eqQ hK ?_
  exact g_zret X hr (gnb (Or.inr rfl)) dX14_isGoLine_128
set_option maxHeartbeats 4000000 in
set_option maxRecDepth 100000 in
theorem t_X14_isGoLine_109 (X : gX p s m args meth c D cy B (gSt Z B H0) RX14 cX14_isGoLine wsX14_isGoLine 2) (hr : meth.sig.returnType = (some .boolean)) {Q : State → Prop} : ∀ (M : gMem)  (z : Int32 × gMem), b_X14_isGoLine_109 M  = some z → (fun (r : Int32 × gMem) => Q = gMQ below D cy B H0 args s 0 0 (some (vI r.1)) r.2) z → gGo p l e rX14_isGoLine s m args below meth c D cy B H0 2 0 0 Q 109 [] [] M := by
  intro M  z hf hK
  unfold b_X14_isGoLine_109 at hf
  refine g_iconst (v := (0 : Int32)) X dX14_isGoLine_109 (by decide) ?_
  cases hf
  refine g_eqQ hK ?_
  exact g_zret X hr (gnb (Or.inl rfl)) dX14_isGoLine_110
set_option maxHeartbeats 4000000 in
set_option maxRecDepth 100000 in
theorem t_X14_isGoLine_0 (X : gX p s m args meth c D cy B (gSt Z B H0) RX14 cX14_isGoLine wsX14_isGoLine 2) (hr : meth.sig.returnType = (some .boolean)) {Q : State → Prop} : ∀ (M : gMem) (x0 : Nat) (z : Int32 × gMem), b_X14_isGoLine_0 M x0 = some z → (fun (r : Int32 × gMem) => Q = gMQ below D cy B H0 args s 0 0 (some (vI r.1)) r.2) z → gGo p l e rX14_isGoLine s m args below meth c D cy B H0 2 0 0 Q 0 [(0, vR (some x0))] [] M := by
  intro M x0 z hf hK
  unfold b_X14_isGoLine_0 at hf
  refine g_aload_n X dX14_isGoLine_0 rfl rfl ?_
  obtain ⟨hT11, hf⟩ := ck_e hf
  refine g_get (ci := 12) (v := vR (mR M x0 7)) 7 X cdX14 i_X14_isGoLine_X14 (by decide) k_X14_isGoLine_f26 rfl dX14_isGoLine_1 rfl hT11 rfl ?_
  refine g_aload_n X dX14_isGoLine_4 rfl rfl ?_
  refine g_get (ci := 12) (v := vI (mI M x0 9)) 9 X cdX14 i_X14_isGoLine_X14 (by decide) k_X14_isGoLine_f118 rfl dX14_isGoLine_5 rfl hT11 rfl ?_
  refine g_iconst (v := (4 : Int32)) X dX14_isGoLine_8 (by decide) ?_
  obtain ⟨a12, ha12, hf⟩ := dr_e hf
  obtain ⟨hT13, hf⟩ := ck_e hf
  obtain ⟨hg14, hf⟩ := ck_e hf
  refine g_iast X dX14_isGoLine_9 ha12 hT13 hg14 ?_
  obtain ⟨M15, hM15, hf⟩ := lw_e hf
  rw [← hM15]
  have hT16 : mT M15 x0 = 13 := by rw [hM15]; exact hT11
  have hT17 : mT M15 a12 = 20 := by rw [hM15]; exact hT13
  refine g_aload_n X dX14_isGoLine_10 rfl rfl ?_
  refine g_dup X dX14_isGoLine_11 rfl ?_
  refine g_get (ci := 12) (v := vI (mI M15 x0 9)) 9 X cdX14 i_X14_isGoLine_X14 (by decide) k_X14_isGoLine_f118 rfl dX14_isGoLine_12 rfl hT16 rfl ?_
  refine g_iconst (v := (1 : Int32)) X dX14_isGoLine_15 (by decide) ?_
  refine g_iadd X dX14_isGoLine_16 ?_
  refine g_putI (ci := 12) 9 X cdX14 i_X14_isGoLine_X14 (by decide) k_X14_isGoLine_f118 rfl dX14_isGoLine_17 rfl hT16 (Or.inl rfl) rfl rfl rfl ?_
  obtain ⟨M18, hM18, hf⟩ := lw_e hf
  rw [← hM18]
  have hT19 : mT M18 x0 = 13 := by rw [hM18]; exact hT16
  have hT20 : mT M18 a12 = 20 := by rw [hM18]; exact hT17
  refine g_aload_n X dX14_isGoLine_20 rfl rfl ?_
  refine g_get (ci := 12) (v := vR (mR M18 x0 12)) 12 X cdX14 i_X14_isGoLine_X14 (by decide) k_X14_isGoLine_f39 rfl dX14_isGoLine_21 rfl hT19 rfl ?_
  obtain ⟨a21, ha21, hf⟩ := dr_e hf
  obtain ⟨hT22, hf⟩ := ck_e hf
  refine g_getN (ci := 11) (w := vI (mI M18 a21 15)) 15 X cdX13 i_X14_isGoLine_X13 (by decide) (gNw X _ kn_X14_153) rfl dX14_isGoLine_24 ha21 hT22 rfl ?_
  refine g_bipush (v := (24 : Int32)) X dX14_isGoLine_27 (by decide) ?_
  refine g_min X k_X14_isGoLine_m70 k_X14_isGoLine_mmins k_X14_isGoLine_mi k_X14_isGoLine_mminc (Nat.le_of_ble_eq_true rfl) (Nat.le_of_ble_eq_true rfl) ⟨by decide, by decide⟩ dX14_isGoLine_29 ?_
  refine g_istore_n (lv' := [(1, vI (imin ((mI M18 a21 15)) ((24 : Int32)))), (0, vR (some x0))]) X dX14_isGoLine_32 rfl (by decide) rfl ?_
  refine g_aload_n X dX14_isGoLine_33 rfl rfl ?_
  refine g_get (ci := 12) (v := vR (mR M18 x0 12)) 12 X cdX14 i_X14_isGoLine_X14 (by decide) k_X14_isGoLine_f39 rfl dX14_isGoLine_34 rfl hT19 rfl ?_
  refine g_dup X dX14_isGoLine_37 rfl ?_
  refine g_getN (ci := 11) (w := vI (mI M18 a21 15)) 15 X cdX13 i_X14_isGoLine_X13 (by decide) (gNw X _ kn_X14_153) rfl dX14_isGoLine_38 ha21 hT22 rfl ?_
  refine g_iconst (v := (1 : Int32)) X dX14_isGoLine_41 (by decide) ?_
  refine g_iadd X dX14_isGoLine_42 ?_
  refine g_putIN (ci := 11) 15 X cdX13 i_X14_isGoLine_X13 (by decide) (gNw X _ kn_X14_153) rfl dX14_isGoLine_43 ha21 hT22 rfl rfl rfl rfl ?_
  obtain ⟨M23, hM23, hf⟩ := lw_e hf
  rw [← hM23]
  have hT24 : mT M23 x0 = 13 := by rw [hM23]; exact hT19
  have hT25 : mT M23 a12 = 20 := by rw [hM23]; exact hT20
  have hT26 : mT M23 a21 = 12 := by rw [hM23]; exact hT22
  refine g_aload_n X dX14_isGoLine_46 rfl rfl ?_
  refine g_get (ci := 12) (v := vR (mR M23 x0 12)) 12 X cdX14 i_X14_isGoLine_X14 (by decide) k_X14_isGoLine_f39 rfl dX14_isGoLine_47 rfl hT24 rfl ?_
  obtain ⟨a27, ha27, hf⟩ := dr_e hf
  obtain ⟨hT28, hf⟩ := ck_e hf
  refine g_getN (ci := 11) (w := vR (mR M23 a27 17)) 17 X cdX13 i_X14_isGoLine_X13 (by decide) (gNw X _ kn_X14_156) rfl dX14_isGoLine_50 ha27 hT28 rfl ?_
  refine g_iload_n X dX14_isGoLine_53 rfl rfl ?_
  refine g_aload_n X dX14_isGoLine_54 rfl rfl ?_
  refine g_get (ci := 12) (v := vR (mR M23 x0 12)) 12 X cdX14 i_X14_isGoLine_X14 (by decide) k_X14_isGoLine_f39 rfl dX14_isGoLine_55 rfl hT24 rfl ?_
  refine g_getN (ci := 11) (w := vI (mI M23 a27 22)) 22 X cdX13 i_X14_isGoLine_X13 (by decide) (gNw X _ kn_X14_130) rfl dX14_isGoLine_58 ha27 hT28 rfl ?_
  obtain ⟨a29, ha29, hf⟩ := dr_e hf
  obtain ⟨hT30, hf⟩ := ck_e hf
  obtain ⟨hg31, hf⟩ := ck_e hf
  refine g_iast X dX14_isGoLine_61 ha29 hT30 hg31 ?_
  obtain ⟨M32, hM32, hf⟩ := lw_e hf
  rw [← hM32]
  have hT33 : mT M32 x0 = 13 := by rw [hM32]; exact hT24
  have hT34 : mT M32 a12 = 20 := by rw [hM32]; exact hT25
  have hT35 : mT M32 a21 = 12 := by rw [hM32]; exact hT26
  have hT36 : mT M32 a27 = 12 := by rw [hM32]; exact hT28
  have hT37 : mT M32 a29 = 20 := by rw [hM32]; exact hT30
  refine g_aload_n X dX14_isGoLine_62 rfl rfl ?_
  refine g_bipush (v := (40 : Int32)) X dX14_isGoLine_63 (by decide) ?_
  refine g_bipush (v := (10 : Int32)) X dX14_isGoLine_65 (by decide) ?_
  obtain ⟨r38, M38, hq38, hf⟩ := bd_e hf
  refine g_callV (ci := 12) (b := x0) (As := [vI (40 : Int32), vI (10 : Int32)]) (st := []) (v := some (vI r38)) (M1 := M38) X (m_X14_eatAs l hq38) (cwV 2 X.2.2.1 gX14_isGoLine_X14_eatAs rfl rfl rfl (by decide +kernel) ⟨Nat.le_of_ble_eq_true rfl, Nat.le_of_ble_eq_true rfl⟩) rfl rfl rfl hT33 (by decide) rfl (Nat.le_of_ble_eq_true rfl) dX14_isGoLine_67 ⟨by decide, by decide⟩ ?_
  refine g_if_eq (tgt := 109) X dX14_isGoLine_70 (by decide) (fun hc => ?_) (fun hc => ?_)
  · have hf := ife_t hc hf
    refine g_sub (lvsub_of _ _ [] rfl) ?_
    exact t_X14_isGoLine_109 X hr _  _ hf hK
  · have hf := ife_f hc hf
    refine g_aload_n X dX14_isGoLine_73 rfl rfl ?_
    refine g_bipush (v := (8 : Int32)) X dX14_isGoLine_74 (by decide) ?_
    obtain ⟨hT40, hf⟩ := ck_e hf
    obtain ⟨r39, M39, hq39, hf⟩ := bd_e hf
    refine g_callV (ci := 12) (b := x0) (As := [vI (8 : Int32)]) (st := []) (v := some (vI r39)) (M1 := M39) X (m_X14_eat l hq39) (cwV 1 X.2.2.1 gX14_isGoLine_X14_eat rfl rfl rfl (by decide +kernel) ⟨Nat.le_of_ble_eq_true rfl, Nat.le_of_ble_eq_true rfl⟩) rfl rfl rfl hT40 (by decide) rfl (Nat.le_of_ble_eq_true rfl) dX14_isGoLine_76 ⟨by decide, by decide⟩ ?_
    refine g_if_eq (tgt := 109) X dX14_isGoLine_79 (by decide) (fun hc => ?_) (fun hc => ?_)
    · have hf := ife_t hc hf
      refine g_sub (lvsub_of _ _ [] rfl) ?_
      exact t_X14_isGoLine_109 X hr _  _ hf hK
    · have hf := ife_f hc hf
      refine g_aload_n X dX14_isGoLine_82 rfl rfl ?_
      refine g_bipush (v := (40 : Int32)) X dX14_isGoLine_83 (by decide) ?_
      refine g_bipush (v := (11 : Int32)) X dX14_isGoLine_85 (by decide) ?_
      obtain ⟨hT42, hf⟩ := ck_e hf
      obtain ⟨r41, M41, hq41, hf⟩ := bd_e hf
      refine g_callV (ci := 12) (b := x0) (As := [vI (40 : Int32), vI (11 : Int32)]) (st := []) (v := some (vI r41)) (M1 := M41) X (m_X14_eatAs l hq41) (cwV 2 X.2.2.1 gX14_isGoLine_X14_eatAs rfl rfl rfl (by decide +kernel) ⟨Nat.le_of_ble_eq_true rfl, Nat.le_of_ble_eq_true rfl⟩) rfl rfl rfl hT42 (by decide) rfl (Nat.le_of_ble_eq_true rfl) dX14_isGoLine_87 ⟨by decide, by decide⟩ ?_
      refine g_if_eq (tgt := 109) X dX14_isGoLine_90 (by decide) (fun hc => ?_) (fun hc => ?_)
      · have hf := ife_t hc hf
        refine g_sub (lvsub_of _ _ [] rfl) ?_
        exact t_X14_isGoLine_109 X hr _  _ hf hK
      · have hf := ife_f hc hf
        refine g_aload_n X dX14_isGoLine_93 rfl rfl ?_
        refine g_bipush (v := (9 : Int32)) X dX14_isGoLine_94 (by decide) ?_
        obtain ⟨hT44, hf⟩ := ck_e hf
        obtain ⟨r43, M43, hq43, hf⟩ := bd_e hf
        refine g_callV (ci := 12) (b := x0) (As := [vI (9 : Int32)]) (st := []) (v := some (vI r43)) (M1 := M43) X (m_X14_eat l hq43) (cwV 1 X.2.2.1 gX14_isGoLine_X14_eat rfl rfl rfl (by decide +kernel) ⟨Nat.le_of_ble_eq_true rfl, Nat.le_of_ble_eq_true rfl⟩) rfl rfl rfl hT44 (by decide) rfl (Nat.le_of_ble_eq_true rfl) dX14_isGoLine_96 ⟨by decide, by decide⟩ ?_
        refine g_if_eq (tgt := 111) X dX14_isGoLine_99 (by decide) (fun hc => ?_) (fun hc => ?_)
        · have hf := ife_t hc hf
          refine g_sub (lvsub_of _ _ [1, 0] rfl) ?_
          exact t_X14_isGoLine_111 X hr _ _ _ _ hf hK
        · have hf := ife_f hc hf
          refine g_aload_n X dX14_isGoLine_102 rfl rfl ?_
          obtain ⟨hT46, hf⟩ := ck_e hf
          obtain ⟨r45, M45, hq45, hf⟩ := bd_e hf
          refine g_callV (ci := 12) (b := x0) (As := []) (st := []) (v := some (vI r45)) (M1 := M45) X (m_X14_isTest l hq45) (cwV 0 X.2.2.1 gX14_isGoLine_X14_isTest rfl rfl rfl (by decide +kernel) ⟨Nat.le_of_ble_eq_true rfl, Nat.le_of_ble_eq_true rfl⟩) rfl rfl rfl hT46 (by decide) rfl (Nat.le_of_ble_eq_true rfl) dX14_isGoLine_103 ⟨by decide, by decide⟩ ?_
          refine g_if_ne (tgt := 111) X dX14_isGoLine_106 (by decide) (fun hc => ?_) (fun hc => ?_)
          · have hf := ife_f hc hf
            refine g_sub (lvsub_of _ _ [1, 0] rfl) ?_
            exact t_X14_isGoLine_111 X hr _ _ _ _ hf hK
          · have hf := ife_t hc hf
            refine g_sub (lvsub_of _ _ [] rfl) ?_
            exact t_X14_isGoLine_109 X hr _  _ hf hK
set_option maxHeartbeats 4000000 in
set_option maxRecDepth 100000 in
theorem m_X14_isGoLine (l : Launch) {D : va_G} {cy : Nat → ClassId} {B : Nat} {H0 : Heap} {Z : Nat → Nat} {M M1 : gMem} {x0 : Nat} {r : Int32} (hf : f_X14_isGoLine M x0 = some (r, M1)) : Met l yX14_isGoLine wsX14_isGoLine rX14_isGoLine (va_Pc (Value.ref x0 :: List.map gv []) (gPre D cy B H0 (gSt Z B H0) M)) (gQ D cy B H0 (some (vI r)) M1) 0 0 (gA B) := by
  refine Met.ofW (cc := cX14_isGoLine) (maxL := 2) (ret := (some .boolean)) (by decide) rfl ?_
  intro p e s m args below meth c s₁ Bd hml hv
  obtain ⟨rfl, hW, hKK, hFs⟩ := hv
  have X : gX p s m _ meth c D cy B (gSt Z B H0) RX14 cX14_isGoLine wsX14_isGoLine 2 := ⟨Bd.exec, Bd.bytes, atoms_spec (ws := wsX14_isGoLine) Bd.pre, findClass_of_methodNamed Bd.named, hml, hKK, by rw [hW.1]; exact hW.2.1, Bd.notSynchronized, hFs⟩
  have hr := Bd.returns
  have hl := lv_entry ([.ref x0]) (n := 2) (Nat.le_of_ble_eq_true rfl)
  show W p l e rX14_isGoLine s m _ below meth c s.heap [] 0 0 _ (entryFrame m ([.ref x0] : List Value).toArray 2)
  rw [lg_entry_eq]
  generalize (lg_sl ([.ref x0]) ++ List.replicate (2 - (lg_sl ([.ref x0])).length) Slot.unset).toArray = ls at hl ⊢
  have hl : lv_has ls 2 (List.map gq [(0, vR (some x0))]) := hl
  exact t_X14_isGoLine_0 X hr _ _ _ hf rfl s.heap [] ls hW va_S.rf (lv_has_sub hl (lvsub_of _ _ [0] rfl))
/-! ## TideLotsModel.isPactLine()Z -/
theorem dX14_isPactLine_0 : decode cX14_isPactLine 0 = .ok (.aload_n 0, 1) := by decide +kernel
theorem dX14_isPactLine_1 : decode cX14_isPactLine 1 = .ok (.dup, 1) := by decide +kernel
theorem dX14_isPactLine_2 : decode cX14_isPactLine 2 = .ok (.getfield 118, 3) := by decide +kernel
theorem dX14_isPactLine_5 : decode cX14_isPactLine 5 = .ok (.iconst 1, 1) := by decide +kernel
theorem dX14_isPactLine_6 : decode cX14_isPactLine 6 = .ok (.iadd, 1) := by decide +kernel
theorem dX14_isPactLine_7 : decode cX14_isPactLine 7 = .ok (.putfield 118, 3) := by decide +kernel
theorem dX14_isPactLine_10 : decode cX14_isPactLine 10 = .ok (.aload_n 0, 1) := by decide +kernel
theorem dX14_isPactLine_11 : decode cX14_isPactLine 11 = .ok (.getfield 39, 3) := by decide +kernel
theorem dX14_isPactLine_14 : decode cX14_isPactLine 14 = .ok (.getfield 165, 3) := by decide +kernel
theorem dX14_isPactLine_17 : decode cX14_isPactLine 17 = .ok (.bipush 6, 2) := by decide +kernel
theorem dX14_isPactLine_19 : decode cX14_isPactLine 19 = .ok (.invokestatic 70, 3) := by decide +kernel
theorem dX14_isPactLine_22 : decode cX14_isPactLine 22 = .ok (.istore_n 1, 1) := by decide +kernel
theorem dX14_isPactLine_23 : decode cX14_isPactLine 23 = .ok (.aload_n 0, 1) := by decide +kernel
theorem dX14_isPactLine_24 : decode cX14_isPactLine 24 = .ok (.getfield 39, 3) := by decide +kernel
theorem dX14_isPactLine_27 : decode cX14_isPactLine 27 = .ok (.dup, 1) := by decide +kernel
theorem dX14_isPactLine_28 : decode cX14_isPactLine 28 = .ok (.getfield 165, 3) := by decide +kernel
theorem dX14_isPactLine_31 : decode cX14_isPactLine 31 = .ok (.iconst 1, 1) := by decide +kernel
theorem dX14_isPactLine_32 : decode cX14_isPactLine 32 = .ok (.iadd, 1) := by decide +kernel
theorem dX14_isPactLine_33 : decode cX14_isPactLine 33 = .ok (.putfield 165, 3) := by decide +kernel
theorem dX14_isPactLine_36 : decode cX14_isPactLine 36 = .ok (.aload_n 0, 1) := by decide +kernel
theorem dX14_isPactLine_37 : decode cX14_isPactLine 37 = .ok (.getfield 39, 3) := by decide +kernel
theorem dX14_isPactLine_40 : decode cX14_isPactLine 40 = .ok (.getfield 168, 3) := by decide +kernel
theorem dX14_isPactLine_43 : decode cX14_isPactLine 43 = .ok (.iload_n 1, 1) := by decide +kernel
theorem dX14_isPactLine_44 : decode cX14_isPactLine 44 = .ok (.aload_n 0, 1) := by decide +kernel
theorem dX14_isPactLine_45 : decode cX14_isPactLine 45 = .ok (.getfield 39, 3) := by decide +kernel
theorem dX14_isPactLine_48 : decode cX14_isPactLine 48 = .ok (.getfield 130, 3) := by decide +kernel
theorem dX14_isPactLine_51 : decode cX14_isPactLine 51 = .ok (.iastore, 1) := by decide +kernel
theorem dX14_isPactLine_52 : decode cX14_isPactLine 52 = .ok (.aload_n 0, 1) := by decide +kernel
theorem dX14_isPactLine_53 : decode cX14_isPactLine 53 = .ok (.bipush 40, 2) := by decide +kernel
theorem dX14_isPactLine_55 : decode cX14_isPactLine 55 = .ok (.iconst 3, 1) := by decide +kernel
theorem dX14_isPactLine_56 : decode cX14_isPactLine 56 = .ok (.invokevirtual 149, 3) := by decide +kernel
theorem dX14_isPactLine_59 : decode cX14_isPactLine 59 = .ok (.ifCond .eq 23, 3) := by decide +kernel
theorem dX14_isPactLine_62 : decode cX14_isPactLine 62 = .ok (.aload_n 0, 1) := by decide +kernel
theorem dX14_isPactLine_63 : decode cX14_isPactLine 63 = .ok (.bipush 11, 2) := by decide +kernel
theorem dX14_isPactLine_65 : decode cX14_isPactLine 65 = .ok (.invokevirtual 124, 3) := by decide +kernel
theorem dX14_isPactLine_68 : decode cX14_isPactLine 68 = .ok (.ifCond .eq 14, 3) := by decide +kernel
theorem dX14_isPactLine_71 : decode cX14_isPactLine 71 = .ok (.aload_n 0, 1) := by decide +kernel
theorem dX14_isPactLine_72 : decode cX14_isPactLine 72 = .ok (.bipush 40, 2) := by decide +kernel
theorem dX14_isPactLine_74 : decode cX14_isPactLine 74 = .ok (.bipush 12, 2) := by decide +kernel
theorem dX14_isPactLine_76 : decode cX14_isPactLine 76 = .ok (.invokevirtual 149, 3) := by decide +kernel
theorem dX14_isPactLine_79 : decode cX14_isPactLine 79 = .ok (.ifCond .ne 5, 3) := by decide +kernel
theorem dX14_isPactLine_82 : decode cX14_isPactLine 82 = .ok (.iconst 0, 1) := by decide +kernel
theorem dX14_isPactLine_83 : decode cX14_isPactLine 83 = .ok (.ireturn, 1) := by decide +kernel
theorem dX14_isPactLine_84 : decode cX14_isPactLine 84 = .ok (.aload_n 0, 1) := by decide +kernel
theorem dX14_isPactLine_85 : decode cX14_isPactLine 85 = .ok (.bipush 44, 2) := by decide +kernel
theorem dX14_isPactLine_87 : decode cX14_isPactLine 87 = .ok (.invokevirtual 145, 3) := by decide +kernel
theorem dX14_isPactLine_90 : decode cX14_isPactLine 90 = .ok (.ifCond .eq 16, 3) := by decide +kernel
theorem dX14_isPactLine_93 : decode cX14_isPactLine 93 = .ok (.aload_n 0, 1) := by decide +kernel
theorem dX14_isPactLine_94 : decode cX14_isPactLine 94 = .ok (.bipush 40, 2) := by decide +kernel
theorem dX14_isPactLine_96 : decode cX14_isPactLine 96 = .ok (.bipush 12, 2) := by decide +kernel
theorem dX14_isPactLine_98 : decode cX14_isPactLine 98 = .ok (.invokevirtual 149, 3) := by decide +kernel
theorem dX14_isPactLine_101 : decode cX14_isPactLine 101 = .ok (.ifCond .ne (-17), 3) := by decide +kernel
theorem dX14_isPactLine_104 : decode cX14_isPactLine 104 = .ok (.iconst 0, 1) := by decide +kernel
theorem dX14_isPactLine_105 : decode cX14_isPactLine 105 = .ok (.ireturn, 1) := by decide +kernel
theorem dX14_isPactLine_106 : decode cX14_isPactLine 106 = .ok (.aload_n 0, 1) := by decide +kernel
theorem dX14_isPactLine_107 : decode cX14_isPactLine 107 = .ok (.bipush 12, 2) := by decide +kernel
theorem dX14_isPactLine_109 : decode cX14_isPactLine 109 = .ok (.invokevirtual 124, 3) := by decide +kernel
theorem dX14_isPactLine_112 : decode cX14_isPactLine 112 = .ok (.ifCond .eq 5, 3) := by decide +kernel
theorem dX14_isPactLine_115 : decode cX14_isPactLine 115 = .ok (.iconst 1, 1) := by decide +kernel
theorem dX14_isPactLine_116 : decode cX14_isPactLine 116 = .ok (.ireturn, 1) := by decide +kernel
theorem dX14_isPactLine_117 : decode cX14_isPactLine 117 = .ok (.aload_n 0, 1) := by decide +kernel
theorem dX14_isPactLine_118 : decode cX14_isPactLine 118 = .ok (.bipush 13, 2) := by decide +kernel
theorem dX14_isPactLine_120 : decode cX14_isPactLine 120 = .ok (.invokevirtual 124, 3) := by decide +kernel
theorem dX14_isPactLine_123 : decode cX14_isPactLine 123 = .ok (.ifCond .eq 30, 3) := by decide +kernel
theorem dX14_isPactLine_126 : decode cX14_isPactLine 126 = .ok (.aload_n 0, 1) := by decide +kernel
theorem dX14_isPactLine_127 : decode cX14_isPactLine 127 = .ok (.bipush 40, 2) := by decide +kernel
theorem dX14_isPactLine_129 : decode cX14_isPactLine 129 = .ok (.bipush 13, 2) := by decide +kernel
theorem dX14_isPactLine_131 : decode cX14_isPactLine 131 = .ok (.invokevirtual 149, 3) := by decide +kernel
theorem dX14_isPactLine_134 : decode cX14_isPactLine 134 = .ok (.ifCond .eq 19, 3) := by decide +kernel
theorem dX14_isPactLine_137 : decode cX14_isPactLine 137 = .ok (.aload_n 0, 1) := by decide +kernel
theorem dX14_isPactLine_138 : decode cX14_isPactLine 138 = .ok (.bipush 14, 2) := by decide +kernel
theorem dX14_isPactLine_140 : decode cX14_isPactLine 140 = .ok (.invokevirtual 124, 3) := by decide +kernel
theorem dX14_isPactLine_143 : decode cX14_isPactLine 143 = .ok (.ifCond .eq 10, 3) := by decide +kernel
theorem dX14_isPactLine_146 : decode cX14_isPactLine 146 = .ok (.aload_n 0, 1) := by decide +kernel
theorem dX14_isPactLine_147 : decode cX14_isPactLine 147 = .ok (.invokevirtual 171, 3) := by decide +kernel
theorem dX14_isPactLine_150 : decode cX14_isPactLine 150 = .ok (.ifCond .ne 5, 3) := by decide +kernel
theorem dX14_isPactLine_153 : decode cX14_isPactLine 153 = .ok (.iconst 0, 1) := by decide +kernel
theorem dX14_isPactLine_154 : decode cX14_isPactLine 154 = .ok (.ireturn, 1) := by decide +kernel
theorem dX14_isPactLine_155 : decode cX14_isPactLine 155 = .ok (.aload_n 0, 1) := by decide +kernel
theorem dX14_isPactLine_156 : decode cX14_isPactLine 156 = .ok (.getfield 39, 3) := by decide +kernel
theorem dX14_isPactLine_159 : decode cX14_isPactLine 159 = .ok (.getfield 174, 3) := by decide +kernel
theorem dX14_isPactLine_162 : decode cX14_isPactLine 162 = .ok (.iload_n 1, 1) := by decide +kernel
theorem dX14_isPactLine_163 : decode cX14_isPactLine 163 = .ok (.aload_n 0, 1) := by decide +kernel
theorem dX14_isPactLine_164 : decode cX14_isPactLine 164 = .ok (.getfield 39, 3) := by decide +kernel
theorem dX14_isPactLine_167 : decode cX14_isPactLine 167 = .ok (.getfield 130, 3) := by decide +kernel
theorem dX14_isPactLine_170 : decode cX14_isPactLine 170 = .ok (.iastore, 1) := by decide +kernel
theorem dX14_isPactLine_171 : decode cX14_isPactLine 171 = .ok (.iconst 1, 1) := by decide +kernel
theorem dX14_isPactLine_172 : decode cX14_isPactLine 172 = .ok (.ireturn, 1) := by decide +kernel
set_option maxRecDepth 20000 in
theorem ggX14_isPactLine_X14_eatSign : GoodIn wsX14_isPactLine wsX14_eatSign := goodIn_rr wsB_X14_isPactLine_in _ [(2, 0), (1, 12), (1, 13), (1, 14), (1, 9), (1, 15), (1, 0), (1, 16), (1, 17), (1, 18), (1, 19), (1, 20), (4, 0), (4, 1), (4, 2), (4, 3), (4, 4), (4, 5), (4, 6), (4, 7), (4, 8), (4, 9), (4, 10), (4, 11), (4, 12), (4, 13), (4, 14)] (by decide +kernel) (by decide +kernel)
set_option maxRecDepth 20000 in
theorem gX14_isPactLine_X14_eatSign : GoodIn wsX14_isPactLine (wsV RX14 145 RX14 yX14_eatSign wsX14_eatSign) := goodIn_app (goodIn_rr wsB_X14_isPactLine_in _ [(1, 21), (1, 22), (1, 23), (1, 9)] (by decide +kernel) (by decide +kernel)) ggX14_isPactLine_X14_eatSign
set_option maxRecDepth 20000 in
theorem ggX14_isPactLine_X14_eat : GoodIn wsX14_isPactLine wsX14_eat := goodIn_rr wsB_X14_isPactLine_in _ [(1, 15), (1, 0), (1, 16), (1, 17), (1, 18), (1, 9), (1, 19), (1, 20), (4, 0), (4, 1), (4, 2), (4, 3), (4, 4), (4, 5), (4, 6), (4, 7), (4, 8), (4, 9), (4, 10), (4, 11), (4, 12), (4, 13), (4, 14)] (by decide +kernel) (by decide +kernel)
set_option maxRecDepth 20000 in
theorem gX14_isPactLine_X14_eat : GoodIn wsX14_isPactLine (wsV RX14 124 RX14 yX14_eat wsX14_eat) := goodIn_app (goodIn_rr wsB_X14_isPactLine_in _ [(1, 12), (1, 13), (1, 14), (1, 9)] (by decide +kernel) (by decide +kernel)) ggX14_isPactLine_X14_eat
set_option maxRecDepth 20000 in
theorem ggX14_isPactLine_X14_eatAs : GoodIn wsX14_isPactLine wsX14_eatAs := goodIn_rr wsB_X14_isPactLine_in _ [(1, 10), (1, 11), (1, 0), (1, 12), (1, 13), (1, 14), (1, 9), (1, 15), (1, 16), (1, 17), (1, 18), (1, 19), (1, 20), (4, 0), (4, 1), (4, 2), (4, 3), (4, 4), (4, 5), (4, 6), (4, 7), (4, 8), (4, 9), (4, 10), (4, 11), (4, 12), (4, 13), (4, 14)] (by decide +kernel) (by decide +kernel)
set_option maxRecDepth 20000 in
theorem gX14_isPactLine_X14_eatAs : GoodIn wsX14_isPactLine (wsV RX14 149 RX14 yX14_eatAs wsX14_eatAs) := goodIn_app (goodIn_rr wsB_X14_isPactLine_in _ [(1, 6), (1, 7), (1, 8), (1, 9)] (by decide +kernel) (by decide +kernel)) ggX14_isPactLine_X14_eatAs
set_option maxRecDepth 20000 in
theorem ggX14_isPactLine_X14_isSum : GoodIn wsX14_isPactLine wsX14_isSum := goodIn_2 24 (goodIn_rr wsB_X14_isPactLine_in _ [(2, 4), (1, 0), (2, 5), (2, 6), (2, 7), (1, 9), (2, 8), (2, 9), (2, 10), (2, 11), (1, 20), (2, 12), (2, 13), (2, 14), (2, 15), (1, 1), (2, 16), (2, 17), (2, 18), (2, 19), (2, 20), (2, 21), (1, 16), (1, 17)] (by decide +kernel) (by decide +kernel)) (goodIn_2 24 (goodIn_rr wsB_X14_isPactLine_in _ [(1, 18), (1, 19), (2, 22), (2, 23), (3, 0), (3, 1), (3, 2), (3, 3), (3, 4), (3, 5), (3, 6), (3, 7), (3, 8), (1, 6), (1, 7), (1, 8), (1, 10), (1, 11), (1, 12), (1, 13), (1, 14), (1, 15), (3, 9), (3, 10)] (by decide +kernel) (by decide +kernel)) (goodIn_2 24 (goodIn_rr wsB_X14_isPactLine_in _ [(3, 11), (3, 12), (2, 1), (2, 2), (2, 3), (1, 21), (1, 22), (1, 23), (2, 0), (4, 0), (4, 1), (4, 2), (4, 3), (4, 4), (4, 5), (4, 6), (4, 7), (4, 8), (4, 9), (4, 10), (4, 11), (4, 12), (4, 13), (4, 14)] (by decide +kernel) (by decide +kernel)) (goodIn_2 24 (goodIn_rr wsB_X14_isPactLine_in _ [(5, 0), (5, 1), (5, 2), (5, 3), (5, 4), (5, 5), (5, 6), (5, 7), (5, 8), (5, 9), (5, 10), (5, 11), (5, 12), (5, 13), (5, 14), (5, 15), (5, 16), (5, 17), (5, 18), (5, 19), (5, 20), (5, 21), (5, 22), (5, 23)] (by decide +kernel) (by decide +kernel)) (goodIn_rr wsB_X14_isPactLine_in _ [(5, 24)] (by decide +kernel) (by decide +kernel)))))
set_option maxRecDepth 20000 in
theorem gX14_isPactLine_X14_isSum : GoodIn wsX14_isPactLine (wsV RX14 171 RX14 yX14_isSum wsX14_isSum) := goodIn_app (goodIn_rr wsB_X14_isPactLine_in _ [(2, 1), (2, 2), (2, 3), (1, 9)] (by decide +kernel) (by decide +kernel)) ggX14_isPactLine_X14_isSum
theorem k_X14_isPactLine_f39 : Cond.fieldLink RX14 39 "TideLotsModel" "reading" "LTideLotsModel$Told;" ∈ wsX14_isPactLine := by decide +kernel
theorem i_X14_isPactLine_X14 : ∀ w ∈ u_ws RX14 TX14 15, w ∈ wsX14_isPactLine := by decide +kernel
theorem kn_X14_174 : Cond.fieldLinkNest "TideLotsModel" (174 : Nat) "TideLotsModel$Told" "summed" "[I" "TideLotsModel" ∈ gNs := by decide +kernel
theorem i_X14_isPactLine_X13 : ∀ w ∈ u_ws RX13 TX13 25, w ∈ wsX14_isPactLine := by decide +kernel
theorem k_X14_isPactLine_f118 : Cond.fieldLink RX14 118 "TideLotsModel" "token" "I" ∈ wsX14_isPactLine := by decide +kernel
theorem kn_X14_165 : Cond.fieldLinkNest "TideLotsModel" (165 : Nat) "TideLotsModel$Told" "bonds" "I" "TideLotsModel" ∈ gNs := by decide +kernel
theorem k_X14_isPactLine_m70 : Cond.methodLink RX14 70 Lib.Math.min.name ∈ wsX14_isPactLine := by decide +kernel
theorem k_X14_isPactLine_mmins : Cond.static Lib.Math.min.name ∈ wsX14_isPactLine := by decide +kernel
theorem k_X14_isPactLine_mi : Cond.initialized "java/lang/Math" ∈ wsX14_isPactLine := by decide +kernel
theorem k_X14_isPactLine_mminc : Cond.code Lib.Math.min.name Lib.Math.min.code 2 (some .int) ∈ wsX14_isPactLine := by decide +kernel
theorem kn_X14_168 : Cond.fieldLinkNest "TideLotsModel" (168 : Nat) "TideLotsModel$Told" "sum" "[I" "TideLotsModel" ∈ gNs := by decide +kernel
abbrev rX14_isPactLine : Room := { frames := 69, cells := 0, slots := 0, locals := 2666 }
noncomputable def b_X14_isPactLine_153 (M : gMem)  : Option (Int32 × gMem) :=
  some ((0 : Int32), M)
noncomputable def bb_X14_isPactLine_84 (M : gMem) (x0 : Nat) (x1 : Int32) : Option ((gMem) ⊕ (Int32 × gMem)) :=
  ck (mT M x0 = 13) <| bd (f_X14_eatSign M x0 ((44 : Int32))) fun r1 M1 => (if r1 = 0 then ck (mT M1 x0 = 13) <| bd (f_X14_eat M1 x0 ((12 : Int32))) fun r3 M3 => (if r3 = 0 then ck (mT M3 x0 = 13) <| bd (f_X14_eat M3 x0 ((13 : Int32))) fun r5 M5 => (if r5 = 0 then oI (b_X14_isPactLine_153 M5 ) else ck (mT M5 x0 = 13) <| bd (f_X14_eatAs M5 x0 ((40 : Int32)) ((13 : Int32))) fun r8 M8 => (if r8 = 0 then oI (b_X14_isPactLine_153 M8 ) else ck (mT M8 x0 = 13) <| bd (f_X14_eat M8 x0 ((14 : Int32))) fun r11 M11 => (if r11 = 0 then oI (b_X14_isPactLine_153 M11 ) else ck (mT M11 x0 = 13) <| bd (f_X14_isSum M11 x0) fun r14 M14 => (if r14 = 0 then oI (b_X14_isPactLine_153 M14 ) else ck (mT M14 x0 = 13) <| dr ((mR M14 x0 12)) fun a17 => ck (mT M14 a17 = 12) <| dr ((mR M14 a17 20)) fun a19 => ck (mT M14 a19 = 20) <| ck (inb x1 (mL M14 a19)) <| lw (wI M14 a19 x1.toNatClampNeg ((mI M14 a17 22))) fun M22 => oI (some ((1 : Int32), M22)))))) else oI (some ((1 : Int32), M3))) else ck (mT M1 x0 = 13) <| bd (f_X14_eatAs M1 x0 ((40 : Int32)) ((12 : Int32))) fun r29 M29 => (if r29 = 0 then oI (some ((0 : Int32), M29)) else some (.inl M29)))
noncomputable def lp_X14_isPactLine_84 (M : gMem) (x0 : Nat) (x1 : Int32) : Option (Int32 × gMem) :=
  lp (fun (q : gMem) => bb_X14_isPactLine_84 q x0 x1) M
noncomputable def b_X14_isPactLine_82 (M : gMem)  : Option (Int32 × gMem) :=
  some ((0 : Int32), M)
noncomputable def b_X14_isPactLine_0 (M : gMem) (x0 : Nat) : Option (Int32 × gMem) :=
  ck (mT M x0 = 13) <| lw (wI M x0 9 (((mI M x0 9) + (1 : Int32)))) fun M33 => dr ((mR M33 x0 12)) fun a35 => ck (mT M33 a35 = 12) <| lw (wI M33 a35 16 (((mI M33 a35 16) + (1 : Int32)))) fun M37 => dr ((mR M37 x0 12)) fun a40 => ck (mT M37 a40 = 12) <| dr ((mR M37 a40 19)) fun a42 => ck (mT M37 a42 = 20) <| ck (inb (imin ((mI M33 a35 16)) ((6 : Int32))) (mL M37 a42)) <| lw (wI M37 a42 ((imin ((mI M33 a35 16)) ((6 : Int32)))).toNatClampNeg ((mI M37 a40 22))) fun M45 => bd (f_X14_eatAs M45 x0 ((40 : Int32)) ((3 : Int32))) fun r50 M50 => (if r50 = 0 then b_X14_isPactLine_82 M50  else ck (mT M50 x0 = 13) <| bd (f_X14_eat M50 x0 ((11 : Int32))) fun r51 M51 => (if r51 = 0 then b_X14_isPactLine_82 M51  else ck (mT M51 x0 = 13) <| bd (f_X14_eatAs M51 x0 ((40 : Int32)) ((12 : Int32))) fun r53 M53 => (if r53 = 0 then b_X14_isPactLine_82 M53  else lp_X14_isPactLine_84 M53 x0 ((imin ((mI M33 a35 16)) ((6 : Int32)))))))
noncomputable def f_X14_isPactLine (M : gMem) (x0 : Nat) : Option (Int32 × gMem) :=
  b_X14_isPactLine_0 M x0
set_option maxHeartbeats 4000000 in
set_option maxRecDepth 100000 in
theorem t_X14_isPactLine_153 (X : gX p s m args meth c D cy B (gSt Z B H0) RX14 cX14_isPactLine wsX14_isPactLine 2) (hr : meth.sig.returnType = (some .boolean)) {Q : State → Prop} : ∀ (M : gMem)  (z : Int32 × gMem), b_X14_isPactLine_153 M  = some z → (fun (r : Int32 × gMem) => Q = gMQ below D cy B H0 args s 0 0 (some (vI r.1)) r.2) z → gGo p l e rX14_isPactLine s m args below meth c D cy B H0 2 0 0 Q 153 [] [] M := by
  intro M  z hf hK
  unfold b_X14_isPactLine_153 at hf
  refine g_iconst (v := (0 : Int32)) X dX14_isPactLine_153 (by decide) ?_
  cases hf
  refine g_eqQ hK ?_
  exact g_zret X hr (gnb (Or.inl rfl)) dX14_isPactLine_154
set_option maxHeartbeats 4000000 in
set_option maxRecDepth 100000 in
theorem tb_X14_isPactLine_84 (X : gX p s m args meth c D cy B (gSt Z B H0) RX14 cX14_isPactLine wsX14_isPactLine 2) (hr : meth.sig.returnType = (some .boolean)) {Q : State → Prop} : ∀ (M : gMem) (x0 : Nat) (x1 : Int32) (z : (gMem) ⊕ (Int32 × gMem)), bb_X14_isPactLine_84 M x0 x1 = some z → (Sum.elim (fun (q : gMem) => gGo p l e rX14_isPactLine s m args below meth c D cy B H0 2 0 0 Q 84 [(0, vR (some x0)), (1, vI x1)] [] q) (fun (r : Int32 × gMem) => Q = gMQ below D cy B H0 args s 0 0 (some (vI r.1)) r.2)) z → gGo p l e rX14_isPactLine s m args below meth c D cy B H0 2 0 0 Q 84 [(0, vR (some x0)), (1, vI x1)] [] M := by
  intro M x0 x1 z hf hK
  unfold bb_X14_isPactLine_84 at hf
  refine g_aload_n X dX14_isPactLine_84 rfl rfl ?_
  refine g_bipush (v := (44 : Int32)) X dX14_isPactLine_85 (by decide) ?_
  obtain ⟨hT2, hf⟩ := ck_e hf
  obtain ⟨r1, M1, hq1, hf⟩ := bd_e hf
  refine g_callV (ci := 12) (b := x0) (As := [vI (44 : Int32)]) (st := []) (v := some (vI r1)) (M1 := M1) X (m_X14_eatSign l hq1) (cwV 1 X.2.2.1 gX14_isPactLine_X14_eatSign rfl rfl rfl (by decide +kernel) ⟨Nat.le_of_ble_eq_true rfl, Nat.le_of_ble_eq_true rfl⟩) rfl rfl rfl hT2 (by decide) rfl (Nat.le_of_ble_eq_true rfl) dX14_isPactLine_87 ⟨by decide, by decide⟩ ?_
  refine g_if_eq (tgt := 106) X dX14_isPactLine_90 (by decide) (fun hc => ?_) (fun hc => ?_)
  · have hf := ife_t hc hf
    refine g_aload_n X dX14_isPactLine_106 rfl rfl ?_
    refine g_bipush (v := (12 : Int32)) X dX14_isPactLine_107 (by decide) ?_
    obtain ⟨hT4, hf⟩ := ck_e hf
    obtain ⟨r3, M3, hq3, hf⟩ := bd_e hf
    refine g_callV (ci := 12) (b := x0) (As := [vI (12 : Int32)]) (st := []) (v := some (vI r3)) (M1 := M3) X (m_X14_eat l hq3) (cwV 1 X.2.2.1 gX14_isPactLine_X14_eat rfl rfl rfl (by decide +kernel) ⟨Nat.le_of_ble_eq_true rfl, Nat.le_of_ble_eq_true rfl⟩) rfl rfl rfl hT4 (by decide) rfl (Nat.le_of_ble_eq_true rfl) dX14_isPactLine_109 ⟨by decide, by decide⟩ ?_
    refine g_if_eq (tgt := 117) X dX14_isPactLine_112 (by decide) (fun hc => ?_) (fun hc => ?_)
    · have hf := ife_t hc hf
      refine g_aload_n X dX14_isPactLine_117 rfl rfl ?_
      refine g_bipush (v := (13 : Int32)) X dX14_isPactLine_118 (by decide) ?_
      obtain ⟨hT6, hf⟩ := ck_e hf
      obtain ⟨r5, M5, hq5, hf⟩ := bd_e hf
      refine g_callV (ci := 12) (b := x0) (As := [vI (13 : Int32)]) (st := []) (v := some (vI r5)) (M1 := M5) X (m_X14_eat l hq5) (cwV 1 X.2.2.1 gX14_isPactLine_X14_eat rfl rfl rfl (by decide +kernel) ⟨Nat.le_of_ble_eq_true rfl, Nat.le_of_ble_eq_true rfl⟩) rfl rfl rfl hT6 (by decide) rfl (Nat.le_of_ble_eq_true rfl) dX14_isPactLine_120 ⟨by decide, by decide⟩ ?_
      refine g_if_eq (tgt := 153) X dX14_isPactLine_123 (by decide) (fun hc => ?_) (fun hc => ?_)
      · have hf := ife_t hc hf
        obtain ⟨w7, hw7, hz7⟩ := oI_e hf
        subst hz7
        have hf := hw7
        refine g_sub (lvsub_of _ _ [] rfl) ?_
        exact t_X14_isPactLine_153 X hr _  _ hf hK
      · have hf := ife_f hc hf
        refine g_aload_n X dX14_isPactLine_126 rfl rfl ?_
        refine g_bipush (v := (40 : Int32)) X dX14_isPactLine_127 (by decide) ?_
        refine g_bipush (v := (13 : Int32)) X dX14_isPactLine_129 (by decide) ?_
        obtain ⟨hT9, hf⟩ := ck_e hf
        obtain ⟨r8, M8, hq8, hf⟩ := bd_e hf
        refine g_callV (ci := 12) (b := x0) (As := [vI (40 : Int32), vI (13 : Int32)]) (st := []) (v := some (vI r8)) (M1 := M8) X (m_X14_eatAs l hq8) (cwV 2 X.2.2.1 gX14_isPactLine_X14_eatAs rfl rfl rfl (by decide +kernel) ⟨Nat.le_of_ble_eq_true rfl, Nat.le_of_ble_eq_true rfl⟩) rfl rfl rfl hT9 (by decide) rfl (Nat.le_of_ble_eq_true rfl) dX14_isPactLine_131 ⟨by decide, by decide⟩ ?_
        refine g_if_eq (tgt := 153) X dX14_isPactLine_134 (by decide) (fun hc => ?_) (fun hc => ?_)
        · have hf := ife_t hc hf
          obtain ⟨w10, hw10, hz10⟩ := oI_e hf
          subst hz10
          have hf := hw10
          refine g_sub (lvsub_of _ _ [] rfl) ?_
          exact t_X14_isPactLine_153 X hr _  _ hf hK
        · have hf := ife_f hc hf
          refine g_aload_n X dX14_isPactLine_137 rfl rfl ?_
          refine g_bipush (v := (14 : Int32)) X dX14_isPactLine_138 (by decide) ?_
          obtain ⟨hT12, hf⟩ := ck_e hf
          obtain ⟨r11, M11, hq11, hf⟩ := bd_e hf
          refine g_callV (ci := 12) (b := x0) (As := [vI (14 : Int32)]) (st := []) (v := some (vI r11)) (M1 := M11) X (m_X14_eat l hq11) (cwV 1 X.2.2.1 gX14_isPactLine_X14_eat rfl rfl rfl (by decide +kernel) ⟨Nat.le_of_ble_eq_true rfl, Nat.le_of_ble_eq_true rfl⟩) rfl rfl rfl hT12 (by decide) rfl (Nat.le_of_ble_eq_true rfl) dX14_isPactLine_140 ⟨by decide, by decide⟩ ?_
          refine g_if_eq (tgt := 153) X dX14_isPactLine_143 (by decide) (fun hc => ?_) (fun hc => ?_)
          · have hf := ife_t hc hf
            obtain ⟨w13, hw13, hz13⟩ := oI_e hf
            subst hz13
            have hf := hw13
            refine g_sub (lvsub_of _ _ [] rfl) ?_
            exact t_X14_isPactLine_153 X hr _  _ hf hK
          · have hf := ife_f hc hf
            refine g_aload_n X dX14_isPactLine_146 rfl rfl ?_
            obtain ⟨hT15, hf⟩ := ck_e hf
            obtain ⟨r14, M14, hq14, hf⟩ := bd_e hf
            refine g_callV (ci := 12) (b := x0) (As := []) (st := []) (v := some (vI r14)) (M1 := M14) X (m_X14_isSum l hq14) (cwV 0 X.2.2.1 gX14_isPactLine_X14_isSum rfl rfl rfl (by decide +kernel) ⟨Nat.le_of_ble_eq_true rfl, Nat.le_of_ble_eq_true rfl⟩) rfl rfl rfl hT15 (by decide) rfl (Nat.le_of_ble_eq_true rfl) dX14_isPactLine_147 ⟨by decide, by decide⟩ ?_
            refine g_if_ne (tgt := 155) X dX14_isPactLine_150 (by decide) (fun hc => ?_) (fun hc => ?_)
            · have hf := ife_f hc hf
              refine g_aload_n X dX14_isPactLine_155 rfl rfl ?_
              obtain ⟨hT16, hf⟩ := ck_e hf
              refine g_get (ci := 12) (v := vR (mR M14 x0 12)) 12 X cdX14 i_X14_isPactLine_X14 (by decide) k_X14_isPactLine_f39 rfl dX14_isPactLine_156 rfl hT16 rfl ?_
              obtain ⟨a17, ha17, hf⟩ := dr_e hf
              obtain ⟨hT18, hf⟩ := ck_e hf
              refine g_getN (ci := 11) (w := vR (mR M14 a17 20)) 20 X cdX13 i_X14_isPactLine_X13 (by decide) (gNw X _ kn_X14_174) rfl dX14_isPactLine_159 ha17 hT18 rfl ?_
              refine g_iload_n X dX14_isPactLine_162 rfl rfl ?_
              refine g_aload_n X dX14_isPactLine_163 rfl rfl ?_
              refine g_get (ci := 12) (v := vR (mR M14 x0 12)) 12 X cdX14 i_X14_isPactLine_X14 (by decide) k_X14_isPactLine_f39 rfl dX14_isPactLine_164 rfl hT16 rfl ?_
              refine g_getN (ci := 11) (w := vI (mI M14 a17 22)) 22 X cdX13 i_X14_isPactLine_X13 (by decide) (gNw X _ kn_X14_130) rfl dX14_isPactLine_167 ha17 hT18 rfl ?_
              obtain ⟨a19, ha19, hf⟩ := dr_e hf
              obtain ⟨hT20, hf⟩ := ck_e hf
              obtain ⟨hg21, hf⟩ := ck_e hf
              refine g_iast X dX14_isPactLine_170 ha19 hT20 hg21 ?_
              obtain ⟨M22, hM22, hf⟩ := lw_e hf
              rw [← hM22]
              have hT23 : mT M22 x0 = 13 := by rw [hM22]; exact hT16
              have hT24 : mT M22 a17 = 12 := by rw [hM22]; exact hT18
              have hT25 : mT M22 a19 = 20 := by rw [hM22]; exact hT20
              refine g_iconst (v := (1 : Int32)) X dX14_isPactLine_171 (by decide) ?_
              obtain ⟨w26, hw26, hz26⟩ := oI_e hf
              subst hz26
              have hf := hw26
              cases hf
              refine g_eqQ hK ?_
              exact g_zret X hr (gnb (Or.inr rfl)) dX14_isPactLine_172
            · have hf := ife_t hc hf
              obtain ⟨w27, hw27, hz27⟩ := oI_e hf
              subst hz27
              have hf := hw27
              refine g_sub (lvsub_of _ _ [] rfl) ?_
              exact t_X14_isPactLine_153 X hr _  _ hf hK
    · have hf := ife_f hc hf
      refine g_iconst (v := (1 : Int32)) X dX14_isPactLine_115 (by decide) ?_
      obtain ⟨w28, hw28, hz28⟩ := oI_e hf
      subst hz28
      have hf := hw28
      cases hf
      refine g_eqQ hK ?_
      exact g_zret X hr (gnb (Or.inr rfl)) dX14_isPactLine_116
  · have hf := ife_f hc hf
    refine g_aload_n X dX14_isPactLine_93 rfl rfl ?_
    refine g_bipush (v := (40 : Int32)) X dX14_isPactLine_94 (by decide) ?_
    refine g_bipush (v := (12 : Int32)) X dX14_isPactLine_96 (by decide) ?_
    obtain ⟨hT30, hf⟩ := ck_e hf
    obtain ⟨r29, M29, hq29, hf⟩ := bd_e hf
    refine g_callV (ci := 12) (b := x0) (As := [vI (40 : Int32), vI (12 : Int32)]) (st := []) (v := some (vI r29)) (M1 := M29) X (m_X14_eatAs l hq29) (cwV 2 X.2.2.1 gX14_isPactLine_X14_eatAs rfl rfl rfl (by decide +kernel) ⟨Nat.le_of_ble_eq_true rfl, Nat.le_of_ble_eq_true rfl⟩) rfl rfl rfl hT30 (by decide) rfl (Nat.le_of_ble_eq_true rfl) dX14_isPactLine_98 ⟨by decide, by decide⟩ ?_
    refine g_if_ne (tgt := 84) X dX14_isPactLine_101 (by decide) (fun hc => ?_) (fun hc => ?_)
    · have hf := ife_f hc hf
      cases hf
      refine g_sub (lvsub_of _ _ [0, 1] rfl) ?_
      exact hK
    · have hf := ife_t hc hf
      refine g_iconst (v := (0 : Int32)) X dX14_isPactLine_104 (by decide) ?_
      obtain ⟨w31, hw31, hz31⟩ := oI_e hf
      subst hz31
      have hf := hw31
      cases hf
      refine g_eqQ hK ?_
      exact g_zret X hr (gnb (Or.inl rfl)) dX14_isPactLine_105
set_option maxHeartbeats 4000000 in
set_option maxRecDepth 100000 in
theorem tl_X14_isPactLine_84 (X : gX p s m args meth c D cy B (gSt Z B H0) RX14 cX14_isPactLine wsX14_isPactLine 2) (hr : meth.sig.returnType = (some .boolean)) {Q : State → Prop} : ∀ (M : gMem) (x0 : Nat) (x1 : Int32) (z : Int32 × gMem), lp_X14_isPactLine_84 M x0 x1 = some z → (fun (r : Int32 × gMem) => Q = gMQ below D cy B H0 args s 0 0 (some (vI r.1)) r.2) z → gGo p l e rX14_isPactLine s m args below meth c D cy B H0 2 0 0 Q 84 [(0, vR (some x0)), (1, vI x1)] [] M := by
  intro M x0 x1 z hf hK
  refine lp_ind (P := (fun (q : gMem) (z : Int32 × gMem) => (fun (r : Int32 × gMem) => Q = gMQ below D cy B H0 args s 0 0 (some (vI r.1)) r.2) z → gGo p l e rX14_isPactLine s m args below meth c D cy B H0 2 0 0 Q 84 [(0, vR (some x0)), (1, vI x1)] [] q)) (fun q z hq => ?_) _ _ hf hK
  intro hK
  obtain ⟨w, hw, hm⟩ := hq
  refine tb_X14_isPactLine_84 X hr _ _ _ w hw ?_
  cases w with
  | inl a => exact hm hK
  | inr b => cases hm; exact hK
set_option maxHeartbeats 4000000 in
set_option maxRecDepth 100000 in
theorem t_X14_isPactLine_82 (X : gX p s m args meth c D cy B (gSt Z B H0) RX14 cX14_isPactLine wsX14_isPactLine 2) (hr : meth.sig.returnType = (some .boolean)) {Q : State → Prop} : ∀ (M : gMem)  (z : Int32 × gMem), b_X14_isPactLine_82 M  = some z → (fun (r : Int32 × gMem) => Q = gMQ below D cy B H0 args s 0 0 (some (vI r.1)) r.2) z → gGo p l e rX14_isPactLine s m args below meth c D cy B H0 2 0 0 Q 82 [] [] M := by
  intro M  z hf hK
  unfold b_X14_isPactLine_82 at hf
  refine g_iconst (v := (0 : Int32)) X dX14_isPactLine_82 (by decide) ?_
  cases hf
  refine g_eqQ hK ?_
  exact g_zret X hr (gnb (Or.inl rfl)) dX14_isPactLine_83
set_option maxHeartbeats 4000000 in
set_option maxRecDepth 100000 in
theorem t_X14_isPactLine_0 (X : gX p s m args meth c D cy B (gSt Z B H0) RX14 cX14_isPactLine wsX14_isPactLine 2) (hr : meth.sig.returnType = (some .boolean)) {Q : State → Prop} : ∀ (M : gMem) (x0 : Nat) (z : Int32 × gMem), b_X14_isPactLine_0 M x0 = some z → (fun (r : Int32 × gMem) => Q = gMQ below D cy B H0 args s 0 0 (some (vI r.1)) r.2) z → gGo p l e rX14_isPactLine s m args below meth c D cy B H0 2 0 0 Q 0 [(0, vR (some x0))] [] M := by
  intro M x0 z hf hK
  unfold b_X14_isPactLine_0 at hf
  refine g_aload_n X dX14_isPactLine_0 rfl rfl ?_
  refine g_dup X dX14_isPactLine_1 rfl ?_
  obtain ⟨hT32, hf⟩ := ck_e hf
  refine g_get (ci := 12) (v := vI (mI M x0 9)) 9 X cdX14 i_X14_isPactLine_X14 (by decide) k_X14_isPactLine_f118 rfl dX14_isPactLine_2 rfl hT32 rfl ?_
  refine g_iconst (v := (1 : Int32)) X dX14_isPactLine_5 (by decide) ?_
  refine g_iadd X dX14_isPactLine_6 ?_
  refine g_putI (ci := 12) 9 X cdX14 i_X14_isPactLine_X14 (by decide) k_X14_isPactLine_f118 rfl dX14_isPactLine_7 rfl hT32 (Or.inl rfl) rfl rfl rfl ?_
  obtain ⟨M33, hM33, hf⟩ := lw_e hf
  rw [← hM33]
  have hT34 : mT M33 x0 = 13 := by rw [hM33]; exact hT32
  refine g_aload_n X dX14_isPactLine_10 rfl rfl ?_
  refine g_get (ci := 12) (v := vR (mR M33 x0 12)) 12 X cdX14 i_X14_isPactLine_X14 (by decide) k_X14_isPactLine_f39 rfl dX14_isPactLine_11 rfl hT34 rfl ?_
  obtain ⟨a35, ha35, hf⟩ := dr_e hf
  obtain ⟨hT36, hf⟩ := ck_e hf
  refine g_getN (ci := 11) (w := vI (mI M33 a35 16)) 16 X cdX13 i_X14_isPactLine_X13 (by decide) (gNw X _ kn_X14_165) rfl dX14_isPactLine_14 ha35 hT36 rfl ?_
  refine g_bipush (v := (6 : Int32)) X dX14_isPactLine_17 (by decide) ?_
  refine g_min X k_X14_isPactLine_m70 k_X14_isPactLine_mmins k_X14_isPactLine_mi k_X14_isPactLine_mminc (Nat.le_of_ble_eq_true rfl) (Nat.le_of_ble_eq_true rfl) ⟨by decide, by decide⟩ dX14_isPactLine_19 ?_
  refine g_istore_n (lv' := [(1, vI (imin ((mI M33 a35 16)) ((6 : Int32)))), (0, vR (some x0))]) X dX14_isPactLine_22 rfl (by decide) rfl ?_
  refine g_aload_n X dX14_isPactLine_23 rfl rfl ?_
  refine g_get (ci := 12) (v := vR (mR M33 x0 12)) 12 X cdX14 i_X14_isPactLine_X14 (by decide) k_X14_isPactLine_f39 rfl dX14_isPactLine_24 rfl hT34 rfl ?_
  refine g_dup X dX14_isPactLine_27 rfl ?_
  refine g_getN (ci := 11) (w := vI (mI M33 a35 16)) 16 X cdX13 i_X14_isPactLine_X13 (by decide) (gNw X _ kn_X14_165) rfl dX14_isPactLine_28 ha35 hT36 rfl ?_
  refine g_iconst (v := (1 : Int32)) X dX14_isPactLine_31 (by decide) ?_
  refine g_iadd X dX14_isPactLine_32 ?_
  refine g_putIN (ci := 11) 16 X cdX13 i_X14_isPactLine_X13 (by decide) (gNw X _ kn_X14_165) rfl dX14_isPactLine_33 ha35 hT36 rfl rfl rfl rfl ?_
  obtain ⟨M37, hM37, hf⟩ := lw_e hf
  rw [← hM37]
  have hT38 : mT M37 x0 = 13 := by rw [hM37]; exact hT34
  have hT39 : mT M37 a35 = 12 := by rw [hM37]; exact hT36
  refine g_aload_n X dX14_isPactLine_36 rfl rfl ?_
  refine g_get (ci := 12) (v := vR (mR M37 x0 12)) 12 X cdX14 i_X14_isPactLine_X14 (by decide) k_X14_isPactLine_f39 rfl dX14_isPactLine_37 rfl hT38 rfl ?_
  obtain ⟨a40, ha40, hf⟩ := dr_e hf
  obtain ⟨hT41, hf⟩ := ck_e hf
  refine g_getN (ci := 11) (w := vR (mR M37 a40 19)) 19 X cdX13 i_X14_isPactLine_X13 (by decide) (gNw X _ kn_X14_168) rfl dX14_isPactLine_40 ha40 hT41 rfl ?_
  refine g_iload_n X dX14_isPactLine_43 rfl rfl ?_
  refine g_aload_n X dX14_isPactLine_44 rfl rfl ?_
  refine g_get (ci := 12) (v := vR (mR M37 x0 12)) 12 X cdX14 i_X14_isPactLine_X14 (by decide) k_X14_isPactLine_f39 rfl dX14_isPactLine_45 rfl hT38 rfl ?_
  refine g_getN (ci := 11) (w := vI (mI M37 a40 22)) 22 X cdX13 i_X14_isPactLine_X13 (by decide) (gNw X _ kn_X14_130) rfl dX14_isPactLine_48 ha40 hT41 rfl ?_
  obtain ⟨a42, ha42, hf⟩ := dr_e hf
  obtain ⟨hT43, hf⟩ := ck_e hf
  obtain ⟨hg44, hf⟩ := ck_e hf
  refine g_iast X dX14_isPactLine_51 ha42 hT43 hg44 ?_
  obtain ⟨M45, hM45, hf⟩ := lw_e hf
  rw [← hM45]
  have hT46 : mT M45 x0 = 13 := by rw [hM45]; exact hT38
  have hT47 : mT M45 a35 = 12 := by rw [hM45]; exact hT39
  have hT48 : mT M45 a40 = 12 := by rw [hM45]; exact hT41
  have hT49 : mT M45 a42 = 20 := by rw [hM45]; exact hT43
  refine g_aload_n X dX14_isPactLine_52 rfl rfl ?_
  refine g_bipush (v := (40 : Int32)) X dX14_isPactLine_53 (by decide) ?_
  refine g_iconst (v := (3 : Int32)) X dX14_isPactLine_55 (by decide) ?_
  obtain ⟨r50, M50, hq50, hf⟩ := bd_e hf
  refine g_callV (ci := 12) (b := x0) (As := [vI (40 : Int32), vI (3 : Int32)]) (st := []) (v := some (vI r50)) (M1 := M50) X (m_X14_eatAs l hq50) (cwV 2 X.2.2.1 gX14_isPactLine_X14_eatAs rfl rfl rfl (by decide +kernel) ⟨Nat.le_of_ble_eq_true rfl, Nat.le_of_ble_eq_true rfl⟩) rfl rfl rfl hT46 (by decide) rfl (Nat.le_of_ble_eq_true rfl) dX14_isPactLine_56 ⟨by decide, by decide⟩ ?_
  refine g_if_eq (tgt := 82) X dX14_isPactLine_59 (by decide) (fun hc => ?_) (fun hc => ?_)
  · have hf := ife_t hc hf
    refine g_sub (lvsub_of _ _ [] rfl) ?_
    exact t_X14_isPactLine_82 X hr _  _ hf hK
  · have hf := ife_f hc hf
    refine g_aload_n X dX14_isPactLine_62 rfl rfl ?_
    refine g_bipush (v := (11 : Int32)) X dX14_isPactLine_63 (by decide) ?_
    obtain ⟨hT52, hf⟩ := ck_e hf
    obtain ⟨r51, M51, hq51, hf⟩ := bd_e hf
    refine g_callV (ci := 12) (b := x0) (As := [vI (11 : Int32)]) (st := []) (v := some (vI r51)) (M1 := M51) X (m_X14_eat l hq51) (cwV 1 X.2.2.1 gX14_isPactLine_X14_eat rfl rfl rfl (by decide +kernel) ⟨Nat.le_of_ble_eq_true rfl, Nat.le_of_ble_eq_true rfl⟩) rfl rfl rfl hT52 (by decide) rfl (Nat.le_of_ble_eq_true rfl) dX14_isPactLine_65 ⟨by decide, by decide⟩ ?_
    refine g_if_eq (tgt := 82) X dX14_isPactLine_68 (by decide) (fun hc => ?_) (fun hc => ?_)
    · have hf := ife_t hc hf
      refine g_sub (lvsub_of _ _ [] rfl) ?_
      exact t_X14_isPactLine_82 X hr _  _ hf hK
    · have hf := ife_f hc hf
      refine g_aload_n X dX14_isPactLine_71 rfl rfl ?_
      refine g_bipush (v := (40 : Int32)) X dX14_isPactLine_72 (by decide) ?_
      refine g_bipush (v := (12 : Int32)) X dX14_isPactLine_74 (by decide) ?_
      obtain ⟨hT54, hf⟩ := ck_e hf
      obtain ⟨r53, M53, hq53, hf⟩ := bd_e hf
      refine g_callV (ci := 12) (b := x0) (As := [vI (40 : Int32), vI (12 : Int32)]) (st := []) (v := some (vI r53)) (M1 := M53) X (m_X14_eatAs l hq53) (cwV 2 X.2.2.1 gX14_isPactLine_X14_eatAs rfl rfl rfl (by decide +kernel) ⟨Nat.le_of_ble_eq_true rfl, Nat.le_of_ble_eq_true rfl⟩) rfl rfl rfl hT54 (by decide) rfl (Nat.le_of_ble_eq_true rfl) dX14_isPactLine_76 ⟨by decide, by decide⟩ ?_
      refine g_if_ne (tgt := 84) X dX14_isPactLine_79 (by decide) (fun hc => ?_) (fun hc => ?_)
      · have hf := ife_f hc hf
        refine g_sub (lvsub_of _ _ [1, 0] rfl) ?_
        exact tl_X14_isPactLine_84 X hr _ _ _ _ hf hK
      · have hf := ife_t hc hf
        refine g_sub (lvsub_of _ _ [] rfl) ?_
        exact t_X14_isPactLine_82 X hr _  _ hf hK
set_option maxHeartbeats 4000000 in
set_option maxRecDepth 100000 in
theorem m_X14_isPactLine (l : Launch) {D : va_G} {cy : Nat → ClassId} {B : Nat} {H0 : Heap} {Z : Nat → Nat} {M M1 : gMem} {x0 : Nat} {r : Int32} (hf : f_X14_isPactLine M x0 = some (r, M1)) : Met l yX14_isPactLine wsX14_isPactLine rX14_isPactLine (va_Pc (Value.ref x0 :: List.map gv []) (gPre D cy B H0 (gSt Z B H0) M)) (gQ D cy B H0 (some (vI r)) M1) 0 0 (gA B) := by
  refine Met.ofW (cc := cX14_isPactLine) (maxL := 2) (ret := (some .boolean)) (by decide) rfl ?_
  intro p e s m args below meth c s₁ Bd hml hv
  obtain ⟨rfl, hW, hKK, hFs⟩ := hv
  have X : gX p s m _ meth c D cy B (gSt Z B H0) RX14 cX14_isPactLine wsX14_isPactLine 2 := ⟨Bd.exec, Bd.bytes, atoms_spec (ws := wsX14_isPactLine) Bd.pre, findClass_of_methodNamed Bd.named, hml, hKK, by rw [hW.1]; exact hW.2.1, Bd.notSynchronized, hFs⟩
  have hr := Bd.returns
  have hl := lv_entry ([.ref x0]) (n := 2) (Nat.le_of_ble_eq_true rfl)
  show W p l e rX14_isPactLine s m _ below meth c s.heap [] 0 0 _ (entryFrame m ([.ref x0] : List Value).toArray 2)
  rw [lg_entry_eq]
  generalize (lg_sl ([.ref x0]) ++ List.replicate (2 - (lg_sl ([.ref x0])).length) Slot.unset).toArray = ls at hl ⊢
  have hl : lv_has ls 2 (List.map gq [(0, vR (some x0))]) := hl
  exact t_X14_isPactLine_0 X hr _ _ _ hf rfl s.heap [] ls hW va_S.rf (lv_has_sub hl (lvsub_of _ _ [0] rfl))
end
