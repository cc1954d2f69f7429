section
variable {p : Program} {l : Launch} {e : Env} {s : State} {m : MethodId} {args : Array Value} {below : List Frame} {meth : Method} {c : Code} {D : va_G} {cy : Nat → ClassId} {B : Nat} {H0 : Heap} {Z : Nat → Nat}
/-! ## TideLots$Reader.takeMember(LTideLots$Pact;)Z -/
theorem dX6_takeMember_0 : decode cX6_takeMember 0 = .ok (.aload_n 0, 1) := by decide +kernel
theorem dX6_takeMember_1 : decode cX6_takeMember 1 = .ok (.invokevirtual 43, 3) := by decide +kernel
theorem dX6_takeMember_4 : decode cX6_takeMember 4 = .ok (.getstatic 250, 3) := by decide +kernel
theorem dX6_takeMember_7 : decode cX6_takeMember 7 = .ok (.if_acmp .ne 35, 3) := by decide +kernel
theorem dX6_takeMember_10 : decode cX6_takeMember 10 = .ok (.aload_n 1, 1) := by decide +kernel
theorem dX6_takeMember_11 : decode cX6_takeMember 11 = .ok (.aload_n 0, 1) := by decide +kernel
theorem dX6_takeMember_12 : decode cX6_takeMember 12 = .ok (.getfield 24, 3) := by decide +kernel
theorem dX6_takeMember_15 : decode cX6_takeMember 15 = .ok (.aload_n 0, 1) := by decide +kernel
theorem dX6_takeMember_16 : decode cX6_takeMember 16 = .ok (.getfield 30, 3) := by decide +kernel
theorem dX6_takeMember_19 : decode cX6_takeMember 19 = .ok (.getfield 253, 3) := by decide +kernel
theorem dX6_takeMember_22 : decode cX6_takeMember 22 = .ok (.aload_n 0, 1) := by decide +kernel
theorem dX6_takeMember_23 : decode cX6_takeMember 23 = .ok (.getfield 91, 3) := by decide +kernel
theorem dX6_takeMember_26 : decode cX6_takeMember 26 = .ok (.laload, 1) := by decide +kernel
theorem dX6_takeMember_27 : decode cX6_takeMember 27 = .ok (.invokevirtual 257, 3) := by decide +kernel
theorem dX6_takeMember_30 : decode cX6_takeMember 30 = .ok (.invokevirtual 261, 3) := by decide +kernel
theorem dX6_takeMember_33 : decode cX6_takeMember 33 = .ok (.ifCond .eq 9, 3) := by decide +kernel
theorem dX6_takeMember_36 : decode cX6_takeMember 36 = .ok (.aload_n 0, 1) := by decide +kernel
theorem dX6_takeMember_37 : decode cX6_takeMember 37 = .ok (.bipush 6, 2) := by decide +kernel
theorem dX6_takeMember_39 : decode cX6_takeMember 39 = .ok (.invokevirtual 133, 3) := by decide +kernel
theorem dX6_takeMember_42 : decode cX6_takeMember 42 = .ok (.aload_n 0, 1) := by decide +kernel
theorem dX6_takeMember_43 : decode cX6_takeMember 43 = .ok (.aload_n 0, 1) := by decide +kernel
theorem dX6_takeMember_44 : decode cX6_takeMember 44 = .ok (.getfield 24, 3) := by decide +kernel
theorem dX6_takeMember_47 : decode cX6_takeMember 47 = .ok (.invokevirtual 179, 3) := by decide +kernel
theorem dX6_takeMember_50 : decode cX6_takeMember 50 = .ok (.ifCond .ne 5, 3) := by decide +kernel
theorem dX6_takeMember_53 : decode cX6_takeMember 53 = .ok (.iconst 0, 1) := by decide +kernel
theorem dX6_takeMember_54 : decode cX6_takeMember 54 = .ok (.ireturn, 1) := by decide +kernel
theorem dX6_takeMember_55 : decode cX6_takeMember 55 = .ok (.aload_n 1, 1) := by decide +kernel
theorem dX6_takeMember_56 : decode cX6_takeMember 56 = .ok (.aload_n 0, 1) := by decide +kernel
theorem dX6_takeMember_57 : decode cX6_takeMember 57 = .ok (.getfield 112, 3) := by decide +kernel
theorem dX6_takeMember_60 : decode cX6_takeMember 60 = .ok (.invokevirtual 264, 3) := by decide +kernel
theorem dX6_takeMember_63 : decode cX6_takeMember 63 = .ok (.iconst 1, 1) := by decide +kernel
theorem dX6_takeMember_64 : decode cX6_takeMember 64 = .ok (.ireturn, 1) := by decide +kernel
set_option maxRecDepth 20000 in
theorem ggX6_takeMember_X6_takeKnown : GoodIn wsX6_takeMember wsX6_takeKnown := goodIn_2 24 (goodIn_r _ [37, 1, 3, 4, 5, 6, 7, 8, 9, 10, 11, 12, 13, 14, 15, 16, 17, 18, 19, 27, 28, 29, 30, 31] (by decide +kernel) (by decide +kernel)) (goodIn_r _ [32, 33, 38, 39, 40, 41, 46, 47, 48, 49, 50, 51, 52, 53, 54, 55, 56, 57, 58, 59, 60, 61, 62] (by decide +kernel) (by decide +kernel))
set_option maxRecDepth 20000 in
theorem gX6_takeMember_X6_takeKnown : GoodIn wsX6_takeMember (wsV RX6 179 RX6 yX6_takeKnown wsX6_takeKnown) := goodIn_app (goodIn_of _ (by decide +kernel)) ggX6_takeMember_X6_takeKnown
set_option maxRecDepth 20000 in
theorem ggX6_takeMember_X5_add : GoodIn wsX6_takeMember wsX5_add := goodIn_r _ [45, 25, 26, 63, 64, 65, 66, 67, 68, 69, 70] (by decide +kernel) (by decide +kernel)
set_option maxRecDepth 20000 in
theorem gX6_takeMember_X5_add : GoodIn wsX6_takeMember (wsV RX6 264 RX5 yX5_add wsX5_add) := goodIn_app (goodIn_of _ (by decide +kernel)) ggX6_takeMember_X5_add
set_option maxRecDepth 20000 in
theorem ggX6_takeMember_X6_sign : GoodIn wsX6_takeMember wsX6_sign := goodIn_r _ [11, 3, 12, 5, 46, 47, 48, 49, 50, 51, 52, 53, 54, 55, 56, 57, 58, 59, 60] (by decide +kernel) (by decide +kernel)
set_option maxRecDepth 20000 in
theorem gX6_takeMember_X6_sign : GoodIn wsX6_takeMember (wsV RX6 43 RX6 yX6_sign wsX6_sign) := goodIn_app (goodIn_of _ (by decide +kernel)) ggX6_takeMember_X6_sign
set_option maxRecDepth 20000 in
theorem ggX6_takeMember_X4_find : GoodIn wsX6_takeMember wsX4_find := goodIn_r _ [17, 18, 19, 61, 62] (by decide +kernel) (by decide +kernel)
set_option maxRecDepth 20000 in
theorem gX6_takeMember_X4_find : GoodIn wsX6_takeMember (wsV RX6 257 RX4 yX4_find wsX4_find) := goodIn_app (goodIn_of _ (by decide +kernel)) ggX6_takeMember_X4_find
set_option maxRecDepth 20000 in
theorem ggX6_takeMember_X5_has : GoodIn wsX6_takeMember wsX5_has := goodIn_r _ [24, 25, 26, 63, 64, 65, 66, 67, 68, 69, 70] (by decide +kernel) (by decide +kernel)
set_option maxRecDepth 20000 in
theorem gX6_takeMember_X5_has : GoodIn wsX6_takeMember (wsV RX6 261 RX5 yX5_has wsX5_has) := goodIn_app (goodIn_of _ (by decide +kernel)) ggX6_takeMember_X5_has
set_option maxRecDepth 20000 in
theorem ggX6_takeMember_X6_noteError : GoodIn wsX6_takeMember wsX6_noteError := goodIn_r _ [30, 31, 3, 32, 5, 33, 46, 47, 48, 49, 50, 51, 52, 53, 54, 55, 56, 57, 58, 59, 60] (by decide +kernel) (by decide +kernel)
set_option maxRecDepth 20000 in
theorem gX6_takeMember_X6_noteError : GoodIn wsX6_takeMember (wsV RX6 133 RX6 yX6_noteError wsX6_noteError) := goodIn_app (goodIn_of _ (by decide +kernel)) ggX6_takeMember_X6_noteError
theorem k_X6_takeMember_f24 : Cond.fieldLink RX6 24 "TideLots$Reader" "fisherNames" "LTideLots$Names;" ∈ wsX6_takeMember := by decide +kernel
theorem i_X6_takeMember_X6 : ∀ w ∈ u_ws RX6 TX6 9, w ∈ wsX6_takeMember := by decide +kernel
theorem k_X6_takeMember_f112 : Cond.fieldLink RX6 112 "TideLots$Reader" "number" "I" ∈ wsX6_takeMember := by decide +kernel
theorem k_X6_takeMember_f250 : Cond.fieldLink RX6 250 "TideLots$Sign" "NAME" "LTideLots$Sign;" ∈ wsX6_takeMember := by decide +kernel
theorem k_X6_takeMember_f30 : Cond.fieldLink RX6 30 "TideLots$Reader" "tape" "LTideLots$Tape;" ∈ wsX6_takeMember := by decide +kernel
theorem k_X6_takeMember_f253 : Cond.fieldLink RX6 253 "TideLots$Tape" "values" "[J" ∈ wsX6_takeMember := by decide +kernel
theorem i_X6_takeMember_X10 : ∀ w ∈ u_ws RX10 TX10 6, w ∈ wsX6_takeMember := by decide +kernel
theorem k_X6_takeMember_f91 : Cond.fieldLink RX6 91 "TideLots$Reader" "at" "I" ∈ wsX6_takeMember := by decide +kernel
abbrev rX6_takeMember : Room := { frames := 2, cells := 0, slots := 0, locals := 44 }
noncomputable def b_X6_takeMember_42 (Z : Nat → Nat) (M : gMem) (x0 : Nat) (x1 : Option Nat) : Option (Int32 × gMem) :=
  ck (mT M x0 = 6) <| bd (f_X6_takeKnown Z M x0 ((mR M x0 4))) fun r2 M2 => (if r2 = 0 then some ((0 : Int32), M2) else ck (mT M2 x0 = 6) <| dr x1 fun a5 => ck (mT M2 a5 = 5) <| bd (f_X5_add M2 a5 ((mI M2 x0 8))) fun _ M4 => some ((1 : Int32), M4))
noncomputable def b_X6_takeMember_0 (Z : Nat → Nat) (M : gMem) (x0 : Nat) (x1 : Option Nat) : Option (Int32 × gMem) :=
  ck (mT M x0 = 6) <| bd (f_X6_sign M x0) fun r7 M7 => (if r7 = (some (Z 40)) then ck (mT M7 x0 = 6) <| dr ((mR M7 x0 1)) fun a10 => ck (mT M7 a10 = 9) <| dr ((mR M7 a10 4)) fun a12 => ck (mT M7 a12 = 21) <| ck (inb (mI M7 x0 6) (mL M7 a12)) <| dr ((mR M7 x0 4)) fun a16 => ck (mT M7 a16 = 4) <| bd (f_X4_find M7 a16 ((mJ M7 a12 ((mI M7 x0 6)).toNatClampNeg))) fun r15 M15 => dr x1 fun a19 => ck (mT M15 a19 = 5) <| bd (f_X5_has M15 a19 r15) fun r18 M18 => (if r18 = 0 then b_X6_takeMember_42 Z M18 x0 x1 else ck (mT M18 x0 = 6) <| bd (f_X6_noteError M18 x0 ((6 : Int32))) fun _ M21 => b_X6_takeMember_42 Z M21 x0 x1) else b_X6_takeMember_42 Z M7 x0 x1)
noncomputable def f_X6_takeMember (Z : Nat → Nat) (M : gMem) (x0 : Nat) (x1 : Option Nat) : Option (Int32 × gMem) :=
  b_X6_takeMember_0 Z M x0 x1
set_option maxHeartbeats 4000000 in
set_option maxRecDepth 100000 in
theorem t_X6_takeMember_42 (X : gX p s m args meth c D cy B (gSt Z B H0) RX6 cX6_takeMember wsX6_takeMember 2) (hr : meth.sig.returnType = (some .boolean)) {Q : State → Prop} : ∀ (M : gMem) (x0 : Nat) (x1 : Option Nat) (z : Int32 × gMem), b_X6_takeMember_42 Z M x0 x1 = some z → (fun (r : Int32 × gMem) => Q = gMQ below D cy B H0 args s 0 0 (some (vI r.1)) r.2) z → gGo p l e rX6_takeMember s m args below meth c D cy B H0 2 0 0 Q 42 [(0, vR (some x0)), (1, vR x1)] [] M := by
  intro M x0 x1 z hf hK
  unfold b_X6_takeMember_42 at hf
  refine g_aload_n X dX6_takeMember_42 rfl rfl ?_
  refine g_aload_n X dX6_takeMember_43 rfl rfl ?_
  obtain ⟨hT1, hf⟩ := ck_e hf
  refine g_get (ci := 5) (v := vR (mR M x0 4)) 4 X cdX6 i_X6_takeMember_X6 (by decide) k_X6_takeMember_f24 rfl dX6_takeMember_44 rfl hT1 rfl ?_
  obtain ⟨r2, M2, hq2, hf⟩ := bd_e hf
  refine g_callV (ci := 5) (b := x0) (As := [vR (mR M x0 4)]) (st := []) (v := some (vI r2)) (M1 := M2) X (m_X6_takeKnown l hq2) (cwV 1 X.2.2.1 gX6_takeMember_X6_takeKnown rfl rfl rfl (by decide +kernel) ⟨Nat.le_of_ble_eq_true rfl, Nat.le_of_ble_eq_true rfl⟩) rfl rfl rfl hT1 (by decide) rfl (Nat.le_of_ble_eq_true rfl) dX6_takeMember_47 ⟨by decide, by decide⟩ ?_
  refine g_if_ne (tgt := 55) X dX6_takeMember_50 (by decide) (fun hc => ?_) (fun hc => ?_)
  · have hf := ife_f hc hf
    refine g_aload_n X dX6_takeMember_55 rfl rfl ?_
    refine g_aload_n X dX6_takeMember_56 rfl rfl ?_
    obtain ⟨hT3, hf⟩ := ck_e hf
    refine g_get (ci := 5) (v := vI (mI M2 x0 8)) 8 X cdX6 i_X6_takeMember_X6 (by decide) k_X6_takeMember_f112 rfl dX6_takeMember_57 rfl hT3 rfl ?_
    obtain ⟨a5, ha5, hf⟩ := dr_e hf
    obtain ⟨hT6, hf⟩ := ck_e hf
    obtain ⟨r4, M4, hq4, hf⟩ := bd_e hf
    refine g_callV (ci := 4) (b := a5) (As := [vI (mI M2 x0 8)]) (st := []) (v := none) (M1 := M4) X (m_X5_add l hq4) (cwV 1 X.2.2.1 gX6_takeMember_X5_add rfl rfl rfl (by decide +kernel) ⟨Nat.le_of_ble_eq_true rfl, Nat.le_of_ble_eq_true rfl⟩) rfl rfl ha5 hT6 (by decide) rfl (Nat.le_of_ble_eq_true rfl) dX6_takeMember_60 ⟨by decide, by decide⟩ ?_
    refine g_iconst (v := (1 : Int32)) X dX6_takeMember_63 (by decide) ?_
    cases hf
    refine g_eqQ hK ?_
    exact g_zret X hr (gnb (Or.inr rfl)) dX6_takeMember_64
  · have hf := ife_t hc hf
    refine g_iconst (v := (0 : Int32)) X dX6_takeMember_53 (by decide) ?_
    cases hf
    refine g_eqQ hK ?_
    exact g_zret X hr (gnb (Or.inl rfl)) dX6_takeMember_54
set_option maxHeartbeats 4000000 in
set_option maxRecDepth 100000 in
theorem t_X6_takeMember_0 (X : gX p s m args meth c D cy B (gSt Z B H0) RX6 cX6_takeMember wsX6_takeMember 2) (hr : meth.sig.returnType = (some .boolean)) {Q : State → Prop} : ∀ (M : gMem) (x0 : Nat) (x1 : Option Nat) (z : Int32 × gMem), b_X6_takeMember_0 Z M x0 x1 = some z → (fun (r : Int32 × gMem) => Q = gMQ below D cy B H0 args s 0 0 (some (vI r.1)) r.2) z → gGo p l e rX6_takeMember s m args below meth c D cy B H0 2 0 0 Q 0 [(0, vR (some x0)), (1, vR x1)] [] M := by
  intro M x0 x1 z hf hK
  unfold b_X6_takeMember_0 at hf
  refine g_aload_n X dX6_takeMember_0 rfl rfl ?_
  obtain ⟨hT8, hf⟩ := ck_e hf
  obtain ⟨r7, M7, hq7, hf⟩ := bd_e hf
  refine g_callV (ci := 5) (b := x0) (As := []) (st := []) (v := some (vR r7)) (M1 := M7) X (m_X6_sign l hq7) (cwV 0 X.2.2.1 gX6_takeMember_X6_sign rfl rfl rfl (by decide +kernel) ⟨Nat.le_of_ble_eq_true rfl, Nat.le_of_ble_eq_true rfl⟩) rfl rfl rfl hT8 (by decide) rfl (Nat.le_of_ble_eq_true rfl) dX6_takeMember_1 ⟨by decide, by decide⟩ ?_
  refine g_gets (w := vR (some (Z 40))) X (gSt_E X 40 (by decide)) k_X6_takeMember_f250 rfl dX6_takeMember_4 ?_
  refine g_acmp_ne (tgt := 42) X dX6_takeMember_7 (by decide) (fun hc => ?_) (fun hc => ?_)
  · have hf := ife_f hc hf
    refine g_sub (lvsub_of _ _ [0, 1] rfl) ?_
    exact t_X6_takeMember_42 X hr _ _ _ _ hf hK
  · have hf := ife_t hc hf
    refine g_aload_n X dX6_takeMember_10 rfl rfl ?_
    refine g_aload_n X dX6_takeMember_11 rfl rfl ?_
    obtain ⟨hT9, hf⟩ := ck_e hf
    refine g_get (ci := 5) (v := vR (mR M7 x0 4)) 4 X cdX6 i_X6_takeMember_X6 (by decide) k_X6_takeMember_f24 rfl dX6_takeMember_12 rfl hT9 rfl ?_
    refine g_aload_n X dX6_takeMember_15 rfl rfl ?_
    refine g_get (ci := 5) (v := vR (mR M7 x0 1)) 1 X cdX6 i_X6_takeMember_X6 (by decide) k_X6_takeMember_f30 rfl dX6_takeMember_16 rfl hT9 rfl ?_
    obtain ⟨a10, ha10, hf⟩ := dr_e hf
    obtain ⟨hT11, hf⟩ := ck_e hf
    refine g_get (ci := 8) (v := vR (mR M7 a10 4)) 4 X cdX10 i_X6_takeMember_X10 (by decide) k_X6_takeMember_f253 rfl dX6_takeMember_19 ha10 hT11 rfl ?_
    refine g_aload_n X dX6_takeMember_22 rfl rfl ?_
    refine g_get (ci := 5) (v := vI (mI M7 x0 6)) 6 X cdX6 i_X6_takeMember_X6 (by decide) k_X6_takeMember_f91 rfl dX6_takeMember_23 rfl hT9 rfl ?_
    obtain ⟨a12, ha12, hf⟩ := dr_e hf
    obtain ⟨hT13, hf⟩ := ck_e hf
    obtain ⟨hg14, hf⟩ := ck_e hf
    refine g_lald X dX6_takeMember_26 ha12 hT13 hg14 ?_
    obtain ⟨a16, ha16, hf⟩ := dr_e hf
    obtain ⟨hT17, hf⟩ := ck_e hf
    obtain ⟨r15, M15, hq15, hf⟩ := bd_e hf
    refine g_callV (ci := 3) (b := a16) (As := [vJ (mJ M7 a12 ((mI M7 x0 6)).toNatClampNeg)]) (st := [vR x1]) (v := some (vI r15)) (M1 := M15) X (m_X4_find l hq15) (cwV 1 X.2.2.1 gX6_takeMember_X4_find rfl rfl rfl (by decide +kernel) ⟨Nat.le_of_ble_eq_true rfl, Nat.le_of_ble_eq_true rfl⟩) rfl rfl ha16 hT17 (by decide) rfl (Nat.le_of_ble_eq_true rfl) dX6_takeMember_27 ⟨by decide, by decide⟩ ?_
    obtain ⟨a19, ha19, hf⟩ := dr_e hf
    obtain ⟨hT20, hf⟩ := ck_e hf
    obtain ⟨r18, M18, hq18, hf⟩ := bd_e hf
    refine g_callV (ci := 4) (b := a19) (As := [vI r15]) (st := []) (v := some (vI r18)) (M1 := M18) X (m_X5_has l hq18) (cwV 1 X.2.2.1 gX6_takeMember_X5_has rfl rfl rfl (by decide +kernel) ⟨Nat.le_of_ble_eq_true rfl, Nat.le_of_ble_eq_true rfl⟩) rfl rfl ha19 hT20 (by decide) rfl (Nat.le_of_ble_eq_true rfl) dX6_takeMember_30 ⟨by decide, by decide⟩ ?_
    refine g_if_eq (tgt := 42) X dX6_takeMember_33 (by decide) (fun hc => ?_) (fun hc => ?_)
    · have hf := ife_t hc hf
      refine g_sub (lvsub_of _ _ [0, 1] rfl) ?_
      exact t_X6_takeMember_42 X hr _ _ _ _ hf hK
    · have hf := ife_f hc hf
      refine g_aload_n X dX6_takeMember_36 rfl rfl ?_
      refine g_bipush (v := (6 : Int32)) X dX6_takeMember_37 (by decide) ?_
      obtain ⟨hT22, hf⟩ := ck_e hf
      obtain ⟨r21, M21, hq21, hf⟩ := bd_e hf
      refine g_callV (ci := 5) (b := x0) (As := [vI (6 : Int32)]) (st := []) (v := none) (M1 := M21) X (m_X6_noteError l hq21) (cwV 1 X.2.2.1 gX6_takeMember_X6_noteError rfl rfl rfl (by decide +kernel) ⟨Nat.le_of_ble_eq_true rfl, Nat.le_of_ble_eq_true rfl⟩) rfl rfl rfl hT22 (by decide) rfl (Nat.le_of_ble_eq_true rfl) dX6_takeMember_39 ⟨by decide, by decide⟩ ?_
      refine g_sub (lvsub_of _ _ [0, 1] rfl) ?_
      exact t_X6_takeMember_42 X hr _ _ _ _ hf hK
set_option maxHeartbeats 4000000 in
set_option maxRecDepth 100000 in
theorem m_X6_takeMember (l : Launch) {D : va_G} {cy : Nat → ClassId} {B : Nat} {H0 : Heap} {Z : Nat → Nat} {M M1 : gMem} {x0 : Nat} {x1 : Option Nat} {r : Int32} (hf : f_X6_takeMember Z M x0 x1 = some (r, M1)) : Met l yX6_takeMember wsX6_takeMember rX6_takeMember (va_Pc (Value.ref x0 :: List.map gv [vR x1]) (gPre D cy B H0 (gSt Z B H0) M)) (gQ D cy B H0 (some (vI r)) M1) 0 0 (gA B) := by
  refine Met.ofW (cc := cX6_takeMember) (maxL := 2) (ret := (some .boolean)) (by decide) rfl ?_
  intro p e s m args below meth c s₁ Bd hml hv
  obtain ⟨rfl, hW, hKK, hFs⟩ := hv
  have X : gX p s m _ meth c D cy B (gSt Z B H0) RX6 cX6_takeMember wsX6_takeMember 2 := ⟨Bd.exec, Bd.bytes, atoms_spec (ws := wsX6_takeMember) Bd.pre, findClass_of_methodNamed Bd.named, hml, hKK, by rw [hW.1]; exact hW.2.1, Bd.notSynchronized, hFs⟩
  have hr := Bd.returns
  rcases x1 with _ | x1
  · have hl := lv_entry ([.ref x0, .null]) (n := 2) (Nat.le_of_ble_eq_true rfl)
    show W p l e rX6_takeMember s m _ below meth c s.heap [] 0 0 _ (entryFrame m ([.ref x0, .null] : List Value).toArray 2)
    rw [lg_entry_eq]
    generalize (lg_sl ([.ref x0, .null]) ++ List.replicate (2 - (lg_sl ([.ref x0, .null])).length) Slot.unset).toArray = ls at hl ⊢
    have hl : lv_has ls 2 (List.map gq [(0, vR (some x0)), (1, vR none)]) := hl
    exact t_X6_takeMember_0 X hr _ _ _ _ hf rfl s.heap [] ls hW va_S.rf (lv_has_sub hl (lvsub_of _ _ [0, 1] rfl))
  · have hl := lv_entry ([.ref x0, .ref x1]) (n := 2) (Nat.le_of_ble_eq_true rfl)
    show W p l e rX6_takeMember s m _ below meth c s.heap [] 0 0 _ (entryFrame m ([.ref x0, .ref x1] : List Value).toArray 2)
    rw [lg_entry_eq]
    generalize (lg_sl ([.ref x0, .ref x1]) ++ List.replicate (2 - (lg_sl ([.ref x0, .ref x1])).length) Slot.unset).toArray = ls at hl ⊢
    have hl : lv_has ls 2 (List.map gq [(0, vR (some x0)), (1, vR (some x1))]) := hl
    exact t_X6_takeMember_0 X hr _ _ _ _ hf rfl s.heap [] ls hW va_S.rf (lv_has_sub hl (lvsub_of _ _ [0, 1] rfl))
/-! ## TideLots$Reader.groundLine()Z -/
theorem dX6_groundLine_0 : decode cX6_groundLine 0 = .ok (.aload_n 0, 1) := by decide +kernel
theorem dX6_groundLine_1 : decode cX6_groundLine 1 = .ok (.getstatic 94, 3) := by decide +kernel
theorem dX6_groundLine_4 : decode cX6_groundLine 4 = .ok (.invokevirtual 79, 3) := by decide +kernel
theorem dX6_groundLine_7 : decode cX6_groundLine 7 = .ok (.ifCond .eq 14, 3) := by decide +kernel
theorem dX6_groundLine_10 : decode cX6_groundLine 10 = .ok (.aload_n 0, 1) := by decide +kernel
theorem dX6_groundLine_11 : decode cX6_groundLine 11 = .ok (.aload_n 0, 1) := by decide +kernel
theorem dX6_groundLine_12 : decode cX6_groundLine 12 = .ok (.getfield 20, 3) := by decide +kernel
theorem dX6_groundLine_15 : decode cX6_groundLine 15 = .ok (.invokevirtual 97, 3) := by decide +kernel
theorem dX6_groundLine_18 : decode cX6_groundLine 18 = .ok (.ifCond .ne 5, 3) := by decide +kernel
theorem dX6_groundLine_21 : decode cX6_groundLine 21 = .ok (.iconst 0, 1) := by decide +kernel
theorem dX6_groundLine_22 : decode cX6_groundLine 22 = .ok (.ireturn, 1) := by decide +kernel
theorem dX6_groundLine_23 : decode cX6_groundLine 23 = .ok (.aload_n 0, 1) := by decide +kernel
theorem dX6_groundLine_24 : decode cX6_groundLine 24 = .ok (.getfield 34, 3) := by decide +kernel
theorem dX6_groundLine_27 : decode cX6_groundLine 27 = .ok (.invokevirtual 101, 3) := by decide +kernel
theorem dX6_groundLine_30 : decode cX6_groundLine 30 = .ok (.astore_n 1, 1) := by decide +kernel
theorem dX6_groundLine_31 : decode cX6_groundLine 31 = .ok (.aload_n 0, 1) := by decide +kernel
theorem dX6_groundLine_32 : decode cX6_groundLine 32 = .ok (.getstatic 105, 3) := by decide +kernel
theorem dX6_groundLine_35 : decode cX6_groundLine 35 = .ok (.invokevirtual 79, 3) := by decide +kernel
theorem dX6_groundLine_38 : decode cX6_groundLine 38 = .ok (.ifCond .eq 13, 3) := by decide +kernel
theorem dX6_groundLine_41 : decode cX6_groundLine 41 = .ok (.aload_n 0, 1) := by decide +kernel
theorem dX6_groundLine_42 : decode cX6_groundLine 42 = .ok (.iconst 1, 1) := by decide +kernel
theorem dX6_groundLine_43 : decode cX6_groundLine 43 = .ok (.bipush 8, 2) := by decide +kernel
theorem dX6_groundLine_45 : decode cX6_groundLine 45 = .ok (.invokevirtual 108, 3) := by decide +kernel
theorem dX6_groundLine_48 : decode cX6_groundLine 48 = .ok (.ifCond .ne 5, 3) := by decide +kernel
theorem dX6_groundLine_51 : decode cX6_groundLine 51 = .ok (.iconst 0, 1) := by decide +kernel
theorem dX6_groundLine_52 : decode cX6_groundLine 52 = .ok (.ireturn, 1) := by decide +kernel
theorem dX6_groundLine_53 : decode cX6_groundLine 53 = .ok (.aload_n 1, 1) := by decide +kernel
theorem dX6_groundLine_54 : decode cX6_groundLine 54 = .ok (.aload_n 0, 1) := by decide +kernel
theorem dX6_groundLine_55 : decode cX6_groundLine 55 = .ok (.getfield 112, 3) := by decide +kernel
theorem dX6_groundLine_58 : decode cX6_groundLine 58 = .ok (.putfield 115, 3) := by decide +kernel
theorem dX6_groundLine_61 : decode cX6_groundLine 61 = .ok (.aload_n 0, 1) := by decide +kernel
theorem dX6_groundLine_62 : decode cX6_groundLine 62 = .ok (.getstatic 120, 3) := by decide +kernel
theorem dX6_groundLine_65 : decode cX6_groundLine 65 = .ok (.invokevirtual 79, 3) := by decide +kernel
theorem dX6_groundLine_68 : decode cX6_groundLine 68 = .ok (.ifCond .eq 12, 3) := by decide +kernel
theorem dX6_groundLine_71 : decode cX6_groundLine 71 = .ok (.aload_n 0, 1) := by decide +kernel
theorem dX6_groundLine_72 : decode cX6_groundLine 72 = .ok (.iconst 1, 1) := by decide +kernel
theorem dX6_groundLine_73 : decode cX6_groundLine 73 = .ok (.aload_n 1, 1) := by decide +kernel
theorem dX6_groundLine_74 : decode cX6_groundLine 74 = .ok (.invokevirtual 123, 3) := by decide +kernel
theorem dX6_groundLine_77 : decode cX6_groundLine 77 = .ok (.ifCond .ne 5, 3) := by decide +kernel
theorem dX6_groundLine_80 : decode cX6_groundLine 80 = .ok (.iconst 0, 1) := by decide +kernel
theorem dX6_groundLine_81 : decode cX6_groundLine 81 = .ok (.ireturn, 1) := by decide +kernel
theorem dX6_groundLine_82 : decode cX6_groundLine 82 = .ok (.iconst 2, 1) := by decide +kernel
theorem dX6_groundLine_83 : decode cX6_groundLine 83 = .ok (.istore_n 2, 1) := by decide +kernel
theorem dX6_groundLine_84 : decode cX6_groundLine 84 = .ok (.iload_n 2, 1) := by decide +kernel
theorem dX6_groundLine_85 : decode cX6_groundLine 85 = .ok (.sipush 400, 3) := by decide +kernel
theorem dX6_groundLine_88 : decode cX6_groundLine 88 = .ok (.if_icmp .gt 30, 3) := by decide +kernel
theorem dX6_groundLine_91 : decode cX6_groundLine 91 = .ok (.aload_n 0, 1) := by decide +kernel
theorem dX6_groundLine_92 : decode cX6_groundLine 92 = .ok (.getstatic 127, 3) := by decide +kernel
theorem dX6_groundLine_95 : decode cX6_groundLine 95 = .ok (.invokevirtual 79, 3) := by decide +kernel
theorem dX6_groundLine_98 : decode cX6_groundLine 98 = .ok (.ifCond .eq 20, 3) := by decide +kernel
theorem dX6_groundLine_101 : decode cX6_groundLine 101 = .ok (.aload_n 0, 1) := by decide +kernel
theorem dX6_groundLine_102 : decode cX6_groundLine 102 = .ok (.iload_n 2, 1) := by decide +kernel
theorem dX6_groundLine_103 : decode cX6_groundLine 103 = .ok (.aload_n 1, 1) := by decide +kernel
theorem dX6_groundLine_104 : decode cX6_groundLine 104 = .ok (.invokevirtual 123, 3) := by decide +kernel
theorem dX6_groundLine_107 : decode cX6_groundLine 107 = .ok (.ifCond .ne 5, 3) := by decide +kernel
theorem dX6_groundLine_110 : decode cX6_groundLine 110 = .ok (.iconst 0, 1) := by decide +kernel
theorem dX6_groundLine_111 : decode cX6_groundLine 111 = .ok (.ireturn, 1) := by decide +kernel
theorem dX6_groundLine_112 : decode cX6_groundLine 112 = .ok (.iinc 2 1, 3) := by decide +kernel
theorem dX6_groundLine_115 : decode cX6_groundLine 115 = .ok (.goto (-31), 3) := by decide +kernel
theorem dX6_groundLine_118 : decode cX6_groundLine 118 = .ok (.iconst 1, 1) := by decide +kernel
theorem dX6_groundLine_119 : decode cX6_groundLine 119 = .ok (.ireturn, 1) := by decide +kernel
set_option maxRecDepth 20000 in
theorem ggX6_groundLine_X6_take : GoodIn wsX6_groundLine wsX6_take := goodIn_r _ [13, 14, 15, 16, 76, 77, 78, 79, 80, 81, 82, 83, 84, 89, 90, 91, 92, 93, 94] (by decide +kernel) (by decide +kernel)
set_option maxRecDepth 20000 in
theorem gX6_groundLine_X6_take : GoodIn wsX6_groundLine (wsV RX6 79 RX6 yX6_take wsX6_take) := goodIn_app (goodIn_of _ (by decide +kernel)) ggX6_groundLine_X6_take
set_option maxRecDepth 20000 in
theorem ggX6_groundLine_X6_takeFish : GoodIn wsX6_groundLine wsX6_takeFish := goodIn_2 24 (goodIn_r _ [74, 70, 75, 5, 23, 24, 25, 12, 26, 15, 16, 14, 34, 35, 36, 37, 38, 39, 40, 66, 67, 68, 69, 22] (by decide +kernel) (by decide +kernel)) (goodIn_r _ [9, 10, 11, 13, 85, 86, 87, 88, 76, 77, 78, 79, 80, 81, 82, 83, 84, 89, 90, 91, 92, 93, 94] (by decide +kernel) (by decide +kernel))
set_option maxRecDepth 20000 in
theorem gX6_groundLine_X6_takeFish : GoodIn wsX6_groundLine (wsV RX6 123 RX6 yX6_takeFish wsX6_takeFish) := goodIn_app (goodIn_of _ (by decide +kernel)) ggX6_groundLine_X6_takeFish
set_option maxRecDepth 20000 in
theorem ggX6_groundLine_X6_takeNew : GoodIn wsX6_groundLine wsX6_takeNew := goodIn_2 24 (goodIn_r _ [20, 21, 15, 22, 14, 23, 24, 25, 12, 26, 16, 27, 28, 29, 30, 31, 32, 33, 34, 35, 36, 37, 38, 39] (by decide +kernel) (by decide +kernel)) (goodIn_2 24 (goodIn_r _ [40, 41, 42, 43, 44, 9, 10, 11, 13, 76, 77, 78, 79, 80, 81, 82, 83, 84, 89, 90, 91, 92, 93, 94] (by decide +kernel) (by decide +kernel)) (goodIn_r _ [95, 96] (by decide +kernel) (by decide +kernel)))
set_option maxRecDepth 20000 in
theorem gX6_groundLine_X6_takeNew : GoodIn wsX6_groundLine (wsV RX6 97 RX6 yX6_takeNew wsX6_takeNew) := goodIn_app (goodIn_of _ (by decide +kernel)) ggX6_groundLine_X6_takeNew
set_option maxRecDepth 20000 in
theorem ggX6_groundLine_X7_nextGround : GoodIn wsX6_groundLine wsX7_nextGround := goodIn_r _ [49, 50, 51, 52, 53, 54, 55, 56, 57, 58, 59, 60, 61, 62, 63, 64, 65, 97, 98, 99, 100, 101, 102, 103, 104, 105, 106, 107, 108, 109, 110, 111, 112, 113, 85, 86, 87, 88] (by decide +kernel) (by decide +kernel)
set_option maxRecDepth 20000 in
theorem gX6_groundLine_X7_nextGround : GoodIn wsX6_groundLine (wsV RX6 101 RX7 yX7_nextGround wsX7_nextGround) := goodIn_app (goodIn_of _ (by decide +kernel)) ggX6_groundLine_X7_nextGround
set_option maxRecDepth 20000 in
theorem ggX6_groundLine_X6_takeNumber : GoodIn wsX6_groundLine wsX6_takeNumber := goodIn_r _ [69, 70, 15, 22, 14, 5, 23, 24, 25, 12, 26, 16, 34, 35, 36, 37, 38, 39, 40, 9, 10, 11, 13, 76, 77, 78, 79, 80, 81, 82, 83, 84, 89, 90, 91, 92, 93, 94] (by decide +kernel) (by decide +kernel)
set_option maxRecDepth 20000 in
theorem gX6_groundLine_X6_takeNumber : GoodIn wsX6_groundLine (wsV RX6 108 RX6 yX6_takeNumber wsX6_takeNumber) := goodIn_app (goodIn_of _ (by decide +kernel)) ggX6_groundLine_X6_takeNumber
theorem k_X6_groundLine_f127 : Cond.fieldLink RX6 127 "TideLots$Sign" "COMMA" "LTideLots$Sign;" ∈ wsX6_groundLine := by decide +kernel
theorem k_X6_groundLine_f94 : Cond.fieldLink RX6 94 "TideLots$Sign" "GROUND" "LTideLots$Sign;" ∈ wsX6_groundLine := by decide +kernel
theorem k_X6_groundLine_f20 : Cond.fieldLink RX6 20 "TideLots$Reader" "groundNames" "LTideLots$Names;" ∈ wsX6_groundLine := by decide +kernel
theorem i_X6_groundLine_X6 : ∀ w ∈ u_ws RX6 TX6 9, w ∈ wsX6_groundLine := by decide +kernel
theorem k_X6_groundLine_f34 : Cond.fieldLink RX6 34 "TideLots$Reader" "built" "LTideLots$Shore;" ∈ wsX6_groundLine := by decide +kernel
theorem k_X6_groundLine_f105 : Cond.fieldLink RX6 105 "TideLots$Sign" "ROOM" "LTideLots$Sign;" ∈ wsX6_groundLine := by decide +kernel
theorem k_X6_groundLine_f112 : Cond.fieldLink RX6 112 "TideLots$Reader" "number" "I" ∈ wsX6_groundLine := by decide +kernel
theorem k_X6_groundLine_f115 : Cond.fieldLink RX6 115 "TideLots$Ground" "room" "I" ∈ wsX6_groundLine := by decide +kernel
theorem i_X6_groundLine_X3 : ∀ w ∈ u_ws RX3 TX3 4, w ∈ wsX6_groundLine := by decide +kernel
theorem k_X6_groundLine_f120 : Cond.fieldLink RX6 120 "TideLots$Sign" "FISH" "LTideLots$Sign;" ∈ wsX6_groundLine := by decide +kernel
abbrev rX6_groundLine : Room := { frames := 3, cells := 0, slots := 0, locals := 65 }
noncomputable def b_X6_groundLine_118 (Z : Nat → Nat) (M : gMem)  : Option (Int32 × gMem) :=
  some ((1 : Int32), M)
noncomputable def bb_X6_groundLine_84 (Z : Nat → Nat) (M : gMem) (x0 : Nat) (x1 : Option Nat) (x2 : Int32) : Option ((gMem × Int32) ⊕ (Int32 × gMem)) :=
  (if (400 : Int32) < x2 then oI (b_X6_groundLine_118 Z M ) else ck (mT M x0 = 6) <| bd (f_X6_take M x0 ((some (Z 30)))) fun r2 M2 => (if r2 = 0 then oI (b_X6_groundLine_118 Z M2 ) else ck (mT M2 x0 = 6) <| bd (f_X6_takeFish Z M2 x0 x2 x1) fun r5 M5 => (if r5 = 0 then oI (some ((0 : Int32), M5)) else some (.inl (M5, (x2 + (1 : Int32)))))))
noncomputable def lp_X6_groundLine_84 (Z : Nat → Nat) (M : gMem) (x0 : Nat) (x1 : Option Nat) (x2 : Int32) : Option (Int32 × gMem) :=
  lp (fun (q : gMem × Int32) => bb_X6_groundLine_84 Z q.1 x0 x1 q.2) (M, x2)
noncomputable def b_X6_groundLine_80 (Z : Nat → Nat) (M : gMem)  : Option (Int32 × gMem) :=
  some ((0 : Int32), M)
noncomputable def b_X6_groundLine_51 (Z : Nat → Nat) (M : gMem)  : Option (Int32 × gMem) :=
  some ((0 : Int32), M)
noncomputable def b_X6_groundLine_21 (Z : Nat → Nat) (M : gMem)  : Option (Int32 × gMem) :=
  some ((0 : Int32), M)
noncomputable def b_X6_groundLine_0 (Z : Nat → Nat) (M : gMem) (x0 : Nat) : Option (Int32 × gMem) :=
  ck (mT M x0 = 6) <| bd (f_X6_take M x0 ((some (Z 0)))) fun r8 M8 => (if r8 = 0 then b_X6_groundLine_21 Z M8  else ck (mT M8 x0 = 6) <| bd (f_X6_takeNew Z M8 x0 ((mR M8 x0 3))) fun r11 M11 => (if r11 = 0 then b_X6_groundLine_21 Z M11  else ck (mT M11 x0 = 6) <| dr ((mR M11 x0 2)) fun a14 => ck (mT M11 a14 = 7) <| bd (f_X7_nextGround M11 a14) fun r13 M13 => ck (mT M13 x0 = 6) <| bd (f_X6_take M13 x0 ((some (Z 1)))) fun r16 M16 => (if r16 = 0 then b_X6_groundLine_51 Z M16  else ck (mT M16 x0 = 6) <| bd (f_X6_takeNumber Z M16 x0 ((1 : Int32)) ((8 : Int32))) fun r18 M18 => (if r18 = 0 then b_X6_groundLine_51 Z M18  else ck (mT M18 x0 = 6) <| dr r13 fun a21 => ck (mT M18 a21 = 3) <| lw (wI M18 a21 0 ((mI M18 x0 8))) fun M23 => bd (f_X6_take M23 x0 ((some (Z 2)))) fun r26 M26 => (if r26 = 0 then b_X6_groundLine_80 Z M26  else ck (mT M26 x0 = 6) <| bd (f_X6_takeFish Z M26 x0 ((1 : Int32)) r13) fun r27 M27 => (if r27 = 0 then b_X6_groundLine_80 Z M27  else lp_X6_groundLine_84 Z M27 x0 r13 ((2 : Int32))))))))
noncomputable def f_X6_groundLine (Z : Nat → Nat) (M : gMem) (x0 : Nat) : Option (Int32 × gMem) :=
  b_X6_groundLine_0 Z M x0
set_option maxHeartbeats 4000000 in
set_option maxRecDepth 100000 in
theorem t_X6_groundLine_118 (X : gX p s m args meth c D cy B (gSt Z B H0) RX6 cX6_groundLine wsX6_groundLine 3) (hr : meth.sig.returnType = (some .boolean)) {Q : State → Prop} : ∀ (M : gMem)  (z : Int32 × gMem), b_X6_groundLine_118 Z M  = some z → (fun (r : Int32 × gMem) => Q = gMQ below D cy B H0 args s 0 0 (some (vI r.1)) r.2) z → gGo p l e rX6_groundLine s m args below meth c D cy B H0 3 0 0 Q 118 [] [] M := by
  intro M  z hf hK
  unfold b_X6_groundLine_118 at hf
  refine g_iconst (v := (1 : Int32)) X dX6_groundLine_118 (by decide) ?_
  cases hf
  refine g_eqQ hK ?_
  exact g_zret X hr (gnb (Or.inr rfl)) dX6_groundLine_119
set_option maxHeartbeats 4000000 in
set_option maxRecDepth 100000 in
theorem tb_X6_groundLine_84 (X : gX p s m args meth c D cy B (gSt Z B H0) RX6 cX6_groundLine wsX6_groundLine 3) (hr : meth.sig.returnType = (some .boolean)) {Q : State → Prop} : ∀ (M : gMem) (x0 : Nat) (x1 : Option Nat) (x2 : Int32) (z : (gMem × Int32) ⊕ (Int32 × gMem)), bb_X6_groundLine_84 Z M x0 x1 x2 = some z → (Sum.elim (fun (q : gMem × Int32) => gGo p l e rX6_groundLine s m args below meth c D cy B H0 3 0 0 Q 84 [(0, vR (some x0)), (1, vR x1), (2, vI q.2)] [] q.1) (fun (r : Int32 × gMem) => Q = gMQ below D cy B H0 args s 0 0 (some (vI r.1)) r.2)) z → gGo p l e rX6_groundLine s m args below meth c D cy B H0 3 0 0 Q 84 [(0, vR (some x0)), (1, vR x1), (2, vI x2)] [] M := by
  intro M x0 x1 x2 z hf hK
  unfold bb_X6_groundLine_84 at hf
  refine g_iload_n X dX6_groundLine_84 rfl rfl ?_
  refine g_sipush (v := (400 : Int32)) X dX6_groundLine_85 (by decide) ?_
  refine g_icmp_gt (tgt := 118) X dX6_groundLine_88 (by decide) (fun hc => ?_) (fun hc => ?_)
  · have hf := ife_t hc hf
    obtain ⟨w1, hw1, hz1⟩ := oI_e hf
    subst hz1
    have hf := hw1
    refine g_sub (lvsub_of _ _ [] rfl) ?_
    exact t_X6_groundLine_118 X hr _  _ hf hK
  · have hf := ife_f hc hf
    refine g_aload_n X dX6_groundLine_91 rfl rfl ?_
    refine g_gets (w := vR (some (Z 30))) X (gSt_E X 30 (by decide)) k_X6_groundLine_f127 rfl dX6_groundLine_92 ?_
    obtain ⟨hT3, hf⟩ := ck_e hf
    obtain ⟨r2, M2, hq2, hf⟩ := bd_e hf
    refine g_callV (ci := 5) (b := x0) (As := [vR (some (Z 30))]) (st := []) (v := some (vI r2)) (M1 := M2) X (m_X6_take l hq2) (cwV 1 X.2.2.1 gX6_groundLine_X6_take rfl rfl rfl (by decide +kernel) ⟨Nat.le_of_ble_eq_true rfl, Nat.le_of_ble_eq_true rfl⟩) rfl rfl rfl hT3 (by decide) rfl (Nat.le_of_ble_eq_true rfl) dX6_groundLine_95 ⟨by decide, by decide⟩ ?_
    refine g_if_eq (tgt := 118) X dX6_groundLine_98 (by decide) (fun hc => ?_) (fun hc => ?_)
    · have hf := ife_t hc hf
      obtain ⟨w4, hw4, hz4⟩ := oI_e hf
      subst hz4
      have hf := hw4
      refine g_sub (lvsub_of _ _ [] rfl) ?_
      exact t_X6_groundLine_118 X hr _  _ hf hK
    · have hf := ife_f hc hf
      refine g_aload_n X dX6_groundLine_101 rfl rfl ?_
      refine g_iload_n X dX6_groundLine_102 rfl rfl ?_
      refine g_aload_n X dX6_groundLine_103 rfl rfl ?_
      obtain ⟨hT6, hf⟩ := ck_e hf
      obtain ⟨r5, M5, hq5, hf⟩ := bd_e hf
      refine g_callV (ci := 5) (b := x0) (As := [vI x2, vR x1]) (st := []) (v := some (vI r5)) (M1 := M5) X (m_X6_takeFish l hq5) (cwV 2 X.2.2.1 gX6_groundLine_X6_takeFish rfl rfl rfl (by decide +kernel) ⟨Nat.le_of_ble_eq_true rfl, Nat.le_of_ble_eq_true rfl⟩) rfl rfl rfl hT6 (by decide) rfl (Nat.le_of_ble_eq_true rfl) dX6_groundLine_104 ⟨by decide, by decide⟩ ?_
      refine g_if_ne (tgt := 112) X dX6_groundLine_107 (by decide) (fun hc => ?_) (fun hc => ?_)
      · have hf := ife_f hc hf
        refine g_iinc (v := (1 : Int32)) (lv' := [(2, vI (x2 + (1 : Int32))), (0, vR (some x0)), (1, vR x1)]) X dX6_groundLine_112 rfl (by decide) (by decide) rfl ?_
        refine g_goto (tgt := 84) X dX6_groundLine_115 (by decide) ?_
        cases hf
        refine g_sub (lvsub_of _ _ [1, 2, 0] rfl) ?_
        exact hK
      · have hf := ife_t hc hf
        refine g_iconst (v := (0 : Int32)) X dX6_groundLine_110 (by decide) ?_
        obtain ⟨w7, hw7, hz7⟩ := oI_e hf
        subst hz7
        have hf := hw7
        cases hf
        refine g_eqQ hK ?_
        exact g_zret X hr (gnb (Or.inl rfl)) dX6_groundLine_111
set_option maxHeartbeats 4000000 in
set_option maxRecDepth 100000 in
theorem tl_X6_groundLine_84 (X : gX p s m args meth c D cy B (gSt Z B H0) RX6 cX6_groundLine wsX6_groundLine 3) (hr : meth.sig.returnType = (some .boolean)) {Q : State → Prop} : ∀ (M : gMem) (x0 : Nat) (x1 : Option Nat) (x2 : Int32) (z : Int32 × gMem), lp_X6_groundLine_84 Z M x0 x1 x2 = some z → (fun (r : Int32 × gMem) => Q = gMQ below D cy B H0 args s 0 0 (some (vI r.1)) r.2) z → gGo p l e rX6_groundLine s m args below meth c D cy B H0 3 0 0 Q 84 [(0, vR (some x0)), (1, vR x1), (2, vI x2)] [] M := by
  intro M x0 x1 x2 z hf hK
  refine lp_ind (P := (fun (q : gMem × Int32) (z : Int32 × gMem) => (fun (r : Int32 × gMem) => Q = gMQ below D cy B H0 args s 0 0 (some (vI r.1)) r.2) z → gGo p l e rX6_groundLine s m args below meth c D cy B H0 3 0 0 Q 84 [(0, vR (some x0)), (1, vR x1), (2, vI q.2)] [] q.1)) (fun q z hq => ?_) _ _ hf hK
  intro hK
  obtain ⟨w, hw, hm⟩ := hq
  refine tb_X6_groundLine_84 X hr _ _ _ _ w hw ?_
  cases w with
  | inl a => exact hm hK
  | inr b => cases hm; exact hK
set_option maxHeartbeats 4000000 in
set_option maxRecDepth 100000 in
theorem t_X6_groundLine_80 (X : gX p s m args meth c D cy B (gSt Z B H0) RX6 cX6_groundLine wsX6_groundLine 3) (hr : meth.sig.returnType = (some .boolean)) {Q : State → Prop} : ∀ (M : gMem)  (z : Int32 × gMem), b_X6_groundLine_80 Z M  = some z → (fun (r : Int32 × gMem) => Q = gMQ below D cy B H0 args s 0 0 (some (vI r.1)) r.2) z → gGo p l e rX6_groundLine s m args below meth c D cy B H0 3 0 0 Q 80 [] [] M := by
  intro M  z hf hK
  unfold b_X6_groundLine_80 at hf
  refine g_iconst (v := (0 : Int32)) X dX6_groundLine_80 (by decide) ?_
  cases hf
  refine g_eqQ hK ?_
  exact g_zret X hr (gnb (Or.inl rfl)) dX6_groundLine_81
set_option maxHeartbeats 4000000 in
set_option maxRecDepth 100000 in
theorem t_X6_groundLine_51 (X : gX p s m args meth c D cy B (gSt Z B H0) RX6 cX6_groundLine wsX6_groundLine 3) (hr : meth.sig.returnType = (some .boolean)) {Q : State → Prop} : ∀ (M : gMem)  (z : Int32 × gMem), b_X6_groundLine_51 Z M  = some z → (fun (r : Int32 × gMem) => Q = gMQ below D cy B H0 args s 0 0 (some (vI r.1)) r.2) z → gGo p l e rX6_groundLine s m args below meth c D cy B H0 3 0 0 Q 51 [] [] M := by
  intro M  z hf hK
  unfold b_X6_groundLine_51 at hf
  refine g_iconst (v := (0 : Int32)) X dX6_groundLine_51 (by decide) ?_
  cases hf
  refine g_eqQ hK ?_
  exact g_zret X hr (gnb (Or.inl rfl)) dX6_groundLine_52
set_option maxHeartbeats 4000000 in
set_option maxRecDepth 100000 in
theorem t_X6_groundLine_21 (X : gX p s m args meth c D cy B (gSt Z B H0) RX6 cX6_groundLine wsX6_groundLine 3) (hr : meth.sig.returnType = (some .boolean)) {Q : State → Prop} : ∀ (M : gMem)  (z : Int32 × gMem), b_X6_groundLine_21 Z M  = some z → (fun (r : Int32 × gMem) => Q = gMQ below D cy B H0 args s 0 0 (some (vI r.1)) r.2) z → gGo p l e rX6_groundLine s m args below meth c D cy B H0 3 0 0 Q 21 [] [] M := by
  intro M  z hf hK
  unfold b_X6_groundLine_21 at hf
  refine g_iconst (v := (0 : Int32)) X dX6_groundLine_21 (by decide) ?_
  cases hf
  refine g_eqQ hK ?_
  exact g_zret X hr (gnb (Or.inl rfl)) dX6_groundLine_22
set_option maxHeartbeats 4000000 in
set_option maxRecDepth 100000 in
theorem t_X6_groundLine_0 (X : gX p s m args meth c D cy B (gSt Z B H0) RX6 cX6_groundLine wsX6_groundLine 3) (hr : meth.sig.returnType = (some .boolean)) {Q : State → Prop} : ∀ (M : gMem) (x0 : Nat) (z : Int32 × gMem), b_X6_groundLine_0 Z M x0 = some z → (fun (r : Int32 × gMem) => Q = gMQ below D cy B H0 args s 0 0 (some (vI r.1)) r.2) z → gGo p l e rX6_groundLine s m args below meth c D cy B H0 3 0 0 Q 0 [(0, vR (some x0))] [] M := by
  intro M x0 z hf hK
  unfold b_X6_groundLine_0 at hf
  refine g_aload_n X dX6_groundLine_0 rfl rfl ?_
  refine g_gets (w := vR (some (Z 0))) X (gSt_E X 0 (by decide)) k_X6_groundLine_f94 rfl dX6_groundLine_1 ?_
  obtain ⟨hT9, hf⟩ := ck_e hf
  obtain ⟨r8, M8, hq8, hf⟩ := bd_e hf
  refine g_callV (ci := 5) (b := x0) (As := [vR (some (Z 0))]) (st := []) (v := some (vI r8)) (M1 := M8) X (m_X6_take l hq8) (cwV 1 X.2.2.1 gX6_groundLine_X6_take rfl rfl rfl (by decide +kernel) ⟨Nat.le_of_ble_eq_true rfl, Nat.le_of_ble_eq_true rfl⟩) rfl rfl rfl hT9 (by decide) rfl (Nat.le_of_ble_eq_true rfl) dX6_groundLine_4 ⟨by decide, by decide⟩ ?_
  refine g_if_eq (tgt := 21) X dX6_groundLine_7 (by decide) (fun hc => ?_) (fun hc => ?_)
  · have hf := ife_t hc hf
    refine g_sub (lvsub_of _ _ [] rfl) ?_
    exact t_X6_groundLine_21 X hr _  _ hf hK
  · have hf := ife_f hc hf
    refine g_aload_n X dX6_groundLine_10 rfl rfl ?_
    refine g_aload_n X dX6_groundLine_11 rfl rfl ?_
    obtain ⟨hT10, hf⟩ := ck_e hf
    refine g_get (ci := 5) (v := vR (mR M8 x0 3)) 3 X cdX6 i_X6_groundLine_X6 (by decide) k_X6_groundLine_f20 rfl dX6_groundLine_12 rfl hT10 rfl ?_
    obtain ⟨r11, M11, hq11, hf⟩ := bd_e hf
    refine g_callV (ci := 5) (b := x0) (As := [vR (mR M8 x0 3)]) (st := []) (v := some (vI r11)) (M1 := M11) X (m_X6_takeNew l hq11) (cwV 1 X.2.2.1 gX6_groundLine_X6_takeNew rfl rfl rfl (by decide +kernel) ⟨Nat.le_of_ble_eq_true rfl, Nat.le_of_ble_eq_true rfl⟩) rfl rfl rfl hT10 (by decide) rfl (Nat.le_of_ble_eq_true rfl) dX6_groundLine_15 ⟨by decide, by decide⟩ ?_
    refine g_if_ne (tgt := 23) X dX6_groundLine_18 (by decide) (fun hc => ?_) (fun hc => ?_)
    · have hf := ife_f hc hf
      refine g_aload_n X dX6_groundLine_23 rfl rfl ?_
      obtain ⟨hT12, hf⟩ := ck_e hf
      refine g_get (ci := 5) (v := vR (mR M11 x0 2)) 2 X cdX6 i_X6_groundLine_X6 (by decide) k_X6_groundLine_f34 rfl dX6_groundLine_24 rfl hT12 rfl ?_
      obtain ⟨a14, ha14, hf⟩ := dr_e hf
      obtain ⟨hT15, hf⟩ := ck_e hf
      obtain ⟨r13, M13, hq13, hf⟩ := bd_e hf
      refine g_callV (ci := 6) (b := a14) (As := []) (st := []) (v := some (vR r13)) (M1 := M13) X (m_X7_nextGround l hq13) (cwV 0 X.2.2.1 gX6_groundLine_X7_nextGround rfl rfl rfl (by decide +kernel) ⟨Nat.le_of_ble_eq_true rfl, Nat.le_of_ble_eq_true rfl⟩) rfl rfl ha14 hT15 (by decide) rfl (Nat.le_of_ble_eq_true rfl) dX6_groundLine_27 ⟨by decide, by decide⟩ ?_
      refine g_astore_n (lv' := [(1, vR r13), (0, vR (some x0))]) X dX6_groundLine_30 rfl (by decide) rfl ?_
      refine g_aload_n X dX6_groundLine_31 rfl rfl ?_
      refine g_gets (w := vR (some (Z 1))) X (gSt_E X 1 (by decide)) k_X6_groundLine_f105 rfl dX6_groundLine_32 ?_
      obtain ⟨hT17, hf⟩ := ck_e hf
      obtain ⟨r16, M16, hq16, hf⟩ := bd_e hf
      refine g_callV (ci := 5) (b := x0) (As := [vR (some (Z 1))]) (st := []) (v := some (vI r16)) (M1 := M16) X (m_X6_take l hq16) (cwV 1 X.2.2.1 gX6_groundLine_X6_take rfl rfl rfl (by decide +kernel) ⟨Nat.le_of_ble_eq_true rfl, Nat.le_of_ble_eq_true rfl⟩) rfl rfl rfl hT17 (by decide) rfl (Nat.le_of_ble_eq_true rfl) dX6_groundLine_35 ⟨by decide, by decide⟩ ?_
      refine g_if_eq (tgt := 51) X dX6_groundLine_38 (by decide) (fun hc => ?_) (fun hc => ?_)
      · have hf := ife_t hc hf
        refine g_sub (lvsub_of _ _ [] rfl) ?_
        exact t_X6_groundLine_51 X hr _  _ hf hK
      · have hf := ife_f hc hf
        refine g_aload_n X dX6_groundLine_41 rfl rfl ?_
        refine g_iconst (v := (1 : Int32)) X dX6_groundLine_42 (by decide) ?_
        refine g_bipush (v := (8 : Int32)) X dX6_groundLine_43 (by decide) ?_
        obtain ⟨hT19, hf⟩ := ck_e hf
        obtain ⟨r18, M18, hq18, hf⟩ := bd_e hf
        refine g_callV (ci := 5) (b := x0) (As := [vI (1 : Int32), vI (8 : Int32)]) (st := []) (v := some (vI r18)) (M1 := M18) X (m_X6_takeNumber l hq18) (cwV 2 X.2.2.1 gX6_groundLine_X6_takeNumber rfl rfl rfl (by decide +kernel) ⟨Nat.le_of_ble_eq_true rfl, Nat.le_of_ble_eq_true rfl⟩) rfl rfl rfl hT19 (by decide) rfl (Nat.le_of_ble_eq_true rfl) dX6_groundLine_45 ⟨by decide, by decide⟩ ?_
        refine g_if_ne (tgt := 53) X dX6_groundLine_48 (by decide) (fun hc => ?_) (fun hc => ?_)
        · have hf := ife_f hc hf
          refine g_aload_n X dX6_groundLine_53 rfl rfl ?_
          refine g_aload_n X dX6_groundLine_54 rfl rfl ?_
          obtain ⟨hT20, hf⟩ := ck_e hf
          refine g_get (ci := 5) (v := vI (mI M18 x0 8)) 8 X cdX6 i_X6_groundLine_X6 (by decide) k_X6_groundLine_f112 rfl dX6_groundLine_55 rfl hT20 rfl ?_
          obtain ⟨a21, ha21, hf⟩ := dr_e hf
          obtain ⟨hT22, hf⟩ := ck_e hf
          refine g_putI (ci := 2) 0 X cdX3 i_X6_groundLine_X3 (by decide) k_X6_groundLine_f115 rfl dX6_groundLine_58 ha21 hT22 (Or.inl rfl) rfl rfl rfl ?_
          obtain ⟨M23, hM23, hf⟩ := lw_e hf
          rw [← hM23]
          have hT24 : mT M23 x0 = 6 := by rw [hM23]; exact hT20
          have hT25 : mT M23 a21 = 3 := by rw [hM23]; exact hT22
          refine g_aload_n X dX6_groundLine_61 rfl rfl ?_
          refine g_gets (w := vR (some (Z 2))) X (gSt_E X 2 (by decide)) k_X6_groundLine_f120 rfl dX6_groundLine_62 ?_
          obtain ⟨r26, M26, hq26, hf⟩ := bd_e hf
          refine g_callV (ci := 5) (b := x0) (As := [vR (some (Z 2))]) (st := []) (v := some (vI r26)) (M1 := M26) X (m_X6_take l hq26) (cwV 1 X.2.2.1 gX6_groundLine_X6_take rfl rfl rfl (by decide +kernel) ⟨Nat.le_of_ble_eq_true rfl, Nat.le_of_ble_eq_true rfl⟩) rfl rfl rfl hT24 (by decide) rfl (Nat.le_of_ble_eq_true rfl) dX6_groundLine_65 ⟨by decide, by decide⟩ ?_
          refine g_if_eq (tgt := 80) X dX6_groundLine_68 (by decide) (fun hc => ?_) (fun hc => ?_)
          · have hf := ife_t hc hf
            refine g_sub (lvsub_of _ _ [] rfl) ?_
            exact t_X6_groundLine_80 X hr _  _ hf hK
          · have hf := ife_f hc hf
            refine g_aload_n X dX6_groundLine_71 rfl rfl ?_
            refine g_iconst (v := (1 : Int32)) X dX6_groundLine_72 (by decide) ?_
            refine g_aload_n X dX6_groundLine_73 rfl rfl ?_
            obtain ⟨hT28, hf⟩ := ck_e hf
            obtain ⟨r27, M27, hq27, hf⟩ := bd_e hf
            refine g_callV (ci := 5) (b := x0) (As := [vI (1 : Int32), vR r13]) (st := []) (v := some (vI r27)) (M1 := M27) X (m_X6_takeFish l hq27) (cwV 2 X.2.2.1 gX6_groundLine_X6_takeFish rfl rfl rfl (by decide +kernel) ⟨Nat.le_of_ble_eq_true rfl, Nat.le_of_ble_eq_true rfl⟩) rfl rfl rfl hT28 (by decide) rfl (Nat.le_of_ble_eq_true rfl) dX6_groundLine_74 ⟨by decide, by decide⟩ ?_
            refine g_if_ne (tgt := 82) X dX6_groundLine_77 (by decide) (fun hc => ?_) (fun hc => ?_)
            · have hf := ife_f hc hf
              refine g_iconst (v := (2 : Int32)) X dX6_groundLine_82 (by decide) ?_
              refine g_istore_n (lv' := [(2, vI (2 : Int32)), (1, vR r13), (0, vR (some x0))]) X dX6_groundLine_83 rfl (by decide) rfl ?_
              refine g_sub (lvsub_of _ _ [2, 1, 0] rfl) ?_
              exact tl_X6_groundLine_84 X hr _ _ _ _ _ hf hK
            · have hf := ife_t hc hf
              refine g_sub (lvsub_of _ _ [] rfl) ?_
              exact t_X6_groundLine_80 X hr _  _ hf hK
        · have hf := ife_t hc hf
          refine g_sub (lvsub_of _ _ [] rfl) ?_
          exact t_X6_groundLine_51 X hr _  _ hf hK
    · have hf := ife_t hc hf
      refine g_sub (lvsub_of _ _ [] rfl) ?_
      exact t_X6_groundLine_21 X hr _  _ hf hK
set_option maxHeartbeats 4000000 in
set_option maxRecDepth 100000 in
theorem m_X6_groundLine (l : Launch) {D : va_G} {cy : Nat → ClassId} {B : Nat} {H0 : Heap} {Z : Nat → Nat} {M M1 : gMem} {x0 : Nat} {r : Int32} (hf : f_X6_groundLine Z M x0 = some (r, M1)) : Met l yX6_groundLine wsX6_groundLine rX6_groundLine (va_Pc (Value.ref x0 :: List.map gv []) (gPre D cy B H0 (gSt Z B H0) M)) (gQ D cy B H0 (some (vI r)) M1) 0 0 (gA B) := by
  refine Met.ofW (cc := cX6_groundLine) (maxL := 3) (ret := (some .boolean)) (by decide) rfl ?_
  intro p e s m args below meth c s₁ Bd hml hv
  obtain ⟨rfl, hW, hKK, hFs⟩ := hv
  have X : gX p s m _ meth c D cy B (gSt Z B H0) RX6 cX6_groundLine wsX6_groundLine 3 := ⟨Bd.exec, Bd.bytes, atoms_spec (ws := wsX6_groundLine) Bd.pre, findClass_of_methodNamed Bd.named, hml, hKK, by rw [hW.1]; exact hW.2.1, Bd.notSynchronized, hFs⟩
  have hr := Bd.returns
  have hl := lv_entry ([.ref x0]) (n := 3) (Nat.le_of_ble_eq_true rfl)
  show W p l e rX6_groundLine s m _ below meth c s.heap [] 0 0 _ (entryFrame m ([.ref x0] : List Value).toArray 3)
  rw [lg_entry_eq]
  generalize (lg_sl ([.ref x0]) ++ List.replicate (3 - (lg_sl ([.ref x0])).length) Slot.unset).toArray = ls at hl ⊢
  have hl : lv_has ls 3 (List.map gq [(0, vR (some x0))]) := hl
  exact t_X6_groundLine_0 X hr _ _ _ hf rfl s.heap [] ls hW va_S.rf (lv_has_sub hl (lvsub_of _ _ [0] rfl))
/-! ## TideLots$Reader.fisherLine()Z -/
theorem dX6_fisherLine_0 : decode cX6_fisherLine 0 = .ok (.aload_n 0, 1) := by decide +kernel
theorem dX6_fisherLine_1 : decode cX6_fisherLine 1 = .ok (.getstatic 139, 3) := by decide +kernel
theorem dX6_fisherLine_4 : decode cX6_fisherLine 4 = .ok (.invokevirtual 79, 3) := by decide +kernel
theorem dX6_fisherLine_7 : decode cX6_fisherLine 7 = .ok (.ifCond .eq 14, 3) := by decide +kernel
theorem dX6_fisherLine_10 : decode cX6_fisherLine 10 = .ok (.aload_n 0, 1) := by decide +kernel
theorem dX6_fisherLine_11 : decode cX6_fisherLine 11 = .ok (.aload_n 0, 1) := by decide +kernel
theorem dX6_fisherLine_12 : decode cX6_fisherLine 12 = .ok (.getfield 24, 3) := by decide +kernel
theorem dX6_fisherLine_15 : decode cX6_fisherLine 15 = .ok (.invokevirtual 97, 3) := by decide +kernel
theorem dX6_fisherLine_18 : decode cX6_fisherLine 18 = .ok (.ifCond .ne 5, 3) := by decide +kernel
theorem dX6_fisherLine_21 : decode cX6_fisherLine 21 = .ok (.iconst 0, 1) := by decide +kernel
theorem dX6_fisherLine_22 : decode cX6_fisherLine 22 = .ok (.ireturn, 1) := by decide +kernel
theorem dX6_fisherLine_23 : decode cX6_fisherLine 23 = .ok (.aload_n 0, 1) := by decide +kernel
theorem dX6_fisherLine_24 : decode cX6_fisherLine 24 = .ok (.getfield 34, 3) := by decide +kernel
theorem dX6_fisherLine_27 : decode cX6_fisherLine 27 = .ok (.invokevirtual 142, 3) := by decide +kernel
theorem dX6_fisherLine_30 : decode cX6_fisherLine 30 = .ok (.astore_n 1, 1) := by decide +kernel
theorem dX6_fisherLine_31 : decode cX6_fisherLine 31 = .ok (.aload_n 0, 1) := by decide +kernel
theorem dX6_fisherLine_32 : decode cX6_fisherLine 32 = .ok (.getstatic 146, 3) := by decide +kernel
theorem dX6_fisherLine_35 : decode cX6_fisherLine 35 = .ok (.invokevirtual 79, 3) := by decide +kernel
theorem dX6_fisherLine_38 : decode cX6_fisherLine 38 = .ok (.ifCond .eq 12, 3) := by decide +kernel
theorem dX6_fisherLine_41 : decode cX6_fisherLine 41 = .ok (.aload_n 0, 1) := by decide +kernel
theorem dX6_fisherLine_42 : decode cX6_fisherLine 42 = .ok (.iconst 1, 1) := by decide +kernel
theorem dX6_fisherLine_43 : decode cX6_fisherLine 43 = .ok (.iconst 5, 1) := by decide +kernel
theorem dX6_fisherLine_44 : decode cX6_fisherLine 44 = .ok (.invokevirtual 108, 3) := by decide +kernel
theorem dX6_fisherLine_47 : decode cX6_fisherLine 47 = .ok (.ifCond .ne 5, 3) := by decide +kernel
theorem dX6_fisherLine_50 : decode cX6_fisherLine 50 = .ok (.iconst 0, 1) := by decide +kernel
theorem dX6_fisherLine_51 : decode cX6_fisherLine 51 = .ok (.ireturn, 1) := by decide +kernel
theorem dX6_fisherLine_52 : decode cX6_fisherLine 52 = .ok (.aload_n 1, 1) := by decide +kernel
theorem dX6_fisherLine_53 : decode cX6_fisherLine 53 = .ok (.aload_n 0, 1) := by decide +kernel
theorem dX6_fisherLine_54 : decode cX6_fisherLine 54 = .ok (.getfield 112, 3) := by decide +kernel
theorem dX6_fisherLine_57 : decode cX6_fisherLine 57 = .ok (.putfield 149, 3) := by decide +kernel
theorem dX6_fisherLine_60 : decode cX6_fisherLine 60 = .ok (.aload_n 1, 1) := by decide +kernel
theorem dX6_fisherLine_61 : decode cX6_fisherLine 61 = .ok (.aload_n 0, 1) := by decide +kernel
theorem dX6_fisherLine_62 : decode cX6_fisherLine 62 = .ok (.getfield 112, 3) := by decide +kernel
theorem dX6_fisherLine_65 : decode cX6_fisherLine 65 = .ok (.putfield 154, 3) := by decide +kernel
theorem dX6_fisherLine_68 : decode cX6_fisherLine 68 = .ok (.aload_n 0, 1) := by decide +kernel
theorem dX6_fisherLine_69 : decode cX6_fisherLine 69 = .ok (.getstatic 157, 3) := by decide +kernel
theorem dX6_fisherLine_72 : decode cX6_fisherLine 72 = .ok (.invokevirtual 79, 3) := by decide +kernel
theorem dX6_fisherLine_75 : decode cX6_fisherLine 75 = .ok (.ifCond .eq 13, 3) := by decide +kernel
theorem dX6_fisherLine_78 : decode cX6_fisherLine 78 = .ok (.aload_n 0, 1) := by decide +kernel
theorem dX6_fisherLine_79 : decode cX6_fisherLine 79 = .ok (.iconst 1, 1) := by decide +kernel
theorem dX6_fisherLine_80 : decode cX6_fisherLine 80 = .ok (.bipush 99, 2) := by decide +kernel
theorem dX6_fisherLine_82 : decode cX6_fisherLine 82 = .ok (.invokevirtual 108, 3) := by decide +kernel
theorem dX6_fisherLine_85 : decode cX6_fisherLine 85 = .ok (.ifCond .ne 5, 3) := by decide +kernel
theorem dX6_fisherLine_88 : decode cX6_fisherLine 88 = .ok (.iconst 0, 1) := by decide +kernel
theorem dX6_fisherLine_89 : decode cX6_fisherLine 89 = .ok (.ireturn, 1) := by decide +kernel
theorem dX6_fisherLine_90 : decode cX6_fisherLine 90 = .ok (.aload_n 1, 1) := by decide +kernel
theorem dX6_fisherLine_91 : decode cX6_fisherLine 91 = .ok (.aload_n 0, 1) := by decide +kernel
theorem dX6_fisherLine_92 : decode cX6_fisherLine 92 = .ok (.getfield 112, 3) := by decide +kernel
theorem dX6_fisherLine_95 : decode cX6_fisherLine 95 = .ok (.putfield 160, 3) := by decide +kernel
theorem dX6_fisherLine_98 : decode cX6_fisherLine 98 = .ok (.aload_n 0, 1) := by decide +kernel
theorem dX6_fisherLine_99 : decode cX6_fisherLine 99 = .ok (.getstatic 163, 3) := by decide +kernel
theorem dX6_fisherLine_102 : decode cX6_fisherLine 102 = .ok (.invokevirtual 79, 3) := by decide +kernel
theorem dX6_fisherLine_105 : decode cX6_fisherLine 105 = .ok (.ifCond .eq 13, 3) := by decide +kernel
theorem dX6_fisherLine_108 : decode cX6_fisherLine 108 = .ok (.aload_n 0, 1) := by decide +kernel
theorem dX6_fisherLine_109 : decode cX6_fisherLine 109 = .ok (.iconst 1, 1) := by decide +kernel
theorem dX6_fisherLine_110 : decode cX6_fisherLine 110 = .ok (.bipush 40, 2) := by decide +kernel
theorem dX6_fisherLine_112 : decode cX6_fisherLine 112 = .ok (.invokevirtual 108, 3) := by decide +kernel
theorem dX6_fisherLine_115 : decode cX6_fisherLine 115 = .ok (.ifCond .ne 5, 3) := by decide +kernel
theorem dX6_fisherLine_118 : decode cX6_fisherLine 118 = .ok (.iconst 0, 1) := by decide +kernel
theorem dX6_fisherLine_119 : decode cX6_fisherLine 119 = .ok (.ireturn, 1) := by decide +kernel
theorem dX6_fisherLine_120 : decode cX6_fisherLine 120 = .ok (.aload_n 1, 1) := by decide +kernel
theorem dX6_fisherLine_121 : decode cX6_fisherLine 121 = .ok (.aload_n 0, 1) := by decide +kernel
theorem dX6_fisherLine_122 : decode cX6_fisherLine 122 = .ok (.getfield 112, 3) := by decide +kernel
theorem dX6_fisherLine_125 : decode cX6_fisherLine 125 = .ok (.putfield 166, 3) := by decide +kernel
theorem dX6_fisherLine_128 : decode cX6_fisherLine 128 = .ok (.iconst 1, 1) := by decide +kernel
theorem dX6_fisherLine_129 : decode cX6_fisherLine 129 = .ok (.ireturn, 1) := by decide +kernel
set_option maxRecDepth 20000 in
theorem ggX6_fisherLine_X6_take : GoodIn wsX6_fisherLine wsX6_take := goodIn_r _ [16, 17, 18, 19, 81, 82, 83, 84, 85, 86, 87, 88, 89, 101, 102, 103, 104, 105, 106] (by decide +kernel) (by decide +kernel)
set_option maxRecDepth 20000 in
theorem gX6_fisherLine_X6_take : GoodIn wsX6_fisherLine (wsV RX6 79 RX6 yX6_take wsX6_take) := goodIn_app (goodIn_of _ (by decide +kernel)) ggX6_fisherLine_X6_take
set_option maxRecDepth 20000 in
theorem ggX6_fisherLine_X6_takeNew : GoodIn wsX6_fisherLine wsX6_takeNew := goodIn_2 24 (goodIn_r _ [23, 24, 18, 25, 17, 26, 27, 28, 15, 29, 19, 30, 31, 32, 33, 34, 35, 36, 37, 38, 39, 40, 41, 42] (by decide +kernel) (by decide +kernel)) (goodIn_2 24 (goodIn_r _ [43, 44, 45, 46, 47, 12, 13, 14, 16, 81, 82, 83, 84, 85, 86, 87, 88, 89, 101, 102, 103, 104, 105, 106] (by decide +kernel) (by decide +kernel)) (goodIn_r _ [107, 108] (by decide +kernel) (by decide +kernel)))
set_option maxRecDepth 20000 in
theorem gX6_fisherLine_X6_takeNew : GoodIn wsX6_fisherLine (wsV RX6 97 RX6 yX6_takeNew wsX6_takeNew) := goodIn_app (goodIn_of _ (by decide +kernel)) ggX6_fisherLine_X6_takeNew
set_option maxRecDepth 20000 in
theorem ggX6_fisherLine_X7_nextFisher : GoodIn wsX6_fisherLine wsX7_nextFisher := goodIn_2 24 (goodIn_r _ [52, 53, 54, 55, 56, 57, 58, 59, 60, 61, 62, 63, 64, 65, 66, 67, 68, 69, 70, 71, 72, 73, 74, 75] (by decide +kernel) (by decide +kernel)) (goodIn_2 24 (goodIn_r _ [109, 110, 111, 112, 113, 114, 115, 116, 117, 118, 119, 120, 121, 122, 123, 124, 125, 90, 91, 92, 93, 94, 95, 96] (by decide +kernel) (by decide +kernel)) (goodIn_r _ [97, 98, 99, 100] (by decide +kernel) (by decide +kernel)))
set_option maxRecDepth 20000 in
theorem gX6_fisherLine_X7_nextFisher : GoodIn wsX6_fisherLine (wsV RX6 142 RX7 yX7_nextFisher wsX7_nextFisher) := goodIn_app (goodIn_of _ (by decide +kernel)) ggX6_fisherLine_X7_nextFisher
set_option maxRecDepth 20000 in
theorem ggX6_fisherLine_X6_takeNumber : GoodIn wsX6_fisherLine wsX6_takeNumber := goodIn_r _ [79, 80, 18, 25, 17, 5, 26, 27, 28, 15, 29, 19, 37, 38, 39, 40, 41, 42, 43, 12, 13, 14, 16, 81, 82, 83, 84, 85, 86, 87, 88, 89, 101, 102, 103, 104, 105, 106] (by decide +kernel) (by decide +kernel)
set_option maxRecDepth 20000 in
theorem gX6_fisherLine_X6_takeNumber : GoodIn wsX6_fisherLine (wsV RX6 108 RX6 yX6_takeNumber wsX6_takeNumber) := goodIn_app (goodIn_of _ (by decide +kernel)) ggX6_fisherLine_X6_takeNumber
theorem k_X6_fisherLine_f139 : Cond.fieldLink RX6 139 "TideLots$Sign" "FISHER" "LTideLots$Sign;" ∈ wsX6_fisherLine := by decide +kernel
theorem k_X6_fisherLine_f24 : Cond.fieldLink RX6 24 "TideLots$Reader" "fisherNames" "LTideLots$Names;" ∈ wsX6_fisherLine := by decide +kernel
theorem i_X6_fisherLine_X6 : ∀ w ∈ u_ws RX6 TX6 9, w ∈ wsX6_fisherLine := by decide +kernel
theorem k_X6_fisherLine_f34 : Cond.fieldLink RX6 34 "TideLots$Reader" "built" "LTideLots$Shore;" ∈ wsX6_fisherLine := by decide +kernel
theorem k_X6_fisherLine_f146 : Cond.fieldLink RX6 146 "TideLots$Sign" "MESH" "LTideLots$Sign;" ∈ wsX6_fisherLine := by decide +kernel
theorem k_X6_fisherLine_f112 : Cond.fieldLink RX6 112 "TideLots$Reader" "number" "I" ∈ wsX6_fisherLine := by decide +kernel
theorem k_X6_fisherLine_f149 : Cond.fieldLink RX6 149 "TideLots$Fisher" "toldMesh" "I" ∈ wsX6_fisherLine := by decide +kernel
theorem i_X6_fisherLine_X1 : ∀ w ∈ u_ws RX1 TX1 11, w ∈ wsX6_fisherLine := by decide +kernel
theorem k_X6_fisherLine_f154 : Cond.fieldLink RX6 154 "TideLots$Fisher" "mesh" "I" ∈ wsX6_fisherLine := by decide +kernel
theorem k_X6_fisherLine_f157 : Cond.fieldLink RX6 157 "TideLots$Sign" "NET" "LTideLots$Sign;" ∈ wsX6_fisherLine := by decide +kernel
theorem k_X6_fisherLine_f160 : Cond.fieldLink RX6 160 "TideLots$Fisher" "net" "I" ∈ wsX6_fisherLine := by decide +kernel
theorem k_X6_fisherLine_f163 : Cond.fieldLink RX6 163 "TideLots$Sign" "HOLD" "LTideLots$Sign;" ∈ wsX6_fisherLine := by decide +kernel
theorem k_X6_fisherLine_f166 : Cond.fieldLink RX6 166 "TideLots$Fisher" "hold" "I" ∈ wsX6_fisherLine := by decide +kernel
abbrev rX6_fisherLine : Room := { frames := 2, cells := 0, slots := 0, locals := 46 }
noncomputable def b_X6_fisherLine_118 (Z : Nat → Nat) (M : gMem)  : Option (Int32 × gMem) :=
  some ((0 : Int32), M)
noncomputable def b_X6_fisherLine_88 (Z : Nat → Nat) (M : gMem)  : Option (Int32 × gMem) :=
  some ((0 : Int32), M)
noncomputable def b_X6_fisherLine_50 (Z : Nat → Nat) (M : gMem)  : Option (Int32 × gMem) :=
  some ((0 : Int32), M)
noncomputable def b_X6_fisherLine_21 (Z : Nat → Nat) (M : gMem)  : Option (Int32 × gMem) :=
  some ((0 : Int32), M)
noncomputable def b_X6_fisherLine_0 (Z : Nat → Nat) (M : gMem) (x0 : Nat) : Option (Int32 × gMem) :=
  ck (mT M x0 = 6) <| bd (f_X6_take M x0 ((some (Z 3)))) fun r1 M1 => (if r1 = 0 then b_X6_fisherLine_21 Z M1  else ck (mT M1 x0 = 6) <| bd (f_X6_takeNew Z M1 x0 ((mR M1 x0 4))) fun r4 M4 => (if r4 = 0 then b_X6_fisherLine_21 Z M4  else ck (mT M4 x0 = 6) <| dr ((mR M4 x0 2)) fun a7 => ck (mT M4 a7 = 7) <| bd (f_X7_nextFisher M4 a7) fun r6 M6 => ck (mT M6 x0 = 6) <| bd (f_X6_take M6 x0 ((some (Z 4)))) fun r9 M9 => (if r9 = 0 then b_X6_fisherLine_50 Z M9  else ck (mT M9 x0 = 6) <| bd (f_X6_takeNumber Z M9 x0 ((1 : Int32)) ((5 : Int32))) fun r11 M11 => (if r11 = 0 then b_X6_fisherLine_50 Z M11  else ck (mT M11 x0 = 6) <| dr r6 fun a14 => ck (mT M11 a14 = 1) <| lw (wI M11 a14 0 ((mI M11 x0 8))) fun M16 => lw (wI M16 a14 1 ((mI M16 x0 8))) fun M19 => bd (f_X6_take M19 x0 ((some (Z 5)))) fun r22 M22 => (if r22 = 0 then b_X6_fisherLine_88 Z M22  else ck (mT M22 x0 = 6) <| bd (f_X6_takeNumber Z M22 x0 ((1 : Int32)) ((99 : Int32))) fun r23 M23 => (if r23 = 0 then b_X6_fisherLine_88 Z M23  else ck (mT M23 x0 = 6) <| ck (mT M23 a14 = 1) <| lw (wI M23 a14 2 ((mI M23 x0 8))) fun M27 => bd (f_X6_take M27 x0 ((some (Z 6)))) fun r30 M30 => (if r30 = 0 then b_X6_fisherLine_118 Z M30  else ck (mT M30 x0 = 6) <| bd (f_X6_takeNumber Z M30 x0 ((1 : Int32)) ((40 : Int32))) fun r31 M31 => (if r31 = 0 then b_X6_fisherLine_118 Z M31  else ck (mT M31 x0 = 6) <| ck (mT M31 a14 = 1) <| lw (wI M31 a14 3 ((mI M31 x0 8))) fun M35 => some ((1 : Int32), M35)))))))))
noncomputable def f_X6_fisherLine (Z : Nat → Nat) (M : gMem) (x0 : Nat) : Option (Int32 × gMem) :=
  b_X6_fisherLine_0 Z M x0
set_option maxHeartbeats 4000000 in
set_option maxRecDepth 100000 in
theorem t_X6_fisherLine_118 (X : gX p s m args meth c D cy B (gSt Z B H0) RX6 cX6_fisherLine wsX6_fisherLine 2) (hr : meth.sig.returnType = (some .boolean)) {Q : State → Prop} : ∀ (M : gMem)  (z : Int32 × gMem), b_X6_fisherLine_118 Z M  = some z → (fun (r : Int32 × gMem) => Q = gMQ below D cy B H0 args s 0 0 (some (vI r.1)) r.2) z → gGo p l e rX6_fisherLine s m args below meth c D cy B H0 2 0 0 Q 118 [] [] M := by
  intro M  z hf hK
  unfold b_X6_fisherLine_118 at hf
  refine g_iconst (v := (0 : Int32)) X dX6_fisherLine_118 (by decide) ?_
  cases hf
  refine g_eqQ hK ?_
  exact g_zret X hr (gnb (Or.inl rfl)) dX6_fisherLine_119
set_option maxHeartbeats 4000000 in
set_option maxRecDepth 100000 in
theorem t_X6_fisherLine_88 (X : gX p s m args meth c D cy B (gSt Z B H0) RX6 cX6_fisherLine wsX6_fisherLine 2) (hr : meth.sig.returnType = (some .boolean)) {Q : State → Prop} : ∀ (M : gMem)  (z : Int32 × gMem), b_X6_fisherLine_88 Z M  = some z → (fun (r : Int32 × gMem) => Q = gMQ below D cy B H0 args s 0 0 (some (vI r.1)) r.2) z → gGo p l e rX6_fisherLine s m args below meth c D cy B H0 2 0 0 Q 88 [] [] M := by
  intro M  z hf hK
  unfold b_X6_fisherLine_88 at hf
  refine g_iconst (v := (0 : Int32)) X dX6_fisherLine_88 (by decide) ?_
  cases hf
  refine g_eqQ hK ?_
  exact g_zret X hr (gnb (Or.inl rfl)) dX6_fisherLine_89
set_option maxHeartbeats 4000000 in
set_option maxRecDepth 100000 in
theorem t_X6_fisherLine_50 (X : gX p s m args meth c D cy B (gSt Z B H0) RX6 cX6_fisherLine wsX6_fisherLine 2) (hr : meth.sig.returnType = (some .boolean)) {Q : State → Prop} : ∀ (M : gMem)  (z : Int32 × gMem), b_X6_fisherLine_50 Z M  = some z → (fun (r : Int32 × gMem) => Q = gMQ below D cy B H0 args s 0 0 (some (vI r.1)) r.2) z → gGo p l e rX6_fisherLine s m args below meth c D cy B H0 2 0 0 Q 50 [] [] M := by
  intro M  z hf hK
  unfold b_X6_fisherLine_50 at hf
  refine g_iconst (v := (0 : Int32)) X dX6_fisherLine_50 (by decide) ?_
  cases hf
  refine g_eqQ hK ?_
  exact g_zret X hr (gnb (Or.inl rfl)) dX6_fisherLine_51
set_option maxHeartbeats 4000000 in
set_option maxRecDepth 100000 in
theorem t_X6_fisherLine_21 (X : gX p s m args meth c D cy B (gSt Z B H0) RX6 cX6_fisherLine wsX6_fisherLine 2) (hr : meth.sig.returnType = (some .boolean)) {Q : State → Prop} : ∀ (M : gMem)  (z : Int32 × gMem), b_X6_fisherLine_21 Z M  = some z → (fun (r : Int32 × gMem) => Q = gMQ below D cy B H0 args s 0 0 (some (vI r.1)) r.2) z → gGo p l e rX6_fisherLine s m args below meth c D cy B H0 2 0 0 Q 21 [] [] M := by
  intro M  z hf hK
  unfold b_X6_fisherLine_21 at hf
  refine g_iconst (v := (0 : Int32)) X dX6_fisherLine_21 (by decide) ?_
  cases hf
  refine g_eqQ hK ?_
  exact g_zret X hr (gnb (Or.inl rfl)) dX6_fisherLine_22
set_option maxHeartbeats 4000000 in
set_option maxRecDepth 100000 in
theorem t_X6_fisherLine_0 (X : gX p s m args meth c D cy B (gSt Z B H0) RX6 cX6_fisherLine wsX6_fisherLine 2) (hr : meth.sig.returnType = (some .boolean)) {Q : State → Prop} : ∀ (M : gMem) (x0 : Nat) (z : Int32 × gMem), b_X6_fisherLine_0 Z M x0 = some z → (fun (r : Int32 × gMem) => Q = gMQ below D cy B H0 args s 0 0 (some (vI r.1)) r.2) z → gGo p l e rX6_fisherLine s m args below meth c D cy B H0 2 0 0 Q 0 [(0, vR (some x0))] [] M := by
  intro M x0 z hf hK
  unfold b_X6_fisherLine_0 at hf
  refine g_aload_n X dX6_fisherLine_0 rfl rfl ?_
  refine g_gets (w := vR (some (Z 3))) X (gSt_E X 3 (by decide)) k_X6_fisherLine_f139 rfl dX6_fisherLine_1 ?_
  obtain ⟨hT2, hf⟩ := ck_e hf
  obtain ⟨r1, M1, hq1, hf⟩ := bd_e hf
  refine g_callV (ci := 5) (b := x0) (As := [vR (some (Z 3))]) (st := []) (v := some (vI r1)) (M1 := M1) X (m_X6_take l hq1) (cwV 1 X.2.2.1 gX6_fisherLine_X6_take rfl rfl rfl (by decide +kernel) ⟨Nat.le_of_ble_eq_true rfl, Nat.le_of_ble_eq_true rfl⟩) rfl rfl rfl hT2 (by decide) rfl (Nat.le_of_ble_eq_true rfl) dX6_fisherLine_4 ⟨by decide, by decide⟩ ?_
  refine g_if_eq (tgt := 21) X dX6_fisherLine_7 (by decide) (fun hc => ?_) (fun hc => ?_)
  · have hf := ife_t hc hf
    refine g_sub (lvsub_of _ _ [] rfl) ?_
    exact t_X6_fisherLine_21 X hr _  _ hf hK
  · have hf := ife_f hc hf
    refine g_aload_n X dX6_fisherLine_10 rfl rfl ?_
    refine g_aload_n X dX6_fisherLine_11 rfl rfl ?_
    obtain ⟨hT3, hf⟩ := ck_e hf
    refine g_get (ci := 5) (v := vR (mR M1 x0 4)) 4 X cdX6 i_X6_fisherLine_X6 (by decide) k_X6_fisherLine_f24 rfl dX6_fisherLine_12 rfl hT3 rfl ?_
    obtain ⟨r4, M4, hq4, hf⟩ := bd_e hf
    refine g_callV (ci := 5) (b := x0) (As := [vR (mR M1 x0 4)]) (st := []) (v := some (vI r4)) (M1 := M4) X (m_X6_takeNew l hq4) (cwV 1 X.2.2.1 gX6_fisherLine_X6_takeNew rfl rfl rfl (by decide +kernel) ⟨Nat.le_of_ble_eq_true rfl, Nat.le_of_ble_eq_true rfl⟩) rfl rfl rfl hT3 (by decide) rfl (Nat.le_of_ble_eq_true rfl) dX6_fisherLine_15 ⟨by decide, by decide⟩ ?_
    refine g_if_ne (tgt := 23) X dX6_fisherLine_18 (by decide) (fun hc => ?_) (fun hc => ?_)
    · have hf := ife_f hc hf
      refine g_aload_n X dX6_fisherLine_23 rfl rfl ?_
      obtain ⟨hT5, hf⟩ := ck_e hf
      refine g_get (ci := 5) (v := vR (mR M4 x0 2)) 2 X cdX6 i_X6_fisherLine_X6 (by decide) k_X6_fisherLine_f34 rfl dX6_fisherLine_24 rfl hT5 rfl ?_
      obtain ⟨a7, ha7, hf⟩ := dr_e hf
      obtain ⟨hT8, hf⟩ := ck_e hf
      obtain ⟨r6, M6, hq6, hf⟩ := bd_e hf
      refine g_callV (ci := 6) (b := a7) (As := []) (st := []) (v := some (vR r6)) (M1 := M6) X (m_X7_nextFisher l hq6) (cwV 0 X.2.2.1 gX6_fisherLine_X7_nextFisher rfl rfl rfl (by decide +kernel) ⟨Nat.le_of_ble_eq_true rfl, Nat.le_of_ble_eq_true rfl⟩) rfl rfl ha7 hT8 (by decide) rfl (Nat.le_of_ble_eq_true rfl) dX6_fisherLine_27 ⟨by decide, by decide⟩ ?_
      refine g_astore_n (lv' := [(1, vR r6), (0, vR (some x0))]) X dX6_fisherLine_30 rfl (by decide) rfl ?_
      refine g_aload_n X dX6_fisherLine_31 rfl rfl ?_
      refine g_gets (w := vR (some (Z 4))) X (gSt_E X 4 (by decide)) k_X6_fisherLine_f146 rfl dX6_fisherLine_32 ?_
      obtain ⟨hT10, hf⟩ := ck_e hf
      obtain ⟨r9, M9, hq9, hf⟩ := bd_e hf
      refine g_callV (ci := 5) (b := x0) (As := [vR (some (Z 4))]) (st := []) (v := some (vI r9)) (M1 := M9) X (m_X6_take l hq9) (cwV 1 X.2.2.1 gX6_fisherLine_X6_take rfl rfl rfl (by decide +kernel) ⟨Nat.le_of_ble_eq_true rfl, Nat.le_of_ble_eq_true rfl⟩) rfl rfl rfl hT10 (by decide) rfl (Nat.le_of_ble_eq_true rfl) dX6_fisherLine_35 ⟨by decide, by decide⟩ ?_
      refine g_if_eq (tgt := 50) X dX6_fisherLine_38 (by decide) (fun hc => ?_) (fun hc => ?_)
      · have hf := ife_t hc hf
        refine g_sub (lvsub_of _ _ [] rfl) ?_
        exact t_X6_fisherLine_50 X hr _  _ hf hK
      · have hf := ife_f hc hf
        refine g_aload_n X dX6_fisherLine_41 rfl rfl ?_
        refine g_iconst (v := (1 : Int32)) X dX6_fisherLine_42 (by decide) ?_
        refine g_iconst (v := (5 : Int32)) X dX6_fisherLine_43 (by decide) ?_
        obtain ⟨hT12, hf⟩ := ck_e hf
        obtain ⟨r11, M11, hq11, hf⟩ := bd_e hf
        refine g_callV (ci := 5) (b := x0) (As := [vI (1 : Int32), vI (5 : Int32)]) (st := []) (v := some (vI r11)) (M1 := M11) X (m_X6_takeNumber l hq11) (cwV 2 X.2.2.1 gX6_fisherLine_X6_takeNumber rfl rfl rfl (by decide +kernel) ⟨Nat.le_of_ble_eq_true rfl, Nat.le_of_ble_eq_true rfl⟩) rfl rfl rfl hT12 (by decide) rfl (Nat.le_of_ble_eq_true rfl) dX6_fisherLine_44 ⟨by decide, by decide⟩ ?_
        refine g_if_ne (tgt := 52) X dX6_fisherLine_47 (by decide) (fun hc => ?_) (fun hc => ?_)
        · have hf := ife_f hc hf
          refine g_aload_n X dX6_fisherLine_52 rfl rfl ?_
          refine g_aload_n X dX6_fisherLine_53 rfl rfl ?_
          obtain ⟨hT13, hf⟩ := ck_e hf
          refine g_get (ci := 5) (v := vI (mI M11 x0 8)) 8 X cdX6 i_X6_fisherLine_X6 (by decide) k_X6_fisherLine_f112 rfl dX6_fisherLine_54 rfl hT13 rfl ?_
          obtain ⟨a14, ha14, hf⟩ := dr_e hf
          obtain ⟨hT15, hf⟩ := ck_e hf
          refine g_putI (ci := 0) 0 X cdX1 i_X6_fisherLine_X1 (by decide) k_X6_fisherLine_f149 rfl dX6_fisherLine_57 ha14 hT15 (Or.inl rfl) rfl rfl rfl ?_
          obtain ⟨M16, hM16, hf⟩ := lw_e hf
          rw [← hM16]
          have hT17 : mT M16 x0 = 6 := by rw [hM16]; exact hT13
          have hT18 : mT M16 a14 = 1 := by rw [hM16]; exact hT15
          refine g_aload_n X dX6_fisherLine_60 rfl rfl ?_
          refine g_aload_n X dX6_fisherLine_61 rfl rfl ?_
          refine g_get (ci := 5) (v := vI (mI M16 x0 8)) 8 X cdX6 i_X6_fisherLine_X6 (by decide) k_X6_fisherLine_f112 rfl dX6_fisherLine_62 rfl hT17 rfl ?_
          refine g_putI (ci := 0) 1 X cdX1 i_X6_fisherLine_X1 (by decide) k_X6_fisherLine_f154 rfl dX6_fisherLine_65 ha14 hT18 (Or.inl rfl) rfl rfl rfl ?_
          obtain ⟨M19, hM19, hf⟩ := lw_e hf
          rw [← hM19]
          have hT20 : mT M19 x0 = 6 := by rw [hM19]; exact hT17
          have hT21 : mT M19 a14 = 1 := by rw [hM19]; exact hT18
          refine g_aload_n X dX6_fisherLine_68 rfl rfl ?_
          refine g_gets (w := vR (some (Z 5))) X (gSt_E X 5 (by decide)) k_X6_fisherLine_f157 rfl dX6_fisherLine_69 ?_
          obtain ⟨r22, M22, hq22, hf⟩ := bd_e hf
          refine g_callV (ci := 5) (b := x0) (As := [vR (some (Z 5))]) (st := []) (v := some (vI r22)) (M1 := M22) X (m_X6_take l hq22) (cwV 1 X.2.2.1 gX6_fisherLine_X6_take rfl rfl rfl (by decide +kernel) ⟨Nat.le_of_ble_eq_true rfl, Nat.le_of_ble_eq_true rfl⟩) rfl rfl rfl hT20 (by decide) rfl (Nat.le_of_ble_eq_true rfl) dX6_fisherLine_72 ⟨by decide, by decide⟩ ?_
          refine g_if_eq (tgt := 88) X dX6_fisherLine_75 (by decide) (fun hc => ?_) (fun hc => ?_)
          · have hf := ife_t hc hf
            refine g_sub (lvsub_of _ _ [] rfl) ?_
            exact t_X6_fisherLine_88 X hr _  _ hf hK
          · have hf := ife_f hc hf
            refine g_aload_n X dX6_fisherLine_78 rfl rfl ?_
            refine g_iconst (v := (1 : Int32)) X dX6_fisherLine_79 (by decide) ?_
            refine g_bipush (v := (99 : Int32)) X dX6_fisherLine_80 (by decide) ?_
            obtain ⟨hT24, hf⟩ := ck_e hf
            obtain ⟨r23, M23, hq23, hf⟩ := bd_e hf
            refine g_callV (ci := 5) (b := x0) (As := [vI (1 : Int32), vI (99 : Int32)]) (st := []) (v := some (vI r23)) (M1 := M23) X (m_X6_takeNumber l hq23) (cwV 2 X.2.2.1 gX6_fisherLine_X6_takeNumber rfl rfl rfl (by decide +kernel) ⟨Nat.le_of_ble_eq_true rfl, Nat.le_of_ble_eq_true rfl⟩) rfl rfl rfl hT24 (by decide) rfl (Nat.le_of_ble_eq_true rfl) dX6_fisherLine_82 ⟨by decide, by decide⟩ ?_
            refine g_if_ne (tgt := 90) X dX6_fisherLine_85 (by decide) (fun hc => ?_) (fun hc => ?_)
            · have hf := ife_f hc hf
              refine g_aload_n X dX6_fisherLine_90 rfl rfl ?_
              refine g_aload_n X dX6_fisherLine_91 rfl rfl ?_
              obtain ⟨hT25, hf⟩ := ck_e hf
              refine g_get (ci := 5) (v := vI (mI M23 x0 8)) 8 X cdX6 i_X6_fisherLine_X6 (by decide) k_X6_fisherLine_f112 rfl dX6_fisherLine_92 rfl hT25 rfl ?_
              obtain ⟨hT26, hf⟩ := ck_e hf
              refine g_putI (ci := 0) 2 X cdX1 i_X6_fisherLine_X1 (by decide) k_X6_fisherLine_f160 rfl dX6_fisherLine_95 ha14 hT26 (Or.inl rfl) rfl rfl rfl ?_
              obtain ⟨M27, hM27, hf⟩ := lw_e hf
              rw [← hM27]
              have hT28 : mT M27 x0 = 6 := by rw [hM27]; exact hT25
              have hT29 : mT M27 a14 = 1 := by rw [hM27]; exact hT26
              refine g_aload_n X dX6_fisherLine_98 rfl rfl ?_
              refine g_gets (w := vR (some (Z 6))) X (gSt_E X 6 (by decide)) k_X6_fisherLine_f163 rfl dX6_fisherLine_99 ?_
              obtain ⟨r30, M30, hq30, hf⟩ := bd_e hf
              refine g_callV (ci := 5) (b := x0) (As := [vR (some (Z 6))]) (st := []) (v := some (vI r30)) (M1 := M30) X (m_X6_take l hq30) (cwV 1 X.2.2.1 gX6_fisherLine_X6_take rfl rfl rfl (by decide +kernel) ⟨Nat.le_of_ble_eq_true rfl, Nat.le_of_ble_eq_true rfl⟩) rfl rfl rfl hT28 (by decide) rfl (Nat.le_of_ble_eq_true rfl) dX6_fisherLine_102 ⟨by decide, by decide⟩ ?_
              refine g_if_eq (tgt := 118) X dX6_fisherLine_105 (by decide) (fun hc => ?_) (fun hc => ?_)
              · have hf := ife_t hc hf
                refine g_sub (lvsub_of _ _ [] rfl) ?_
                exact t_X6_fisherLine_118 X hr _  _ hf hK
              · have hf := ife_f hc hf
                refine g_aload_n X dX6_fisherLine_108 rfl rfl ?_
                refine g_iconst (v := (1 : Int32)) X dX6_fisherLine_109 (by decide) ?_
                refine g_bipush (v := (40 : Int32)) X dX6_fisherLine_110 (by decide) ?_
                obtain ⟨hT32, hf⟩ := ck_e hf
                obtain ⟨r31, M31, hq31, hf⟩ := bd_e hf
                refine g_callV (ci := 5) (b := x0) (As := [vI (1 : Int32), vI (40 : Int32)]) (st := []) (v := some (vI r31)) (M1 := M31) X (m_X6_takeNumber l hq31) (cwV 2 X.2.2.1 gX6_fisherLine_X6_takeNumber rfl rfl rfl (by decide +kernel) ⟨Nat.le_of_ble_eq_true rfl, Nat.le_of_ble_eq_true rfl⟩) rfl rfl rfl hT32 (by decide) rfl (Nat.le_of_ble_eq_true rfl) dX6_fisherLine_112 ⟨by decide, by decide⟩ ?_
                refine g_if_ne (tgt := 120) X dX6_fisherLine_115 (by decide) (fun hc => ?_) (fun hc => ?_)
                · have hf := ife_f hc hf
                  refine g_aload_n X dX6_fisherLine_120 rfl rfl ?_
                  refine g_aload_n X dX6_fisherLine_121 rfl rfl ?_
                  obtain ⟨hT33, hf⟩ := ck_e hf
                  refine g_get (ci := 5) (v := vI (mI M31 x0 8)) 8 X cdX6 i_X6_fisherLine_X6 (by decide) k_X6_fisherLine_f112 rfl dX6_fisherLine_122 rfl hT33 rfl ?_
                  obtain ⟨hT34, hf⟩ := ck_e hf
                  refine g_putI (ci := 0) 3 X cdX1 i_X6_fisherLine_X1 (by decide) k_X6_fisherLine_f166 rfl dX6_fisherLine_125 ha14 hT34 (Or.inl rfl) rfl rfl rfl ?_
                  obtain ⟨M35, hM35, hf⟩ := lw_e hf
                  rw [← hM35]
                  have hT36 : mT M35 x0 = 6 := by rw [hM35]; exact hT33
                  have hT37 : mT M35 a14 = 1 := by rw [hM35]; exact hT34
                  refine g_iconst (v := (1 : Int32)) X dX6_fisherLine_128 (by decide) ?_
                  cases hf
                  refine g_eqQ hK ?_
                  exact g_zret X hr (gnb (Or.inr rfl)) dX6_fisherLine_129
                · have hf := ife_t hc hf
                  refine g_sub (lvsub_of _ _ [] rfl) ?_
                  exact t_X6_fisherLine_118 X hr _  _ hf hK
            · have hf := ife_t hc hf
              refine g_sub (lvsub_of _ _ [] rfl) ?_
              exact t_X6_fisherLine_88 X hr _  _ hf hK
        · have hf := ife_t hc hf
          refine g_sub (lvsub_of _ _ [] rfl) ?_
          exact t_X6_fisherLine_50 X hr _  _ hf hK
    · have hf := ife_t hc hf
      refine g_sub (lvsub_of _ _ [] rfl) ?_
      exact t_X6_fisherLine_21 X hr _  _ hf hK
set_option maxHeartbeats 4000000 in
set_option maxRecDepth 100000 in
theorem m_X6_fisherLine (l : Launch) {D : va_G} {cy : Nat → ClassId} {B : Nat} {H0 : Heap} {Z : Nat → Nat} {M M1 : gMem} {x0 : Nat} {r : Int32} (hf : f_X6_fisherLine Z M x0 = some (r, M1)) : Met l yX6_fisherLine wsX6_fisherLine rX6_fisherLine (va_Pc (Value.ref x0 :: List.map gv []) (gPre D cy B H0 (gSt Z B H0) M)) (gQ D cy B H0 (some (vI r)) M1) 0 0 (gA B) := by
  refine Met.ofW (cc := cX6_fisherLine) (maxL := 2) (ret := (some .boolean)) (by decide) rfl ?_
  intro p e s m args below meth c s₁ Bd hml hv
  obtain ⟨rfl, hW, hKK, hFs⟩ := hv
  have X : gX p s m _ meth c D cy B (gSt Z B H0) RX6 cX6_fisherLine wsX6_fisherLine 2 := ⟨Bd.exec, Bd.bytes, atoms_spec (ws := wsX6_fisherLine) Bd.pre, findClass_of_methodNamed Bd.named, hml, hKK, by rw [hW.1]; exact hW.2.1, Bd.notSynchronized, hFs⟩
  have hr := Bd.returns
  have hl := lv_entry ([.ref x0]) (n := 2) (Nat.le_of_ble_eq_true rfl)
  show W p l e rX6_fisherLine s m _ below meth c s.heap [] 0 0 _ (entryFrame m ([.ref x0] : List Value).toArray 2)
  rw [lg_entry_eq]
  generalize (lg_sl ([.ref x0]) ++ List.replicate (2 - (lg_sl ([.ref x0])).length) Slot.unset).toArray = ls at hl ⊢
  have hl : lv_has ls 2 (List.map gq [(0, vR (some x0))]) := hl
  exact t_X6_fisherLine_0 X hr _ _ _ hf rfl s.heap [] ls hW va_S.rf (lv_has_sub hl (lvsub_of _ _ [0] rfl))
end
